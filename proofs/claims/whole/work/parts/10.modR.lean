set_option maxRecDepth 100000 in
set_option maxHeartbeats 4000000 in
theorem k_X6_in (l : Launch) (x0 x1 x2 : Int32) : Met l yX6_in wsX6_in { frames := 0, cells := 0, slots := 0, locals := 0 } (PcP [.int x0, .int x1, .int x2]) (vp_Si (fun r => r = bI (¬ x0 < x1 ∧ ¬ x2 < x0))) 0 0 (fun _ => False) := by
  refine Met.ofW (cc := cX6_in) (maxL := 3) (ret := (some .boolean)) (by decide) rfl ?_
  intro p e s m args below meth c s₁ B hml hv
  obtain ⟨rfl, -⟩ := hv
  have hx := B.exec
  have hb := B.bytes
  have hr := B.returns
  have hts := atoms_spec (ws := wsX6_in) B.pre
  have hown : s.vm.findClass RX6 = some m.cls := findClass_of_methodNamed B.named
  have hlocks := B.notSynchronized
  have hl := lv_entry ([.int x0, .int x1, .int x2]) (n := 3) (Nat.le_of_ble_eq_true rfl)
  rw [lg_entry_eq]
  generalize (lg_sl ([.int x0, .int x1, .int x2]) ++ List.replicate (3 - (lg_sl ([.int x0, .int x1, .int x2])).length) Slot.unset).toArray = ls at hl ⊢
  have hl : lv_has ls 3 [(0, .int x0), (1, .int x1), (2, .int x2)] := hl
  refine lv_iload_n hx hb dX6_in_0 rfl (lv_at hl 0 rfl) ?_
  refine lv_iload_n hx hb dX6_in_1 rfl (lv_at hl 1 rfl) ?_
  refine lv_icmp_lt (tgt := 14) hx hb dX6_in_2 (by decide) (fun c_1 => ?_) (fun c_1 => ?_)
  · skip
    refine lv_iconst (v := 0) hx hb dX6_in_14 (by decide) ?_
    exact W.zret (ty := .boolean) hx hb hr rfl (fun t ht hW => ⟨_, rfl, (by exact (bI_f (by simp [c_1])).symm), ht⟩) (fun _ h => absurd h List.not_mem_nil) dX6_in_15
  · skip
    refine lv_iload_n hx hb dX6_in_5 rfl (lv_at hl 0 rfl) ?_
    refine lv_iload_n hx hb dX6_in_6 rfl (lv_at hl 2 rfl) ?_
    refine lv_icmp_gt (tgt := 14) hx hb dX6_in_7 (by decide) (fun c_2 => ?_) (fun c_2 => ?_)
    · skip
      refine lv_iconst (v := 0) hx hb dX6_in_14 (by decide) ?_
      exact W.zret (ty := .boolean) hx hb hr rfl (fun t ht hW => ⟨_, rfl, (by exact (bI_f (by simp [c_1, c_2])).symm), ht⟩) (fun _ h => absurd h List.not_mem_nil) dX6_in_15
    · skip
      refine lv_iconst (v := 1) hx hb dX6_in_10 (by decide) ?_
      refine lv_goto (tgt := 15) hx hb dX6_in_11 (by decide) ?_
      exact W.zret (ty := .boolean) hx hb hr rfl (fun t ht hW => ⟨_, rfl, (by exact (bI_t (by simp [c_1, c_2])).symm), ht⟩) (fun _ h => absurd h List.not_mem_nil) dX6_in_15

set_option maxRecDepth 100000 in
set_option maxHeartbeats 4000000 in
theorem k_X6_held (l : Launch) (x0 x1 x2 : Int32) : Met l yX6_held wsX6_held { frames := 0, cells := 0, slots := 0, locals := 0 } (PcP [.int x0, .int x1, .int x2]) (vp_Si (fun r => r = sHeld x0 x1 x2)) 0 0 (fun _ => False) := by
  refine Met.ofW (cc := cX6_held) (maxL := 3) (ret := (some .int)) (by decide) rfl ?_
  intro p e s m args below meth c s₁ B hml hv
  obtain ⟨rfl, -⟩ := hv
  have hx := B.exec
  have hb := B.bytes
  have hr := B.returns
  have hts := atoms_spec (ws := wsX6_held) B.pre
  have hown : s.vm.findClass RX6 = some m.cls := findClass_of_methodNamed B.named
  have hlocks := B.notSynchronized
  have hl := lv_entry ([.int x0, .int x1, .int x2]) (n := 3) (Nat.le_of_ble_eq_true rfl)
  rw [lg_entry_eq]
  generalize (lg_sl ([.int x0, .int x1, .int x2]) ++ List.replicate (3 - (lg_sl ([.int x0, .int x1, .int x2])).length) Slot.unset).toArray = ls at hl ⊢
  have hl : lv_has ls 3 [(0, .int x0), (1, .int x1), (2, .int x2)] := hl
  refine lv_iload_n hx hb dX6_held_0 rfl (lv_at hl 0 rfl) ?_
  refine lv_iload_n hx hb dX6_held_1 rfl (lv_at hl 1 rfl) ?_
  refine lv_icmp_ge (tgt := 9) hx hb dX6_held_2 (by decide) (fun c_1 => ?_) (fun c_1 => ?_)
  · skip
    refine lv_iload_n hx hb dX6_held_9 rfl (lv_at hl 0 rfl) ?_
    refine lv_iload_n hx hb dX6_held_10 rfl (lv_at hl 2 rfl) ?_
    refine lv_icmp_le (tgt := 18) hx hb dX6_held_11 (by decide) (fun c_2 => ?_) (fun c_2 => ?_)
    · skip
      refine lv_iload_n hx hb dX6_held_18 rfl (lv_at hl 0 rfl) ?_
      exact W.iret hx hb hr (fun t ht hW => ⟨_, rfl, (by unfold sHeld; first | rw [if_pos (Int32.not_le.mp c_1)] | rw [if_neg (Int32.not_lt.mpr c_1), if_neg (Int32.not_lt.mpr c_2)] | rw [if_neg (Int32.not_lt.mpr c_1), if_pos (Int32.not_le.mp c_2)]), ht⟩) (fun _ h => absurd h List.not_mem_nil) dX6_held_19
    · skip
      refine lv_iload_n hx hb dX6_held_14 rfl (lv_at hl 2 rfl) ?_
      refine lv_goto (tgt := 19) hx hb dX6_held_15 (by decide) ?_
      exact W.iret hx hb hr (fun t ht hW => ⟨_, rfl, (by unfold sHeld; first | rw [if_pos (Int32.not_le.mp c_1)] | rw [if_neg (Int32.not_lt.mpr c_1), if_neg (Int32.not_lt.mpr c_2)] | rw [if_neg (Int32.not_lt.mpr c_1), if_pos (Int32.not_le.mp c_2)]), ht⟩) (fun _ h => absurd h List.not_mem_nil) dX6_held_19
  · skip
    refine lv_iload_n hx hb dX6_held_5 rfl (lv_at hl 1 rfl) ?_
    refine lv_goto (tgt := 19) hx hb dX6_held_6 (by decide) ?_
    exact W.iret hx hb hr (fun t ht hW => ⟨_, rfl, (by unfold sHeld; first | rw [if_pos (Int32.not_le.mp c_1)] | rw [if_neg (Int32.not_lt.mpr c_1), if_neg (Int32.not_lt.mpr c_1)] | rw [if_neg (Int32.not_lt.mpr c_1), if_pos (Int32.not_le.mp c_1)]), ht⟩) (fun _ h => absurd h List.not_mem_nil) dX6_held_19

set_option maxRecDepth 100000 in
set_option maxHeartbeats 4000000 in
theorem k_X6_isKind (l : Launch) (x0 : Int32) : Met l yX6_isKind wsX6_isKind { frames := 1, cells := 0, slots := 0, locals := 22 } (PcP [.int x0]) (vp_Si (fun r => r = bI (vp_in x0 6))) 0 0 (fun _ => False) := by
  refine Met.ofW (cc := cX6_isKind) (maxL := 1) (ret := (some .boolean)) (by decide) rfl ?_
  intro p e s m args below meth c s₁ B hml hv
  obtain ⟨rfl, -⟩ := hv
  have hx := B.exec
  have hb := B.bytes
  have hr := B.returns
  have hts := atoms_spec (ws := wsX6_isKind) B.pre
  have hown : s.vm.findClass RX6 = some m.cls := findClass_of_methodNamed B.named
  have hlocks := B.notSynchronized
  have hl := lv_entry ([.int x0]) (n := 1) (Nat.le_of_ble_eq_true rfl)
  rw [lg_entry_eq]
  generalize (lg_sl ([.int x0]) ++ List.replicate (1 - (lg_sl ([.int x0])).length) Slot.unset).toArray = ls at hl ⊢
  have hl : lv_has ls 1 [(0, .int x0)] := hl
  refine lv_iload_n hx hb dX6_isKind_0 rfl (lv_at hl 0 rfl) ?_
  refine lv_iconst (v := 0) hx hb dX6_isKind_1 (by decide) ?_
  refine lv_iconst (v := 5) hx hb dX6_isKind_2 (by decide) ?_
  refine callE (W.runS (As := [.int x0, .int 0, .int 5]) (rest := []) ⟨hx, hb, hml, hown, hts⟩ (k_X6_in l x0 0 5) (va_cwS 3 hts gX6_isKind_X6_in rfl rfl rfl (by decide +kernel) ⟨Nat.le_of_ble_eq_true rfl, Nat.le_of_ble_eq_true rfl⟩) ⟨PcP_fb, fun U _ _ => ⟨rfl, trivial⟩⟩ rfl rfl hl.1 rfl (lv_room (Nat.le_of_ble_eq_true rfl)) dX6_isKind_3 ⟨Nat.zero_le _, Nat.zero_le _⟩) ?_
  exact W.zret (ty := .boolean) hx hb hr (bI_nar _) (fun t ht hW => ⟨_, rfl, (by exact bI_iff (in_iff9 (n := 5) (by decide))), ht⟩) (fun _ h => absurd h List.not_mem_nil) dX6_isKind_6

set_option maxRecDepth 100000 in
set_option maxHeartbeats 4000000 in
theorem k_X6_isPlace (l : Launch) (x0 : Int32) : Met l yX6_isPlace wsX6_isPlace { frames := 1, cells := 0, slots := 0, locals := 22 } (PcP [.int x0]) (vp_Si (fun r => r = bI (vp_in x0 10))) 0 0 (fun _ => False) := by
  refine Met.ofW (cc := cX6_isPlace) (maxL := 1) (ret := (some .boolean)) (by decide) rfl ?_
  intro p e s m args below meth c s₁ B hml hv
  obtain ⟨rfl, -⟩ := hv
  have hx := B.exec
  have hb := B.bytes
  have hr := B.returns
  have hts := atoms_spec (ws := wsX6_isPlace) B.pre
  have hown : s.vm.findClass RX6 = some m.cls := findClass_of_methodNamed B.named
  have hlocks := B.notSynchronized
  have hl := lv_entry ([.int x0]) (n := 1) (Nat.le_of_ble_eq_true rfl)
  rw [lg_entry_eq]
  generalize (lg_sl ([.int x0]) ++ List.replicate (1 - (lg_sl ([.int x0])).length) Slot.unset).toArray = ls at hl ⊢
  have hl : lv_has ls 1 [(0, .int x0)] := hl
  refine lv_iload_n hx hb dX6_isPlace_0 rfl (lv_at hl 0 rfl) ?_
  refine lv_iconst (v := 0) hx hb dX6_isPlace_1 (by decide) ?_
  refine lv_bipush (v := 9) hx hb dX6_isPlace_2 (by decide) ?_
  refine callE (W.runS (As := [.int x0, .int 0, .int 9]) (rest := []) ⟨hx, hb, hml, hown, hts⟩ (k_X6_in l x0 0 9) (va_cwS 3 hts gX6_isPlace_X6_in rfl rfl rfl (by decide +kernel) ⟨Nat.le_of_ble_eq_true rfl, Nat.le_of_ble_eq_true rfl⟩) ⟨PcP_fb, fun U _ _ => ⟨rfl, trivial⟩⟩ rfl rfl hl.1 rfl (lv_room (Nat.le_of_ble_eq_true rfl)) dX6_isPlace_4 ⟨Nat.zero_le _, Nat.zero_le _⟩) ?_
  exact W.zret (ty := .boolean) hx hb hr (bI_nar _) (fun t ht hW => ⟨_, rfl, (by exact bI_iff (in_iff9 (n := 9) (by decide))), ht⟩) (fun _ h => absurd h List.not_mem_nil) dX6_isPlace_7

set_option maxRecDepth 100000 in
set_option maxHeartbeats 4000000 in
theorem k_X6_isSheet (l : Launch) (x0 : Int32) : Met l yX6_isSheet wsX6_isSheet { frames := 1, cells := 0, slots := 0, locals := 22 } (PcP [.int x0]) (vp_Si (fun r => r = bI (vp_in x0 4))) 0 0 (fun _ => False) := by
  refine Met.ofW (cc := cX6_isSheet) (maxL := 1) (ret := (some .boolean)) (by decide) rfl ?_
  intro p e s m args below meth c s₁ B hml hv
  obtain ⟨rfl, -⟩ := hv
  have hx := B.exec
  have hb := B.bytes
  have hr := B.returns
  have hts := atoms_spec (ws := wsX6_isSheet) B.pre
  have hown : s.vm.findClass RX6 = some m.cls := findClass_of_methodNamed B.named
  have hlocks := B.notSynchronized
  have hl := lv_entry ([.int x0]) (n := 1) (Nat.le_of_ble_eq_true rfl)
  rw [lg_entry_eq]
  generalize (lg_sl ([.int x0]) ++ List.replicate (1 - (lg_sl ([.int x0])).length) Slot.unset).toArray = ls at hl ⊢
  have hl : lv_has ls 1 [(0, .int x0)] := hl
  refine lv_iload_n hx hb dX6_isSheet_0 rfl (lv_at hl 0 rfl) ?_
  refine lv_iconst (v := 0) hx hb dX6_isSheet_1 (by decide) ?_
  refine lv_iconst (v := 3) hx hb dX6_isSheet_2 (by decide) ?_
  refine callE (W.runS (As := [.int x0, .int 0, .int 3]) (rest := []) ⟨hx, hb, hml, hown, hts⟩ (k_X6_in l x0 0 3) (va_cwS 3 hts gX6_isSheet_X6_in rfl rfl rfl (by decide +kernel) ⟨Nat.le_of_ble_eq_true rfl, Nat.le_of_ble_eq_true rfl⟩) ⟨PcP_fb, fun U _ _ => ⟨rfl, trivial⟩⟩ rfl rfl hl.1 rfl (lv_room (Nat.le_of_ble_eq_true rfl)) dX6_isSheet_3 ⟨Nat.zero_le _, Nat.zero_le _⟩) ?_
  exact W.zret (ty := .boolean) hx hb hr (bI_nar _) (fun t ht hW => ⟨_, rfl, (by exact bI_iff (in_iff9 (n := 3) (by decide))), ht⟩) (fun _ h => absurd h List.not_mem_nil) dX6_isSheet_6

set_option maxRecDepth 100000 in
set_option maxHeartbeats 4000000 in
theorem k_X6_isLetter (l : Launch) (x0 : Int32) : Met l yX6_isLetter wsX6_isLetter { frames := 1, cells := 0, slots := 0, locals := 22 } (PcP [.int x0]) (vp_Si (fun r => r = bI (¬ x0 < 97 ∧ ¬ 122 < x0))) 0 0 (fun _ => False) := by
  refine Met.ofW (cc := cX6_isLetter) (maxL := 1) (ret := (some .boolean)) (by decide) rfl ?_
  intro p e s m args below meth c s₁ B hml hv
  obtain ⟨rfl, -⟩ := hv
  have hx := B.exec
  have hb := B.bytes
  have hr := B.returns
  have hts := atoms_spec (ws := wsX6_isLetter) B.pre
  have hown : s.vm.findClass RX6 = some m.cls := findClass_of_methodNamed B.named
  have hlocks := B.notSynchronized
  have hl := lv_entry ([.int x0]) (n := 1) (Nat.le_of_ble_eq_true rfl)
  rw [lg_entry_eq]
  generalize (lg_sl ([.int x0]) ++ List.replicate (1 - (lg_sl ([.int x0])).length) Slot.unset).toArray = ls at hl ⊢
  have hl : lv_has ls 1 [(0, .int x0)] := hl
  refine lv_iload_n hx hb dX6_isLetter_0 rfl (lv_at hl 0 rfl) ?_
  refine lv_bipush (v := 97) hx hb dX6_isLetter_1 (by decide) ?_
  refine lv_bipush (v := 122) hx hb dX6_isLetter_3 (by decide) ?_
  refine callE (W.runS (As := [.int x0, .int 97, .int 122]) (rest := []) ⟨hx, hb, hml, hown, hts⟩ (k_X6_in l x0 97 122) (va_cwS 3 hts gX6_isLetter_X6_in rfl rfl rfl (by decide +kernel) ⟨Nat.le_of_ble_eq_true rfl, Nat.le_of_ble_eq_true rfl⟩) ⟨PcP_fb, fun U _ _ => ⟨rfl, trivial⟩⟩ rfl rfl hl.1 rfl (lv_room (Nat.le_of_ble_eq_true rfl)) dX6_isLetter_5 ⟨Nat.zero_le _, Nat.zero_le _⟩) ?_
  exact W.zret (ty := .boolean) hx hb hr (bI_nar _) (fun t ht hW => ⟨_, rfl, (by rfl), ht⟩) (fun _ h => absurd h List.not_mem_nil) dX6_isLetter_8

set_option maxRecDepth 100000 in
set_option maxHeartbeats 4000000 in
theorem k_X6_isDigit (l : Launch) (x0 : Int32) : Met l yX6_isDigit wsX6_isDigit { frames := 1, cells := 0, slots := 0, locals := 22 } (PcP [.int x0]) (vp_Si (fun r => r = bI (¬ x0 < 48 ∧ ¬ 57 < x0))) 0 0 (fun _ => False) := by
  refine Met.ofW (cc := cX6_isDigit) (maxL := 1) (ret := (some .boolean)) (by decide) rfl ?_
  intro p e s m args below meth c s₁ B hml hv
  obtain ⟨rfl, -⟩ := hv
  have hx := B.exec
  have hb := B.bytes
  have hr := B.returns
  have hts := atoms_spec (ws := wsX6_isDigit) B.pre
  have hown : s.vm.findClass RX6 = some m.cls := findClass_of_methodNamed B.named
  have hlocks := B.notSynchronized
  have hl := lv_entry ([.int x0]) (n := 1) (Nat.le_of_ble_eq_true rfl)
  rw [lg_entry_eq]
  generalize (lg_sl ([.int x0]) ++ List.replicate (1 - (lg_sl ([.int x0])).length) Slot.unset).toArray = ls at hl ⊢
  have hl : lv_has ls 1 [(0, .int x0)] := hl
  refine lv_iload_n hx hb dX6_isDigit_0 rfl (lv_at hl 0 rfl) ?_
  refine lv_bipush (v := 48) hx hb dX6_isDigit_1 (by decide) ?_
  refine lv_bipush (v := 57) hx hb dX6_isDigit_3 (by decide) ?_
  refine callE (W.runS (As := [.int x0, .int 48, .int 57]) (rest := []) ⟨hx, hb, hml, hown, hts⟩ (k_X6_in l x0 48 57) (va_cwS 3 hts gX6_isDigit_X6_in rfl rfl rfl (by decide +kernel) ⟨Nat.le_of_ble_eq_true rfl, Nat.le_of_ble_eq_true rfl⟩) ⟨PcP_fb, fun U _ _ => ⟨rfl, trivial⟩⟩ rfl rfl hl.1 rfl (lv_room (Nat.le_of_ble_eq_true rfl)) dX6_isDigit_5 ⟨Nat.zero_le _, Nat.zero_le _⟩) ?_
  exact W.zret (ty := .boolean) hx hb hr (bI_nar _) (fun t ht hW => ⟨_, rfl, (by rfl), ht⟩) (fun _ h => absurd h List.not_mem_nil) dX6_isDigit_8

set_option maxRecDepth 100000 in
set_option maxHeartbeats 4000000 in
theorem k_X6_isPart (l : Launch) (x0 x1 : Int32) : Met l yX6_isPart wsX6_isPart { frames := 1, cells := 0, slots := 0, locals := 22 } (PcP [.int x0, .int x1]) (vp_Si (fun r => r = bI ((x0 = 2 ∧ ¬ x1 < -99 ∧ ¬ 99 < x1) ∨ (¬ x0 = 2 ∧ (¬ x0 < 3 ∧ ¬ 4 < x0) ∧ ¬ x1 < 0 ∧ ¬ 9999 < x1)))) 0 0 (fun _ => False) := by
  refine Met.ofW (cc := cX6_isPart) (maxL := 2) (ret := (some .boolean)) (by decide) rfl ?_
  intro p e s m args below meth c s₁ B hml hv
  obtain ⟨rfl, -⟩ := hv
  have hx := B.exec
  have hb := B.bytes
  have hr := B.returns
  have hts := atoms_spec (ws := wsX6_isPart) B.pre
  have hown : s.vm.findClass RX6 = some m.cls := findClass_of_methodNamed B.named
  have hlocks := B.notSynchronized
  have hl := lv_entry ([.int x0, .int x1]) (n := 2) (Nat.le_of_ble_eq_true rfl)
  rw [lg_entry_eq]
  generalize (lg_sl ([.int x0, .int x1]) ++ List.replicate (2 - (lg_sl ([.int x0, .int x1])).length) Slot.unset).toArray = ls at hl ⊢
  have hl : lv_has ls 2 [(0, .int x0), (1, .int x1)] := hl
  refine lv_iload_n hx hb dX6_isPart_0 rfl (lv_at hl 0 rfl) ?_
  refine lv_iconst (v := 2) hx hb dX6_isPart_1 (by decide) ?_
  refine lv_icmp_ne (tgt := 16) hx hb dX6_isPart_2 (by decide) (fun c_1 => ?_) (fun c_1 => ?_)
  · skip
    refine lv_iload_n hx hb dX6_isPart_16 rfl (lv_at hl 0 rfl) ?_
    refine lv_iconst (v := 3) hx hb dX6_isPart_17 (by decide) ?_
    refine lv_iconst (v := 4) hx hb dX6_isPart_18 (by decide) ?_
    refine callE (W.runS (As := [.int x0, .int 3, .int 4]) (rest := []) ⟨hx, hb, hml, hown, hts⟩ (k_X6_in l x0 3 4) (va_cwS 3 hts gX6_isPart_X6_in rfl rfl rfl (by decide +kernel) ⟨Nat.le_of_ble_eq_true rfl, Nat.le_of_ble_eq_true rfl⟩) ⟨PcP_fb, fun U _ _ => ⟨rfl, trivial⟩⟩ rfl rfl hl.1 rfl (lv_room (Nat.le_of_ble_eq_true rfl)) dX6_isPart_19 ⟨Nat.zero_le _, Nat.zero_le _⟩) ?_
    refine lv_if_eq (tgt := 40) hx hb dX6_isPart_22 (by decide) (fun c_2 => ?_) (fun c_2 => ?_)
    · skip
      have c_2b := bI_0 c_2
      refine lv_iconst (v := 0) hx hb dX6_isPart_40 (by decide) ?_
      exact W.zret (ty := .boolean) hx hb hr rfl (fun t ht hW => ⟨_, rfl, (by exact (bI_f (fun h => h.elim (fun q => absurd q.1 c_1) (fun q => c_2b q.2.1))).symm), ht⟩) (fun _ h => absurd h List.not_mem_nil) dX6_isPart_41
    · skip
      have c_2b := bI_n c_2
      refine lv_iload_n hx hb dX6_isPart_25 rfl (lv_at hl 1 rfl) ?_
      refine lv_iconst (v := 0) hx hb dX6_isPart_26 (by decide) ?_
      refine lv_sipush (v := 9999) hx hb dX6_isPart_27 (by decide) ?_
      refine callE (W.runS (As := [.int x1, .int 0, .int 9999]) (rest := []) ⟨hx, hb, hml, hown, hts⟩ (k_X6_in l x1 0 9999) (va_cwS 3 hts gX6_isPart_X6_in rfl rfl rfl (by decide +kernel) ⟨Nat.le_of_ble_eq_true rfl, Nat.le_of_ble_eq_true rfl⟩) ⟨PcP_fb, fun U _ _ => ⟨rfl, trivial⟩⟩ rfl rfl hl.1 rfl (lv_room (Nat.le_of_ble_eq_true rfl)) dX6_isPart_30 ⟨Nat.zero_le _, Nat.zero_le _⟩) ?_
      refine lv_if_eq (tgt := 40) hx hb dX6_isPart_33 (by decide) (fun c_3 => ?_) (fun c_3 => ?_)
      · skip
        have c_3b := bI_0 c_3
        refine lv_iconst (v := 0) hx hb dX6_isPart_40 (by decide) ?_
        exact W.zret (ty := .boolean) hx hb hr rfl (fun t ht hW => ⟨_, rfl, (by exact (bI_f (fun h => h.elim (fun q => absurd q.1 c_1) (fun q => c_3b q.2.2))).symm), ht⟩) (fun _ h => absurd h List.not_mem_nil) dX6_isPart_41
      · skip
        have c_3b := bI_n c_3
        refine lv_iconst (v := 1) hx hb dX6_isPart_36 (by decide) ?_
        refine lv_goto (tgt := 41) hx hb dX6_isPart_37 (by decide) ?_
        exact W.zret (ty := .boolean) hx hb hr rfl (fun t ht hW => ⟨_, rfl, (by exact (bI_t (Or.inr ⟨c_1, c_2b, c_3b⟩)).symm), ht⟩) (fun _ h => absurd h List.not_mem_nil) dX6_isPart_41
  · skip
    refine lv_iload_n hx hb dX6_isPart_5 rfl (lv_at hl 1 rfl) ?_
    refine lv_bipush (v := (-99)) hx hb dX6_isPart_6 (by decide) ?_
    refine lv_bipush (v := 99) hx hb dX6_isPart_8 (by decide) ?_
    refine callE (W.runS (As := [.int x1, .int (-99), .int 99]) (rest := []) ⟨hx, hb, hml, hown, hts⟩ (k_X6_in l x1 (-99) 99) (va_cwS 3 hts gX6_isPart_X6_in rfl rfl rfl (by decide +kernel) ⟨Nat.le_of_ble_eq_true rfl, Nat.le_of_ble_eq_true rfl⟩) ⟨PcP_fb, fun U _ _ => ⟨rfl, trivial⟩⟩ rfl rfl hl.1 rfl (lv_room (Nat.le_of_ble_eq_true rfl)) dX6_isPart_10 ⟨Nat.zero_le _, Nat.zero_le _⟩) ?_
    refine lv_goto (tgt := 41) hx hb dX6_isPart_13 (by decide) ?_
    exact W.zret (ty := .boolean) hx hb hr (bI_nar _) (fun t ht hW => ⟨_, rfl, (by exact bI_iff ⟨fun h => Or.inl ⟨c_1, h⟩, fun h => h.elim (fun q => q.2) (fun q => absurd c_1 q.1)⟩), ht⟩) (fun _ h => absurd h List.not_mem_nil) dX6_isPart_41

set_option maxRecDepth 100000 in
set_option maxHeartbeats 4000000 in
theorem k_X6_bits (l : Launch) (x0 : Int32) (h0 : 0 ≤ x0.toInt ∧ x0.toInt < 256) : Met l yX6_bits wsX6_bits { frames := 0, cells := 0, slots := 0, locals := 0 } (PcP [.int x0]) (vp_Si (fun r => r = pop32 x0)) 0 0 (fun _ => False) := by
  refine Met.ofW (cc := cX6_bits) (maxL := 3) (ret := (some .int)) (by decide) rfl ?_
  intro p e s m args below meth c s₁ B hml hv
  obtain ⟨rfl, -⟩ := hv
  have hx := B.exec
  have hb := B.bytes
  have hr := B.returns
  have hts := atoms_spec (ws := wsX6_bits) B.pre
  have hown : s.vm.findClass RX6 = some m.cls := findClass_of_methodNamed B.named
  have hlocks := B.notSynchronized
  have hl := lv_entry ([.int x0]) (n := 3) (Nat.le_of_ble_eq_true rfl)
  rw [lg_entry_eq]
  generalize (lg_sl ([.int x0]) ++ List.replicate (3 - (lg_sl ([.int x0])).length) Slot.unset).toArray = ls at hl ⊢
  have hl : lv_has ls 3 [(0, .int x0)] := hl
  refine lv_iconst (v := 0) hx hb dX6_bits_0 (by decide) ?_
  refine lv_istore_n (lv' := [(1, .int 0), (0, .int x0)]) hx hb dX6_bits_1 rfl hl (by decide) rfl (fun ls hl => ?_)
  refine lv_iload_n hx hb dX6_bits_2 rfl (lv_at hl 1 rfl) ?_
  refine lv_istore_n (lv' := [(2, .int x0), (1, .int 0), (0, .int x0)]) hx hb dX6_bits_3 rfl hl (by decide) rfl (fun ls hl => ?_)
  refine lpR (fun n (u : Int32 × Int32) ls => (u.2 + pop32 u.1 = pop32 x0) ∧ (u.1.toInt = n) ∧ (n < 256) ∧ lv_has ls 3 [(1, .int u.2), (2, .int u.1)]) (x0.toInt.toNat) ((x0, 0)) ⟨Int32.zero_add _, by show x0.toInt = ((x0.toInt.toNat : Nat) : Int); omega, by omega, lv_sub hl [1, 0] rfl⟩ (fun n ih u ls hI => ?_)
  obtain ⟨y, z⟩ := u
  obtain ⟨hi0, hi1, hi2, hl⟩ := hI
  have hi0 : z + pop32 y = pop32 x0 := hi0
  have hi1 : y.toInt = n := hi1
  have hi2 : n < 256 := hi2
  have hl : lv_has ls 3 [(1, .int z), (2, .int y)] := hl
  refine lv_iload_n hx hb dX6_bits_4 rfl (lv_at hl 1 rfl) ?_
  refine lv_if_eq (tgt := 20) hx hb dX6_bits_5 (by decide) (fun c_1 => ?_) (fun c_1 => ?_)
  · skip
    refine lv_iload_n hx hb dX6_bits_20 rfl (lv_at hl 0 rfl) ?_
    exact W.iret hx hb hr (fun t ht hW => ⟨_, rfl, (by rw [← hi0, c_1]; exact (Int32.add_zero _).symm), ht⟩) (fun _ h => absurd h List.not_mem_nil) dX6_bits_21
  · skip
    refine lv_iinc (v := z + 1) (lv' := [(1, .int (z + 1)), (2, .int y)]) hx hb dX6_bits_8 hl (k := 0) rfl rfl (by decide) rfl (fun ls hl => ?_)
    refine lv_iload_n hx hb dX6_bits_11 rfl (lv_at hl 1 rfl) ?_
    refine lv_iload_n hx hb dX6_bits_12 rfl (lv_at hl 1 rfl) ?_
    refine lv_iconst (v := 1) hx hb dX6_bits_13 (by decide) ?_
    refine lv_isub hx hb dX6_bits_14 ?_
    refine lv_iand hx hb dX6_bits_15 ?_
    refine lv_istore_n (lv' := [(2, .int (y &&& (y - 1))), (1, .int (z + 1))]) hx hb dX6_bits_16 rfl hl (by decide) rfl (fun ls hl => ?_)
    refine lv_goto (tgt := 4) hx hb dX6_bits_17 (by decide) ?_
    exact ih (((y &&& (y - 1))).toInt.toNat) ((bits_step hi1 hi2 c_1).1) (((y &&& (y - 1)), z + 1)) ls ⟨by rw [← hi0, (bits_step hi1 hi2 c_1).2.2, Int32.add_assoc], by have := bits_step hi1 hi2 c_1; show (y &&& (y - 1)).toInt = (((y &&& (y - 1)).toInt.toNat : Nat) : Int); omega, by have := bits_step hi1 hi2 c_1; omega, lv_sub hl [1, 0] rfl⟩

set_option maxRecDepth 100000 in
set_option maxHeartbeats 4000000 in
theorem k_X6_its (l : Launch) (D : va_G) (cI cL cS : ClassId) (b : Nat → Nat) (co gu : Int32) (kn fo sp ki pl ea to qu : FI) (fd mo tr b1 tp : FI) (tm so bg te : Int32) (wd : Int64) (va gd : Int32) (bo sz : FI) (sh le : FJ) (im bf : FI) (ik : Int32) (x0 : Int32) (x1 : Int32) (h0 : vp_in x0 8) (h1 : vp_in x1 5) : Met l yX6_its wsX6_its { frames := 0, cells := 0, slots := 0, locals := 0 } (PcR D vwCl (tyG cI cL cS) [.ref (b 0), .int x0, .int x1] (mdw cI cL b (enc co gu kn fo sp ki pl ea to qu) fd mo tr b1 tp tm so bg te wd va gd bo sz sh le im bf ik)) (vp_Si (fun r => r = enc co gu kn fo sp ki pl ea to qu (32 + 5 * ix x0 + ix x1))) 0 0 (fun _ => False) := by
  refine Met.ofW (cc := cX6_its) (maxL := 3) (ret := (some .int)) (by decide) rfl ?_
  intro p e s m args below meth c s₁ B hml hv
  obtain ⟨rfl, hP, hK⟩ := hv
  have hx := B.exec
  have hb := B.bytes
  have hr := B.returns
  have hts := atoms_spec (ws := wsX6_its) B.pre
  have hown : s.vm.findClass RX6 = some m.cls := findClass_of_methodNamed B.named
  have hlocks := B.notSynchronized
  have hl := lv_entry ([.ref (b 0), .int x0, .int x1]) (n := 3) (Nat.le_of_ble_eq_true rfl)
  rw [lg_entry_eq]
  generalize (lg_sl ([.ref (b 0), .int x0, .int x1]) ++ List.replicate (3 - (lg_sl ([.ref (b 0), .int x0, .int x1])).length) Slot.unset).toArray = ls at hl ⊢
  have hl : lv_has ls 3 [(0, .ref (b 0)), (1, .int x0), (2, .int x1)] := hl
  have f7 := hts (.fieldLink RX6 7 "KnivesLaidModel" "row" "[I") (List.mem_of_getElem? (i := 1) rfl)
  have inX6 : ∀ w ∈ u_ws RX6 TX6 20, w ∈ wsX6_its := in_at 2 _ _ rfl
  refine lv_aload_n hx hb dX6_its_0 rfl (lv_at hl 0 rfl) ?_
  refine va_get (ci := 4) (v := .ref (b 1)) (C := RX6) (T := TX6) (N := 20) hx hb hts inX6 hown hK hP 0 rfl rfl 0 (by decide) f7 (fun _ h9 => h9) rfl dX6_its_1 ?_
  refine lv_bipush (v := 32) hx hb dX6_its_4 (by decide) ?_
  refine lv_iconst (v := 5) hx hb dX6_its_6 (by decide) ?_
  refine lv_iload_n hx hb dX6_its_7 rfl (lv_at hl 1 rfl) ?_
  refine lv_imul hx hb dX6_its_8 ?_
  refine lv_iadd hx hb dX6_its_9 ?_
  refine lv_iload_n hx hb dX6_its_10 rfl (lv_at hl 2 rfl) ?_
  refine lv_iadd hx hb dX6_its_11 ?_
  refine va_iald hx hb hK hP 1 0 rfl rfl ((ixg h0 h1).2) dX6_its_12 ?_
  exact W.iret hx hb hr (fun t ht hW => ⟨_, rfl, (by exact congrArg (enc co gu kn fo sp ki pl ea to qu) (ixg h0 h1).1), ht⟩) (fun _ h => absurd h List.not_mem_nil) dX6_its_13

theorem k_X6_its0 (l : Launch) (D : va_G) (cI cL cS : ClassId) (b : Nat → Nat) (co gu : Int32) (kn fo sp ki pl ea to qu : FI) (fd mo tr b1 tp : FI) (tm so bg te : Int32) (wd : Int64) (va gd : Int32) (bo sz : FI) (sh le : FJ) (im bf : FI) (ik : Int32) (x0 : Int32) (h0 : vp_in x0 8) : Met l yX6_its wsX6_its { frames := 0, cells := 0, slots := 0, locals := 0 } (PcR D vwCl (tyG cI cL cS) [.ref (b 0), .int x0, .int 0] (mdw cI cL b (enc co gu kn fo sp ki pl ea to qu) fd mo tr b1 tp tm so bg te wd va gd bo sz sh le im bf ik)) (vp_Si (fun r => r = ki (ix x0))) 0 0 (fun _ => False) := by
  exact Met_F (k_X6_its l D cI cL cS b co gu kn fo sp ki pl ea to qu fd mo tr b1 tp tm so bg te wd va gd bo sz sh le im bf ik x0 0 h0 (vp_in_iff.mpr (by decide))) (enc_g co gu kn fo sp ki pl ea to qu (g := ix x0) (w := 0) (by decide))

theorem k_X6_its1 (l : Launch) (D : va_G) (cI cL cS : ClassId) (b : Nat → Nat) (co gu : Int32) (kn fo sp ki pl ea to qu : FI) (fd mo tr b1 tp : FI) (tm so bg te : Int32) (wd : Int64) (va gd : Int32) (bo sz : FI) (sh le : FJ) (im bf : FI) (ik : Int32) (x0 : Int32) (h0 : vp_in x0 8) : Met l yX6_its wsX6_its { frames := 0, cells := 0, slots := 0, locals := 0 } (PcR D vwCl (tyG cI cL cS) [.ref (b 0), .int x0, .int 1] (mdw cI cL b (enc co gu kn fo sp ki pl ea to qu) fd mo tr b1 tp tm so bg te wd va gd bo sz sh le im bf ik)) (vp_Si (fun r => r = pl (ix x0))) 0 0 (fun _ => False) := by
  exact Met_F (k_X6_its l D cI cL cS b co gu kn fo sp ki pl ea to qu fd mo tr b1 tp tm so bg te wd va gd bo sz sh le im bf ik x0 1 h0 (vp_in_iff.mpr (by decide))) (enc_g co gu kn fo sp ki pl ea to qu (g := ix x0) (w := 1) (by decide))

theorem k_X6_its2 (l : Launch) (D : va_G) (cI cL cS : ClassId) (b : Nat → Nat) (co gu : Int32) (kn fo sp ki pl ea to qu : FI) (fd mo tr b1 tp : FI) (tm so bg te : Int32) (wd : Int64) (va gd : Int32) (bo sz : FI) (sh le : FJ) (im bf : FI) (ik : Int32) (x0 : Int32) (h0 : vp_in x0 8) : Met l yX6_its wsX6_its { frames := 0, cells := 0, slots := 0, locals := 0 } (PcR D vwCl (tyG cI cL cS) [.ref (b 0), .int x0, .int 2] (mdw cI cL b (enc co gu kn fo sp ki pl ea to qu) fd mo tr b1 tp tm so bg te wd va gd bo sz sh le im bf ik)) (vp_Si (fun r => r = ea (ix x0))) 0 0 (fun _ => False) := by
  exact Met_F (k_X6_its l D cI cL cS b co gu kn fo sp ki pl ea to qu fd mo tr b1 tp tm so bg te wd va gd bo sz sh le im bf ik x0 2 h0 (vp_in_iff.mpr (by decide))) (enc_g co gu kn fo sp ki pl ea to qu (g := ix x0) (w := 2) (by decide))

theorem k_X6_its3 (l : Launch) (D : va_G) (cI cL cS : ClassId) (b : Nat → Nat) (co gu : Int32) (kn fo sp ki pl ea to qu : FI) (fd mo tr b1 tp : FI) (tm so bg te : Int32) (wd : Int64) (va gd : Int32) (bo sz : FI) (sh le : FJ) (im bf : FI) (ik : Int32) (x0 : Int32) (h0 : vp_in x0 8) : Met l yX6_its wsX6_its { frames := 0, cells := 0, slots := 0, locals := 0 } (PcR D vwCl (tyG cI cL cS) [.ref (b 0), .int x0, .int 3] (mdw cI cL b (enc co gu kn fo sp ki pl ea to qu) fd mo tr b1 tp tm so bg te wd va gd bo sz sh le im bf ik)) (vp_Si (fun r => r = to (ix x0))) 0 0 (fun _ => False) := by
  exact Met_F (k_X6_its l D cI cL cS b co gu kn fo sp ki pl ea to qu fd mo tr b1 tp tm so bg te wd va gd bo sz sh le im bf ik x0 3 h0 (vp_in_iff.mpr (by decide))) (enc_g co gu kn fo sp ki pl ea to qu (g := ix x0) (w := 3) (by decide))

theorem k_X6_its4 (l : Launch) (D : va_G) (cI cL cS : ClassId) (b : Nat → Nat) (co gu : Int32) (kn fo sp ki pl ea to qu : FI) (fd mo tr b1 tp : FI) (tm so bg te : Int32) (wd : Int64) (va gd : Int32) (bo sz : FI) (sh le : FJ) (im bf : FI) (ik : Int32) (x0 : Int32) (h0 : vp_in x0 8) : Met l yX6_its wsX6_its { frames := 0, cells := 0, slots := 0, locals := 0 } (PcR D vwCl (tyG cI cL cS) [.ref (b 0), .int x0, .int 4] (mdw cI cL b (enc co gu kn fo sp ki pl ea to qu) fd mo tr b1 tp tm so bg te wd va gd bo sz sh le im bf ik)) (vp_Si (fun r => r = qu (ix x0))) 0 0 (fun _ => False) := by
  exact Met_F (k_X6_its l D cI cL cS b co gu kn fo sp ki pl ea to qu fd mo tr b1 tp tm so bg te wd va gd bo sz sh le im bf ik x0 4 h0 (vp_in_iff.mpr (by decide))) (enc_g co gu kn fo sp ki pl ea to qu (g := ix x0) (w := 4) (by decide))

set_option maxRecDepth 100000 in
set_option maxHeartbeats 4000000 in
theorem k_X6_laidAt (l : Launch) (D : va_G) (cI cL cS : ClassId) (b : Nat → Nat) (co gu : Int32) (kn fo sp ki pl ea to qu : FI) (fd mo tr b1 tp : FI) (tm so bg te : Int32) (wd : Int64) (va gd : Int32) (bo sz : FI) (sh le : FJ) (im bf : FI) (ik : Int32) (x0 : Int32) (x1 : Int32) (h0 : vp_in x0 10) (h1 : vp_in x1 3) : Met l yX6_laidAt wsX6_laidAt { frames := 0, cells := 0, slots := 0, locals := 0 } (PcR D vwCl (tyG cI cL cS) [.ref (b 0), .int x0, .int x1] (mdw cI cL b (enc co gu kn fo sp ki pl ea to qu) fd mo tr b1 tp tm so bg te wd va gd bo sz sh le im bf ik)) (vp_Si (fun r => r = enc co gu kn fo sp ki pl ea to qu (2 + 3 * ix x0 + ix x1))) 0 0 (fun _ => False) := by
  refine Met.ofW (cc := cX6_laidAt) (maxL := 3) (ret := (some .int)) (by decide) rfl ?_
  intro p e s m args below meth c s₁ B hml hv
  obtain ⟨rfl, hP, hK⟩ := hv
  have hx := B.exec
  have hb := B.bytes
  have hr := B.returns
  have hts := atoms_spec (ws := wsX6_laidAt) B.pre
  have hown : s.vm.findClass RX6 = some m.cls := findClass_of_methodNamed B.named
  have hlocks := B.notSynchronized
  have hl := lv_entry ([.ref (b 0), .int x0, .int x1]) (n := 3) (Nat.le_of_ble_eq_true rfl)
  rw [lg_entry_eq]
  generalize (lg_sl ([.ref (b 0), .int x0, .int x1]) ++ List.replicate (3 - (lg_sl ([.ref (b 0), .int x0, .int x1])).length) Slot.unset).toArray = ls at hl ⊢
  have hl : lv_has ls 3 [(0, .ref (b 0)), (1, .int x0), (2, .int x1)] := hl
  have f7 := hts (.fieldLink RX6 7 "KnivesLaidModel" "row" "[I") (List.mem_of_getElem? (i := 1) rfl)
  have inX6 : ∀ w ∈ u_ws RX6 TX6 20, w ∈ wsX6_laidAt := in_at 2 _ _ rfl
  refine lv_aload_n hx hb dX6_laidAt_0 rfl (lv_at hl 0 rfl) ?_
  refine va_get (ci := 4) (v := .ref (b 1)) (C := RX6) (T := TX6) (N := 20) hx hb hts inX6 hown hK hP 0 rfl rfl 0 (by decide) f7 (fun _ h9 => h9) rfl dX6_laidAt_1 ?_
  refine lv_iconst (v := 2) hx hb dX6_laidAt_4 (by decide) ?_
  refine lv_iconst (v := 3) hx hb dX6_laidAt_5 (by decide) ?_
  refine lv_iload_n hx hb dX6_laidAt_6 rfl (lv_at hl 1 rfl) ?_
  refine lv_imul hx hb dX6_laidAt_7 ?_
  refine lv_iadd hx hb dX6_laidAt_8 ?_
  refine lv_iload_n hx hb dX6_laidAt_9 rfl (lv_at hl 2 rfl) ?_
  refine lv_iadd hx hb dX6_laidAt_10 ?_
  refine va_iald hx hb hK hP 1 0 rfl rfl ((ixp h0 h1).2) dX6_laidAt_11 ?_
  exact W.iret hx hb hr (fun t ht hW => ⟨_, rfl, (by exact congrArg (enc co gu kn fo sp ki pl ea to qu) (ixp h0 h1).1), ht⟩) (fun _ h => absurd h List.not_mem_nil) dX6_laidAt_12

theorem k_X6_laidAt0 (l : Launch) (D : va_G) (cI cL cS : ClassId) (b : Nat → Nat) (co gu : Int32) (kn fo sp ki pl ea to qu : FI) (fd mo tr b1 tp : FI) (tm so bg te : Int32) (wd : Int64) (va gd : Int32) (bo sz : FI) (sh le : FJ) (im bf : FI) (ik : Int32) (x0 : Int32) (h0 : vp_in x0 10) : Met l yX6_laidAt wsX6_laidAt { frames := 0, cells := 0, slots := 0, locals := 0 } (PcR D vwCl (tyG cI cL cS) [.ref (b 0), .int x0, .int 0] (mdw cI cL b (enc co gu kn fo sp ki pl ea to qu) fd mo tr b1 tp tm so bg te wd va gd bo sz sh le im bf ik)) (vp_Si (fun r => r = kn (ix x0))) 0 0 (fun _ => False) := by
  exact Met_F (k_X6_laidAt l D cI cL cS b co gu kn fo sp ki pl ea to qu fd mo tr b1 tp tm so bg te wd va gd bo sz sh le im bf ik x0 0 h0 (vp_in_iff.mpr (by decide))) (enc_p co gu kn fo sp ki pl ea to qu (p := ix x0) (w := 0) (ix_lt (by decide) h0) (by decide))

theorem k_X6_laidAt1 (l : Launch) (D : va_G) (cI cL cS : ClassId) (b : Nat → Nat) (co gu : Int32) (kn fo sp ki pl ea to qu : FI) (fd mo tr b1 tp : FI) (tm so bg te : Int32) (wd : Int64) (va gd : Int32) (bo sz : FI) (sh le : FJ) (im bf : FI) (ik : Int32) (x0 : Int32) (h0 : vp_in x0 10) : Met l yX6_laidAt wsX6_laidAt { frames := 0, cells := 0, slots := 0, locals := 0 } (PcR D vwCl (tyG cI cL cS) [.ref (b 0), .int x0, .int 1] (mdw cI cL b (enc co gu kn fo sp ki pl ea to qu) fd mo tr b1 tp tm so bg te wd va gd bo sz sh le im bf ik)) (vp_Si (fun r => r = fo (ix x0))) 0 0 (fun _ => False) := by
  exact Met_F (k_X6_laidAt l D cI cL cS b co gu kn fo sp ki pl ea to qu fd mo tr b1 tp tm so bg te wd va gd bo sz sh le im bf ik x0 1 h0 (vp_in_iff.mpr (by decide))) (enc_p co gu kn fo sp ki pl ea to qu (p := ix x0) (w := 1) (ix_lt (by decide) h0) (by decide))

theorem k_X6_laidAt2 (l : Launch) (D : va_G) (cI cL cS : ClassId) (b : Nat → Nat) (co gu : Int32) (kn fo sp ki pl ea to qu : FI) (fd mo tr b1 tp : FI) (tm so bg te : Int32) (wd : Int64) (va gd : Int32) (bo sz : FI) (sh le : FJ) (im bf : FI) (ik : Int32) (x0 : Int32) (h0 : vp_in x0 10) : Met l yX6_laidAt wsX6_laidAt { frames := 0, cells := 0, slots := 0, locals := 0 } (PcR D vwCl (tyG cI cL cS) [.ref (b 0), .int x0, .int 2] (mdw cI cL b (enc co gu kn fo sp ki pl ea to qu) fd mo tr b1 tp tm so bg te wd va gd bo sz sh le im bf ik)) (vp_Si (fun r => r = sp (ix x0))) 0 0 (fun _ => False) := by
  exact Met_F (k_X6_laidAt l D cI cL cS b co gu kn fo sp ki pl ea to qu fd mo tr b1 tp tm so bg te wd va gd bo sz sh le im bf ik x0 2 h0 (vp_in_iff.mpr (by decide))) (enc_p co gu kn fo sp ki pl ea to qu (p := ix x0) (w := 2) (ix_lt (by decide) h0) (by decide))

set_option maxRecDepth 100000 in
set_option maxHeartbeats 4000000 in
theorem k_X6_isOne (l : Launch) (D : va_G) (cI cL cS : ClassId) (b : Nat → Nat) (co gu : Int32) (kn fo sp ki pl ea to qu : FI) (fd mo tr b1 tp : FI) (tm so bg te : Int32) (wd : Int64) (va gd : Int32) (bo sz : FI) (sh le : FJ) (im bf : FI) (ik : Int32) (x0 : Int32) (hg9 : vp_in gu 9) : Met l yX6_isOne wsX6_isOne { frames := 1, cells := 0, slots := 0, locals := 22 } (PcR D vwCl (tyG cI cL cS) [.ref (b 0), .int x0] (mdw cI cL b (enc co gu kn fo sp ki pl ea to qu) fd mo tr b1 tp tm so bg te wd va gd bo sz sh le im bf ik)) (vp_Si (fun r => r = bI (vp_in x0 (ix gu)))) 0 0 (fun _ => False) := by
  refine Met.ofW (cc := cX6_isOne) (maxL := 2) (ret := (some .boolean)) (by decide) rfl ?_
  intro p e s m args below meth c s₁ B hml hv
  obtain ⟨rfl, hP, hK⟩ := hv
  have hx := B.exec
  have hb := B.bytes
  have hr := B.returns
  have hts := atoms_spec (ws := wsX6_isOne) B.pre
  have hown : s.vm.findClass RX6 = some m.cls := findClass_of_methodNamed B.named
  have hlocks := B.notSynchronized
  have hl := lv_entry ([.ref (b 0), .int x0]) (n := 2) (Nat.le_of_ble_eq_true rfl)
  rw [lg_entry_eq]
  generalize (lg_sl ([.ref (b 0), .int x0]) ++ List.replicate (2 - (lg_sl ([.ref (b 0), .int x0])).length) Slot.unset).toArray = ls at hl ⊢
  have hl : lv_has ls 2 [(0, .ref (b 0)), (1, .int x0)] := hl
  have f7 := hts (.fieldLink RX6 7 "KnivesLaidModel" "row" "[I") (List.mem_of_getElem? (i := 1) rfl)
  have inX6 : ∀ w ∈ u_ws RX6 TX6 20, w ∈ wsX6_isOne := in_at 6 _ _ rfl
  refine lv_iload_n hx hb dX6_isOne_0 rfl (lv_at hl 1 rfl) ?_
  refine lv_iconst (v := 0) hx hb dX6_isOne_1 (by decide) ?_
  refine lv_aload_n hx hb dX6_isOne_2 rfl (lv_at hl 0 rfl) ?_
  refine va_get (ci := 4) (v := .ref (b 1)) (C := RX6) (T := TX6) (N := 20) hx hb hts inX6 hown hK hP 0 rfl rfl 0 (by decide) f7 (fun _ h9 => h9) rfl dX6_isOne_3 ?_
  refine lv_iconst (v := 1) hx hb dX6_isOne_6 (by decide) ?_
  refine va_iald hx hb hK hP 1 0 rfl rfl (vp_in_iff.mpr (by decide)) dX6_isOne_7 ?_
  refine lv_to (y := gu) rfl ?_
  refine lv_iconst (v := 1) hx hb dX6_isOne_8 (by decide) ?_
  refine lv_isub hx hb dX6_isOne_9 ?_
  refine callE (W.runS (As := [.int x0, .int 0, .int (gu - 1)]) (rest := []) ⟨hx, hb, hml, hown, hts⟩ (k_X6_in l x0 0 (gu - 1)) (va_cwS 3 hts gX6_isOne_X6_in rfl rfl rfl (by decide +kernel) ⟨Nat.le_of_ble_eq_true rfl, Nat.le_of_ble_eq_true rfl⟩) ⟨PcP_fb, fun U _ _ => ⟨rfl, trivial⟩⟩ rfl rfl hl.1 rfl (lv_room (Nat.le_of_ble_eq_true rfl)) dX6_isOne_10 ⟨Nat.zero_le _, Nat.zero_le _⟩) ?_
  exact W.zret (ty := .boolean) hx hb hr (bI_nar _) (fun t ht hW => ⟨_, rfl, (by exact bI_iff (isOne_iff hg9)), ht⟩) (fun _ h => absurd h List.not_mem_nil) dX6_isOne_13

set_option maxRecDepth 100000 in
set_option maxHeartbeats 4000000 in
theorem k_X6_whoAt (l : Launch) (D : va_G) (cI cL cS : ClassId) (b : Nat → Nat) (co gu : Int32) (kn fo sp ki pl ea to qu : FI) (fd mo tr b1 tp : FI) (tm so bg te : Int32) (wd : Int64) (va gd : Int32) (bo sz : FI) (sh le : FJ) (im bf : FI) (ik : Int32) (x0 : Int32) (hg9 : vp_in gu 9) : Met l yX6_whoAt wsX6_whoAt { frames := 1, cells := 0, slots := 0, locals := 22 } (PcR D vwCl (tyG cI cL cS) [.ref (b 0), .int x0] (mdw cI cL b (enc co gu kn fo sp ki pl ea to qu) fd mo tr b1 tp tm so bg te wd va gd bo sz sh le im bf ik)) (vp_Si (fun r => r = sWhoN pl x0 (ix gu))) 0 0 (fun _ => False) := by
  refine Met.ofW (cc := cX6_whoAt) (maxL := 4) (ret := (some .int)) (by decide) rfl ?_
  intro p e s m args below meth c s₁ B hml hv
  obtain ⟨rfl, hP, hK⟩ := hv
  have hx := B.exec
  have hb := B.bytes
  have hr := B.returns
  have hts := atoms_spec (ws := wsX6_whoAt) B.pre
  have hown : s.vm.findClass RX6 = some m.cls := findClass_of_methodNamed B.named
  have hlocks := B.notSynchronized
  have hl := lv_entry ([.ref (b 0), .int x0]) (n := 4) (Nat.le_of_ble_eq_true rfl)
  rw [lg_entry_eq]
  generalize (lg_sl ([.ref (b 0), .int x0]) ++ List.replicate (4 - (lg_sl ([.ref (b 0), .int x0])).length) Slot.unset).toArray = ls at hl ⊢
  have hl : lv_has ls 4 [(0, .ref (b 0)), (1, .int x0)] := hl
  have f7 := hts (.fieldLink RX6 7 "KnivesLaidModel" "row" "[I") (List.mem_of_getElem? (i := 1) rfl)
  have inX6 : ∀ w ∈ u_ws RX6 TX6 20, w ∈ wsX6_whoAt := in_at 7 _ _ rfl
  have hgu := gu_of hg9
  have hgu8 := hgu.2
  refine lv_iconst (v := (-1)) hx hb dX6_whoAt_0 (by decide) ?_
  refine lv_istore_n (lv' := [(2, .int (-1)), (0, .ref (b 0)), (1, .int x0)]) hx hb dX6_whoAt_1 rfl hl (by decide) rfl (fun ls hl => ?_)
  refine lv_iconst (v := 0) hx hb dX6_whoAt_2 (by decide) ?_
  refine lv_istore_n (lv' := [(3, .int 0), (2, .int (-1)), (0, .ref (b 0)), (1, .int x0)]) hx hb dX6_whoAt_3 rfl hl (by decide) rfl (fun ls hl => ?_)
  refine lpR (fun n (u : Nat × Int32) ls => (u.1 + n = ix gu) ∧ (u.2 = sWhoN pl x0 u.1) ∧ lv_has ls 4 [(0, .ref (b 0)), (1, .int x0), (2, .int u.2), (3, .int (nI u.1))]) (ix gu) ((0, -1)) ⟨by omega, rfl, lv_sub hl [2, 3, 1, 0] rfl⟩ (fun n ih u ls hI => ?_)
  obtain ⟨i, z⟩ := u
  obtain ⟨hi0, hi1, hl⟩ := hI
  have hi0 : i + n = ix gu := hi0
  have hi1 : z = sWhoN pl x0 i := hi1
  have hl : lv_has ls 4 [(0, .ref (b 0)), (1, .int x0), (2, .int z), (3, .int (nI i))] := hl
  have hix : ix (nI i) = i := ix_nI (by omega)
  refine lv_iload_n hx hb dX6_whoAt_4 rfl (lv_at hl 3 rfl) ?_
  refine lv_aload_n hx hb dX6_whoAt_5 rfl (lv_at hl 0 rfl) ?_
  refine va_get (ci := 4) (v := .ref (b 1)) (C := RX6) (T := TX6) (N := 20) hx hb hts inX6 hown hK hP 0 rfl rfl 0 (by decide) f7 (fun _ h9 => h9) rfl dX6_whoAt_6 ?_
  refine lv_iconst (v := 1) hx hb dX6_whoAt_9 (by decide) ?_
  refine va_iald hx hb hK hP 1 0 rfl rfl (vp_in_iff.mpr (by decide)) dX6_whoAt_10 ?_
  refine lv_to (y := gu) rfl ?_
  refine lv_icmp_ge (tgt := 36) hx hb dX6_whoAt_11 (by decide) (fun c_1 => ?_) (fun c_1 => ?_)
  · skip
    have c_1n := (cmp_le (a := ix gu) (b := i) hgu.1 rfl (by omega) (by omega)).mp c_1
    refine lv_iload_n hx hb dX6_whoAt_36 rfl (lv_at hl 2 rfl) ?_
    exact W.iret hx hb hr (fun t ht hW => ⟨_, rfl, (by rw [hi1, show i = ix gu by omega]), ht⟩) (fun _ h => absurd h List.not_mem_nil) dX6_whoAt_37
  · skip
    have c_1n := mt (cmp_le (a := ix gu) (b := i) hgu.1 rfl (by omega) (by omega)).mpr c_1
    refine lv_aload_n hx hb dX6_whoAt_14 rfl (lv_at hl 0 rfl) ?_
    refine lv_iload_n hx hb dX6_whoAt_15 rfl (lv_at hl 3 rfl) ?_
    refine lv_iconst (v := 1) hx hb dX6_whoAt_16 (by decide) ?_
    refine callE (W.runV (As := [.int (nI i), .int 1]) (rest := []) ⟨hx, hb, hml, hown, hts⟩ (k_X6_its1 l D cI cL cS b co gu kn fo sp ki pl ea to qu fd mo tr b1 tp tm so bg te wd va gd bo sz sh le im bf ik (nI i) (vp_in_nI (by omega) (by omega))) (cwV 2 hts gX6_whoAt_X6_its rfl rfl rfl (by decide +kernel) ⟨Nat.le_of_ble_eq_true rfl, Nat.le_of_ble_eq_true rfl⟩) ⟨PcR_fb, va_recv hK hP (ci := 4) (q0 := 0) rfl rfl, PcR_pre hP hK⟩ rfl rfl hl.1 rfl (lv_room (Nat.le_of_ble_eq_true rfl)) dX6_whoAt_17 ⟨Nat.zero_le _, Nat.zero_le _⟩) ?_
    refine lv_iload_n hx hb dX6_whoAt_20 rfl (lv_at hl 1 rfl) ?_
    refine jn (fun v_2 : Int32 => v_2 = (if (pl (ix (nI i))) = x0 then nI i else z : Int32)) (fun v_2 => F0 m 29 ls [.int v_2]) (fun Jv_2 => ?_) (fun v_2 ev_2 => ?_)
    · skip
      refine lv_icmp_ne (tgt := 28) hx hb dX6_whoAt_21 (by decide) (fun c_3 => ?_) (fun c_3 => ?_)
      · skip
        refine lv_iload_n hx hb dX6_whoAt_28 rfl (lv_at hl 2 rfl) ?_
        exact Jv_2 _ (by rw [if_neg c_3])
      · skip
        refine lv_iload_n hx hb dX6_whoAt_24 rfl (lv_at hl 3 rfl) ?_
        refine lv_goto (tgt := 29) hx hb dX6_whoAt_25 (by decide) ?_
        exact Jv_2 _ (by rw [if_pos c_3])
    refine lv_istore_n (lv' := [(2, .int v_2), (0, .ref (b 0)), (1, .int x0), (3, .int (nI i))]) hx hb dX6_whoAt_29 rfl hl (by decide) rfl (fun ls hl => ?_)
    refine lv_iinc (v := nI (i + 1)) (lv' := [(3, .int (nI (i + 1))), (2, .int v_2), (0, .ref (b 0)), (1, .int x0)]) hx hb dX6_whoAt_30 hl (k := 3) rfl (nI_1 _) (by decide) rfl (fun ls hl => ?_)
    refine lv_goto (tgt := 4) hx hb dX6_whoAt_33 (by decide) ?_
    exact ih (n - 1) (by omega) ((i + 1, v_2)) ls ⟨by omega, by rw [ev_2, hi1, hix]; simp [sWhoN], lv_sub hl [2, 3, 1, 0] rfl⟩

set_option maxRecDepth 100000 in
set_option maxHeartbeats 4000000 in
theorem k_X6_beside (l : Launch) (D : va_G) (cI cL cS : ClassId) (b : Nat → Nat) (co gu : Int32) (kn fo sp ki pl ea to qu : FI) (fd mo tr b1 tp : FI) (tm so bg te : Int32) (wd : Int64) (va gd : Int32) (bo sz : FI) (sh le : FJ) (im bf : FI) (ik : Int32) (x0 : Int32) (x1 : Int32) (hg9 : vp_in gu 9) (h0 : vp_in x0 8) : Met l yX6_beside wsX6_beside { frames := 2, cells := 0, slots := 0, locals := 45 } (PcR D vwCl (tyG cI cL cS) [.ref (b 0), .int x0, .int x1] (mdw cI cL b (enc co gu kn fo sp ki pl ea to qu) fd mo tr b1 tp tm so bg te wd va gd bo sz sh le im bf ik)) (vp_Si (fun r => r = sWhoN pl (((pl (ix x0) + 10) + x1) - ((pl (ix x0) + 10) + x1) / 10 * 10) (ix gu))) 0 0 (fun _ => False) := by
  refine Met.ofW (cc := cX6_beside) (maxL := 3) (ret := (some .int)) (by decide) rfl ?_
  intro p e s m args below meth c s₁ B hml hv
  obtain ⟨rfl, hP, hK⟩ := hv
  have hx := B.exec
  have hb := B.bytes
  have hr := B.returns
  have hts := atoms_spec (ws := wsX6_beside) B.pre
  have hown : s.vm.findClass RX6 = some m.cls := findClass_of_methodNamed B.named
  have hlocks := B.notSynchronized
  have hl := lv_entry ([.ref (b 0), .int x0, .int x1]) (n := 3) (Nat.le_of_ble_eq_true rfl)
  rw [lg_entry_eq]
  generalize (lg_sl ([.ref (b 0), .int x0, .int x1]) ++ List.replicate (3 - (lg_sl ([.ref (b 0), .int x0, .int x1])).length) Slot.unset).toArray = ls at hl ⊢
  have hl : lv_has ls 3 [(0, .ref (b 0)), (1, .int x0), (2, .int x1)] := hl
  refine lv_aload_n hx hb dX6_beside_0 rfl (lv_at hl 0 rfl) ?_
  refine lv_aload_n hx hb dX6_beside_1 rfl (lv_at hl 0 rfl) ?_
  refine lv_iload_n hx hb dX6_beside_2 rfl (lv_at hl 1 rfl) ?_
  refine lv_iconst (v := 1) hx hb dX6_beside_3 (by decide) ?_
  refine callE (W.runV (As := [.int x0, .int 1]) (rest := [.ref (b 0)]) ⟨hx, hb, hml, hown, hts⟩ (k_X6_its1 l D cI cL cS b co gu kn fo sp ki pl ea to qu fd mo tr b1 tp tm so bg te wd va gd bo sz sh le im bf ik x0 (by assumption)) (cwV 2 hts gX6_beside_X6_its rfl rfl rfl (by decide +kernel) ⟨Nat.le_of_ble_eq_true rfl, Nat.le_of_ble_eq_true rfl⟩) ⟨PcR_fb, va_recv hK hP (ci := 4) (q0 := 0) rfl rfl, PcR_pre hP hK⟩ rfl rfl hl.1 rfl (lv_room (Nat.le_of_ble_eq_true rfl)) dX6_beside_4 ⟨Nat.zero_le _, Nat.zero_le _⟩) ?_
  refine lv_bipush (v := 10) hx hb dX6_beside_7 (by decide) ?_
  refine lv_iadd hx hb dX6_beside_9 ?_
  refine lv_iload_n hx hb dX6_beside_10 rfl (lv_at hl 2 rfl) ?_
  refine lv_iadd hx hb dX6_beside_11 ?_
  refine lv_bipush (v := 10) hx hb dX6_beside_12 (by decide) ?_
  refine lv_irem hx hb dX6_beside_14 (by decide) ?_
  refine callE (W.runV (As := [.int ((((pl (ix x0)) + 10) + x1) - (((pl (ix x0)) + 10) + x1) / 10 * 10)]) (rest := []) ⟨hx, hb, hml, hown, hts⟩ (k_X6_whoAt l D cI cL cS b co gu kn fo sp ki pl ea to qu fd mo tr b1 tp tm so bg te wd va gd bo sz sh le im bf ik ((((pl (ix x0)) + 10) + x1) - (((pl (ix x0)) + 10) + x1) / 10 * 10) hg9) (cwV 1 hts gX6_beside_X6_whoAt rfl rfl rfl (by decide +kernel) ⟨Nat.le_of_ble_eq_true rfl, Nat.le_of_ble_eq_true rfl⟩) ⟨PcR_fb, va_recv hK hP (ci := 4) (q0 := 0) rfl rfl, PcR_pre hP hK⟩ rfl rfl hl.1 rfl (lv_room (Nat.le_of_ble_eq_true rfl)) dX6_beside_15 ⟨Nat.zero_le _, Nat.zero_le _⟩) ?_
  exact W.iret hx hb hr (fun t ht hW => ⟨_, rfl, (by rfl), ht⟩) (fun _ h => absurd h List.not_mem_nil) dX6_beside_18

theorem k_X6_besideL (l : Launch) (D : va_G) (cI cL cS : ClassId) (b : Nat → Nat) (co gu : Int32) (kn fo sp ki pl ea to qu : FI) (fd mo tr b1 tp : FI) (tm so bg te : Int32) (wd : Int64) (va gd : Int32) (bo sz : FI) (sh le : FJ) (im bf : FI) (ik : Int32) (x0 : Int32) (ok : okT gu kn fo sp (whC gu pl) ki pl) (h0 : vp_in x0 8) : Met l yX6_beside wsX6_beside { frames := 2, cells := 0, slots := 0, locals := 45 } (PcR D vwCl (tyG cI cL cS) [.ref (b 0), .int x0, .int (-1)] (mdw cI cL b (enc co gu kn fo sp ki pl ea to qu) fd mo tr b1 tp tm so bg te wd va gd bo sz sh le im bf ik)) (vp_Si (fun r => r = sL gu pl (ix x0))) 0 0 (fun _ => False) := by
  exact Met_F (k_X6_beside l D cI cL cS b co gu kn fo sp ki pl ea to qu fd mo tr b1 tp tm so bg te wd va gd bo sz sh le im bf ik x0 (-1) ok.gu h0) (by rw [rem_bef (ok.pl h0)]; rfl)

theorem k_X6_besideR (l : Launch) (D : va_G) (cI cL cS : ClassId) (b : Nat → Nat) (co gu : Int32) (kn fo sp ki pl ea to qu : FI) (fd mo tr b1 tp : FI) (tm so bg te : Int32) (wd : Int64) (va gd : Int32) (bo sz : FI) (sh le : FJ) (im bf : FI) (ik : Int32) (x0 : Int32) (ok : okT gu kn fo sp (whC gu pl) ki pl) (h0 : vp_in x0 8) : Met l yX6_beside wsX6_beside { frames := 2, cells := 0, slots := 0, locals := 45 } (PcR D vwCl (tyG cI cL cS) [.ref (b 0), .int x0, .int 1] (mdw cI cL b (enc co gu kn fo sp ki pl ea to qu) fd mo tr b1 tp tm so bg te wd va gd bo sz sh le im bf ik)) (vp_Si (fun r => r = sR gu pl (ix x0))) 0 0 (fun _ => False) := by
  exact Met_F (k_X6_beside l D cI cL cS b co gu kn fo sp ki pl ea to qu fd mo tr b1 tp tm so bg te wd va gd bo sz sh le im bf ik x0 1 ok.gu h0) (by rw [rem_beh (ok.pl h0)]; rfl)

set_option maxRecDepth 100000 in
set_option maxHeartbeats 4000000 in
theorem k_X6_neighbours (l : Launch) (D : va_G) (cI cL cS : ClassId) (b : Nat → Nat) (co gu : Int32) (kn fo sp ki pl ea to qu : FI) (fd mo tr b1 tp : FI) (tm so bg te : Int32) (wd : Int64) (va gd : Int32) (bo sz : FI) (sh le : FJ) (im bf : FI) (ik : Int32) (x0 : Int32) (ok : okT gu kn fo sp (whC gu pl) ki pl) (h0 : vp_in x0 8) : Met l yX6_neighbours wsX6_neighbours { frames := 3, cells := 0, slots := 0, locals := 67 } (PcR D vwCl (tyG cI cL cS) [.ref (b 0), .int x0] (mdw cI cL b (enc co gu kn fo sp ki pl ea to qu) fd mo tr b1 tp tm so bg te wd va gd bo sz sh le im bf ik)) (vp_Si (fun r => r = sNear gu pl (ix x0))) 0 0 (fun _ => False) := by
  refine Met.ofW (cc := cX6_neighbours) (maxL := 4) (ret := (some .int)) (by decide) rfl ?_
  intro p e s m args below meth c s₁ B hml hv
  obtain ⟨rfl, hP, hK⟩ := hv
  have hx := B.exec
  have hb := B.bytes
  have hr := B.returns
  have hts := atoms_spec (ws := wsX6_neighbours) B.pre
  have hown : s.vm.findClass RX6 = some m.cls := findClass_of_methodNamed B.named
  have hlocks := B.notSynchronized
  have hl := lv_entry ([.ref (b 0), .int x0]) (n := 4) (Nat.le_of_ble_eq_true rfl)
  rw [lg_entry_eq]
  generalize (lg_sl ([.ref (b 0), .int x0]) ++ List.replicate (4 - (lg_sl ([.ref (b 0), .int x0])).length) Slot.unset).toArray = ls at hl ⊢
  have hl : lv_has ls 4 [(0, .ref (b 0)), (1, .int x0)] := hl
  refine lv_aload_n hx hb dX6_neighbours_0 rfl (lv_at hl 0 rfl) ?_
  refine lv_iload_n hx hb dX6_neighbours_1 rfl (lv_at hl 1 rfl) ?_
  refine lv_iconst (v := (-1)) hx hb dX6_neighbours_2 (by decide) ?_
  refine callE (W.runV (As := [.int x0, .int (-1)]) (rest := []) ⟨hx, hb, hml, hown, hts⟩ (k_X6_besideL l D cI cL cS b co gu kn fo sp ki pl ea to qu fd mo tr b1 tp tm so bg te wd va gd bo sz sh le im bf ik x0 ok (by assumption)) (cwV 2 hts gX6_neighbours_X6_beside rfl rfl rfl (by decide +kernel) ⟨Nat.le_of_ble_eq_true rfl, Nat.le_of_ble_eq_true rfl⟩) ⟨PcR_fb, va_recv hK hP (ci := 4) (q0 := 0) rfl rfl, PcR_pre hP hK⟩ rfl rfl hl.1 rfl (lv_room (Nat.le_of_ble_eq_true rfl)) dX6_neighbours_3 ⟨Nat.zero_le _, Nat.zero_le _⟩) ?_
  refine lv_istore_n (lv' := [(2, .int (sL gu pl (ix x0))), (0, .ref (b 0)), (1, .int x0)]) hx hb dX6_neighbours_6 rfl hl (by decide) rfl (fun ls hl => ?_)
  refine lv_aload_n hx hb dX6_neighbours_7 rfl (lv_at hl 1 rfl) ?_
  refine lv_iload_n hx hb dX6_neighbours_8 rfl (lv_at hl 2 rfl) ?_
  refine lv_iconst (v := 1) hx hb dX6_neighbours_9 (by decide) ?_
  refine callE (W.runV (As := [.int x0, .int 1]) (rest := []) ⟨hx, hb, hml, hown, hts⟩ (k_X6_besideR l D cI cL cS b co gu kn fo sp ki pl ea to qu fd mo tr b1 tp tm so bg te wd va gd bo sz sh le im bf ik x0 ok (by assumption)) (cwV 2 hts gX6_neighbours_X6_beside rfl rfl rfl (by decide +kernel) ⟨Nat.le_of_ble_eq_true rfl, Nat.le_of_ble_eq_true rfl⟩) ⟨PcR_fb, va_recv hK hP (ci := 4) (q0 := 0) rfl rfl, PcR_pre hP hK⟩ rfl rfl hl.1 rfl (lv_room (Nat.le_of_ble_eq_true rfl)) dX6_neighbours_10 ⟨Nat.zero_le _, Nat.zero_le _⟩) ?_
  refine lv_istore_n (lv' := [(3, .int (sR gu pl (ix x0))), (2, .int (sL gu pl (ix x0))), (0, .ref (b 0)), (1, .int x0)]) hx hb dX6_neighbours_13 rfl hl (by decide) rfl (fun ls hl => ?_)
  refine lv_iload_n hx hb dX6_neighbours_14 rfl (lv_at hl 1 rfl) ?_
  refine jn (fun v_1 : Int32 => v_1 = (if 0 ≤ (sL gu pl (ix x0)) then (1 <<< ((sL gu pl (ix x0)) &&& 31)) else 0 : Int32)) (fun v_1 => F0 m 25 ls [.int v_1]) (fun Jv_1 => ?_) (fun v_1 ev_1 => ?_)
  · skip
    refine lv_if_ge (tgt := 22) hx hb dX6_neighbours_15 (by decide) (fun c_2 => ?_) (fun c_2 => ?_)
    · skip
      refine lv_iconst (v := 1) hx hb dX6_neighbours_22 (by decide) ?_
      refine lv_iload_n hx hb dX6_neighbours_23 rfl (lv_at hl 1 rfl) ?_
      refine lv_ishl hx hb dX6_neighbours_24 ?_
      exact Jv_1 _ (by rw [if_pos c_2])
    · skip
      refine lv_iconst (v := 0) hx hb dX6_neighbours_18 (by decide) ?_
      refine lv_goto (tgt := 25) hx hb dX6_neighbours_19 (by decide) ?_
      exact Jv_1 _ (by rw [if_neg c_2])
  refine lv_iload_n hx hb dX6_neighbours_25 rfl (lv_at hl 0 rfl) ?_
  refine jn (fun v_3 : Int32 => v_3 = (if 0 ≤ (sR gu pl (ix x0)) then (1 <<< ((sR gu pl (ix x0)) &&& 31)) else 0 : Int32)) (fun v_3 => F0 m 36 ls [.int v_3, .int v_1]) (fun Jv_3 => ?_) (fun v_3 ev_3 => ?_)
  · skip
    refine lv_if_ge (tgt := 33) hx hb dX6_neighbours_26 (by decide) (fun c_4 => ?_) (fun c_4 => ?_)
    · skip
      refine lv_iconst (v := 1) hx hb dX6_neighbours_33 (by decide) ?_
      refine lv_iload_n hx hb dX6_neighbours_34 rfl (lv_at hl 0 rfl) ?_
      refine lv_ishl hx hb dX6_neighbours_35 ?_
      exact Jv_3 _ (by rw [if_pos c_4])
    · skip
      refine lv_iconst (v := 0) hx hb dX6_neighbours_29 (by decide) ?_
      refine lv_goto (tgt := 36) hx hb dX6_neighbours_30 (by decide) ?_
      exact Jv_3 _ (by rw [if_neg c_4])
  refine lv_ior hx hb dX6_neighbours_36 ?_
  exact W.iret hx hb hr (fun t ht hW => ⟨_, rfl, (by rw [ev_1, ev_3]; unfold sNear; unfold sL sR; rw [bit_negW ok.gu, bit_negW ok.gu]), ht⟩) (fun _ h => absurd h List.not_mem_nil) dX6_neighbours_37

set_option maxRecDepth 100000 in
set_option maxHeartbeats 4000000 in
theorem k_X6_manyBeside (l : Launch) (D : va_G) (cI cL cS : ClassId) (b : Nat → Nat) (co gu : Int32) (kn fo sp ki pl ea to qu : FI) (fd mo tr b1 tp : FI) (tm so bg te : Int32) (wd : Int64) (va gd : Int32) (bo sz : FI) (sh le : FJ) (im bf : FI) (ik : Int32) (x0 : Int32) (ok : okT gu kn fo sp (whC gu pl) ki pl) (h0 : vp_in x0 8) : Met l yX6_manyBeside wsX6_manyBeside { frames := 3, cells := 0, slots := 0, locals := 67 } (PcR D vwCl (tyG cI cL cS) [.ref (b 0), .int x0] (mdw cI cL b (enc co gu kn fo sp ki pl ea to qu) fd mo tr b1 tp tm so bg te wd va gd bo sz sh le im bf ik)) (vp_Si (fun r => r = sMany gu pl (ix x0))) 0 0 (fun _ => False) := by
  refine Met.ofW (cc := cX6_manyBeside) (maxL := 2) (ret := (some .int)) (by decide) rfl ?_
  intro p e s m args below meth c s₁ B hml hv
  obtain ⟨rfl, hP, hK⟩ := hv
  have hx := B.exec
  have hb := B.bytes
  have hr := B.returns
  have hts := atoms_spec (ws := wsX6_manyBeside) B.pre
  have hown : s.vm.findClass RX6 = some m.cls := findClass_of_methodNamed B.named
  have hlocks := B.notSynchronized
  have hl := lv_entry ([.ref (b 0), .int x0]) (n := 2) (Nat.le_of_ble_eq_true rfl)
  rw [lg_entry_eq]
  generalize (lg_sl ([.ref (b 0), .int x0]) ++ List.replicate (2 - (lg_sl ([.ref (b 0), .int x0])).length) Slot.unset).toArray = ls at hl ⊢
  have hl : lv_has ls 2 [(0, .ref (b 0)), (1, .int x0)] := hl
  refine lv_aload_n hx hb dX6_manyBeside_0 rfl (lv_at hl 0 rfl) ?_
  refine lv_iload_n hx hb dX6_manyBeside_1 rfl (lv_at hl 1 rfl) ?_
  refine lv_iconst (v := (-1)) hx hb dX6_manyBeside_2 (by decide) ?_
  refine callE (W.runV (As := [.int x0, .int (-1)]) (rest := []) ⟨hx, hb, hml, hown, hts⟩ (k_X6_besideL l D cI cL cS b co gu kn fo sp ki pl ea to qu fd mo tr b1 tp tm so bg te wd va gd bo sz sh le im bf ik x0 ok (by assumption)) (cwV 2 hts gX6_manyBeside_X6_beside rfl rfl rfl (by decide +kernel) ⟨Nat.le_of_ble_eq_true rfl, Nat.le_of_ble_eq_true rfl⟩) ⟨PcR_fb, va_recv hK hP (ci := 4) (q0 := 0) rfl rfl, PcR_pre hP hK⟩ rfl rfl hl.1 rfl (lv_room (Nat.le_of_ble_eq_true rfl)) dX6_manyBeside_3 ⟨Nat.zero_le _, Nat.zero_le _⟩) ?_
  refine jn (fun v_1 : Int32 => v_1 = (if 0 ≤ (sL gu pl (ix x0)) then 1 else 0 : Int32)) (fun v_1 => F0 m 14 ls [.int v_1]) (fun Jv_1 => ?_) (fun v_1 ev_1 => ?_)
  · skip
    refine lv_if_ge (tgt := 13) hx hb dX6_manyBeside_6 (by decide) (fun c_2 => ?_) (fun c_2 => ?_)
    · skip
      refine lv_iconst (v := 1) hx hb dX6_manyBeside_13 (by decide) ?_
      exact Jv_1 _ (by rw [if_pos c_2])
    · skip
      refine lv_iconst (v := 0) hx hb dX6_manyBeside_9 (by decide) ?_
      refine lv_goto (tgt := 14) hx hb dX6_manyBeside_10 (by decide) ?_
      exact Jv_1 _ (by rw [if_neg c_2])
  refine lv_aload_n hx hb dX6_manyBeside_14 rfl (lv_at hl 0 rfl) ?_
  refine lv_iload_n hx hb dX6_manyBeside_15 rfl (lv_at hl 1 rfl) ?_
  refine lv_iconst (v := 1) hx hb dX6_manyBeside_16 (by decide) ?_
  refine callE (W.runV (As := [.int x0, .int 1]) (rest := [.int v_1]) ⟨hx, hb, hml, hown, hts⟩ (k_X6_besideR l D cI cL cS b co gu kn fo sp ki pl ea to qu fd mo tr b1 tp tm so bg te wd va gd bo sz sh le im bf ik x0 ok (by assumption)) (cwV 2 hts gX6_manyBeside_X6_beside rfl rfl rfl (by decide +kernel) ⟨Nat.le_of_ble_eq_true rfl, Nat.le_of_ble_eq_true rfl⟩) ⟨PcR_fb, va_recv hK hP (ci := 4) (q0 := 0) rfl rfl, PcR_pre hP hK⟩ rfl rfl hl.1 rfl (lv_room (Nat.le_of_ble_eq_true rfl)) dX6_manyBeside_17 ⟨Nat.zero_le _, Nat.zero_le _⟩) ?_
  refine jn (fun v_3 : Int32 => v_3 = (if 0 ≤ (sR gu pl (ix x0)) then 1 else 0 : Int32)) (fun v_3 => F0 m 28 ls [.int v_3, .int v_1]) (fun Jv_3 => ?_) (fun v_3 ev_3 => ?_)
  · skip
    refine lv_if_ge (tgt := 27) hx hb dX6_manyBeside_20 (by decide) (fun c_4 => ?_) (fun c_4 => ?_)
    · skip
      refine lv_iconst (v := 1) hx hb dX6_manyBeside_27 (by decide) ?_
      exact Jv_3 _ (by rw [if_pos c_4])
    · skip
      refine lv_iconst (v := 0) hx hb dX6_manyBeside_23 (by decide) ?_
      refine lv_goto (tgt := 28) hx hb dX6_manyBeside_24 (by decide) ?_
      exact Jv_3 _ (by rw [if_neg c_4])
  refine lv_iadd hx hb dX6_manyBeside_28 ?_
  exact W.iret hx hb hr (fun t ht hW => ⟨_, rfl, (by rw [ev_1, ev_3]; unfold sMany sL sR; rw [one_negW ok.gu, one_negW ok.gu]), ht⟩) (fun _ h => absurd h List.not_mem_nil) dX6_manyBeside_29

set_option maxRecDepth 100000 in
set_option maxHeartbeats 4000000 in
theorem k_X6_feels (l : Launch) (D : va_G) (cI cL cS : ClassId) (b : Nat → Nat) (co gu : Int32) (kn fo sp ki pl ea to qu : FI) (fd mo tr b1 tp : FI) (tm so bg te : Int32) (wd : Int64) (va gd : Int32) (bo sz : FI) (sh le : FJ) (im bf : FI) (ik : Int32) (x0 : Int32) (ok : okT gu kn fo sp (whC gu pl) ki pl) (h0 : vp_in x0 8) : Met l yX6_feels wsX6_feels { frames := 4, cells := 0, slots := 0, locals := 88 } (PcR D vwCl (tyG cI cL cS) [.ref (b 0), .int x0] (mdw cI cL b (enc co gu kn fo sp ki pl ea to qu) fd mo tr b1 tp tm so bg te wd va gd bo sz sh le im bf ik)) (vp_Si (fun r => r = sFeels gu kn fo sp ki pl (ix x0))) 0 0 (fun _ => False) := by
  refine Met.ofW (cc := cX6_feels) (maxL := 7) (ret := (some .int)) (by decide) rfl ?_
  intro p e s m args below meth c s₁ B hml hv
  obtain ⟨rfl, hP, hK⟩ := hv
  have hx := B.exec
  have hb := B.bytes
  have hr := B.returns
  have hts := atoms_spec (ws := wsX6_feels) B.pre
  have hown : s.vm.findClass RX6 = some m.cls := findClass_of_methodNamed B.named
  have hlocks := B.notSynchronized
  have hl := lv_entry ([.ref (b 0), .int x0]) (n := 7) (Nat.le_of_ble_eq_true rfl)
  rw [lg_entry_eq]
  generalize (lg_sl ([.ref (b 0), .int x0]) ++ List.replicate (7 - (lg_sl ([.ref (b 0), .int x0])).length) Slot.unset).toArray = ls at hl ⊢
  have hl : lv_has ls 7 [(0, .ref (b 0)), (1, .int x0)] := hl
  have hpl := ok.pl h0
  have hkf := ok.2.2.2.1 (ix (pl (ix x0))) (ix_lt (by decide) hpl)
  have hsum := sum0 hkf.1 hkf.2.1 hkf.2.2
  refine lv_aload_n hx hb dX6_feels_0 rfl (lv_at hl 0 rfl) ?_
  refine lv_aload_n hx hb dX6_feels_1 rfl (lv_at hl 0 rfl) ?_
  refine lv_iload_n hx hb dX6_feels_2 rfl (lv_at hl 1 rfl) ?_
  refine lv_iconst (v := 1) hx hb dX6_feels_3 (by decide) ?_
  refine callE (W.runV (As := [.int x0, .int 1]) (rest := [.ref (b 0)]) ⟨hx, hb, hml, hown, hts⟩ (k_X6_its1 l D cI cL cS b co gu kn fo sp ki pl ea to qu fd mo tr b1 tp tm so bg te wd va gd bo sz sh le im bf ik x0 (by assumption)) (cwV 2 hts gX6_feels_X6_its rfl rfl rfl (by decide +kernel) ⟨Nat.le_of_ble_eq_true rfl, Nat.le_of_ble_eq_true rfl⟩) ⟨PcR_fb, va_recv hK hP (ci := 4) (q0 := 0) rfl rfl, PcR_pre hP hK⟩ rfl rfl hl.1 rfl (lv_room (Nat.le_of_ble_eq_true rfl)) dX6_feels_4 ⟨Nat.zero_le _, Nat.zero_le _⟩) ?_
  refine lv_iconst (v := 0) hx hb dX6_feels_7 (by decide) ?_
  refine callE (W.runV (As := [.int (pl (ix x0)), .int 0]) (rest := []) ⟨hx, hb, hml, hown, hts⟩ (k_X6_laidAt0 l D cI cL cS b co gu kn fo sp ki pl ea to qu fd mo tr b1 tp tm so bg te wd va gd bo sz sh le im bf ik (pl (ix x0)) (by assumption)) (cwV 2 hts gX6_feels_X6_laidAt rfl rfl rfl (by decide +kernel) ⟨Nat.le_of_ble_eq_true rfl, Nat.le_of_ble_eq_true rfl⟩) ⟨PcR_fb, va_recv hK hP (ci := 4) (q0 := 0) rfl rfl, PcR_pre hP hK⟩ rfl rfl hl.1 rfl (lv_room (Nat.le_of_ble_eq_true rfl)) dX6_feels_8 ⟨Nat.zero_le _, Nat.zero_le _⟩) ?_
  refine lv_istore_n (lv' := [(2, .int (kn (ix (pl (ix x0))))), (0, .ref (b 0)), (1, .int x0)]) hx hb dX6_feels_11 rfl hl (by decide) rfl (fun ls hl => ?_)
  refine lv_aload_n hx hb dX6_feels_12 rfl (lv_at hl 1 rfl) ?_
  refine lv_aload_n hx hb dX6_feels_13 rfl (lv_at hl 1 rfl) ?_
  refine lv_iload_n hx hb dX6_feels_14 rfl (lv_at hl 2 rfl) ?_
  refine lv_iconst (v := 1) hx hb dX6_feels_15 (by decide) ?_
  refine callE (W.runV (As := [.int x0, .int 1]) (rest := [.ref (b 0)]) ⟨hx, hb, hml, hown, hts⟩ (k_X6_its1 l D cI cL cS b co gu kn fo sp ki pl ea to qu fd mo tr b1 tp tm so bg te wd va gd bo sz sh le im bf ik x0 (by assumption)) (cwV 2 hts gX6_feels_X6_its rfl rfl rfl (by decide +kernel) ⟨Nat.le_of_ble_eq_true rfl, Nat.le_of_ble_eq_true rfl⟩) ⟨PcR_fb, va_recv hK hP (ci := 4) (q0 := 0) rfl rfl, PcR_pre hP hK⟩ rfl rfl hl.1 rfl (lv_room (Nat.le_of_ble_eq_true rfl)) dX6_feels_16 ⟨Nat.zero_le _, Nat.zero_le _⟩) ?_
  refine lv_iconst (v := 1) hx hb dX6_feels_19 (by decide) ?_
  refine callE (W.runV (As := [.int (pl (ix x0)), .int 1]) (rest := []) ⟨hx, hb, hml, hown, hts⟩ (k_X6_laidAt1 l D cI cL cS b co gu kn fo sp ki pl ea to qu fd mo tr b1 tp tm so bg te wd va gd bo sz sh le im bf ik (pl (ix x0)) (by assumption)) (cwV 2 hts gX6_feels_X6_laidAt rfl rfl rfl (by decide +kernel) ⟨Nat.le_of_ble_eq_true rfl, Nat.le_of_ble_eq_true rfl⟩) ⟨PcR_fb, va_recv hK hP (ci := 4) (q0 := 0) rfl rfl, PcR_pre hP hK⟩ rfl rfl hl.1 rfl (lv_room (Nat.le_of_ble_eq_true rfl)) dX6_feels_20 ⟨Nat.zero_le _, Nat.zero_le _⟩) ?_
  refine lv_istore_n (lv' := [(3, .int (fo (ix (pl (ix x0))))), (2, .int (kn (ix (pl (ix x0))))), (0, .ref (b 0)), (1, .int x0)]) hx hb dX6_feels_23 rfl hl (by decide) rfl (fun ls hl => ?_)
  refine lv_aload_n hx hb dX6_feels_24 rfl (lv_at hl 2 rfl) ?_
  refine lv_aload_n hx hb dX6_feels_25 rfl (lv_at hl 2 rfl) ?_
  refine lv_iload_n hx hb dX6_feels_26 rfl (lv_at hl 3 rfl) ?_
  refine lv_iconst (v := 1) hx hb dX6_feels_27 (by decide) ?_
  refine callE (W.runV (As := [.int x0, .int 1]) (rest := [.ref (b 0)]) ⟨hx, hb, hml, hown, hts⟩ (k_X6_its1 l D cI cL cS b co gu kn fo sp ki pl ea to qu fd mo tr b1 tp tm so bg te wd va gd bo sz sh le im bf ik x0 (by assumption)) (cwV 2 hts gX6_feels_X6_its rfl rfl rfl (by decide +kernel) ⟨Nat.le_of_ble_eq_true rfl, Nat.le_of_ble_eq_true rfl⟩) ⟨PcR_fb, va_recv hK hP (ci := 4) (q0 := 0) rfl rfl, PcR_pre hP hK⟩ rfl rfl hl.1 rfl (lv_room (Nat.le_of_ble_eq_true rfl)) dX6_feels_28 ⟨Nat.zero_le _, Nat.zero_le _⟩) ?_
  refine lv_iconst (v := 2) hx hb dX6_feels_31 (by decide) ?_
  refine callE (W.runV (As := [.int (pl (ix x0)), .int 2]) (rest := []) ⟨hx, hb, hml, hown, hts⟩ (k_X6_laidAt2 l D cI cL cS b co gu kn fo sp ki pl ea to qu fd mo tr b1 tp tm so bg te wd va gd bo sz sh le im bf ik (pl (ix x0)) (by assumption)) (cwV 2 hts gX6_feels_X6_laidAt rfl rfl rfl (by decide +kernel) ⟨Nat.le_of_ble_eq_true rfl, Nat.le_of_ble_eq_true rfl⟩) ⟨PcR_fb, va_recv hK hP (ci := 4) (q0 := 0) rfl rfl, PcR_pre hP hK⟩ rfl rfl hl.1 rfl (lv_room (Nat.le_of_ble_eq_true rfl)) dX6_feels_32 ⟨Nat.zero_le _, Nat.zero_le _⟩) ?_
  refine lv_istore (lv' := [(4, .int (sp (ix (pl (ix x0))))), (3, .int (fo (ix (pl (ix x0))))), (2, .int (kn (ix (pl (ix x0))))), (0, .ref (b 0)), (1, .int x0)]) hx hb dX6_feels_35 hl (by decide) rfl (fun ls hl => ?_)
  refine lv_aload_n hx hb dX6_feels_37 rfl (lv_at hl 3 rfl) ?_
  refine lv_iload_n hx hb dX6_feels_38 rfl (lv_at hl 4 rfl) ?_
  refine callE (W.runV (As := [.int x0]) (rest := []) ⟨hx, hb, hml, hown, hts⟩ (k_X6_manyBeside l D cI cL cS b co gu kn fo sp ki pl ea to qu fd mo tr b1 tp tm so bg te wd va gd bo sz sh le im bf ik x0 ok (by assumption)) (cwV 1 hts gX6_feels_X6_manyBeside rfl rfl rfl (by decide +kernel) ⟨Nat.le_of_ble_eq_true rfl, Nat.le_of_ble_eq_true rfl⟩) ⟨PcR_fb, va_recv hK hP (ci := 4) (q0 := 0) rfl rfl, PcR_pre hP hK⟩ rfl rfl hl.1 rfl (lv_room (Nat.le_of_ble_eq_true rfl)) dX6_feels_39 ⟨Nat.zero_le _, Nat.zero_le _⟩) ?_
  refine lv_istore (lv' := [(5, .int (sMany gu pl (ix x0))), (4, .int (sp (ix (pl (ix x0))))), (3, .int (fo (ix (pl (ix x0))))), (2, .int (kn (ix (pl (ix x0))))), (0, .ref (b 0)), (1, .int x0)]) hx hb dX6_feels_42 hl (by decide) rfl (fun ls hl => ?_)
  refine lv_iload_n hx hb dX6_feels_44 rfl (lv_at hl 3 rfl) ?_
  refine jn (fun v_1 : Int32 => v_1 = (if (kn (ix (pl (ix x0)))) = 0 then 2 else (-3) : Int32)) (fun v_1 => F0 m 54 ls [.int v_1]) (fun Jv_1 => ?_) (fun v_1 ev_1 => ?_)
  · skip
    refine lv_if_ne (tgt := 52) hx hb dX6_feels_45 (by decide) (fun c_2 => ?_) (fun c_2 => ?_)
    · skip
      refine lv_bipush (v := (-3)) hx hb dX6_feels_52 (by decide) ?_
      exact Jv_1 _ (by rw [if_neg c_2])
    · skip
      refine lv_iconst (v := 2) hx hb dX6_feels_48 (by decide) ?_
      refine lv_goto (tgt := 54) hx hb dX6_feels_49 (by decide) ?_
      exact Jv_1 _ (by rw [if_pos c_2])
  refine lv_iload_n hx hb dX6_feels_54 rfl (lv_at hl 2 rfl) ?_
  refine lv_iconst (v := 1) hx hb dX6_feels_55 (by decide) ?_
  refine jn (fun v_3 : Int32 => v_3 = (if (fo (ix (pl (ix x0)))) = 1 then (-4) else 0 : Int32)) (fun v_3 => F0 m 65 ls [.int v_3, .int v_1]) (fun Jv_3 => ?_) (fun v_3 ev_3 => ?_)
  · skip
    refine lv_icmp_ne (tgt := 64) hx hb dX6_feels_56 (by decide) (fun c_4 => ?_) (fun c_4 => ?_)
    · skip
      refine lv_iconst (v := 0) hx hb dX6_feels_64 (by decide) ?_
      exact Jv_3 _ (by rw [if_neg c_4])
    · skip
      refine lv_bipush (v := (-4)) hx hb dX6_feels_59 (by decide) ?_
      refine lv_goto (tgt := 65) hx hb dX6_feels_61 (by decide) ?_
      exact Jv_3 _ (by rw [if_pos c_4])
  refine lv_iadd hx hb dX6_feels_65 ?_
  refine lv_istore (lv' := [(6, .int (v_1 + v_3)), (5, .int (sMany gu pl (ix x0))), (4, .int (sp (ix (pl (ix x0))))), (3, .int (fo (ix (pl (ix x0))))), (2, .int (kn (ix (pl (ix x0))))), (0, .ref (b 0)), (1, .int x0)]) hx hb dX6_feels_66 hl (by decide) rfl (fun ls hl => ?_)
  refine lv_aload_n hx hb dX6_feels_68 rfl (lv_at hl 5 rfl) ?_
  refine lv_iload_n hx hb dX6_feels_69 rfl (lv_at hl 6 rfl) ?_
  refine lv_iconst (v := 0) hx hb dX6_feels_70 (by decide) ?_
  refine callE (W.runV (As := [.int x0, .int 0]) (rest := []) ⟨hx, hb, hml, hown, hts⟩ (k_X6_its0 l D cI cL cS b co gu kn fo sp ki pl ea to qu fd mo tr b1 tp tm so bg te wd va gd bo sz sh le im bf ik x0 (by assumption)) (cwV 2 hts gX6_feels_X6_its rfl rfl rfl (by decide +kernel) ⟨Nat.le_of_ble_eq_true rfl, Nat.le_of_ble_eq_true rfl⟩) ⟨PcR_fb, va_recv hK hP (ci := 4) (q0 := 0) rfl rfl, PcR_pre hP hK⟩ rfl rfl hl.1 rfl (lv_room (Nat.le_of_ble_eq_true rfl)) dX6_feels_71 ⟨Nat.zero_le _, Nat.zero_le _⟩) ?_
  by_cases c_5 : (ki (ix x0)) = 1
  · refine lv_tableIn (tgt := 108) hx hb dX6_feels_74 (by rw [c_5]; decide) (by rw [c_5]; decide) (by rw [c_5]; rfl) (by decide) ?_
    refine lv_iload hx hb dX6_feels_108 (lv_at hl 0 rfl) ?_
    refine lv_iload hx hb dX6_feels_110 (lv_at hl 2 rfl) ?_
    refine lv_isub hx hb dX6_feels_112 ?_
    exact W.iret hx hb hr (fun t ht hW => ⟨_, rfl, (by unfold sFeels; first | (simp [sFeel, ev_1, ev_3, c_5]; done) | exact (feel3 (by assumption) (by assumption)).symm), ht⟩) (fun _ h => absurd h List.not_mem_nil) dX6_feels_113
  by_cases c_6 : (ki (ix x0)) = 2
  · refine lv_tableIn (tgt := 136) hx hb dX6_feels_74 (by rw [c_6]; decide) (by rw [c_6]; decide) (by rw [c_6]; rfl) (by decide) ?_
    refine lv_iload hx hb dX6_feels_136 (lv_at hl 0 rfl) ?_
    refine lv_iload hx hb dX6_feels_138 (lv_at hl 1 rfl) ?_
    refine lv_iadd hx hb dX6_feels_140 ?_
    exact W.iret hx hb hr (fun t ht hW => ⟨_, rfl, (by unfold sFeels; first | (simp [sFeel, ev_1, ev_3, c_6]; done) | exact (feel3 (by assumption) (by assumption)).symm), ht⟩) (fun _ h => absurd h List.not_mem_nil) dX6_feels_141
  by_cases c_7 : (ki (ix x0)) = 3
  · refine lv_tableIn (tgt := 158) hx hb dX6_feels_74 (by rw [c_7]; decide) (by rw [c_7]; decide) (by rw [c_7]; rfl) (by decide) ?_
    refine lv_iload_n hx hb dX6_feels_158 rfl (lv_at hl 4 rfl) ?_
    refine lv_iload_n hx hb dX6_feels_159 rfl (lv_at hl 3 rfl) ?_
    refine lv_iadd hx hb dX6_feels_160 ?_
    refine lv_iload hx hb dX6_feels_161 (lv_at hl 2 rfl) ?_
    refine lv_iadd hx hb dX6_feels_163 ?_
    refine lv_if_ne (tgt := 171) hx hb dX6_feels_164 (by decide) (fun c_8 => ?_) (fun c_8 => ?_)
    · skip
      have c_8 := mt hsum.mpr c_8
      refine lv_bipush (v := (-2)) hx hb dX6_feels_171 (by decide) ?_
      refine lv_iload hx hb dX6_feels_173 (lv_at hl 1 rfl) ?_
      refine lv_imul hx hb dX6_feels_175 ?_
      exact W.iret hx hb hr (fun t ht hW => ⟨_, rfl, (by unfold sFeels; first | (simp [sFeel, ev_1, ev_3, c_7, c_8]; done) | exact (feel3 (by assumption) (by assumption)).symm), ht⟩) (fun _ h => absurd h List.not_mem_nil) dX6_feels_176
    · skip
      have c_8 := hsum.mp c_8
      refine lv_iconst (v := 1) hx hb dX6_feels_167 (by decide) ?_
      refine lv_goto (tgt := 176) hx hb dX6_feels_168 (by decide) ?_
      exact W.iret hx hb hr (fun t ht hW => ⟨_, rfl, (by unfold sFeels; first | (simp [sFeel, ev_1, ev_3, c_7, c_8]; done) | exact (feel3 (by assumption) (by assumption)).symm), ht⟩) (fun _ h => absurd h List.not_mem_nil) dX6_feels_176
  by_cases c_9 : (ki (ix x0)) = 4
  · refine lv_tableIn (tgt := 114) hx hb dX6_feels_74 (by rw [c_9]; decide) (by rw [c_9]; decide) (by rw [c_9]; rfl) (by decide) ?_
    refine lv_iload hx hb dX6_feels_114 (lv_at hl 1 rfl) ?_
    refine lv_iconst (v := 2) hx hb dX6_feels_116 (by decide) ?_
    refine lv_icmp_ne (tgt := 130) hx hb dX6_feels_117 (by decide) (fun c_10 => ?_) (fun c_10 => ?_)
    · skip
      refine lv_iload hx hb dX6_feels_130 (lv_at hl 0 rfl) ?_
      refine lv_iload hx hb dX6_feels_132 (lv_at hl 2 rfl) ?_
      refine lv_isub hx hb dX6_feels_134 ?_
      exact W.iret hx hb hr (fun t ht hW => ⟨_, rfl, (by unfold sFeels; first | (simp [sFeel, ev_1, ev_3, c_9, c_10]; done) | exact (feel3 (by assumption) (by assumption)).symm), ht⟩) (fun _ h => absurd h List.not_mem_nil) dX6_feels_135
    · skip
      refine lv_iconst (v := 2) hx hb dX6_feels_120 (by decide) ?_
      refine lv_iload hx hb dX6_feels_121 (lv_at hl 0 rfl) ?_
      refine lv_iload hx hb dX6_feels_123 (lv_at hl 2 rfl) ?_
      refine lv_isub hx hb dX6_feels_125 ?_
      refine lv_imul hx hb dX6_feels_126 ?_
      refine lv_goto (tgt := 135) hx hb dX6_feels_127 (by decide) ?_
      exact W.iret hx hb hr (fun t ht hW => ⟨_, rfl, (by unfold sFeels; first | (simp [sFeel, ev_1, ev_3, c_9, c_10]; done) | exact (feel3 (by assumption) (by assumption)).symm), ht⟩) (fun _ h => absurd h List.not_mem_nil) dX6_feels_135
  by_cases c_11 : (ki (ix x0)) = 5
  · refine lv_tableIn (tgt := 142) hx hb dX6_feels_74 (by rw [c_11]; decide) (by rw [c_11]; decide) (by rw [c_11]; rfl) (by decide) ?_
    refine lv_iload_n hx hb dX6_feels_142 rfl (lv_at hl 3 rfl) ?_
    refine lv_iconst (v := 1) hx hb dX6_feels_143 (by decide) ?_
    refine lv_icmp_ne (tgt := 152) hx hb dX6_feels_144 (by decide) (fun c_12 => ?_) (fun c_12 => ?_)
    · skip
      refine lv_iload hx hb dX6_feels_152 (lv_at hl 0 rfl) ?_
      refine lv_iload hx hb dX6_feels_154 (lv_at hl 1 rfl) ?_
      refine lv_iadd hx hb dX6_feels_156 ?_
      exact W.iret hx hb hr (fun t ht hW => ⟨_, rfl, (by unfold sFeels; first | (simp [sFeel, ev_1, ev_3, c_11, c_12]; done) | exact (feel3 (by assumption) (by assumption)).symm), ht⟩) (fun _ h => absurd h List.not_mem_nil) dX6_feels_157
    · skip
      refine lv_bipush (v := (-9)) hx hb dX6_feels_147 (by decide) ?_
      refine lv_goto (tgt := 157) hx hb dX6_feels_149 (by decide) ?_
      exact W.iret hx hb hr (fun t ht hW => ⟨_, rfl, (by unfold sFeels; first | (simp [sFeel, ev_1, ev_3, c_11, c_12]; done) | exact (feel3 (by assumption) (by assumption)).symm), ht⟩) (fun _ h => absurd h List.not_mem_nil) dX6_feels_157
  refine lv_tableOut (tgt := 177) hx hb dX6_feels_74 (by have := lv_neT c_5 (a := 1) rfl; have := lv_neT c_6 (a := 2) rfl; have := lv_neT c_7 (a := 3) rfl; have := lv_neT c_9 (a := 4) rfl; have := lv_neT c_11 (a := 5) rfl; omega) (by decide) ?_
  refine lv_iload hx hb dX6_feels_177 (lv_at hl 0 rfl) ?_
  exact W.iret hx hb hr (fun t ht hW => ⟨_, rfl, (by unfold sFeels; first | (simp [sFeel, ev_1, ev_3, c_5, c_6, c_7, c_9, c_11]; done) | exact (feel3 (by assumption) (by assumption)).symm), ht⟩) (fun _ h => absurd h List.not_mem_nil) dX6_feels_179

set_option maxRecDepth 100000 in
set_option maxHeartbeats 4000000 in
theorem k_X6_catchesOf (l : Launch) (D : va_G) (cI cL cS : ClassId) (b : Nat → Nat) (co gu : Int32) (kn fo sp ki pl ea to qu : FI) (fd mo tr b1 tp : FI) (tm so bg te : Int32) (wd : Int64) (va gd : Int32) (bo sz : FI) (sh le : FJ) (im bf : FI) (ik : Int32) (x0 : Int32) (x1 : Int32) (h1 : vp_in x1 10) : Met l yX6_catchesOf wsX6_catchesOf { frames := 1, cells := 0, slots := 0, locals := 22 } (PcR D vwCl (tyG cI cL cS) [.ref (b 0), .int x0, .int x1] (mdw cI cL b (enc co gu kn fo sp ki pl ea to qu) fd mo tr b1 tp tm so bg te wd va gd bo sz sh le im bf ik)) (vp_Si (fun r => r = sCat x0 (kn (ix x1)) (fo (ix x1)))) 0 0 (fun _ => False) := by
  refine Met.ofW (cc := cX6_catchesOf) (maxL := 5) (ret := (some .int)) (by decide) rfl ?_
  intro p e s m args below meth c s₁ B hml hv
  obtain ⟨rfl, hP, hK⟩ := hv
  have hx := B.exec
  have hb := B.bytes
  have hr := B.returns
  have hts := atoms_spec (ws := wsX6_catchesOf) B.pre
  have hown : s.vm.findClass RX6 = some m.cls := findClass_of_methodNamed B.named
  have hlocks := B.notSynchronized
  have hl := lv_entry ([.ref (b 0), .int x0, .int x1]) (n := 5) (Nat.le_of_ble_eq_true rfl)
  rw [lg_entry_eq]
  generalize (lg_sl ([.ref (b 0), .int x0, .int x1]) ++ List.replicate (5 - (lg_sl ([.ref (b 0), .int x0, .int x1])).length) Slot.unset).toArray = ls at hl ⊢
  have hl : lv_has ls 5 [(0, .ref (b 0)), (1, .int x0), (2, .int x1)] := hl
  refine lv_aload_n hx hb dX6_catchesOf_0 rfl (lv_at hl 0 rfl) ?_
  refine lv_iload_n hx hb dX6_catchesOf_1 rfl (lv_at hl 2 rfl) ?_
  refine lv_iconst (v := 0) hx hb dX6_catchesOf_2 (by decide) ?_
  refine callE (W.runV (As := [.int x1, .int 0]) (rest := []) ⟨hx, hb, hml, hown, hts⟩ (k_X6_laidAt0 l D cI cL cS b co gu kn fo sp ki pl ea to qu fd mo tr b1 tp tm so bg te wd va gd bo sz sh le im bf ik x1 (by assumption)) (cwV 2 hts gX6_catchesOf_X6_laidAt rfl rfl rfl (by decide +kernel) ⟨Nat.le_of_ble_eq_true rfl, Nat.le_of_ble_eq_true rfl⟩) ⟨PcR_fb, va_recv hK hP (ci := 4) (q0 := 0) rfl rfl, PcR_pre hP hK⟩ rfl rfl hl.1 rfl (lv_room (Nat.le_of_ble_eq_true rfl)) dX6_catchesOf_3 ⟨Nat.zero_le _, Nat.zero_le _⟩) ?_
  refine lv_iconst (v := 1) hx hb dX6_catchesOf_6 (by decide) ?_
  refine jn (fun v_1 : Int32 => v_1 = (if (kn (ix x1)) = 1 then (-1) else 0 : Int32)) (fun v_1 => F0 m 15 ls [.int v_1]) (fun Jv_1 => ?_) (fun v_1 ev_1 => ?_)
  · skip
    refine lv_icmp_ne (tgt := 14) hx hb dX6_catchesOf_7 (by decide) (fun c_2 => ?_) (fun c_2 => ?_)
    · skip
      refine lv_iconst (v := 0) hx hb dX6_catchesOf_14 (by decide) ?_
      exact Jv_1 _ (by rw [if_neg c_2])
    · skip
      refine lv_iconst (v := (-1)) hx hb dX6_catchesOf_10 (by decide) ?_
      refine lv_goto (tgt := 15) hx hb dX6_catchesOf_11 (by decide) ?_
      exact Jv_1 _ (by rw [if_pos c_2])
  refine lv_istore_n (lv' := [(3, .int v_1), (0, .ref (b 0)), (1, .int x0), (2, .int x1)]) hx hb dX6_catchesOf_15 rfl hl (by decide) rfl (fun ls hl => ?_)
  refine lv_aload_n hx hb dX6_catchesOf_16 rfl (lv_at hl 1 rfl) ?_
  refine lv_iload_n hx hb dX6_catchesOf_17 rfl (lv_at hl 3 rfl) ?_
  refine lv_iconst (v := 1) hx hb dX6_catchesOf_18 (by decide) ?_
  refine callE (W.runV (As := [.int x1, .int 1]) (rest := []) ⟨hx, hb, hml, hown, hts⟩ (k_X6_laidAt1 l D cI cL cS b co gu kn fo sp ki pl ea to qu fd mo tr b1 tp tm so bg te wd va gd bo sz sh le im bf ik x1 (by assumption)) (cwV 2 hts gX6_catchesOf_X6_laidAt rfl rfl rfl (by decide +kernel) ⟨Nat.le_of_ble_eq_true rfl, Nat.le_of_ble_eq_true rfl⟩) ⟨PcR_fb, va_recv hK hP (ci := 4) (q0 := 0) rfl rfl, PcR_pre hP hK⟩ rfl rfl hl.1 rfl (lv_room (Nat.le_of_ble_eq_true rfl)) dX6_catchesOf_19 ⟨Nat.zero_le _, Nat.zero_le _⟩) ?_
  refine jn (fun v_3 : Int32 => v_3 = (if (fo (ix x1)) = 0 then (v_1 + 1) else v_1 : Int32)) (fun v_3 => F0 m 32 ls [.int v_3]) (fun Jv_3 => ?_) (fun v_3 ev_3 => ?_)
  · skip
    refine lv_if_ne (tgt := 31) hx hb dX6_catchesOf_22 (by decide) (fun c_4 => ?_) (fun c_4 => ?_)
    · skip
      refine lv_iload_n hx hb dX6_catchesOf_31 rfl (lv_at hl 0 rfl) ?_
      exact Jv_3 _ (by rw [if_neg c_4])
    · skip
      refine lv_iload_n hx hb dX6_catchesOf_25 rfl (lv_at hl 0 rfl) ?_
      refine lv_iconst (v := 1) hx hb dX6_catchesOf_26 (by decide) ?_
      refine lv_iadd hx hb dX6_catchesOf_27 ?_
      refine lv_goto (tgt := 32) hx hb dX6_catchesOf_28 (by decide) ?_
      exact Jv_3 _ (by rw [if_pos c_4])
  refine lv_istore (lv' := [(4, .int v_3), (3, .int v_1), (0, .ref (b 0)), (1, .int x0), (2, .int x1)]) hx hb dX6_catchesOf_32 hl (by decide) rfl (fun ls hl => ?_)
  refine lv_iload_n hx hb dX6_catchesOf_34 rfl (lv_at hl 3 rfl) ?_
  by_cases c_5 : x0 = 1
  · refine lv_tableIn (tgt := 68) hx hb dX6_catchesOf_35 (by rw [c_5]; decide) (by rw [c_5]; decide) (by rw [c_5]; rfl) (by decide) ?_
    refine lv_iconst (v := 0) hx hb dX6_catchesOf_68 (by decide) ?_
    exact W.iret hx hb hr (fun t ht hW => ⟨_, rfl, (by simp [sCat, ev_1, ev_3, c_5]; try (split <;> split <;> rfl)), ht⟩) (fun _ h => absurd h List.not_mem_nil) dX6_catchesOf_69
  by_cases c_6 : x0 = 2
  · refine lv_tableIn (tgt := 70) hx hb dX6_catchesOf_35 (by rw [c_6]; decide) (by rw [c_6]; decide) (by rw [c_6]; rfl) (by decide) ?_
    refine lv_iload hx hb dX6_catchesOf_70 (lv_at hl 0 rfl) ?_
    exact W.iret hx hb hr (fun t ht hW => ⟨_, rfl, (by simp [sCat, ev_1, ev_3, c_6]; try (split <;> split <;> rfl)), ht⟩) (fun _ h => absurd h List.not_mem_nil) dX6_catchesOf_72
  by_cases c_7 : x0 = 3
  · refine lv_tableIn (tgt := 78) hx hb dX6_catchesOf_35 (by rw [c_7]; decide) (by rw [c_7]; decide) (by rw [c_7]; rfl) (by decide) ?_
    refine lv_aload_n hx hb dX6_catchesOf_78 rfl (lv_at hl 2 rfl) ?_
    refine lv_iload_n hx hb dX6_catchesOf_79 rfl (lv_at hl 4 rfl) ?_
    refine lv_iconst (v := 1) hx hb dX6_catchesOf_80 (by decide) ?_
    refine callE (W.runV (As := [.int x1, .int 1]) (rest := []) ⟨hx, hb, hml, hown, hts⟩ (k_X6_laidAt1 l D cI cL cS b co gu kn fo sp ki pl ea to qu fd mo tr b1 tp tm so bg te wd va gd bo sz sh le im bf ik x1 (by assumption)) (cwV 2 hts gX6_catchesOf_X6_laidAt rfl rfl rfl (by decide +kernel) ⟨Nat.le_of_ble_eq_true rfl, Nat.le_of_ble_eq_true rfl⟩) ⟨PcR_fb, va_recv hK hP (ci := 4) (q0 := 0) rfl rfl, PcR_pre hP hK⟩ rfl rfl hl.1 rfl (lv_room (Nat.le_of_ble_eq_true rfl)) dX6_catchesOf_81 ⟨Nat.zero_le _, Nat.zero_le _⟩) ?_
    refine lv_iconst (v := 1) hx hb dX6_catchesOf_84 (by decide) ?_
    refine lv_icmp_ne (tgt := 93) hx hb dX6_catchesOf_85 (by decide) (fun c_8 => ?_) (fun c_8 => ?_)
    · skip
      refine lv_iconst (v := 0) hx hb dX6_catchesOf_93 (by decide) ?_
      exact W.iret hx hb hr (fun t ht hW => ⟨_, rfl, (by simp [sCat, ev_1, ev_3, c_7, c_8]; try (split <;> split <;> rfl)), ht⟩) (fun _ h => absurd h List.not_mem_nil) dX6_catchesOf_94
    · skip
      refine lv_bipush (v := (-3)) hx hb dX6_catchesOf_88 (by decide) ?_
      refine lv_goto (tgt := 94) hx hb dX6_catchesOf_90 (by decide) ?_
      exact W.iret hx hb hr (fun t ht hW => ⟨_, rfl, (by simp [sCat, ev_1, ev_3, c_7, c_8]; try (split <;> split <;> rfl)), ht⟩) (fun _ h => absurd h List.not_mem_nil) dX6_catchesOf_94
  by_cases c_9 : x0 = 4
  · refine lv_tableIn (tgt := 68) hx hb dX6_catchesOf_35 (by rw [c_9]; decide) (by rw [c_9]; decide) (by rw [c_9]; rfl) (by decide) ?_
    refine lv_iconst (v := 0) hx hb dX6_catchesOf_68 (by decide) ?_
    exact W.iret hx hb hr (fun t ht hW => ⟨_, rfl, (by simp [sCat, ev_1, ev_3, c_9]; try (split <;> split <;> rfl)), ht⟩) (fun _ h => absurd h List.not_mem_nil) dX6_catchesOf_69
  by_cases c_10 : x0 = 5
  · refine lv_tableIn (tgt := 73) hx hb dX6_catchesOf_35 (by rw [c_10]; decide) (by rw [c_10]; decide) (by rw [c_10]; rfl) (by decide) ?_
    refine lv_iconst (v := 2) hx hb dX6_catchesOf_73 (by decide) ?_
    refine lv_iload hx hb dX6_catchesOf_74 (lv_at hl 0 rfl) ?_
    refine lv_imul hx hb dX6_catchesOf_76 ?_
    exact W.iret hx hb hr (fun t ht hW => ⟨_, rfl, (by simp [sCat, ev_1, ev_3, c_10]; try (split <;> split <;> rfl)), ht⟩) (fun _ h => absurd h List.not_mem_nil) dX6_catchesOf_77
  refine lv_tableOut (tgt := 95) hx hb dX6_catchesOf_35 (by have := lv_neT c_5 (a := 1) rfl; have := lv_neT c_6 (a := 2) rfl; have := lv_neT c_7 (a := 3) rfl; have := lv_neT c_9 (a := 4) rfl; have := lv_neT c_10 (a := 5) rfl; omega) (by decide) ?_
  refine lv_iload_n hx hb dX6_catchesOf_95 rfl (lv_at hl 1 rfl) ?_
  exact W.iret hx hb hr (fun t ht hW => ⟨_, rfl, (by simp [sCat, ev_1, ev_3, c_5, c_6, c_7, c_9, c_10]; try (split <;> split <;> rfl)), ht⟩) (fun _ h => absurd h List.not_mem_nil) dX6_catchesOf_96

set_option maxRecDepth 100000 in
set_option maxHeartbeats 4000000 in
theorem k_X6_catches (l : Launch) (D : va_G) (cI cL cS : ClassId) (b : Nat → Nat) (co gu : Int32) (kn fo sp ki pl ea to qu : FI) (fd mo tr b1 tp : FI) (tm so bg te : Int32) (wd : Int64) (va gd : Int32) (bo sz : FI) (sh le : FJ) (im bf : FI) (ik : Int32) (x0 : Int32) (ok : okT gu kn fo sp (whC gu pl) ki pl) (h0 : vp_in x0 8) : Met l yX6_catches wsX6_catches { frames := 3, cells := 0, slots := 0, locals := 67 } (PcR D vwCl (tyG cI cL cS) [.ref (b 0), .int x0] (mdw cI cL b (enc co gu kn fo sp ki pl ea to qu) fd mo tr b1 tp tm so bg te wd va gd bo sz sh le im bf ik)) (vp_Si (fun r => r = sCatch gu kn fo ki pl (ix x0))) 0 0 (fun _ => False) := by
  refine Met.ofW (cc := cX6_catches) (maxL := 5) (ret := (some .int)) (by decide) rfl ?_
  intro p e s m args below meth c s₁ B hml hv
  obtain ⟨rfl, hP, hK⟩ := hv
  have hx := B.exec
  have hb := B.bytes
  have hr := B.returns
  have hts := atoms_spec (ws := wsX6_catches) B.pre
  have hown : s.vm.findClass RX6 = some m.cls := findClass_of_methodNamed B.named
  have hlocks := B.notSynchronized
  have hl := lv_entry ([.ref (b 0), .int x0]) (n := 5) (Nat.le_of_ble_eq_true rfl)
  rw [lg_entry_eq]
  generalize (lg_sl ([.ref (b 0), .int x0]) ++ List.replicate (5 - (lg_sl ([.ref (b 0), .int x0])).length) Slot.unset).toArray = ls at hl ⊢
  have hl : lv_has ls 5 [(0, .ref (b 0)), (1, .int x0)] := hl
  have hL : 0 ≤ sL gu pl (ix x0) → vp_in (sL gu pl (ix x0)) 8 := who_in ok.gu
  have hR : 0 ≤ sR gu pl (ix x0) → vp_in (sR gu pl (ix x0)) 8 := who_in ok.gu
  refine lv_aload_n hx hb dX6_catches_0 rfl (lv_at hl 0 rfl) ?_
  refine lv_iload_n hx hb dX6_catches_1 rfl (lv_at hl 1 rfl) ?_
  refine lv_iconst (v := (-1)) hx hb dX6_catches_2 (by decide) ?_
  refine callE (W.runV (As := [.int x0, .int (-1)]) (rest := []) ⟨hx, hb, hml, hown, hts⟩ (k_X6_besideL l D cI cL cS b co gu kn fo sp ki pl ea to qu fd mo tr b1 tp tm so bg te wd va gd bo sz sh le im bf ik x0 ok (by assumption)) (cwV 2 hts gX6_catches_X6_beside rfl rfl rfl (by decide +kernel) ⟨Nat.le_of_ble_eq_true rfl, Nat.le_of_ble_eq_true rfl⟩) ⟨PcR_fb, va_recv hK hP (ci := 4) (q0 := 0) rfl rfl, PcR_pre hP hK⟩ rfl rfl hl.1 rfl (lv_room (Nat.le_of_ble_eq_true rfl)) dX6_catches_3 ⟨Nat.zero_le _, Nat.zero_le _⟩) ?_
  refine lv_istore_n (lv' := [(2, .int (sL gu pl (ix x0))), (0, .ref (b 0)), (1, .int x0)]) hx hb dX6_catches_6 rfl hl (by decide) rfl (fun ls hl => ?_)
  refine lv_aload_n hx hb dX6_catches_7 rfl (lv_at hl 1 rfl) ?_
  refine lv_iload_n hx hb dX6_catches_8 rfl (lv_at hl 2 rfl) ?_
  refine lv_iconst (v := 1) hx hb dX6_catches_9 (by decide) ?_
  refine callE (W.runV (As := [.int x0, .int 1]) (rest := []) ⟨hx, hb, hml, hown, hts⟩ (k_X6_besideR l D cI cL cS b co gu kn fo sp ki pl ea to qu fd mo tr b1 tp tm so bg te wd va gd bo sz sh le im bf ik x0 ok (by assumption)) (cwV 2 hts gX6_catches_X6_beside rfl rfl rfl (by decide +kernel) ⟨Nat.le_of_ble_eq_true rfl, Nat.le_of_ble_eq_true rfl⟩) ⟨PcR_fb, va_recv hK hP (ci := 4) (q0 := 0) rfl rfl, PcR_pre hP hK⟩ rfl rfl hl.1 rfl (lv_room (Nat.le_of_ble_eq_true rfl)) dX6_catches_10 ⟨Nat.zero_le _, Nat.zero_le _⟩) ?_
  refine lv_istore_n (lv' := [(3, .int (sR gu pl (ix x0))), (2, .int (sL gu pl (ix x0))), (0, .ref (b 0)), (1, .int x0)]) hx hb dX6_catches_13 rfl hl (by decide) rfl (fun ls hl => ?_)
  refine lv_aload_n hx hb dX6_catches_14 rfl (lv_at hl 2 rfl) ?_
  refine lv_iload_n hx hb dX6_catches_15 rfl (lv_at hl 3 rfl) ?_
  refine lv_iconst (v := 0) hx hb dX6_catches_16 (by decide) ?_
  refine callE (W.runV (As := [.int x0, .int 0]) (rest := []) ⟨hx, hb, hml, hown, hts⟩ (k_X6_its0 l D cI cL cS b co gu kn fo sp ki pl ea to qu fd mo tr b1 tp tm so bg te wd va gd bo sz sh le im bf ik x0 (by assumption)) (cwV 2 hts gX6_catches_X6_its rfl rfl rfl (by decide +kernel) ⟨Nat.le_of_ble_eq_true rfl, Nat.le_of_ble_eq_true rfl⟩) ⟨PcR_fb, va_recv hK hP (ci := 4) (q0 := 0) rfl rfl, PcR_pre hP hK⟩ rfl rfl hl.1 rfl (lv_room (Nat.le_of_ble_eq_true rfl)) dX6_catches_17 ⟨Nat.zero_le _, Nat.zero_le _⟩) ?_
  refine lv_istore (lv' := [(4, .int (ki (ix x0))), (3, .int (sR gu pl (ix x0))), (2, .int (sL gu pl (ix x0))), (0, .ref (b 0)), (1, .int x0)]) hx hb dX6_catches_20 hl (by decide) rfl (fun ls hl => ?_)
  refine lv_iload_n hx hb dX6_catches_22 rfl (lv_at hl 2 rfl) ?_
  refine jn (fun v_1 : Int32 => v_1 = (if 0 ≤ (sL gu pl (ix x0)) then (sCat (ki (ix x0)) (kn (ix (pl (ix (sL gu pl (ix x0)))))) (fo (ix (pl (ix (sL gu pl (ix x0))))))) else 0 : Int32)) (fun v_1 => F0 m 42 ls [.int v_1]) (fun Jv_1 => ?_) (fun v_1 ev_1 => ?_)
  · skip
    refine lv_if_ge (tgt := 30) hx hb dX6_catches_23 (by decide) (fun c_2 => ?_) (fun c_2 => ?_)
    · skip
      refine lv_aload_n hx hb dX6_catches_30 rfl (lv_at hl 3 rfl) ?_
      refine lv_iload hx hb dX6_catches_31 (lv_at hl 0 rfl) ?_
      refine lv_aload_n hx hb dX6_catches_33 rfl (lv_at hl 3 rfl) ?_
      refine lv_iload_n hx hb dX6_catches_34 rfl (lv_at hl 2 rfl) ?_
      refine lv_iconst (v := 1) hx hb dX6_catches_35 (by decide) ?_
      refine callE (W.runV (As := [.int (sL gu pl (ix x0)), .int 1]) (rest := [.int (ki (ix x0)), .ref (b 0)]) ⟨hx, hb, hml, hown, hts⟩ (k_X6_its1 l D cI cL cS b co gu kn fo sp ki pl ea to qu fd mo tr b1 tp tm so bg te wd va gd bo sz sh le im bf ik (sL gu pl (ix x0)) (hL c_2)) (cwV 2 hts gX6_catches_X6_its rfl rfl rfl (by decide +kernel) ⟨Nat.le_of_ble_eq_true rfl, Nat.le_of_ble_eq_true rfl⟩) ⟨PcR_fb, va_recv hK hP (ci := 4) (q0 := 0) rfl rfl, PcR_pre hP hK⟩ rfl rfl hl.1 rfl (lv_room (Nat.le_of_ble_eq_true rfl)) dX6_catches_36 ⟨Nat.zero_le _, Nat.zero_le _⟩) ?_
      refine callE (W.runV (As := [.int (ki (ix x0)), .int (pl (ix (sL gu pl (ix x0))))]) (rest := []) ⟨hx, hb, hml, hown, hts⟩ (k_X6_catchesOf l D cI cL cS b co gu kn fo sp ki pl ea to qu fd mo tr b1 tp tm so bg te wd va gd bo sz sh le im bf ik (ki (ix x0)) (pl (ix (sL gu pl (ix x0)))) (ok.pl (hL c_2))) (cwV 2 hts gX6_catches_X6_catchesOf rfl rfl rfl (by decide +kernel) ⟨Nat.le_of_ble_eq_true rfl, Nat.le_of_ble_eq_true rfl⟩) ⟨PcR_fb, va_recv hK hP (ci := 4) (q0 := 0) rfl rfl, PcR_pre hP hK⟩ rfl rfl hl.1 rfl (lv_room (Nat.le_of_ble_eq_true rfl)) dX6_catches_39 ⟨Nat.zero_le _, Nat.zero_le _⟩) ?_
      exact Jv_1 _ (by rw [if_pos c_2])
    · skip
      refine lv_iconst (v := 0) hx hb dX6_catches_26 (by decide) ?_
      refine lv_goto (tgt := 42) hx hb dX6_catches_27 (by decide) ?_
      exact Jv_1 _ (by rw [if_neg c_2])
  refine lv_iload_n hx hb dX6_catches_42 rfl (lv_at hl 1 rfl) ?_
  refine jn (fun v_3 : Int32 => v_3 = (if 0 ≤ (sR gu pl (ix x0)) then (sCat (ki (ix x0)) (kn (ix (pl (ix (sR gu pl (ix x0)))))) (fo (ix (pl (ix (sR gu pl (ix x0))))))) else 0 : Int32)) (fun v_3 => F0 m 62 ls [.int v_3, .int v_1]) (fun Jv_3 => ?_) (fun v_3 ev_3 => ?_)
  · skip
    refine lv_if_ge (tgt := 50) hx hb dX6_catches_43 (by decide) (fun c_4 => ?_) (fun c_4 => ?_)
    · skip
      refine lv_aload_n hx hb dX6_catches_50 rfl (lv_at hl 3 rfl) ?_
      refine lv_iload hx hb dX6_catches_51 (lv_at hl 0 rfl) ?_
      refine lv_aload_n hx hb dX6_catches_53 rfl (lv_at hl 3 rfl) ?_
      refine lv_iload_n hx hb dX6_catches_54 rfl (lv_at hl 1 rfl) ?_
      refine lv_iconst (v := 1) hx hb dX6_catches_55 (by decide) ?_
      refine callE (W.runV (As := [.int (sR gu pl (ix x0)), .int 1]) (rest := [.int (ki (ix x0)), .ref (b 0), .int v_1]) ⟨hx, hb, hml, hown, hts⟩ (k_X6_its1 l D cI cL cS b co gu kn fo sp ki pl ea to qu fd mo tr b1 tp tm so bg te wd va gd bo sz sh le im bf ik (sR gu pl (ix x0)) (hR c_4)) (cwV 2 hts gX6_catches_X6_its rfl rfl rfl (by decide +kernel) ⟨Nat.le_of_ble_eq_true rfl, Nat.le_of_ble_eq_true rfl⟩) ⟨PcR_fb, va_recv hK hP (ci := 4) (q0 := 0) rfl rfl, PcR_pre hP hK⟩ rfl rfl hl.1 rfl (lv_room (Nat.le_of_ble_eq_true rfl)) dX6_catches_56 ⟨Nat.zero_le _, Nat.zero_le _⟩) ?_
      refine callE (W.runV (As := [.int (ki (ix x0)), .int (pl (ix (sR gu pl (ix x0))))]) (rest := [.int v_1]) ⟨hx, hb, hml, hown, hts⟩ (k_X6_catchesOf l D cI cL cS b co gu kn fo sp ki pl ea to qu fd mo tr b1 tp tm so bg te wd va gd bo sz sh le im bf ik (ki (ix x0)) (pl (ix (sR gu pl (ix x0)))) (ok.pl (hR c_4))) (cwV 2 hts gX6_catches_X6_catchesOf rfl rfl rfl (by decide +kernel) ⟨Nat.le_of_ble_eq_true rfl, Nat.le_of_ble_eq_true rfl⟩) ⟨PcR_fb, va_recv hK hP (ci := 4) (q0 := 0) rfl rfl, PcR_pre hP hK⟩ rfl rfl hl.1 rfl (lv_room (Nat.le_of_ble_eq_true rfl)) dX6_catches_59 ⟨Nat.zero_le _, Nat.zero_le _⟩) ?_
      exact Jv_3 _ (by rw [if_pos c_4])
    · skip
      refine lv_iconst (v := 0) hx hb dX6_catches_46 (by decide) ?_
      refine lv_goto (tgt := 62) hx hb dX6_catches_47 (by decide) ?_
      exact Jv_3 _ (by rw [if_neg c_4])
  refine lv_iadd hx hb dX6_catches_62 ?_
  exact W.iret hx hb hr (fun t ht hW => ⟨_, rfl, (by rw [ev_1, ev_3]; unfold sCatch sCau sL sR; rw [side_eq ok.gu, side_eq ok.gu]), ht⟩) (fun _ h => absurd h List.not_mem_nil) dX6_catches_63

set_option maxRecDepth 100000 in
set_option maxHeartbeats 4000000 in
theorem k_X6_isTelling (l : Launch) (D : va_G) (cI cL cS : ClassId) (b : Nat → Nat) (co gu : Int32) (kn fo sp ki pl ea to qu : FI) (fd mo tr b1 tp : FI) (tm so bg te : Int32) (wd : Int64) (va gd : Int32) (bo sz : FI) (sh le : FJ) (im bf : FI) (ik : Int32) (x0 : Int32) (ok : okT gu kn fo sp (whC gu pl) ki pl) (h0 : vp_in x0 8) : Met l yX6_isTelling wsX6_isTelling { frames := 1, cells := 0, slots := 0, locals := 22 } (PcR D vwCl (tyG cI cL cS) [.ref (b 0), .int x0] (mdw cI cL b (enc co gu kn fo sp ki pl ea to qu) fd mo tr b1 tp tm so bg te wd va gd bo sz sh le im bf ik)) (vp_Si (fun r => r = bI (sTells sp ki pl ea (ix x0)))) 0 0 (fun _ => False) := by
  refine Met.ofW (cc := cX6_isTelling) (maxL := 3) (ret := (some .boolean)) (by decide) rfl ?_
  intro p e s m args below meth c s₁ B hml hv
  obtain ⟨rfl, hP, hK⟩ := hv
  have hx := B.exec
  have hb := B.bytes
  have hr := B.returns
  have hts := atoms_spec (ws := wsX6_isTelling) B.pre
  have hown : s.vm.findClass RX6 = some m.cls := findClass_of_methodNamed B.named
  have hlocks := B.notSynchronized
  have hl := lv_entry ([.ref (b 0), .int x0]) (n := 3) (Nat.le_of_ble_eq_true rfl)
  rw [lg_entry_eq]
  generalize (lg_sl ([.ref (b 0), .int x0]) ++ List.replicate (3 - (lg_sl ([.ref (b 0), .int x0])).length) Slot.unset).toArray = ls at hl ⊢
  have hl : lv_has ls 3 [(0, .ref (b 0)), (1, .int x0)] := hl
  have hpl := ok.pl h0
  refine lv_aload_n hx hb dX6_isTelling_0 rfl (lv_at hl 0 rfl) ?_
  refine lv_aload_n hx hb dX6_isTelling_1 rfl (lv_at hl 0 rfl) ?_
  refine lv_iload_n hx hb dX6_isTelling_2 rfl (lv_at hl 1 rfl) ?_
  refine lv_iconst (v := 1) hx hb dX6_isTelling_3 (by decide) ?_
  refine callE (W.runV (As := [.int x0, .int 1]) (rest := [.ref (b 0)]) ⟨hx, hb, hml, hown, hts⟩ (k_X6_its1 l D cI cL cS b co gu kn fo sp ki pl ea to qu fd mo tr b1 tp tm so bg te wd va gd bo sz sh le im bf ik x0 (by assumption)) (cwV 2 hts gX6_isTelling_X6_its rfl rfl rfl (by decide +kernel) ⟨Nat.le_of_ble_eq_true rfl, Nat.le_of_ble_eq_true rfl⟩) ⟨PcR_fb, va_recv hK hP (ci := 4) (q0 := 0) rfl rfl, PcR_pre hP hK⟩ rfl rfl hl.1 rfl (lv_room (Nat.le_of_ble_eq_true rfl)) dX6_isTelling_4 ⟨Nat.zero_le _, Nat.zero_le _⟩) ?_
  refine lv_iconst (v := 2) hx hb dX6_isTelling_7 (by decide) ?_
  refine callE (W.runV (As := [.int (pl (ix x0)), .int 2]) (rest := []) ⟨hx, hb, hml, hown, hts⟩ (k_X6_laidAt2 l D cI cL cS b co gu kn fo sp ki pl ea to qu fd mo tr b1 tp tm so bg te wd va gd bo sz sh le im bf ik (pl (ix x0)) (by assumption)) (cwV 2 hts gX6_isTelling_X6_laidAt rfl rfl rfl (by decide +kernel) ⟨Nat.le_of_ble_eq_true rfl, Nat.le_of_ble_eq_true rfl⟩) ⟨PcR_fb, va_recv hK hP (ci := 4) (q0 := 0) rfl rfl, PcR_pre hP hK⟩ rfl rfl hl.1 rfl (lv_room (Nat.le_of_ble_eq_true rfl)) dX6_isTelling_8 ⟨Nat.zero_le _, Nat.zero_le _⟩) ?_
  refine jn (fun v_1 : Int32 => v_1 = (if (sp (ix (pl (ix x0)))) ≤ 0 then 0 else 1 : Int32)) (fun v_1 => F0 m 19 ls [.int v_1]) (fun Jv_1 => ?_) (fun v_1 ev_1 => ?_)
  · skip
    refine lv_if_le (tgt := 18) hx hb dX6_isTelling_11 (by decide) (fun c_2 => ?_) (fun c_2 => ?_)
    · skip
      refine lv_iconst (v := 0) hx hb dX6_isTelling_18 (by decide) ?_
      exact Jv_1 _ (by rw [if_pos c_2])
    · skip
      refine lv_iconst (v := 1) hx hb dX6_isTelling_14 (by decide) ?_
      refine lv_goto (tgt := 19) hx hb dX6_isTelling_15 (by decide) ?_
      exact Jv_1 _ (by rw [if_neg c_2])
  refine lv_istore_n (lv' := [(2, .int v_1), (0, .ref (b 0)), (1, .int x0)]) hx hb dX6_isTelling_19 rfl hl (by decide) rfl (fun ls hl => ?_)
  refine lv_aload_n hx hb dX6_isTelling_20 rfl (lv_at hl 1 rfl) ?_
  refine lv_iload_n hx hb dX6_isTelling_21 rfl (lv_at hl 2 rfl) ?_
  refine lv_iconst (v := 0) hx hb dX6_isTelling_22 (by decide) ?_
  refine callE (W.runV (As := [.int x0, .int 0]) (rest := []) ⟨hx, hb, hml, hown, hts⟩ (k_X6_its0 l D cI cL cS b co gu kn fo sp ki pl ea to qu fd mo tr b1 tp tm so bg te wd va gd bo sz sh le im bf ik x0 (by assumption)) (cwV 2 hts gX6_isTelling_X6_its rfl rfl rfl (by decide +kernel) ⟨Nat.le_of_ble_eq_true rfl, Nat.le_of_ble_eq_true rfl⟩) ⟨PcR_fb, va_recv hK hP (ci := 4) (q0 := 0) rfl rfl, PcR_pre hP hK⟩ rfl rfl hl.1 rfl (lv_room (Nat.le_of_ble_eq_true rfl)) dX6_isTelling_23 ⟨Nat.zero_le _, Nat.zero_le _⟩) ?_
  by_cases c_3 : (ki (ix x0)) = 1
  · refine lv_tableIn (tgt := 60) hx hb dX6_isTelling_26 (by rw [c_3]; decide) (by rw [c_3]; decide) (by rw [c_3]; rfl) (by decide) ?_
    refine lv_iload_n hx hb dX6_isTelling_60 rfl (lv_at hl 0 rfl) ?_
    exact W.zret (ty := .boolean) hx hb hr (by rw [ev_1]; split <;> rfl) (fun t ht hW => ⟨_, rfl, (by rw [ev_1]; split; exact (bI_f (by unfold sTells; simp [sTel, c_3]; simp_all)).symm; exact (bI_t (by unfold sTells; simp [sTel, c_3]; simp_all)).symm), ht⟩) (fun _ h => absurd h List.not_mem_nil) dX6_isTelling_61
  by_cases c_4 : (ki (ix x0)) = 2
  · refine lv_tableIn (tgt := 99) hx hb dX6_isTelling_26 (by rw [c_4]; decide) (by rw [c_4]; decide) (by rw [c_4]; rfl) (by decide) ?_
    refine lv_aload_n hx hb dX6_isTelling_99 rfl (lv_at hl 1 rfl) ?_
    refine lv_iload_n hx hb dX6_isTelling_100 rfl (lv_at hl 2 rfl) ?_
    refine lv_iconst (v := 2) hx hb dX6_isTelling_101 (by decide) ?_
    refine callE (W.runV (As := [.int x0, .int 2]) (rest := []) ⟨hx, hb, hml, hown, hts⟩ (k_X6_its2 l D cI cL cS b co gu kn fo sp ki pl ea to qu fd mo tr b1 tp tm so bg te wd va gd bo sz sh le im bf ik x0 (by assumption)) (cwV 2 hts gX6_isTelling_X6_its rfl rfl rfl (by decide +kernel) ⟨Nat.le_of_ble_eq_true rfl, Nat.le_of_ble_eq_true rfl⟩) ⟨PcR_fb, va_recv hK hP (ci := 4) (q0 := 0) rfl rfl, PcR_pre hP hK⟩ rfl rfl hl.1 rfl (lv_room (Nat.le_of_ble_eq_true rfl)) dX6_isTelling_102 ⟨Nat.zero_le _, Nat.zero_le _⟩) ?_
    refine lv_bipush (v := 20) hx hb dX6_isTelling_105 (by decide) ?_
    refine lv_icmp_lt (tgt := 114) hx hb dX6_isTelling_107 (by decide) (fun c_5 => ?_) (fun c_5 => ?_)
    · skip
      refine lv_iconst (v := 0) hx hb dX6_isTelling_114 (by decide) ?_
      exact W.zret (ty := .boolean) hx hb hr rfl (fun t ht hW => ⟨_, rfl, (by exact (bI_f (by unfold sTells; simp [sTel, c_4, c_5] <;> (try simp_all) <;> try (intro h; exact absurd h (Int32.not_lt.mpr (by assumption))))).symm), ht⟩) (fun _ h => absurd h List.not_mem_nil) dX6_isTelling_115
    · skip
      refine lv_iconst (v := 1) hx hb dX6_isTelling_110 (by decide) ?_
      refine lv_goto (tgt := 115) hx hb dX6_isTelling_111 (by decide) ?_
      exact W.zret (ty := .boolean) hx hb hr rfl (fun t ht hW => ⟨_, rfl, (by exact (bI_t (by unfold sTells; simp [sTel, c_4, c_5]; try simp_all)).symm), ht⟩) (fun _ h => absurd h List.not_mem_nil) dX6_isTelling_115
  by_cases c_6 : (ki (ix x0)) = 3
  · refine lv_tableIn (tgt := 81) hx hb dX6_isTelling_26 (by rw [c_6]; decide) (by rw [c_6]; decide) (by rw [c_6]; rfl) (by decide) ?_
    refine lv_iconst (v := 0) hx hb dX6_isTelling_81 (by decide) ?_
    exact W.zret (ty := .boolean) hx hb hr rfl (fun t ht hW => ⟨_, rfl, (by exact (bI_f (by unfold sTells; simp [sTel, c_6] <;> (try simp_all) <;> try (intro h; exact absurd h (Int32.not_lt.mpr (by assumption))))).symm), ht⟩) (fun _ h => absurd h List.not_mem_nil) dX6_isTelling_82
  by_cases c_7 : (ki (ix x0)) = 4
  · refine lv_tableIn (tgt := 62) hx hb dX6_isTelling_26 (by rw [c_7]; decide) (by rw [c_7]; decide) (by rw [c_7]; rfl) (by decide) ?_
    refine lv_iload_n hx hb dX6_isTelling_62 rfl (lv_at hl 0 rfl) ?_
    refine lv_if_eq (tgt := 79) hx hb dX6_isTelling_63 (by decide) (fun c_8 => ?_) (fun c_8 => ?_)
    · skip
      refine lv_iconst (v := 0) hx hb dX6_isTelling_79 (by decide) ?_
      exact W.zret (ty := .boolean) hx hb hr rfl (fun t ht hW => ⟨_, rfl, (by exact (bI_f (by unfold sTells; simp [sTel, c_7, c_8] <;> (try simp_all) <;> try (intro h; exact absurd h (Int32.not_lt.mpr (by assumption))))).symm), ht⟩) (fun _ h => absurd h List.not_mem_nil) dX6_isTelling_80
    · skip
      refine lv_aload_n hx hb dX6_isTelling_66 rfl (lv_at hl 1 rfl) ?_
      refine lv_iload_n hx hb dX6_isTelling_67 rfl (lv_at hl 2 rfl) ?_
      refine lv_iconst (v := 2) hx hb dX6_isTelling_68 (by decide) ?_
      refine callE (W.runV (As := [.int x0, .int 2]) (rest := []) ⟨hx, hb, hml, hown, hts⟩ (k_X6_its2 l D cI cL cS b co gu kn fo sp ki pl ea to qu fd mo tr b1 tp tm so bg te wd va gd bo sz sh le im bf ik x0 (by assumption)) (cwV 2 hts gX6_isTelling_X6_its rfl rfl rfl (by decide +kernel) ⟨Nat.le_of_ble_eq_true rfl, Nat.le_of_ble_eq_true rfl⟩) ⟨PcR_fb, va_recv hK hP (ci := 4) (q0 := 0) rfl rfl, PcR_pre hP hK⟩ rfl rfl hl.1 rfl (lv_room (Nat.le_of_ble_eq_true rfl)) dX6_isTelling_69 ⟨Nat.zero_le _, Nat.zero_le _⟩) ?_
      refine lv_if_ge (tgt := 79) hx hb dX6_isTelling_72 (by decide) (fun c_9 => ?_) (fun c_9 => ?_)
      · skip
        refine lv_iconst (v := 0) hx hb dX6_isTelling_79 (by decide) ?_
        exact W.zret (ty := .boolean) hx hb hr rfl (fun t ht hW => ⟨_, rfl, (by exact (bI_f (by unfold sTells; simp [sTel, c_7, c_8, c_9] <;> (try simp_all) <;> try (intro h; exact absurd h (Int32.not_lt.mpr (by assumption))))).symm), ht⟩) (fun _ h => absurd h List.not_mem_nil) dX6_isTelling_80
      · skip
        refine lv_iconst (v := 1) hx hb dX6_isTelling_75 (by decide) ?_
        refine lv_goto (tgt := 80) hx hb dX6_isTelling_76 (by decide) ?_
        exact W.zret (ty := .boolean) hx hb hr rfl (fun t ht hW => ⟨_, rfl, (by exact (bI_t (by unfold sTells; simp [sTel, c_7, c_8, c_9]; try simp_all)).symm), ht⟩) (fun _ h => absurd h List.not_mem_nil) dX6_isTelling_80
  by_cases c_10 : (ki (ix x0)) = 5
  · refine lv_tableIn (tgt := 83) hx hb dX6_isTelling_26 (by rw [c_10]; decide) (by rw [c_10]; decide) (by rw [c_10]; rfl) (by decide) ?_
    refine lv_aload_n hx hb dX6_isTelling_83 rfl (lv_at hl 1 rfl) ?_
    refine lv_iload_n hx hb dX6_isTelling_84 rfl (lv_at hl 2 rfl) ?_
    refine lv_iconst (v := 2) hx hb dX6_isTelling_85 (by decide) ?_
    refine callE (W.runV (As := [.int x0, .int 2]) (rest := []) ⟨hx, hb, hml, hown, hts⟩ (k_X6_its2 l D cI cL cS b co gu kn fo sp ki pl ea to qu fd mo tr b1 tp tm so bg te wd va gd bo sz sh le im bf ik x0 (by assumption)) (cwV 2 hts gX6_isTelling_X6_its rfl rfl rfl (by decide +kernel) ⟨Nat.le_of_ble_eq_true rfl, Nat.le_of_ble_eq_true rfl⟩) ⟨PcR_fb, va_recv hK hP (ci := 4) (q0 := 0) rfl rfl, PcR_pre hP hK⟩ rfl rfl hl.1 rfl (lv_room (Nat.le_of_ble_eq_true rfl)) dX6_isTelling_86 ⟨Nat.zero_le _, Nat.zero_le _⟩) ?_
    refine lv_iconst (v := 5) hx hb dX6_isTelling_89 (by decide) ?_
    refine lv_icmp_lt (tgt := 97) hx hb dX6_isTelling_90 (by decide) (fun c_11 => ?_) (fun c_11 => ?_)
    · skip
      refine lv_iconst (v := 0) hx hb dX6_isTelling_97 (by decide) ?_
      exact W.zret (ty := .boolean) hx hb hr rfl (fun t ht hW => ⟨_, rfl, (by exact (bI_f (by unfold sTells; simp [sTel, c_10, c_11] <;> (try simp_all) <;> try (intro h; exact absurd h (Int32.not_lt.mpr (by assumption))))).symm), ht⟩) (fun _ h => absurd h List.not_mem_nil) dX6_isTelling_98
    · skip
      refine lv_iconst (v := 1) hx hb dX6_isTelling_93 (by decide) ?_
      refine lv_goto (tgt := 98) hx hb dX6_isTelling_94 (by decide) ?_
      exact W.zret (ty := .boolean) hx hb hr rfl (fun t ht hW => ⟨_, rfl, (by exact (bI_t (by unfold sTells; simp [sTel, c_10, c_11]; try simp_all)).symm), ht⟩) (fun _ h => absurd h List.not_mem_nil) dX6_isTelling_98
  refine lv_tableOut (tgt := 99) hx hb dX6_isTelling_26 (by have := lv_neT c_3 (a := 1) rfl; have := lv_neT c_4 (a := 2) rfl; have := lv_neT c_6 (a := 3) rfl; have := lv_neT c_7 (a := 4) rfl; have := lv_neT c_10 (a := 5) rfl; omega) (by decide) ?_
  refine lv_aload_n hx hb dX6_isTelling_99 rfl (lv_at hl 1 rfl) ?_
  refine lv_iload_n hx hb dX6_isTelling_100 rfl (lv_at hl 2 rfl) ?_
  refine lv_iconst (v := 2) hx hb dX6_isTelling_101 (by decide) ?_
  refine callE (W.runV (As := [.int x0, .int 2]) (rest := []) ⟨hx, hb, hml, hown, hts⟩ (k_X6_its2 l D cI cL cS b co gu kn fo sp ki pl ea to qu fd mo tr b1 tp tm so bg te wd va gd bo sz sh le im bf ik x0 (by assumption)) (cwV 2 hts gX6_isTelling_X6_its rfl rfl rfl (by decide +kernel) ⟨Nat.le_of_ble_eq_true rfl, Nat.le_of_ble_eq_true rfl⟩) ⟨PcR_fb, va_recv hK hP (ci := 4) (q0 := 0) rfl rfl, PcR_pre hP hK⟩ rfl rfl hl.1 rfl (lv_room (Nat.le_of_ble_eq_true rfl)) dX6_isTelling_102 ⟨Nat.zero_le _, Nat.zero_le _⟩) ?_
  refine lv_bipush (v := 20) hx hb dX6_isTelling_105 (by decide) ?_
  refine lv_icmp_lt (tgt := 114) hx hb dX6_isTelling_107 (by decide) (fun c_12 => ?_) (fun c_12 => ?_)
  · skip
    refine lv_iconst (v := 0) hx hb dX6_isTelling_114 (by decide) ?_
    exact W.zret (ty := .boolean) hx hb hr rfl (fun t ht hW => ⟨_, rfl, (by exact (bI_f (by unfold sTells; simp [sTel, c_3, c_4, c_6, c_7, c_10, c_12] <;> (try simp_all) <;> try (intro h; exact absurd h (Int32.not_lt.mpr (by assumption))))).symm), ht⟩) (fun _ h => absurd h List.not_mem_nil) dX6_isTelling_115
  · skip
    refine lv_iconst (v := 1) hx hb dX6_isTelling_110 (by decide) ?_
    refine lv_goto (tgt := 115) hx hb dX6_isTelling_111 (by decide) ?_
    exact W.zret (ty := .boolean) hx hb hr rfl (fun t ht hW => ⟨_, rfl, (by exact (bI_t (by unfold sTells; simp [sTel, c_3, c_4, c_6, c_7, c_10, c_12]; try simp_all)).symm), ht⟩) (fun _ h => absurd h List.not_mem_nil) dX6_isTelling_115

set_option maxRecDepth 100000 in
set_option maxHeartbeats 4000000 in
theorem k_X6_soreAt (l : Launch) (D : va_G) (cI cL cS : ClassId) (b : Nat → Nat) (co gu : Int32) (kn fo sp ki pl ea to qu : FI) (fd mo tr b1 tp : FI) (tm so bg te : Int32) (wd : Int64) (va gd : Int32) (bo sz : FI) (sh le : FJ) (im bf : FI) (ik : Int32) (x0 : Int32) (h0 : vp_in x0 8) : Met l yX6_soreAt wsX6_soreAt { frames := 1, cells := 0, slots := 0, locals := 22 } (PcR D vwCl (tyG cI cL cS) [.ref (b 0), .int x0] (mdw cI cL b (enc co gu kn fo sp ki pl ea to qu) fd mo tr b1 tp tm so bg te wd va gd bo sz sh le im bf ik)) (vp_Si (fun r => r = sSore (ki (ix x0)))) 0 0 (fun _ => False) := by
  refine Met.ofW (cc := cX6_soreAt) (maxL := 2) (ret := (some .int)) (by decide) rfl ?_
  intro p e s m args below meth c s₁ B hml hv
  obtain ⟨rfl, hP, hK⟩ := hv
  have hx := B.exec
  have hb := B.bytes
  have hr := B.returns
  have hts := atoms_spec (ws := wsX6_soreAt) B.pre
  have hown : s.vm.findClass RX6 = some m.cls := findClass_of_methodNamed B.named
  have hlocks := B.notSynchronized
  have hl := lv_entry ([.ref (b 0), .int x0]) (n := 2) (Nat.le_of_ble_eq_true rfl)
  rw [lg_entry_eq]
  generalize (lg_sl ([.ref (b 0), .int x0]) ++ List.replicate (2 - (lg_sl ([.ref (b 0), .int x0])).length) Slot.unset).toArray = ls at hl ⊢
  have hl : lv_has ls 2 [(0, .ref (b 0)), (1, .int x0)] := hl
  refine lv_aload_n hx hb dX6_soreAt_0 rfl (lv_at hl 0 rfl) ?_
  refine lv_iload_n hx hb dX6_soreAt_1 rfl (lv_at hl 1 rfl) ?_
  refine lv_iconst (v := 0) hx hb dX6_soreAt_2 (by decide) ?_
  refine callE (W.runV (As := [.int x0, .int 0]) (rest := []) ⟨hx, hb, hml, hown, hts⟩ (k_X6_its0 l D cI cL cS b co gu kn fo sp ki pl ea to qu fd mo tr b1 tp tm so bg te wd va gd bo sz sh le im bf ik x0 (by assumption)) (cwV 2 hts gX6_soreAt_X6_its rfl rfl rfl (by decide +kernel) ⟨Nat.le_of_ble_eq_true rfl, Nat.le_of_ble_eq_true rfl⟩) ⟨PcR_fb, va_recv hK hP (ci := 4) (q0 := 0) rfl rfl, PcR_pre hP hK⟩ rfl rfl hl.1 rfl (lv_room (Nat.le_of_ble_eq_true rfl)) dX6_soreAt_3 ⟨Nat.zero_le _, Nat.zero_le _⟩) ?_
  by_cases c_1 : (ki (ix x0)) = 1
  · refine lv_tableIn (tgt := 40) hx hb dX6_soreAt_6 (by rw [c_1]; decide) (by rw [c_1]; decide) (by rw [c_1]; rfl) (by decide) ?_
    refine lv_bipush (v := (-50)) hx hb dX6_soreAt_40 (by decide) ?_
    exact W.iret hx hb hr (fun t ht hW => ⟨_, rfl, (by simp [sSore, c_1]), ht⟩) (fun _ h => absurd h List.not_mem_nil) dX6_soreAt_42
  by_cases c_2 : (ki (ix x0)) = 2
  · refine lv_tableIn (tgt := 43) hx hb dX6_soreAt_6 (by rw [c_2]; decide) (by rw [c_2]; decide) (by rw [c_2]; rfl) (by decide) ?_
    refine lv_bipush (v := (-15)) hx hb dX6_soreAt_43 (by decide) ?_
    exact W.iret hx hb hr (fun t ht hW => ⟨_, rfl, (by simp [sSore, c_2]), ht⟩) (fun _ h => absurd h List.not_mem_nil) dX6_soreAt_45
  by_cases c_3 : (ki (ix x0)) = 3
  · refine lv_tableIn (tgt := 49) hx hb dX6_soreAt_6 (by rw [c_3]; decide) (by rw [c_3]; decide) (by rw [c_3]; rfl) (by decide) ?_
    refine lv_bipush (v := (-10)) hx hb dX6_soreAt_49 (by decide) ?_
    exact W.iret hx hb hr (fun t ht hW => ⟨_, rfl, (by simp [sSore, c_3]), ht⟩) (fun _ h => absurd h List.not_mem_nil) dX6_soreAt_51
  by_cases c_4 : (ki (ix x0)) = 4
  · refine lv_tableIn (tgt := 40) hx hb dX6_soreAt_6 (by rw [c_4]; decide) (by rw [c_4]; decide) (by rw [c_4]; rfl) (by decide) ?_
    refine lv_bipush (v := (-50)) hx hb dX6_soreAt_40 (by decide) ?_
    exact W.iret hx hb hr (fun t ht hW => ⟨_, rfl, (by simp [sSore, c_4]), ht⟩) (fun _ h => absurd h List.not_mem_nil) dX6_soreAt_42
  by_cases c_5 : (ki (ix x0)) = 5
  · refine lv_tableIn (tgt := 46) hx hb dX6_soreAt_6 (by rw [c_5]; decide) (by rw [c_5]; decide) (by rw [c_5]; rfl) (by decide) ?_
    refine lv_bipush (v := (-5)) hx hb dX6_soreAt_46 (by decide) ?_
    exact W.iret hx hb hr (fun t ht hW => ⟨_, rfl, (by simp [sSore, c_5]), ht⟩) (fun _ h => absurd h List.not_mem_nil) dX6_soreAt_48
  refine lv_tableOut (tgt := 52) hx hb dX6_soreAt_6 (by have := lv_neT c_1 (a := 1) rfl; have := lv_neT c_2 (a := 2) rfl; have := lv_neT c_3 (a := 3) rfl; have := lv_neT c_4 (a := 4) rfl; have := lv_neT c_5 (a := 5) rfl; omega) (by decide) ?_
  refine lv_bipush (v := (-20)) hx hb dX6_soreAt_52 (by decide) ?_
  exact W.iret hx hb hr (fun t ht hW => ⟨_, rfl, (by simp [sSore, c_1, c_2, c_3, c_4, c_5]), ht⟩) (fun _ h => absurd h List.not_mem_nil) dX6_soreAt_54

set_option maxRecDepth 100000 in
set_option maxHeartbeats 4000000 in
theorem k_X6_isSore (l : Launch) (D : va_G) (cI cL cS : ClassId) (b : Nat → Nat) (co gu : Int32) (kn fo sp ki pl ea to qu : FI) (fd mo tr b1 tp : FI) (tm so bg te : Int32) (wd : Int64) (va gd : Int32) (bo sz : FI) (sh le : FJ) (im bf : FI) (ik : Int32) (x0 : Int32) (h0 : vp_in x0 8) : Met l yX6_isSore wsX6_isSore { frames := 2, cells := 0, slots := 0, locals := 43 } (PcR D vwCl (tyG cI cL cS) [.ref (b 0), .int x0] (mdw cI cL b (enc co gu kn fo sp ki pl ea to qu) fd mo tr b1 tp tm so bg te wd va gd bo sz sh le im bf ik)) (vp_Si (fun r => r = bI (sSores ki ea (ix x0)))) 0 0 (fun _ => False) := by
  refine Met.ofW (cc := cX6_isSore) (maxL := 2) (ret := (some .boolean)) (by decide) rfl ?_
  intro p e s m args below meth c s₁ B hml hv
  obtain ⟨rfl, hP, hK⟩ := hv
  have hx := B.exec
  have hb := B.bytes
  have hr := B.returns
  have hts := atoms_spec (ws := wsX6_isSore) B.pre
  have hown : s.vm.findClass RX6 = some m.cls := findClass_of_methodNamed B.named
  have hlocks := B.notSynchronized
  have hl := lv_entry ([.ref (b 0), .int x0]) (n := 2) (Nat.le_of_ble_eq_true rfl)
  rw [lg_entry_eq]
  generalize (lg_sl ([.ref (b 0), .int x0]) ++ List.replicate (2 - (lg_sl ([.ref (b 0), .int x0])).length) Slot.unset).toArray = ls at hl ⊢
  have hl : lv_has ls 2 [(0, .ref (b 0)), (1, .int x0)] := hl
  refine lv_aload_n hx hb dX6_isSore_0 rfl (lv_at hl 0 rfl) ?_
  refine lv_iload_n hx hb dX6_isSore_1 rfl (lv_at hl 1 rfl) ?_
  refine lv_iconst (v := 2) hx hb dX6_isSore_2 (by decide) ?_
  refine callE (W.runV (As := [.int x0, .int 2]) (rest := []) ⟨hx, hb, hml, hown, hts⟩ (k_X6_its2 l D cI cL cS b co gu kn fo sp ki pl ea to qu fd mo tr b1 tp tm so bg te wd va gd bo sz sh le im bf ik x0 (by assumption)) (cwV 2 hts gX6_isSore_X6_its rfl rfl rfl (by decide +kernel) ⟨Nat.le_of_ble_eq_true rfl, Nat.le_of_ble_eq_true rfl⟩) ⟨PcR_fb, va_recv hK hP (ci := 4) (q0 := 0) rfl rfl, PcR_pre hP hK⟩ rfl rfl hl.1 rfl (lv_room (Nat.le_of_ble_eq_true rfl)) dX6_isSore_3 ⟨Nat.zero_le _, Nat.zero_le _⟩) ?_
  refine lv_aload_n hx hb dX6_isSore_6 rfl (lv_at hl 0 rfl) ?_
  refine lv_iload_n hx hb dX6_isSore_7 rfl (lv_at hl 1 rfl) ?_
  refine callE (W.runV (As := [.int x0]) (rest := [.int (ea (ix x0))]) ⟨hx, hb, hml, hown, hts⟩ (k_X6_soreAt l D cI cL cS b co gu kn fo sp ki pl ea to qu fd mo tr b1 tp tm so bg te wd va gd bo sz sh le im bf ik x0 (by assumption)) (cwV 1 hts gX6_isSore_X6_soreAt rfl rfl rfl (by decide +kernel) ⟨Nat.le_of_ble_eq_true rfl, Nat.le_of_ble_eq_true rfl⟩) ⟨PcR_fb, va_recv hK hP (ci := 4) (q0 := 0) rfl rfl, PcR_pre hP hK⟩ rfl rfl hl.1 rfl (lv_room (Nat.le_of_ble_eq_true rfl)) dX6_isSore_8 ⟨Nat.zero_le _, Nat.zero_le _⟩) ?_
  refine lv_icmp_ge (tgt := 18) hx hb dX6_isSore_11 (by decide) (fun c_1 => ?_) (fun c_1 => ?_)
  · skip
    refine lv_iconst (v := 0) hx hb dX6_isSore_18 (by decide) ?_
    exact W.zret (ty := .boolean) hx hb hr rfl (fun t ht hW => ⟨_, rfl, (by exact (bI_f (Int32.not_lt.mpr c_1)).symm), ht⟩) (fun _ h => absurd h List.not_mem_nil) dX6_isSore_19
  · skip
    refine lv_iconst (v := 1) hx hb dX6_isSore_14 (by decide) ?_
    refine lv_goto (tgt := 19) hx hb dX6_isSore_15 (by decide) ?_
    exact W.zret (ty := .boolean) hx hb hr rfl (fun t ht hW => ⟨_, rfl, (by exact (bI_t (Int32.not_le.mp c_1)).symm), ht⟩) (fun _ h => absurd h List.not_mem_nil) dX6_isSore_19

set_option maxRecDepth 100000 in
set_option maxHeartbeats 4000000 in
theorem k_X6_soreSet (l : Launch) (D : va_G) (cI cL cS : ClassId) (b : Nat → Nat) (co gu : Int32) (kn fo sp ki pl ea to qu : FI) (fd mo tr b1 tp : FI) (tm so bg te : Int32) (wd : Int64) (va gd : Int32) (bo sz : FI) (sh le : FJ) (im bf : FI) (ik : Int32) (hg9 : vp_in gu 9) : Met l yX6_soreSet wsX6_soreSet { frames := 3, cells := 0, slots := 0, locals := 64 } (PcR D vwCl (tyG cI cL cS) [.ref (b 0)] (mdw cI cL b (enc co gu kn fo sp ki pl ea to qu) fd mo tr b1 tp tm so bg te wd va gd bo sz sh le im bf ik)) (vp_Si (fun r => r = sSet (sSores ki ea) (ix gu))) 0 0 (fun _ => False) := by
  refine Met.ofW (cc := cX6_soreSet) (maxL := 3) (ret := (some .int)) (by decide) rfl ?_
  intro p e s m args below meth c s₁ B hml hv
  obtain ⟨rfl, hP, hK⟩ := hv
  have hx := B.exec
  have hb := B.bytes
  have hr := B.returns
  have hts := atoms_spec (ws := wsX6_soreSet) B.pre
  have hown : s.vm.findClass RX6 = some m.cls := findClass_of_methodNamed B.named
  have hlocks := B.notSynchronized
  have hl := lv_entry ([.ref (b 0)]) (n := 3) (Nat.le_of_ble_eq_true rfl)
  rw [lg_entry_eq]
  generalize (lg_sl ([.ref (b 0)]) ++ List.replicate (3 - (lg_sl ([.ref (b 0)])).length) Slot.unset).toArray = ls at hl ⊢
  have hl : lv_has ls 3 [(0, .ref (b 0))] := hl
  have f7 := hts (.fieldLink RX6 7 "KnivesLaidModel" "row" "[I") (List.mem_of_getElem? (i := 1) rfl)
  have inX6 : ∀ w ∈ u_ws RX6 TX6 20, w ∈ wsX6_soreSet := in_at 15 _ _ rfl
  have hgu := gu_of hg9
  have hgu8 := hgu.2
  refine lv_iconst (v := 0) hx hb dX6_soreSet_0 (by decide) ?_
  refine lv_istore_n (lv' := [(1, .int 0), (0, .ref (b 0))]) hx hb dX6_soreSet_1 rfl hl (by decide) rfl (fun ls hl => ?_)
  refine lv_iconst (v := 0) hx hb dX6_soreSet_2 (by decide) ?_
  refine lv_istore_n (lv' := [(2, .int 0), (1, .int 0), (0, .ref (b 0))]) hx hb dX6_soreSet_3 rfl hl (by decide) rfl (fun ls hl => ?_)
  refine lpR (fun n (u : Nat × Int32) ls => (u.1 + n = ix gu) ∧ (u.2 = sSet (sSores ki ea) u.1) ∧ lv_has ls 3 [(0, .ref (b 0)), (1, .int u.2), (2, .int (nI u.1))]) (ix gu) ((0, 0)) ⟨by omega, rfl, lv_sub hl [2, 1, 0] rfl⟩ (fun n ih u ls hI => ?_)
  obtain ⟨i, z⟩ := u
  obtain ⟨hi0, hi1, hl⟩ := hI
  have hi0 : i + n = ix gu := hi0
  have hi1 : z = sSet (sSores ki ea) i := hi1
  have hl : lv_has ls 3 [(0, .ref (b 0)), (1, .int z), (2, .int (nI i))] := hl
  have hix : ix (nI i) = i := ix_nI (by omega)
  refine lv_iload_n hx hb dX6_soreSet_4 rfl (lv_at hl 2 rfl) ?_
  refine lv_aload_n hx hb dX6_soreSet_5 rfl (lv_at hl 0 rfl) ?_
  refine va_get (ci := 4) (v := .ref (b 1)) (C := RX6) (T := TX6) (N := 20) hx hb hts inX6 hown hK hP 0 rfl rfl 0 (by decide) f7 (fun _ h9 => h9) rfl dX6_soreSet_6 ?_
  refine lv_iconst (v := 1) hx hb dX6_soreSet_9 (by decide) ?_
  refine va_iald hx hb hK hP 1 0 rfl rfl (vp_in_iff.mpr (by decide)) dX6_soreSet_10 ?_
  refine lv_to (y := gu) rfl ?_
  refine lv_icmp_ge (tgt := 38) hx hb dX6_soreSet_11 (by decide) (fun c_1 => ?_) (fun c_1 => ?_)
  · skip
    have c_1n := (cmp_le (a := ix gu) (b := i) hgu.1 rfl (by omega) (by omega)).mp c_1
    refine lv_iload_n hx hb dX6_soreSet_38 rfl (lv_at hl 1 rfl) ?_
    exact W.iret hx hb hr (fun t ht hW => ⟨_, rfl, (by rw [hi1, show i = ix gu by omega]), ht⟩) (fun _ h => absurd h List.not_mem_nil) dX6_soreSet_39
  · skip
    have c_1n := mt (cmp_le (a := ix gu) (b := i) hgu.1 rfl (by omega) (by omega)).mpr c_1
    refine lv_iload_n hx hb dX6_soreSet_14 rfl (lv_at hl 1 rfl) ?_
    refine lv_aload_n hx hb dX6_soreSet_15 rfl (lv_at hl 0 rfl) ?_
    refine lv_iload_n hx hb dX6_soreSet_16 rfl (lv_at hl 2 rfl) ?_
    refine callE (W.runV (As := [.int (nI i)]) (rest := [.int z]) ⟨hx, hb, hml, hown, hts⟩ (k_X6_isSore l D cI cL cS b co gu kn fo sp ki pl ea to qu fd mo tr b1 tp tm so bg te wd va gd bo sz sh le im bf ik (nI i) (vp_in_nI (by omega) (by omega))) (cwV 1 hts gX6_soreSet_X6_isSore rfl rfl rfl (by decide +kernel) ⟨Nat.le_of_ble_eq_true rfl, Nat.le_of_ble_eq_true rfl⟩) ⟨PcR_fb, va_recv hK hP (ci := 4) (q0 := 0) rfl rfl, PcR_pre hP hK⟩ rfl rfl hl.1 rfl (lv_room (Nat.le_of_ble_eq_true rfl)) dX6_soreSet_17 ⟨Nat.zero_le _, Nat.zero_le _⟩) ?_
    refine jn (fun v_2 : Int32 => v_2 = (if (bI (sSores ki ea (ix (nI i)))) = 0 then 0 else (1 <<< ((nI i) &&& 31)) : Int32)) (fun v_2 => F0 m 30 ls [.int v_2, .int z]) (fun Jv_2 => ?_) (fun v_2 ev_2 => ?_)
    · skip
      refine lv_if_eq (tgt := 29) hx hb dX6_soreSet_20 (by decide) (fun c_3 => ?_) (fun c_3 => ?_)
      · skip
        have c_3b := bI_0 c_3
        refine lv_iconst (v := 0) hx hb dX6_soreSet_29 (by decide) ?_
        exact Jv_2 _ (by rw [if_pos c_3])
      · skip
        have c_3b := bI_n c_3
        refine lv_iconst (v := 1) hx hb dX6_soreSet_23 (by decide) ?_
        refine lv_iload_n hx hb dX6_soreSet_24 rfl (lv_at hl 2 rfl) ?_
        refine lv_ishl hx hb dX6_soreSet_25 ?_
        refine lv_goto (tgt := 30) hx hb dX6_soreSet_26 (by decide) ?_
        exact Jv_2 _ (by rw [if_neg c_3])
    refine lv_ior hx hb dX6_soreSet_30 ?_
    refine lv_istore_n (lv' := [(1, .int (z ||| v_2)), (0, .ref (b 0)), (2, .int (nI i))]) hx hb dX6_soreSet_31 rfl hl (by decide) rfl (fun ls hl => ?_)
    refine lv_iinc (v := nI (i + 1)) (lv' := [(2, .int (nI (i + 1))), (1, .int (z ||| v_2)), (0, .ref (b 0))]) hx hb dX6_soreSet_32 hl (k := 2) rfl (nI_1 _) (by decide) rfl (fun ls hl => ?_)
    refine lv_goto (tgt := 4) hx hb dX6_soreSet_35 (by decide) ?_
    exact ih (n - 1) (by omega) ((i + 1, (z ||| v_2))) ls ⟨by omega, by rw [hi1, ev_2, hix]; exact set_step _ i, lv_sub hl [2, 1, 0] rfl⟩

set_option maxRecDepth 100000 in
set_option maxHeartbeats 4000000 in
theorem k_X6_tellingSet (l : Launch) (D : va_G) (cI cL cS : ClassId) (b : Nat → Nat) (co gu : Int32) (kn fo sp ki pl ea to qu : FI) (fd mo tr b1 tp : FI) (tm so bg te : Int32) (wd : Int64) (va gd : Int32) (bo sz : FI) (sh le : FJ) (im bf : FI) (ik : Int32) (ok : okT gu kn fo sp (whC gu pl) ki pl) : Met l yX6_tellingSet wsX6_tellingSet { frames := 2, cells := 0, slots := 0, locals := 44 } (PcR D vwCl (tyG cI cL cS) [.ref (b 0)] (mdw cI cL b (enc co gu kn fo sp ki pl ea to qu) fd mo tr b1 tp tm so bg te wd va gd bo sz sh le im bf ik)) (vp_Si (fun r => r = sSet (sTells sp ki pl ea) (ix gu))) 0 0 (fun _ => False) := by
  refine Met.ofW (cc := cX6_tellingSet) (maxL := 3) (ret := (some .int)) (by decide) rfl ?_
  intro p e s m args below meth c s₁ B hml hv
  obtain ⟨rfl, hP, hK⟩ := hv
  have hx := B.exec
  have hb := B.bytes
  have hr := B.returns
  have hts := atoms_spec (ws := wsX6_tellingSet) B.pre
  have hown : s.vm.findClass RX6 = some m.cls := findClass_of_methodNamed B.named
  have hlocks := B.notSynchronized
  have hl := lv_entry ([.ref (b 0)]) (n := 3) (Nat.le_of_ble_eq_true rfl)
  rw [lg_entry_eq]
  generalize (lg_sl ([.ref (b 0)]) ++ List.replicate (3 - (lg_sl ([.ref (b 0)])).length) Slot.unset).toArray = ls at hl ⊢
  have hl : lv_has ls 3 [(0, .ref (b 0))] := hl
  have f7 := hts (.fieldLink RX6 7 "KnivesLaidModel" "row" "[I") (List.mem_of_getElem? (i := 1) rfl)
  have inX6 : ∀ w ∈ u_ws RX6 TX6 20, w ∈ wsX6_tellingSet := in_at 15 _ _ rfl
  have hgu := gu_of ok.gu
  have hgu8 := hgu.2
  refine lv_iconst (v := 0) hx hb dX6_tellingSet_0 (by decide) ?_
  refine lv_istore_n (lv' := [(1, .int 0), (0, .ref (b 0))]) hx hb dX6_tellingSet_1 rfl hl (by decide) rfl (fun ls hl => ?_)
  refine lv_iconst (v := 0) hx hb dX6_tellingSet_2 (by decide) ?_
  refine lv_istore_n (lv' := [(2, .int 0), (1, .int 0), (0, .ref (b 0))]) hx hb dX6_tellingSet_3 rfl hl (by decide) rfl (fun ls hl => ?_)
  refine lpR (fun n (u : Nat × Int32) ls => (u.1 + n = ix gu) ∧ (u.2 = sSet (sTells sp ki pl ea) u.1) ∧ lv_has ls 3 [(0, .ref (b 0)), (1, .int u.2), (2, .int (nI u.1))]) (ix gu) ((0, 0)) ⟨by omega, rfl, lv_sub hl [2, 1, 0] rfl⟩ (fun n ih u ls hI => ?_)
  obtain ⟨i, z⟩ := u
  obtain ⟨hi0, hi1, hl⟩ := hI
  have hi0 : i + n = ix gu := hi0
  have hi1 : z = sSet (sTells sp ki pl ea) i := hi1
  have hl : lv_has ls 3 [(0, .ref (b 0)), (1, .int z), (2, .int (nI i))] := hl
  have hix : ix (nI i) = i := ix_nI (by omega)
  refine lv_iload_n hx hb dX6_tellingSet_4 rfl (lv_at hl 2 rfl) ?_
  refine lv_aload_n hx hb dX6_tellingSet_5 rfl (lv_at hl 0 rfl) ?_
  refine va_get (ci := 4) (v := .ref (b 1)) (C := RX6) (T := TX6) (N := 20) hx hb hts inX6 hown hK hP 0 rfl rfl 0 (by decide) f7 (fun _ h9 => h9) rfl dX6_tellingSet_6 ?_
  refine lv_iconst (v := 1) hx hb dX6_tellingSet_9 (by decide) ?_
  refine va_iald hx hb hK hP 1 0 rfl rfl (vp_in_iff.mpr (by decide)) dX6_tellingSet_10 ?_
  refine lv_to (y := gu) rfl ?_
  refine lv_icmp_ge (tgt := 38) hx hb dX6_tellingSet_11 (by decide) (fun c_1 => ?_) (fun c_1 => ?_)
  · skip
    have c_1n := (cmp_le (a := ix gu) (b := i) hgu.1 rfl (by omega) (by omega)).mp c_1
    refine lv_iload_n hx hb dX6_tellingSet_38 rfl (lv_at hl 1 rfl) ?_
    exact W.iret hx hb hr (fun t ht hW => ⟨_, rfl, (by rw [hi1, show i = ix gu by omega]), ht⟩) (fun _ h => absurd h List.not_mem_nil) dX6_tellingSet_39
  · skip
    have c_1n := mt (cmp_le (a := ix gu) (b := i) hgu.1 rfl (by omega) (by omega)).mpr c_1
    refine lv_iload_n hx hb dX6_tellingSet_14 rfl (lv_at hl 1 rfl) ?_
    refine lv_aload_n hx hb dX6_tellingSet_15 rfl (lv_at hl 0 rfl) ?_
    refine lv_iload_n hx hb dX6_tellingSet_16 rfl (lv_at hl 2 rfl) ?_
    refine callE (W.runV (As := [.int (nI i)]) (rest := [.int z]) ⟨hx, hb, hml, hown, hts⟩ (k_X6_isTelling l D cI cL cS b co gu kn fo sp ki pl ea to qu fd mo tr b1 tp tm so bg te wd va gd bo sz sh le im bf ik (nI i) ok (vp_in_nI (by omega) (by omega))) (cwV 1 hts gX6_tellingSet_X6_isTelling rfl rfl rfl (by decide +kernel) ⟨Nat.le_of_ble_eq_true rfl, Nat.le_of_ble_eq_true rfl⟩) ⟨PcR_fb, va_recv hK hP (ci := 4) (q0 := 0) rfl rfl, PcR_pre hP hK⟩ rfl rfl hl.1 rfl (lv_room (Nat.le_of_ble_eq_true rfl)) dX6_tellingSet_17 ⟨Nat.zero_le _, Nat.zero_le _⟩) ?_
    refine jn (fun v_2 : Int32 => v_2 = (if (bI (sTells sp ki pl ea (ix (nI i)))) = 0 then 0 else (1 <<< ((nI i) &&& 31)) : Int32)) (fun v_2 => F0 m 30 ls [.int v_2, .int z]) (fun Jv_2 => ?_) (fun v_2 ev_2 => ?_)
    · skip
      refine lv_if_eq (tgt := 29) hx hb dX6_tellingSet_20 (by decide) (fun c_3 => ?_) (fun c_3 => ?_)
      · skip
        have c_3b := bI_0 c_3
        refine lv_iconst (v := 0) hx hb dX6_tellingSet_29 (by decide) ?_
        exact Jv_2 _ (by rw [if_pos c_3])
      · skip
        have c_3b := bI_n c_3
        refine lv_iconst (v := 1) hx hb dX6_tellingSet_23 (by decide) ?_
        refine lv_iload_n hx hb dX6_tellingSet_24 rfl (lv_at hl 2 rfl) ?_
        refine lv_ishl hx hb dX6_tellingSet_25 ?_
        refine lv_goto (tgt := 30) hx hb dX6_tellingSet_26 (by decide) ?_
        exact Jv_2 _ (by rw [if_neg c_3])
    refine lv_ior hx hb dX6_tellingSet_30 ?_
    refine lv_istore_n (lv' := [(1, .int (z ||| v_2)), (0, .ref (b 0)), (2, .int (nI i))]) hx hb dX6_tellingSet_31 rfl hl (by decide) rfl (fun ls hl => ?_)
    refine lv_iinc (v := nI (i + 1)) (lv' := [(2, .int (nI (i + 1))), (1, .int (z ||| v_2)), (0, .ref (b 0))]) hx hb dX6_tellingSet_32 hl (k := 2) rfl (nI_1 _) (by decide) rfl (fun ls hl => ?_)
    refine lv_goto (tgt := 4) hx hb dX6_tellingSet_35 (by decide) ?_
    exact ih (n - 1) (by omega) ((i + 1, (z ||| v_2))) ls ⟨by omega, by rw [hi1, ev_2, hix]; exact set_step _ i, lv_sub hl [2, 1, 0] rfl⟩

set_option maxRecDepth 100000 in
set_option maxHeartbeats 4000000 in
theorem k_X6_sumOf (l : Launch) (D : va_G) (cI cL cS : ClassId) (b : Nat → Nat) (co gu : Int32) (kn fo sp ki pl ea to qu : FI) (fd mo tr b1 tp : FI) (tm so bg te : Int32) (wd : Int64) (va gd : Int32) (bo sz : FI) (sh le : FJ) (im bf : FI) (ik : Int32) (x0 : Int32) (hg9 : vp_in gu 9) (h0 : vp_in x0 5) : Met l yX6_sumOf wsX6_sumOf { frames := 1, cells := 0, slots := 0, locals := 22 } (PcR D vwCl (tyG cI cL cS) [.ref (b 0), .int x0] (mdw cI cL b (enc co gu kn fo sp ki pl ea to qu) fd mo tr b1 tp tm so bg te wd va gd bo sz sh le im bf ik)) (vp_Si (fun r => r = sSum (fun g => enc co gu kn fo sp ki pl ea to qu (32 + 5 * g + ix x0)) (ix gu))) 0 0 (fun _ => False) := by
  refine Met.ofW (cc := cX6_sumOf) (maxL := 4) (ret := (some .int)) (by decide) rfl ?_
  intro p e s m args below meth c s₁ B hml hv
  obtain ⟨rfl, hP, hK⟩ := hv
  have hx := B.exec
  have hb := B.bytes
  have hr := B.returns
  have hts := atoms_spec (ws := wsX6_sumOf) B.pre
  have hown : s.vm.findClass RX6 = some m.cls := findClass_of_methodNamed B.named
  have hlocks := B.notSynchronized
  have hl := lv_entry ([.ref (b 0), .int x0]) (n := 4) (Nat.le_of_ble_eq_true rfl)
  rw [lg_entry_eq]
  generalize (lg_sl ([.ref (b 0), .int x0]) ++ List.replicate (4 - (lg_sl ([.ref (b 0), .int x0])).length) Slot.unset).toArray = ls at hl ⊢
  have hl : lv_has ls 4 [(0, .ref (b 0)), (1, .int x0)] := hl
  have f7 := hts (.fieldLink RX6 7 "KnivesLaidModel" "row" "[I") (List.mem_of_getElem? (i := 1) rfl)
  have inX6 : ∀ w ∈ u_ws RX6 TX6 20, w ∈ wsX6_sumOf := in_at 7 _ _ rfl
  have hgu := gu_of hg9
  have hgu8 := hgu.2
  refine lv_iconst (v := 0) hx hb dX6_sumOf_0 (by decide) ?_
  refine lv_istore_n (lv' := [(2, .int 0), (0, .ref (b 0)), (1, .int x0)]) hx hb dX6_sumOf_1 rfl hl (by decide) rfl (fun ls hl => ?_)
  refine lv_iconst (v := 0) hx hb dX6_sumOf_2 (by decide) ?_
  refine lv_istore_n (lv' := [(3, .int 0), (2, .int 0), (0, .ref (b 0)), (1, .int x0)]) hx hb dX6_sumOf_3 rfl hl (by decide) rfl (fun ls hl => ?_)
  refine lpR (fun n (u : Nat × Int32) ls => (u.1 + n = ix gu) ∧ (u.2 = sSum (fun g => enc co gu kn fo sp ki pl ea to qu (32 + 5 * g + ix x0)) u.1) ∧ lv_has ls 4 [(0, .ref (b 0)), (1, .int x0), (2, .int u.2), (3, .int (nI u.1))]) (ix gu) ((0, 0)) ⟨by omega, rfl, lv_sub hl [2, 3, 1, 0] rfl⟩ (fun n ih u ls hI => ?_)
  obtain ⟨i, z⟩ := u
  obtain ⟨hi0, hi1, hl⟩ := hI
  have hi0 : i + n = ix gu := hi0
  have hi1 : z = sSum (fun g => enc co gu kn fo sp ki pl ea to qu (32 + 5 * g + ix x0)) i := hi1
  have hl : lv_has ls 4 [(0, .ref (b 0)), (1, .int x0), (2, .int z), (3, .int (nI i))] := hl
  have hix : ix (nI i) = i := ix_nI (by omega)
  refine lv_iload_n hx hb dX6_sumOf_4 rfl (lv_at hl 3 rfl) ?_
  refine lv_aload_n hx hb dX6_sumOf_5 rfl (lv_at hl 0 rfl) ?_
  refine va_get (ci := 4) (v := .ref (b 1)) (C := RX6) (T := TX6) (N := 20) hx hb hts inX6 hown hK hP 0 rfl rfl 0 (by decide) f7 (fun _ h9 => h9) rfl dX6_sumOf_6 ?_
  refine lv_iconst (v := 1) hx hb dX6_sumOf_9 (by decide) ?_
  refine va_iald hx hb hK hP 1 0 rfl rfl (vp_in_iff.mpr (by decide)) dX6_sumOf_10 ?_
  refine lv_to (y := gu) rfl ?_
  refine lv_icmp_ge (tgt := 29) hx hb dX6_sumOf_11 (by decide) (fun c_1 => ?_) (fun c_1 => ?_)
  · skip
    have c_1n := (cmp_le (a := ix gu) (b := i) hgu.1 rfl (by omega) (by omega)).mp c_1
    refine lv_iload_n hx hb dX6_sumOf_29 rfl (lv_at hl 2 rfl) ?_
    exact W.iret hx hb hr (fun t ht hW => ⟨_, rfl, (by rw [hi1, show i = ix gu by omega]), ht⟩) (fun _ h => absurd h List.not_mem_nil) dX6_sumOf_30
  · skip
    have c_1n := mt (cmp_le (a := ix gu) (b := i) hgu.1 rfl (by omega) (by omega)).mpr c_1
    refine lv_iload_n hx hb dX6_sumOf_14 rfl (lv_at hl 2 rfl) ?_
    refine lv_aload_n hx hb dX6_sumOf_15 rfl (lv_at hl 0 rfl) ?_
    refine lv_iload_n hx hb dX6_sumOf_16 rfl (lv_at hl 3 rfl) ?_
    refine lv_iload_n hx hb dX6_sumOf_17 rfl (lv_at hl 1 rfl) ?_
    refine callE (W.runV (As := [.int (nI i), .int x0]) (rest := [.int z]) ⟨hx, hb, hml, hown, hts⟩ (k_X6_its l D cI cL cS b co gu kn fo sp ki pl ea to qu fd mo tr b1 tp tm so bg te wd va gd bo sz sh le im bf ik (nI i) x0 (vp_in_nI (by omega) (by omega)) h0) (cwV 2 hts gX6_sumOf_X6_its rfl rfl rfl (by decide +kernel) ⟨Nat.le_of_ble_eq_true rfl, Nat.le_of_ble_eq_true rfl⟩) ⟨PcR_fb, va_recv hK hP (ci := 4) (q0 := 0) rfl rfl, PcR_pre hP hK⟩ rfl rfl hl.1 rfl (lv_room (Nat.le_of_ble_eq_true rfl)) dX6_sumOf_18 ⟨Nat.zero_le _, Nat.zero_le _⟩) ?_
    refine lv_iadd hx hb dX6_sumOf_21 ?_
    refine lv_istore_n (lv' := [(2, .int (z + (enc co gu kn fo sp ki pl ea to qu (32 + 5 * ix (nI i) + ix x0)))), (0, .ref (b 0)), (1, .int x0), (3, .int (nI i))]) hx hb dX6_sumOf_22 rfl hl (by decide) rfl (fun ls hl => ?_)
    refine lv_iinc (v := nI (i + 1)) (lv' := [(3, .int (nI (i + 1))), (2, .int (z + (enc co gu kn fo sp ki pl ea to qu (32 + 5 * ix (nI i) + ix x0)))), (0, .ref (b 0)), (1, .int x0)]) hx hb dX6_sumOf_23 hl (k := 3) rfl (nI_1 _) (by decide) rfl (fun ls hl => ?_)
    refine lv_goto (tgt := 4) hx hb dX6_sumOf_26 (by decide) ?_
    exact ih (n - 1) (by omega) ((i + 1, (z + (enc co gu kn fo sp ki pl ea to qu (32 + 5 * ix (nI i) + ix x0))))) ls ⟨by omega, by rw [hi1, hix]; rfl, lv_sub hl [2, 3, 1, 0] rfl⟩

theorem k_X6_sumOf2 (l : Launch) (D : va_G) (cI cL cS : ClassId) (b : Nat → Nat) (co gu : Int32) (kn fo sp ki pl ea to qu : FI) (fd mo tr b1 tp : FI) (tm so bg te : Int32) (wd : Int64) (va gd : Int32) (bo sz : FI) (sh le : FJ) (im bf : FI) (ik : Int32)  (hg9 : vp_in gu 9) : Met l yX6_sumOf wsX6_sumOf { frames := 1, cells := 0, slots := 0, locals := 22 } (PcR D vwCl (tyG cI cL cS) [.ref (b 0), .int 2] (mdw cI cL b (enc co gu kn fo sp ki pl ea to qu) fd mo tr b1 tp tm so bg te wd va gd bo sz sh le im bf ik)) (vp_Si (fun r => r = sSum ea (ix gu))) 0 0 (fun _ => False) := by
  exact Met_F (k_X6_sumOf l D cI cL cS b co gu kn fo sp ki pl ea to qu fd mo tr b1 tp tm so bg te wd va gd bo sz sh le im bf ik 2 hg9 (vp_in_iff.mpr (by decide))) (by congr 1; funext g; exact enc_g co gu kn fo sp ki pl ea to qu (g := g) (w := 2) (by decide))

theorem k_X6_sumOf3 (l : Launch) (D : va_G) (cI cL cS : ClassId) (b : Nat → Nat) (co gu : Int32) (kn fo sp ki pl ea to qu : FI) (fd mo tr b1 tp : FI) (tm so bg te : Int32) (wd : Int64) (va gd : Int32) (bo sz : FI) (sh le : FJ) (im bf : FI) (ik : Int32)  (hg9 : vp_in gu 9) : Met l yX6_sumOf wsX6_sumOf { frames := 1, cells := 0, slots := 0, locals := 22 } (PcR D vwCl (tyG cI cL cS) [.ref (b 0), .int 3] (mdw cI cL b (enc co gu kn fo sp ki pl ea to qu) fd mo tr b1 tp tm so bg te wd va gd bo sz sh le im bf ik)) (vp_Si (fun r => r = sSum to (ix gu))) 0 0 (fun _ => False) := by
  exact Met_F (k_X6_sumOf l D cI cL cS b co gu kn fo sp ki pl ea to qu fd mo tr b1 tp tm so bg te wd va gd bo sz sh le im bf ik 3 hg9 (vp_in_iff.mpr (by decide))) (by congr 1; funext g; exact enc_g co gu kn fo sp ki pl ea to qu (g := g) (w := 3) (by decide))

theorem k_X6_sumOf4 (l : Launch) (D : va_G) (cI cL cS : ClassId) (b : Nat → Nat) (co gu : Int32) (kn fo sp ki pl ea to qu : FI) (fd mo tr b1 tp : FI) (tm so bg te : Int32) (wd : Int64) (va gd : Int32) (bo sz : FI) (sh le : FJ) (im bf : FI) (ik : Int32)  (hg9 : vp_in gu 9) : Met l yX6_sumOf wsX6_sumOf { frames := 1, cells := 0, slots := 0, locals := 22 } (PcR D vwCl (tyG cI cL cS) [.ref (b 0), .int 4] (mdw cI cL b (enc co gu kn fo sp ki pl ea to qu) fd mo tr b1 tp tm so bg te wd va gd bo sz sh le im bf ik)) (vp_Si (fun r => r = sSum qu (ix gu))) 0 0 (fun _ => False) := by
  exact Met_F (k_X6_sumOf l D cI cL cS b co gu kn fo sp ki pl ea to qu fd mo tr b1 tp tm so bg te wd va gd bo sz sh le im bf ik 4 hg9 (vp_in_iff.mpr (by decide))) (by congr 1; funext g; exact enc_g co gu kn fo sp ki pl ea to qu (g := g) (w := 4) (by decide))

set_option maxRecDepth 100000 in
set_option maxHeartbeats 4000000 in
theorem k_X6_spoons (l : Launch) (D : va_G) (cI cL cS : ClassId) (b : Nat → Nat) (co gu : Int32) (kn fo sp ki pl ea to qu : FI) (fd mo tr b1 tp : FI) (tm so bg te : Int32) (wd : Int64) (va gd : Int32) (bo sz : FI) (sh le : FJ) (im bf : FI) (ik : Int32)  : Met l yX6_spoons wsX6_spoons { frames := 1, cells := 0, slots := 0, locals := 22 } (PcR D vwCl (tyG cI cL cS) [.ref (b 0)] (mdw cI cL b (enc co gu kn fo sp ki pl ea to qu) fd mo tr b1 tp tm so bg te wd va gd bo sz sh le im bf ik)) (vp_Si (fun r => r = sSum sp 10)) 0 0 (fun _ => False) := by
  refine Met.ofW (cc := cX6_spoons) (maxL := 3) (ret := (some .int)) (by decide) rfl ?_
  intro p e s m args below meth c s₁ B hml hv
  obtain ⟨rfl, hP, hK⟩ := hv
  have hx := B.exec
  have hb := B.bytes
  have hr := B.returns
  have hts := atoms_spec (ws := wsX6_spoons) B.pre
  have hown : s.vm.findClass RX6 = some m.cls := findClass_of_methodNamed B.named
  have hlocks := B.notSynchronized
  have hl := lv_entry ([.ref (b 0)]) (n := 3) (Nat.le_of_ble_eq_true rfl)
  rw [lg_entry_eq]
  generalize (lg_sl ([.ref (b 0)]) ++ List.replicate (3 - (lg_sl ([.ref (b 0)])).length) Slot.unset).toArray = ls at hl ⊢
  have hl : lv_has ls 3 [(0, .ref (b 0))] := hl
  refine lv_iconst (v := 0) hx hb dX6_spoons_0 (by decide) ?_
  refine lv_istore_n (lv' := [(1, .int 0), (0, .ref (b 0))]) hx hb dX6_spoons_1 rfl hl (by decide) rfl (fun ls hl => ?_)
  refine lv_iconst (v := 0) hx hb dX6_spoons_2 (by decide) ?_
  refine lv_istore_n (lv' := [(2, .int 0), (1, .int 0), (0, .ref (b 0))]) hx hb dX6_spoons_3 rfl hl (by decide) rfl (fun ls hl => ?_)
  refine lpR (fun n (u : Nat × Int32) ls => (u.1 + n = 10) ∧ (u.2 = sSum sp u.1) ∧ lv_has ls 3 [(0, .ref (b 0)), (1, .int u.2), (2, .int (nI u.1))]) (10) ((0, 0)) ⟨by omega, rfl, lv_sub hl [2, 1, 0] rfl⟩ (fun n ih u ls hI => ?_)
  obtain ⟨i, z⟩ := u
  obtain ⟨hi0, hi1, hl⟩ := hI
  have hi0 : i + n = 10 := hi0
  have hi1 : z = sSum sp i := hi1
  have hl : lv_has ls 3 [(0, .ref (b 0)), (1, .int z), (2, .int (nI i))] := hl
  have hix : ix (nI i) = i := ix_nI (by omega)
  refine lv_iload_n hx hb dX6_spoons_4 rfl (lv_at hl 2 rfl) ?_
  refine lv_bipush (v := 10) hx hb dX6_spoons_5 (by decide) ?_
  refine lv_icmp_ge (tgt := 25) hx hb dX6_spoons_7 (by decide) (fun c_1 => ?_) (fun c_1 => ?_)
  · skip
    have c_1n := (cmp_le (a := 10) (b := i) rfl rfl (by omega) (by omega)).mp c_1
    refine lv_iload_n hx hb dX6_spoons_25 rfl (lv_at hl 1 rfl) ?_
    exact W.iret hx hb hr (fun t ht hW => ⟨_, rfl, (by rw [hi1, show i = 10 by omega]), ht⟩) (fun _ h => absurd h List.not_mem_nil) dX6_spoons_26
  · skip
    have c_1n := mt (cmp_le (a := 10) (b := i) rfl rfl (by omega) (by omega)).mpr c_1
    refine lv_iload_n hx hb dX6_spoons_10 rfl (lv_at hl 1 rfl) ?_
    refine lv_aload_n hx hb dX6_spoons_11 rfl (lv_at hl 0 rfl) ?_
    refine lv_iload_n hx hb dX6_spoons_12 rfl (lv_at hl 2 rfl) ?_
    refine lv_iconst (v := 2) hx hb dX6_spoons_13 (by decide) ?_
    refine callE (W.runV (As := [.int (nI i), .int 2]) (rest := [.int z]) ⟨hx, hb, hml, hown, hts⟩ (k_X6_laidAt2 l D cI cL cS b co gu kn fo sp ki pl ea to qu fd mo tr b1 tp tm so bg te wd va gd bo sz sh le im bf ik (nI i) (vp_in_nI (by omega) (by omega))) (cwV 2 hts gX6_spoons_X6_laidAt rfl rfl rfl (by decide +kernel) ⟨Nat.le_of_ble_eq_true rfl, Nat.le_of_ble_eq_true rfl⟩) ⟨PcR_fb, va_recv hK hP (ci := 4) (q0 := 0) rfl rfl, PcR_pre hP hK⟩ rfl rfl hl.1 rfl (lv_room (Nat.le_of_ble_eq_true rfl)) dX6_spoons_14 ⟨Nat.zero_le _, Nat.zero_le _⟩) ?_
    refine lv_iadd hx hb dX6_spoons_17 ?_
    refine lv_istore_n (lv' := [(1, .int (z + (sp (ix (nI i))))), (0, .ref (b 0)), (2, .int (nI i))]) hx hb dX6_spoons_18 rfl hl (by decide) rfl (fun ls hl => ?_)
    refine lv_iinc (v := nI (i + 1)) (lv' := [(2, .int (nI (i + 1))), (1, .int (z + (sp (ix (nI i))))), (0, .ref (b 0))]) hx hb dX6_spoons_19 hl (k := 2) rfl (nI_1 _) (by decide) rfl (fun ls hl => ?_)
    refine lv_goto (tgt := 4) hx hb dX6_spoons_22 (by decide) ?_
    exact ih (n - 1) (by omega) ((i + 1, (z + (sp (ix (nI i)))))) ls ⟨by omega, by rw [hi1, hix]; rfl, lv_sub hl [2, 1, 0] rfl⟩
