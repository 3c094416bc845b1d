set_option maxRecDepth 100000 in
set_option maxHeartbeats 4000000 in
theorem k_X1_above (l : Launch) (x0 : Int32) : Met l yX1_above wsX1_above { frames := 0, cells := 0, slots := 0, locals := 0 } (PcP [.int x0]) (vp_Si (fun r => r = sAbove x0)) 0 0 (fun _ => False) := by
  refine Met.ofW (cc := cX1_above) (maxL := 1) (ret := (some .int)) (by decide) rfl ?_
  intro p e s m args below meth c s₁ B hml hv
  obtain ⟨rfl, -⟩ := hv
  have hx := B.exec
  have hb := B.bytes
  have hr := B.returns
  have hts := atoms_spec (ws := wsX1_above) B.pre
  have hown : s.vm.findClass RX1 = some m.cls := findClass_of_methodNamed B.named
  have hlocks := B.notSynchronized
  have hl := lv_entry ([.int x0]) (n := 1) (Nat.le_of_ble_eq_true rfl)
  rw [lg_entry_eq]
  generalize (lg_sl ([.int x0]) ++ List.replicate (1 - (lg_sl ([.int x0])).length) Slot.unset).toArray = ls at hl ⊢
  have hl : lv_has ls 1 [(0, .int x0)] := hl
  refine lv_iload_n hx hb dX1_above_0 rfl (lv_at hl 0 rfl) ?_
  by_cases c_1 : x0 = 1
  · refine lv_tableIn (tgt := 36) hx hb dX1_above_1 (by rw [c_1]; decide) (by rw [c_1]; decide) (by rw [c_1]; rfl) (by decide) ?_
    refine lv_iconst (v := 0) hx hb dX1_above_36 (by decide) ?_
    exact W.iret hx hb hr (fun t ht hW => ⟨_, rfl, (by simp [sAbove, c_1]), ht⟩) (fun _ h => absurd h List.not_mem_nil) dX1_above_37
  by_cases c_2 : x0 = 2
  · refine lv_tableIn (tgt := 36) hx hb dX1_above_1 (by rw [c_2]; decide) (by rw [c_2]; decide) (by rw [c_2]; rfl) (by decide) ?_
    refine lv_iconst (v := 0) hx hb dX1_above_36 (by decide) ?_
    exact W.iret hx hb hr (fun t ht hW => ⟨_, rfl, (by simp [sAbove, c_2]), ht⟩) (fun _ h => absurd h List.not_mem_nil) dX1_above_37
  by_cases c_3 : x0 = 3
  · refine lv_tableIn (tgt := 36) hx hb dX1_above_1 (by rw [c_3]; decide) (by rw [c_3]; decide) (by rw [c_3]; rfl) (by decide) ?_
    refine lv_iconst (v := 0) hx hb dX1_above_36 (by decide) ?_
    exact W.iret hx hb hr (fun t ht hW => ⟨_, rfl, (by simp [sAbove, c_3]), ht⟩) (fun _ h => absurd h List.not_mem_nil) dX1_above_37
  by_cases c_4 : x0 = 4
  · refine lv_tableIn (tgt := 38) hx hb dX1_above_1 (by rw [c_4]; decide) (by rw [c_4]; decide) (by rw [c_4]; rfl) (by decide) ?_
    refine lv_iconst (v := 1) hx hb dX1_above_38 (by decide) ?_
    exact W.iret hx hb hr (fun t ht hW => ⟨_, rfl, (by simp [sAbove, c_4]), ht⟩) (fun _ h => absurd h List.not_mem_nil) dX1_above_39
  by_cases c_5 : x0 = 5
  · refine lv_tableIn (tgt := 40) hx hb dX1_above_1 (by rw [c_5]; decide) (by rw [c_5]; decide) (by rw [c_5]; rfl) (by decide) ?_
    refine lv_iconst (v := 2) hx hb dX1_above_40 (by decide) ?_
    exact W.iret hx hb hr (fun t ht hW => ⟨_, rfl, (by simp [sAbove, c_5]), ht⟩) (fun _ h => absurd h List.not_mem_nil) dX1_above_41
  refine lv_tableOut (tgt := 42) hx hb dX1_above_1 (by have := lv_neT c_1 (a := 1) rfl; have := lv_neT c_2 (a := 2) rfl; have := lv_neT c_3 (a := 3) rfl; have := lv_neT c_4 (a := 4) rfl; have := lv_neT c_5 (a := 5) rfl; omega) (by decide) ?_
  refine lv_iconst (v := (-1)) hx hb dX1_above_42 (by decide) ?_
  exact W.iret hx hb hr (fun t ht hW => ⟨_, rfl, (by simp [sAbove, c_1, c_2, c_3, c_4, c_5]), ht⟩) (fun _ h => absurd h List.not_mem_nil) dX1_above_43

set_option maxRecDepth 100000 in
set_option maxHeartbeats 4000000 in
theorem k_X1_feels (l : Launch) (x0 x1 x2 x3 x4 : Int32) : Met l yX1_feels wsX1_feels { frames := 0, cells := 0, slots := 0, locals := 0 } (PcP [.int x0, .int x1, .int x2, .int x3, .int x4]) (vp_Si (fun r => r = sFeel x0 x1 x2 x3 x4)) 0 0 (fun _ => False) := by
  refine Met.ofW (cc := cX1_feels) (maxL := 8) (ret := (some .int)) (by decide) rfl ?_
  intro p e s m args below meth c s₁ B hml hv
  obtain ⟨rfl, -⟩ := hv
  have hx := B.exec
  have hb := B.bytes
  have hr := B.returns
  have hts := atoms_spec (ws := wsX1_feels) B.pre
  have hown : s.vm.findClass RX1 = some m.cls := findClass_of_methodNamed B.named
  have hlocks := B.notSynchronized
  have hl := lv_entry ([.int x0, .int x1, .int x2, .int x3, .int x4]) (n := 8) (Nat.le_of_ble_eq_true rfl)
  rw [lg_entry_eq]
  generalize (lg_sl ([.int x0, .int x1, .int x2, .int x3, .int x4]) ++ List.replicate (8 - (lg_sl ([.int x0, .int x1, .int x2, .int x3, .int x4])).length) Slot.unset).toArray = ls at hl ⊢
  have hl : lv_has ls 8 [(0, .int x0), (1, .int x1), (2, .int x2), (3, .int x3), (4, .int x4)] := hl
  refine lv_iload_n hx hb dX1_feels_0 rfl (lv_at hl 1 rfl) ?_
  refine jn (fun v_1 : Int32 => v_1 = (if x1 = 0 then 2 else (-3) : Int32)) (fun v_1 => F0 m 10 ls [.int v_1]) (fun Jv_1 => ?_) (fun v_1 ev_1 => ?_)
  · skip
    refine lv_if_ne (tgt := 8) hx hb dX1_feels_1 (by decide) (fun c_2 => ?_) (fun c_2 => ?_)
    · skip
      refine lv_bipush (v := (-3)) hx hb dX1_feels_8 (by decide) ?_
      exact Jv_1 _ (by rw [if_neg c_2])
    · skip
      refine lv_iconst (v := 2) hx hb dX1_feels_4 (by decide) ?_
      refine lv_goto (tgt := 10) hx hb dX1_feels_5 (by decide) ?_
      exact Jv_1 _ (by rw [if_pos c_2])
  refine lv_iload_n hx hb dX1_feels_10 rfl (lv_at hl 2 rfl) ?_
  refine lv_iconst (v := 1) hx hb dX1_feels_11 (by decide) ?_
  refine jn (fun v_3 : Int32 => v_3 = (if x2 = 1 then (-4) else 0 : Int32)) (fun v_3 => F0 m 21 ls [.int v_3, .int v_1]) (fun Jv_3 => ?_) (fun v_3 ev_3 => ?_)
  · skip
    refine lv_icmp_ne (tgt := 20) hx hb dX1_feels_12 (by decide) (fun c_4 => ?_) (fun c_4 => ?_)
    · skip
      refine lv_iconst (v := 0) hx hb dX1_feels_20 (by decide) ?_
      exact Jv_3 _ (by rw [if_neg c_4])
    · skip
      refine lv_bipush (v := (-4)) hx hb dX1_feels_15 (by decide) ?_
      refine lv_goto (tgt := 21) hx hb dX1_feels_17 (by decide) ?_
      exact Jv_3 _ (by rw [if_pos c_4])
  refine lv_iadd hx hb dX1_feels_21 ?_
  refine lv_istore (lv' := [(5, .int (v_1 + v_3)), (0, .int x0), (1, .int x1), (2, .int x2), (3, .int x3), (4, .int x4)]) hx hb dX1_feels_22 hl (by decide) rfl (fun ls hl => ?_)
  refine lv_iload hx hb dX1_feels_24 (lv_at hl 0 rfl) ?_
  refine lv_iload_n hx hb dX1_feels_26 rfl (lv_at hl 4 rfl) ?_
  refine lv_isub hx hb dX1_feels_27 ?_
  refine lv_istore (lv' := [(6, .int ((v_1 + v_3) - x3)), (5, .int (v_1 + v_3)), (0, .int x0), (1, .int x1), (2, .int x2), (3, .int x3), (4, .int x4)]) hx hb dX1_feels_28 hl (by decide) rfl (fun ls hl => ?_)
  refine lv_iload hx hb dX1_feels_30 (lv_at hl 1 rfl) ?_
  refine lv_iload hx hb dX1_feels_32 (lv_at hl 6 rfl) ?_
  refine lv_iadd hx hb dX1_feels_34 ?_
  refine lv_istore (lv' := [(7, .int ((v_1 + v_3) + x4)), (6, .int ((v_1 + v_3) - x3)), (5, .int (v_1 + v_3)), (0, .int x0), (1, .int x1), (2, .int x2), (3, .int x3), (4, .int x4)]) hx hb dX1_feels_35 hl (by decide) rfl (fun ls hl => ?_)
  refine lv_iload_n hx hb dX1_feels_37 rfl (lv_at hl 3 rfl) ?_
  by_cases c_5 : x0 = 1
  · refine lv_tableIn (tgt := 72) hx hb dX1_feels_38 (by rw [c_5]; decide) (by rw [c_5]; decide) (by rw [c_5]; rfl) (by decide) ?_
    refine lv_iload hx hb dX1_feels_72 (lv_at hl 1 rfl) ?_
    exact W.iret hx hb hr (fun t ht hW => ⟨_, rfl, (by simp [sFeel, ev_1, ev_3, c_5]), ht⟩) (fun _ h => absurd h List.not_mem_nil) dX1_feels_74
  by_cases c_6 : x0 = 2
  · refine lv_tableIn (tgt := 75) hx hb dX1_feels_38 (by rw [c_6]; decide) (by rw [c_6]; decide) (by rw [c_6]; rfl) (by decide) ?_
    refine lv_iload hx hb dX1_feels_75 (lv_at hl 0 rfl) ?_
    exact W.iret hx hb hr (fun t ht hW => ⟨_, rfl, (by simp [sFeel, ev_1, ev_3, c_6]), ht⟩) (fun _ h => absurd h List.not_mem_nil) dX1_feels_77
  by_cases c_7 : x0 = 3
  · refine lv_tableIn (tgt := 78) hx hb dX1_feels_38 (by rw [c_7]; decide) (by rw [c_7]; decide) (by rw [c_7]; rfl) (by decide) ?_
    refine lv_iload_n hx hb dX1_feels_78 rfl (lv_at hl 4 rfl) ?_
    refine lv_if_ne (tgt := 94) hx hb dX1_feels_79 (by decide) (fun c_8 => ?_) (fun c_8 => ?_)
    · skip
      refine lv_bipush (v := (-2)) hx hb dX1_feels_94 (by decide) ?_
      refine lv_iload hx hb dX1_feels_96 (lv_at hl 7 rfl) ?_
      refine lv_imul hx hb dX1_feels_98 ?_
      exact W.iret hx hb hr (fun t ht hW => ⟨_, rfl, (by simp [sFeel, ev_1, ev_3, c_7, c_8]), ht⟩) (fun _ h => absurd h List.not_mem_nil) dX1_feels_99
    · skip
      refine lv_iload_n hx hb dX1_feels_82 rfl (lv_at hl 5 rfl) ?_
      refine lv_if_ne (tgt := 94) hx hb dX1_feels_83 (by decide) (fun c_9 => ?_) (fun c_9 => ?_)
      · skip
        refine lv_bipush (v := (-2)) hx hb dX1_feels_94 (by decide) ?_
        refine lv_iload hx hb dX1_feels_96 (lv_at hl 7 rfl) ?_
        refine lv_imul hx hb dX1_feels_98 ?_
        exact W.iret hx hb hr (fun t ht hW => ⟨_, rfl, (by simp [sFeel, ev_1, ev_3, c_7, c_8, c_9]), ht⟩) (fun _ h => absurd h List.not_mem_nil) dX1_feels_99
      · skip
        refine lv_iload_n hx hb dX1_feels_86 rfl (lv_at hl 6 rfl) ?_
        refine lv_if_ne (tgt := 94) hx hb dX1_feels_87 (by decide) (fun c_10 => ?_) (fun c_10 => ?_)
        · skip
          refine lv_bipush (v := (-2)) hx hb dX1_feels_94 (by decide) ?_
          refine lv_iload hx hb dX1_feels_96 (lv_at hl 7 rfl) ?_
          refine lv_imul hx hb dX1_feels_98 ?_
          exact W.iret hx hb hr (fun t ht hW => ⟨_, rfl, (by simp [sFeel, ev_1, ev_3, c_7, c_8, c_9, c_10]), ht⟩) (fun _ h => absurd h List.not_mem_nil) dX1_feels_99
        · skip
          refine lv_iconst (v := 1) hx hb dX1_feels_90 (by decide) ?_
          refine lv_goto (tgt := 99) hx hb dX1_feels_91 (by decide) ?_
          exact W.iret hx hb hr (fun t ht hW => ⟨_, rfl, (by simp [sFeel, ev_1, ev_3, c_7, c_8, c_9, c_10]), ht⟩) (fun _ h => absurd h List.not_mem_nil) dX1_feels_99
  by_cases c_11 : x0 = 4
  · refine lv_tableIn (tgt := 100) hx hb dX1_feels_38 (by rw [c_11]; decide) (by rw [c_11]; decide) (by rw [c_11]; rfl) (by decide) ?_
    refine lv_iload hx hb dX1_feels_100 (lv_at hl 7 rfl) ?_
    refine lv_iconst (v := 2) hx hb dX1_feels_102 (by decide) ?_
    refine lv_icmp_ne (tgt := 113) hx hb dX1_feels_103 (by decide) (fun c_12 => ?_) (fun c_12 => ?_)
    · skip
      refine lv_iload hx hb dX1_feels_113 (lv_at hl 1 rfl) ?_
      exact W.iret hx hb hr (fun t ht hW => ⟨_, rfl, (by simp [sFeel, ev_1, ev_3, c_11, c_12]), ht⟩) (fun _ h => absurd h List.not_mem_nil) dX1_feels_115
    · skip
      refine lv_iconst (v := 2) hx hb dX1_feels_106 (by decide) ?_
      refine lv_iload hx hb dX1_feels_107 (lv_at hl 1 rfl) ?_
      refine lv_imul hx hb dX1_feels_109 ?_
      refine lv_goto (tgt := 115) hx hb dX1_feels_110 (by decide) ?_
      exact W.iret hx hb hr (fun t ht hW => ⟨_, rfl, (by simp [sFeel, ev_1, ev_3, c_11, c_12]), ht⟩) (fun _ h => absurd h List.not_mem_nil) dX1_feels_115
  by_cases c_13 : x0 = 5
  · refine lv_tableIn (tgt := 116) hx hb dX1_feels_38 (by rw [c_13]; decide) (by rw [c_13]; decide) (by rw [c_13]; rfl) (by decide) ?_
    refine lv_iload_n hx hb dX1_feels_116 rfl (lv_at hl 5 rfl) ?_
    refine lv_iconst (v := 1) hx hb dX1_feels_117 (by decide) ?_
    refine lv_icmp_ne (tgt := 126) hx hb dX1_feels_118 (by decide) (fun c_14 => ?_) (fun c_14 => ?_)
    · skip
      refine lv_iload hx hb dX1_feels_126 (lv_at hl 0 rfl) ?_
      exact W.iret hx hb hr (fun t ht hW => ⟨_, rfl, (by simp [sFeel, ev_1, ev_3, c_13, c_14]), ht⟩) (fun _ h => absurd h List.not_mem_nil) dX1_feels_128
    · skip
      refine lv_bipush (v := (-9)) hx hb dX1_feels_121 (by decide) ?_
      refine lv_goto (tgt := 128) hx hb dX1_feels_123 (by decide) ?_
      exact W.iret hx hb hr (fun t ht hW => ⟨_, rfl, (by simp [sFeel, ev_1, ev_3, c_13, c_14]), ht⟩) (fun _ h => absurd h List.not_mem_nil) dX1_feels_128
  refine lv_tableOut (tgt := 129) hx hb dX1_feels_38 (by have := lv_neT c_5 (a := 1) rfl; have := lv_neT c_6 (a := 2) rfl; have := lv_neT c_7 (a := 3) rfl; have := lv_neT c_11 (a := 4) rfl; have := lv_neT c_13 (a := 5) rfl; omega) (by decide) ?_
  refine lv_iload hx hb dX1_feels_129 (lv_at hl 2 rfl) ?_
  exact W.iret hx hb hr (fun t ht hW => ⟨_, rfl, (by simp [sFeel, ev_1, ev_3, c_5, c_6, c_7, c_11, c_13]), ht⟩) (fun _ h => absurd h List.not_mem_nil) dX1_feels_131

set_option maxRecDepth 100000 in
set_option maxHeartbeats 4000000 in
theorem k_X1_catches (l : Launch) (x0 x1 x2 : Int32) : Met l yX1_catches wsX1_catches { frames := 0, cells := 0, slots := 0, locals := 0 } (PcP [.int x0, .int x1, .int x2]) (vp_Si (fun r => r = sCat x0 x1 x2)) 0 0 (fun _ => False) := by
  refine Met.ofW (cc := cX1_catches) (maxL := 5) (ret := (some .int)) (by decide) rfl ?_
  intro p e s m args below meth c s₁ B hml hv
  obtain ⟨rfl, -⟩ := hv
  have hx := B.exec
  have hb := B.bytes
  have hr := B.returns
  have hts := atoms_spec (ws := wsX1_catches) B.pre
  have hown : s.vm.findClass RX1 = some m.cls := findClass_of_methodNamed B.named
  have hlocks := B.notSynchronized
  have hl := lv_entry ([.int x0, .int x1, .int x2]) (n := 5) (Nat.le_of_ble_eq_true rfl)
  rw [lg_entry_eq]
  generalize (lg_sl ([.int x0, .int x1, .int x2]) ++ List.replicate (5 - (lg_sl ([.int x0, .int x1, .int x2])).length) Slot.unset).toArray = ls at hl ⊢
  have hl : lv_has ls 5 [(0, .int x0), (1, .int x1), (2, .int x2)] := hl
  refine lv_iload_n hx hb dX1_catches_0 rfl (lv_at hl 1 rfl) ?_
  refine lv_iconst (v := 1) hx hb dX1_catches_1 (by decide) ?_
  refine jn (fun v_1 : Int32 => v_1 = (if x1 = 1 then (-1) else 0 : Int32)) (fun v_1 => F0 m 10 ls [.int v_1]) (fun Jv_1 => ?_) (fun v_1 ev_1 => ?_)
  · skip
    refine lv_icmp_ne (tgt := 9) hx hb dX1_catches_2 (by decide) (fun c_2 => ?_) (fun c_2 => ?_)
    · skip
      refine lv_iconst (v := 0) hx hb dX1_catches_9 (by decide) ?_
      exact Jv_1 _ (by rw [if_neg c_2])
    · skip
      refine lv_iconst (v := (-1)) hx hb dX1_catches_5 (by decide) ?_
      refine lv_goto (tgt := 10) hx hb dX1_catches_6 (by decide) ?_
      exact Jv_1 _ (by rw [if_pos c_2])
  refine lv_istore_n (lv' := [(3, .int v_1), (0, .int x0), (1, .int x1), (2, .int x2)]) hx hb dX1_catches_10 rfl hl (by decide) rfl (fun ls hl => ?_)
  refine lv_iload_n hx hb dX1_catches_11 rfl (lv_at hl 0 rfl) ?_
  refine lv_iload_n hx hb dX1_catches_12 rfl (lv_at hl 3 rfl) ?_
  refine jn (fun v_3 : Int32 => v_3 = (if x2 = 0 then 1 else 0 : Int32)) (fun v_3 => F0 m 21 ls [.int v_3, .int v_1]) (fun Jv_3 => ?_) (fun v_3 ev_3 => ?_)
  · skip
    refine lv_if_ne (tgt := 20) hx hb dX1_catches_13 (by decide) (fun c_4 => ?_) (fun c_4 => ?_)
    · skip
      refine lv_iconst (v := 0) hx hb dX1_catches_20 (by decide) ?_
      exact Jv_3 _ (by rw [if_neg c_4])
    · skip
      refine lv_iconst (v := 1) hx hb dX1_catches_16 (by decide) ?_
      refine lv_goto (tgt := 21) hx hb dX1_catches_17 (by decide) ?_
      exact Jv_3 _ (by rw [if_pos c_4])
  refine lv_iadd hx hb dX1_catches_21 ?_
  refine lv_istore (lv' := [(4, .int (v_1 + v_3)), (3, .int v_1), (0, .int x0), (1, .int x1), (2, .int x2)]) hx hb dX1_catches_22 hl (by decide) rfl (fun ls hl => ?_)
  refine lv_iload_n hx hb dX1_catches_24 rfl (lv_at hl 2 rfl) ?_
  by_cases c_5 : x0 = 1
  · refine lv_tableIn (tgt := 60) hx hb dX1_catches_25 (by rw [c_5]; decide) (by rw [c_5]; decide) (by rw [c_5]; rfl) (by decide) ?_
    refine lv_iconst (v := 0) hx hb dX1_catches_60 (by decide) ?_
    exact W.iret hx hb hr (fun t ht hW => ⟨_, rfl, (by simp [sCat, ev_1, ev_3, c_5]), ht⟩) (fun _ h => absurd h List.not_mem_nil) dX1_catches_61
  by_cases c_6 : x0 = 2
  · refine lv_tableIn (tgt := 62) hx hb dX1_catches_25 (by rw [c_6]; decide) (by rw [c_6]; decide) (by rw [c_6]; rfl) (by decide) ?_
    refine lv_iload hx hb dX1_catches_62 (lv_at hl 0 rfl) ?_
    exact W.iret hx hb hr (fun t ht hW => ⟨_, rfl, (by simp [sCat, ev_1, ev_3, c_6]), ht⟩) (fun _ h => absurd h List.not_mem_nil) dX1_catches_64
  by_cases c_7 : x0 = 3
  · refine lv_tableIn (tgt := 65) hx hb dX1_catches_25 (by rw [c_7]; decide) (by rw [c_7]; decide) (by rw [c_7]; rfl) (by decide) ?_
    refine lv_iload_n hx hb dX1_catches_65 rfl (lv_at hl 4 rfl) ?_
    refine lv_iconst (v := 1) hx hb dX1_catches_66 (by decide) ?_
    refine lv_icmp_ne (tgt := 75) hx hb dX1_catches_67 (by decide) (fun c_8 => ?_) (fun c_8 => ?_)
    · skip
      refine lv_iconst (v := 0) hx hb dX1_catches_75 (by decide) ?_
      exact W.iret hx hb hr (fun t ht hW => ⟨_, rfl, (by simp [sCat, ev_1, ev_3, c_7, c_8]), ht⟩) (fun _ h => absurd h List.not_mem_nil) dX1_catches_76
    · skip
      refine lv_bipush (v := (-3)) hx hb dX1_catches_70 (by decide) ?_
      refine lv_goto (tgt := 76) hx hb dX1_catches_72 (by decide) ?_
      exact W.iret hx hb hr (fun t ht hW => ⟨_, rfl, (by simp [sCat, ev_1, ev_3, c_7, c_8]), ht⟩) (fun _ h => absurd h List.not_mem_nil) dX1_catches_76
  by_cases c_9 : x0 = 4
  · refine lv_tableIn (tgt := 60) hx hb dX1_catches_25 (by rw [c_9]; decide) (by rw [c_9]; decide) (by rw [c_9]; rfl) (by decide) ?_
    refine lv_iconst (v := 0) hx hb dX1_catches_60 (by decide) ?_
    exact W.iret hx hb hr (fun t ht hW => ⟨_, rfl, (by simp [sCat, ev_1, ev_3, c_9]), ht⟩) (fun _ h => absurd h List.not_mem_nil) dX1_catches_61
  by_cases c_10 : x0 = 5
  · refine lv_tableIn (tgt := 77) hx hb dX1_catches_25 (by rw [c_10]; decide) (by rw [c_10]; decide) (by rw [c_10]; rfl) (by decide) ?_
    refine lv_iconst (v := 2) hx hb dX1_catches_77 (by decide) ?_
    refine lv_iload hx hb dX1_catches_78 (lv_at hl 0 rfl) ?_
    refine lv_imul hx hb dX1_catches_80 ?_
    exact W.iret hx hb hr (fun t ht hW => ⟨_, rfl, (by simp [sCat, ev_1, ev_3, c_10]), ht⟩) (fun _ h => absurd h List.not_mem_nil) dX1_catches_81
  refine lv_tableOut (tgt := 82) hx hb dX1_catches_25 (by have := lv_neT c_5 (a := 1) rfl; have := lv_neT c_6 (a := 2) rfl; have := lv_neT c_7 (a := 3) rfl; have := lv_neT c_9 (a := 4) rfl; have := lv_neT c_10 (a := 5) rfl; omega) (by decide) ?_
  refine lv_iload_n hx hb dX1_catches_82 rfl (lv_at hl 1 rfl) ?_
  exact W.iret hx hb hr (fun t ht hW => ⟨_, rfl, (by simp [sCat, ev_1, ev_3, c_5, c_6, c_7, c_9, c_10]), ht⟩) (fun _ h => absurd h List.not_mem_nil) dX1_catches_83

set_option maxRecDepth 100000 in
set_option maxHeartbeats 4000000 in
theorem k_X1_tellsAt (l : Launch) (x0 x1 x2 : Int32) : Met l yX1_tellsAt wsX1_tellsAt { frames := 0, cells := 0, slots := 0, locals := 0 } (PcP [.int x0, .int x1, .int x2]) (vp_Si (fun r => r = bI (sTel x0 x1 x2))) 0 0 (fun _ => False) := by
  refine Met.ofW (cc := cX1_tellsAt) (maxL := 3) (ret := (some .boolean)) (by decide) rfl ?_
  intro p e s m args below meth c s₁ B hml hv
  obtain ⟨rfl, -⟩ := hv
  have hx := B.exec
  have hb := B.bytes
  have hr := B.returns
  have hts := atoms_spec (ws := wsX1_tellsAt) B.pre
  have hown : s.vm.findClass RX1 = some m.cls := findClass_of_methodNamed B.named
  have hlocks := B.notSynchronized
  have hl := lv_entry ([.int x0, .int x1, .int x2]) (n := 3) (Nat.le_of_ble_eq_true rfl)
  rw [lg_entry_eq]
  generalize (lg_sl ([.int x0, .int x1, .int x2]) ++ List.replicate (3 - (lg_sl ([.int x0, .int x1, .int x2])).length) Slot.unset).toArray = ls at hl ⊢
  have hl : lv_has ls 3 [(0, .int x0), (1, .int x1), (2, .int x2)] := hl
  refine lv_iload_n hx hb dX1_tellsAt_0 rfl (lv_at hl 0 rfl) ?_
  by_cases c_1 : x0 = 1
  · refine lv_tableIn (tgt := 36) hx hb dX1_tellsAt_1 (by rw [c_1]; decide) (by rw [c_1]; decide) (by rw [c_1]; rfl) (by decide) ?_
    refine lv_iload_n hx hb dX1_tellsAt_36 rfl (lv_at hl 1 rfl) ?_
    refine lv_if_le (tgt := 44) hx hb dX1_tellsAt_37 (by decide) (fun c_2 => ?_) (fun c_2 => ?_)
    · skip
      refine lv_iconst (v := 0) hx hb dX1_tellsAt_44 (by decide) ?_
      exact W.zret (ty := .boolean) hx hb hr rfl (fun t ht hW => ⟨_, rfl, (by exact (bI_f (by simp only [sTel, Int32.not_le, Int32.not_lt] at * <;> simp_all <;> try (intro h; exact absurd h (Int32.not_lt.mpr (by assumption))))).symm), ht⟩) (fun _ h => absurd h List.not_mem_nil) dX1_tellsAt_45
    · skip
      refine lv_iconst (v := 1) hx hb dX1_tellsAt_40 (by decide) ?_
      refine lv_goto (tgt := 45) hx hb dX1_tellsAt_41 (by decide) ?_
      exact W.zret (ty := .boolean) hx hb hr rfl (fun t ht hW => ⟨_, rfl, (by exact (bI_t (by simp only [sTel, Int32.not_le, Int32.not_lt] at * <;> simp_all <;> try (intro h; exact absurd h (Int32.not_lt.mpr (by assumption))))).symm), ht⟩) (fun _ h => absurd h List.not_mem_nil) dX1_tellsAt_45
  by_cases c_3 : x0 = 2
  · refine lv_tableIn (tgt := 73) hx hb dX1_tellsAt_1 (by rw [c_3]; decide) (by rw [c_3]; decide) (by rw [c_3]; rfl) (by decide) ?_
    refine lv_iload_n hx hb dX1_tellsAt_73 rfl (lv_at hl 2 rfl) ?_
    refine lv_bipush (v := 20) hx hb dX1_tellsAt_74 (by decide) ?_
    refine lv_icmp_lt (tgt := 83) hx hb dX1_tellsAt_76 (by decide) (fun c_4 => ?_) (fun c_4 => ?_)
    · skip
      refine lv_iconst (v := 0) hx hb dX1_tellsAt_83 (by decide) ?_
      exact W.zret (ty := .boolean) hx hb hr rfl (fun t ht hW => ⟨_, rfl, (by exact (bI_f (by simp only [sTel, Int32.not_le, Int32.not_lt] at * <;> simp_all <;> try (intro h; exact absurd h (Int32.not_lt.mpr (by assumption))))).symm), ht⟩) (fun _ h => absurd h List.not_mem_nil) dX1_tellsAt_84
    · skip
      refine lv_iconst (v := 1) hx hb dX1_tellsAt_79 (by decide) ?_
      refine lv_goto (tgt := 84) hx hb dX1_tellsAt_80 (by decide) ?_
      exact W.zret (ty := .boolean) hx hb hr rfl (fun t ht hW => ⟨_, rfl, (by exact (bI_t (by simp only [sTel, Int32.not_le, Int32.not_lt] at * <;> simp_all <;> try (intro h; exact absurd h (Int32.not_lt.mpr (by assumption))))).symm), ht⟩) (fun _ h => absurd h List.not_mem_nil) dX1_tellsAt_84
  by_cases c_5 : x0 = 3
  · refine lv_tableIn (tgt := 46) hx hb dX1_tellsAt_1 (by rw [c_5]; decide) (by rw [c_5]; decide) (by rw [c_5]; rfl) (by decide) ?_
    refine lv_iconst (v := 0) hx hb dX1_tellsAt_46 (by decide) ?_
    exact W.zret (ty := .boolean) hx hb hr rfl (fun t ht hW => ⟨_, rfl, (by exact (bI_f (by simp only [sTel, Int32.not_le, Int32.not_lt] at * <;> simp_all <;> try (intro h; exact absurd h (Int32.not_lt.mpr (by assumption))))).symm), ht⟩) (fun _ h => absurd h List.not_mem_nil) dX1_tellsAt_47
  by_cases c_6 : x0 = 4
  · refine lv_tableIn (tgt := 48) hx hb dX1_tellsAt_1 (by rw [c_6]; decide) (by rw [c_6]; decide) (by rw [c_6]; rfl) (by decide) ?_
    refine lv_iload_n hx hb dX1_tellsAt_48 rfl (lv_at hl 1 rfl) ?_
    refine lv_if_le (tgt := 60) hx hb dX1_tellsAt_49 (by decide) (fun c_7 => ?_) (fun c_7 => ?_)
    · skip
      refine lv_iconst (v := 0) hx hb dX1_tellsAt_60 (by decide) ?_
      exact W.zret (ty := .boolean) hx hb hr rfl (fun t ht hW => ⟨_, rfl, (by exact (bI_f (by simp only [sTel, Int32.not_le, Int32.not_lt] at * <;> simp_all <;> try (intro h; exact absurd h (Int32.not_lt.mpr (by assumption))))).symm), ht⟩) (fun _ h => absurd h List.not_mem_nil) dX1_tellsAt_61
    · skip
      refine lv_iload_n hx hb dX1_tellsAt_52 rfl (lv_at hl 2 rfl) ?_
      refine lv_if_ge (tgt := 60) hx hb dX1_tellsAt_53 (by decide) (fun c_8 => ?_) (fun c_8 => ?_)
      · skip
        refine lv_iconst (v := 0) hx hb dX1_tellsAt_60 (by decide) ?_
        exact W.zret (ty := .boolean) hx hb hr rfl (fun t ht hW => ⟨_, rfl, (by exact (bI_f (by simp only [sTel, Int32.not_le, Int32.not_lt] at * <;> simp_all <;> try (intro h; exact absurd h (Int32.not_lt.mpr (by assumption))))).symm), ht⟩) (fun _ h => absurd h List.not_mem_nil) dX1_tellsAt_61
      · skip
        refine lv_iconst (v := 1) hx hb dX1_tellsAt_56 (by decide) ?_
        refine lv_goto (tgt := 61) hx hb dX1_tellsAt_57 (by decide) ?_
        exact W.zret (ty := .boolean) hx hb hr rfl (fun t ht hW => ⟨_, rfl, (by exact (bI_t (by simp only [sTel, Int32.not_le, Int32.not_lt] at * <;> simp_all <;> try (intro h; exact absurd h (Int32.not_lt.mpr (by assumption))))).symm), ht⟩) (fun _ h => absurd h List.not_mem_nil) dX1_tellsAt_61
  by_cases c_9 : x0 = 5
  · refine lv_tableIn (tgt := 62) hx hb dX1_tellsAt_1 (by rw [c_9]; decide) (by rw [c_9]; decide) (by rw [c_9]; rfl) (by decide) ?_
    refine lv_iload_n hx hb dX1_tellsAt_62 rfl (lv_at hl 2 rfl) ?_
    refine lv_iconst (v := 5) hx hb dX1_tellsAt_63 (by decide) ?_
    refine lv_icmp_lt (tgt := 71) hx hb dX1_tellsAt_64 (by decide) (fun c_10 => ?_) (fun c_10 => ?_)
    · skip
      refine lv_iconst (v := 0) hx hb dX1_tellsAt_71 (by decide) ?_
      exact W.zret (ty := .boolean) hx hb hr rfl (fun t ht hW => ⟨_, rfl, (by exact (bI_f (by simp only [sTel, Int32.not_le, Int32.not_lt] at * <;> simp_all <;> try (intro h; exact absurd h (Int32.not_lt.mpr (by assumption))))).symm), ht⟩) (fun _ h => absurd h List.not_mem_nil) dX1_tellsAt_72
    · skip
      refine lv_iconst (v := 1) hx hb dX1_tellsAt_67 (by decide) ?_
      refine lv_goto (tgt := 72) hx hb dX1_tellsAt_68 (by decide) ?_
      exact W.zret (ty := .boolean) hx hb hr rfl (fun t ht hW => ⟨_, rfl, (by exact (bI_t (by simp only [sTel, Int32.not_le, Int32.not_lt] at * <;> simp_all <;> try (intro h; exact absurd h (Int32.not_lt.mpr (by assumption))))).symm), ht⟩) (fun _ h => absurd h List.not_mem_nil) dX1_tellsAt_72
  refine lv_tableOut (tgt := 73) hx hb dX1_tellsAt_1 (by have := lv_neT c_1 (a := 1) rfl; have := lv_neT c_3 (a := 2) rfl; have := lv_neT c_5 (a := 3) rfl; have := lv_neT c_6 (a := 4) rfl; have := lv_neT c_9 (a := 5) rfl; omega) (by decide) ?_
  refine lv_iload_n hx hb dX1_tellsAt_73 rfl (lv_at hl 2 rfl) ?_
  refine lv_bipush (v := 20) hx hb dX1_tellsAt_74 (by decide) ?_
  refine lv_icmp_lt (tgt := 83) hx hb dX1_tellsAt_76 (by decide) (fun c_11 => ?_) (fun c_11 => ?_)
  · skip
    refine lv_iconst (v := 0) hx hb dX1_tellsAt_83 (by decide) ?_
    exact W.zret (ty := .boolean) hx hb hr rfl (fun t ht hW => ⟨_, rfl, (by exact (bI_f (by simp only [sTel, Int32.not_le, Int32.not_lt] at * <;> simp_all <;> try (intro h; exact absurd h (Int32.not_lt.mpr (by assumption))))).symm), ht⟩) (fun _ h => absurd h List.not_mem_nil) dX1_tellsAt_84
  · skip
    refine lv_iconst (v := 1) hx hb dX1_tellsAt_79 (by decide) ?_
    refine lv_goto (tgt := 84) hx hb dX1_tellsAt_80 (by decide) ?_
    exact W.zret (ty := .boolean) hx hb hr rfl (fun t ht hW => ⟨_, rfl, (by exact (bI_t (by simp only [sTel, Int32.not_le, Int32.not_lt] at * <;> simp_all <;> try (intro h; exact absurd h (Int32.not_lt.mpr (by assumption))))).symm), ht⟩) (fun _ h => absurd h List.not_mem_nil) dX1_tellsAt_84

set_option maxRecDepth 100000 in
set_option maxHeartbeats 4000000 in
theorem k_X1_soreBelow (l : Launch) (x0 : Int32) : Met l yX1_soreBelow wsX1_soreBelow { frames := 0, cells := 0, slots := 0, locals := 0 } (PcP [.int x0]) (vp_Si (fun r => r = sSore x0)) 0 0 (fun _ => False) := by
  refine Met.ofW (cc := cX1_soreBelow) (maxL := 1) (ret := (some .int)) (by decide) rfl ?_
  intro p e s m args below meth c s₁ B hml hv
  obtain ⟨rfl, -⟩ := hv
  have hx := B.exec
  have hb := B.bytes
  have hr := B.returns
  have hts := atoms_spec (ws := wsX1_soreBelow) B.pre
  have hown : s.vm.findClass RX1 = some m.cls := findClass_of_methodNamed B.named
  have hlocks := B.notSynchronized
  have hl := lv_entry ([.int x0]) (n := 1) (Nat.le_of_ble_eq_true rfl)
  rw [lg_entry_eq]
  generalize (lg_sl ([.int x0]) ++ List.replicate (1 - (lg_sl ([.int x0])).length) Slot.unset).toArray = ls at hl ⊢
  have hl : lv_has ls 1 [(0, .int x0)] := hl
  refine lv_iload_n hx hb dX1_soreBelow_0 rfl (lv_at hl 0 rfl) ?_
  by_cases c_1 : x0 = 1
  · refine lv_tableIn (tgt := 36) hx hb dX1_soreBelow_1 (by rw [c_1]; decide) (by rw [c_1]; decide) (by rw [c_1]; rfl) (by decide) ?_
    refine lv_bipush (v := (-50)) hx hb dX1_soreBelow_36 (by decide) ?_
    exact W.iret hx hb hr (fun t ht hW => ⟨_, rfl, (by simp [sSore, c_1]), ht⟩) (fun _ h => absurd h List.not_mem_nil) dX1_soreBelow_38
  by_cases c_2 : x0 = 2
  · refine lv_tableIn (tgt := 39) hx hb dX1_soreBelow_1 (by rw [c_2]; decide) (by rw [c_2]; decide) (by rw [c_2]; rfl) (by decide) ?_
    refine lv_bipush (v := (-15)) hx hb dX1_soreBelow_39 (by decide) ?_
    exact W.iret hx hb hr (fun t ht hW => ⟨_, rfl, (by simp [sSore, c_2]), ht⟩) (fun _ h => absurd h List.not_mem_nil) dX1_soreBelow_41
  by_cases c_3 : x0 = 3
  · refine lv_tableIn (tgt := 42) hx hb dX1_soreBelow_1 (by rw [c_3]; decide) (by rw [c_3]; decide) (by rw [c_3]; rfl) (by decide) ?_
    refine lv_bipush (v := (-10)) hx hb dX1_soreBelow_42 (by decide) ?_
    exact W.iret hx hb hr (fun t ht hW => ⟨_, rfl, (by simp [sSore, c_3]), ht⟩) (fun _ h => absurd h List.not_mem_nil) dX1_soreBelow_44
  by_cases c_4 : x0 = 4
  · refine lv_tableIn (tgt := 36) hx hb dX1_soreBelow_1 (by rw [c_4]; decide) (by rw [c_4]; decide) (by rw [c_4]; rfl) (by decide) ?_
    refine lv_bipush (v := (-50)) hx hb dX1_soreBelow_36 (by decide) ?_
    exact W.iret hx hb hr (fun t ht hW => ⟨_, rfl, (by simp [sSore, c_4]), ht⟩) (fun _ h => absurd h List.not_mem_nil) dX1_soreBelow_38
  by_cases c_5 : x0 = 5
  · refine lv_tableIn (tgt := 45) hx hb dX1_soreBelow_1 (by rw [c_5]; decide) (by rw [c_5]; decide) (by rw [c_5]; rfl) (by decide) ?_
    refine lv_bipush (v := (-5)) hx hb dX1_soreBelow_45 (by decide) ?_
    exact W.iret hx hb hr (fun t ht hW => ⟨_, rfl, (by simp [sSore, c_5]), ht⟩) (fun _ h => absurd h List.not_mem_nil) dX1_soreBelow_47
  refine lv_tableOut (tgt := 48) hx hb dX1_soreBelow_1 (by have := lv_neT c_1 (a := 1) rfl; have := lv_neT c_2 (a := 2) rfl; have := lv_neT c_3 (a := 3) rfl; have := lv_neT c_4 (a := 4) rfl; have := lv_neT c_5 (a := 5) rfl; omega) (by decide) ?_
  refine lv_bipush (v := (-20)) hx hb dX1_soreBelow_48 (by decide) ?_
  exact W.iret hx hb hr (fun t ht hW => ⟨_, rfl, (by simp [sSore, c_1, c_2, c_3, c_4, c_5]), ht⟩) (fun _ h => absurd h List.not_mem_nil) dX1_soreBelow_50

set_option maxRecDepth 100000 in
set_option maxHeartbeats 4000000 in
theorem k_X1_isUnder (l : Launch) (x0 x1 : Int32) : Met l yX1_isUnder wsX1_isUnder { frames := 1, cells := 0, slots := 0, locals := 20 } (PcP [.int x0, .int x1]) (vp_Si (fun r => r = bI (sUp 6 x0 x1))) 0 0 (fun _ => False) := by
  refine Met.ofW (cc := cX1_isUnder) (maxL := 4) (ret := (some .boolean)) (by decide) rfl ?_
  intro p e s m args below meth c s₁ B hml hv
  obtain ⟨rfl, -⟩ := hv
  have hx := B.exec
  have hb := B.bytes
  have hr := B.returns
  have hts := atoms_spec (ws := wsX1_isUnder) B.pre
  have hown : s.vm.findClass RX1 = some m.cls := findClass_of_methodNamed B.named
  have hlocks := B.notSynchronized
  have hl := lv_entry ([.int x0, .int x1]) (n := 4) (Nat.le_of_ble_eq_true rfl)
  rw [lg_entry_eq]
  generalize (lg_sl ([.int x0, .int x1]) ++ List.replicate (4 - (lg_sl ([.int x0, .int x1])).length) Slot.unset).toArray = ls at hl ⊢
  have hl : lv_has ls 4 [(0, .int x0), (1, .int x1)] := hl
  refine lv_iload_n hx hb dX1_isUnder_0 rfl (lv_at hl 0 rfl) ?_
  refine lv_istore_n (lv' := [(2, .int x0), (0, .int x0), (1, .int x1)]) hx hb dX1_isUnder_1 rfl hl (by decide) rfl (fun ls hl => ?_)
  refine lv_iconst (v := 0) hx hb dX1_isUnder_2 (by decide) ?_
  refine lv_istore_n (lv' := [(3, .int 0), (2, .int x0), (0, .int x0), (1, .int x1)]) hx hb dX1_isUnder_3 rfl hl (by decide) rfl (fun ls hl => ?_)
  refine lpR (fun n (u : Nat × Int32) ls => (u.1 + n = 6) ∧ (sUp 6 x0 x1 ↔ sUp n u.2 x1) ∧ lv_has ls 4 [(0, .int x0), (1, .int x1), (2, .int u.2), (3, .int (nI u.1))]) (6) ((0, x0)) ⟨rfl, Iff.rfl, lv_sub hl [2, 3, 1, 0] rfl⟩ (fun n ih u ls hI => ?_)
  obtain ⟨i, up⟩ := u
  obtain ⟨hi0, hi1, hl⟩ := hI
  have hi0 : i + n = 6 := hi0
  have hi1 : sUp 6 x0 x1 ↔ sUp n up x1 := hi1
  have hl : lv_has ls 4 [(0, .int x0), (1, .int x1), (2, .int up), (3, .int (nI i))] := hl
  refine lv_iload_n hx hb dX1_isUnder_4 rfl (lv_at hl 3 rfl) ?_
  refine lv_bipush (v := 6) hx hb dX1_isUnder_5 (by decide) ?_
  refine lv_icmp_ge (tgt := 32) hx hb dX1_isUnder_7 (by decide) (fun c_1 => ?_) (fun c_1 => ?_)
  · skip
    have c_1n := (cmp_le (a := 6) (b := i) rfl rfl (by omega) (by omega)).mp c_1
    refine lv_iconst (v := 0) hx hb dX1_isUnder_32 (by decide) ?_
    exact W.zret (ty := .boolean) hx hb hr rfl (fun t ht hW => ⟨_, rfl, (by exact (bI_f (fun h => by have h := hi1.mp h; cases n with | zero => exact h | succ k => first | (exfalso; omega) | exact h.1 (by assumption))).symm), ht⟩) (fun _ h => absurd h List.not_mem_nil) dX1_isUnder_33
  · skip
    have c_1n := mt (cmp_le (a := 6) (b := i) rfl rfl (by omega) (by omega)).mpr c_1
    refine lv_iload_n hx hb dX1_isUnder_10 rfl (lv_at hl 2 rfl) ?_
    refine lv_if_lt (tgt := 32) hx hb dX1_isUnder_11 (by decide) (fun c_2 => ?_) (fun c_2 => ?_)
    · skip
      refine lv_iconst (v := 0) hx hb dX1_isUnder_32 (by decide) ?_
      exact W.zret (ty := .boolean) hx hb hr rfl (fun t ht hW => ⟨_, rfl, (by exact (bI_f (fun h => by have h := hi1.mp h; cases n with | zero => exact h | succ k => first | (exfalso; omega) | exact h.1 (by assumption))).symm), ht⟩) (fun _ h => absurd h List.not_mem_nil) dX1_isUnder_33
    · skip
      refine lv_iload_n hx hb dX1_isUnder_14 rfl (lv_at hl 2 rfl) ?_
      refine lv_iload_n hx hb dX1_isUnder_15 rfl (lv_at hl 1 rfl) ?_
      refine lv_icmp_ne (tgt := 21) hx hb dX1_isUnder_16 (by decide) (fun c_3 => ?_) (fun c_3 => ?_)
      · skip
        refine lv_iload_n hx hb dX1_isUnder_21 rfl (lv_at hl 2 rfl) ?_
        refine callE (W.runS (As := [.int up]) (rest := []) ⟨hx, hb, hml, hown, hts⟩ (k_X1_above l up) (va_cwS 1 hts gX1_isUnder_X1_above rfl rfl rfl (by decide +kernel) ⟨Nat.le_of_ble_eq_true rfl, Nat.le_of_ble_eq_true rfl⟩) ⟨PcP_fb, fun U _ _ => ⟨rfl, trivial⟩⟩ rfl rfl hl.1 rfl (lv_room (Nat.le_of_ble_eq_true rfl)) dX1_isUnder_22 ⟨Nat.zero_le _, Nat.zero_le _⟩) ?_
        refine lv_istore_n (lv' := [(2, .int (sAbove up)), (0, .int x0), (1, .int x1), (3, .int (nI i))]) hx hb dX1_isUnder_25 rfl hl (by decide) rfl (fun ls hl => ?_)
        refine lv_iinc (v := nI (i + 1)) (lv' := [(3, .int (nI (i + 1))), (2, .int (sAbove up)), (0, .int x0), (1, .int x1)]) hx hb dX1_isUnder_26 hl (k := 3) rfl (nI_1 _) (by decide) rfl (fun ls hl => ?_)
        refine lv_goto (tgt := 4) hx hb dX1_isUnder_29 (by decide) ?_
        exact ih (n - 1) (by omega) ((i + 1, sAbove up)) ls ⟨by omega, by obtain ⟨k, rfl⟩ : ∃ k, n = k + 1 := ⟨n - 1, by omega⟩; rw [hi1]; simp [sUp, c_1, c_2, c_3], lv_sub hl [2, 3, 1, 0] rfl⟩
      · skip
        refine lv_iconst (v := 1) hx hb dX1_isUnder_19 (by decide) ?_
        exact W.zret (ty := .boolean) hx hb hr rfl (fun t ht hW => ⟨_, rfl, (by obtain ⟨k, rfl⟩ : ∃ k, n = k + 1 := ⟨n - 1, by omega⟩; exact (bI_t (hi1.mpr ⟨c_2, Or.inl c_3⟩)).symm), ht⟩) (fun _ h => absurd h List.not_mem_nil) dX1_isUnder_20

set_option maxRecDepth 100000 in
set_option maxHeartbeats 4000000 in
theorem k_X3_bitOf (l : Launch) (x0 : Int32) : Met l yX3_bitOf wsX3_bitOf { frames := 0, cells := 0, slots := 0, locals := 0 } (PcP [.int x0]) (vp_Si (fun r => r = sBit x0)) 0 0 (fun _ => False) := by
  refine Met.ofW (cc := cX3_bitOf) (maxL := 1) (ret := (some .int)) (by decide) rfl ?_
  intro p e s m args below meth c s₁ B hml hv
  obtain ⟨rfl, -⟩ := hv
  have hx := B.exec
  have hb := B.bytes
  have hr := B.returns
  have hts := atoms_spec (ws := wsX3_bitOf) B.pre
  have hown : s.vm.findClass RX3 = some m.cls := findClass_of_methodNamed B.named
  have hlocks := B.notSynchronized
  have hl := lv_entry ([.int x0]) (n := 1) (Nat.le_of_ble_eq_true rfl)
  rw [lg_entry_eq]
  generalize (lg_sl ([.int x0]) ++ List.replicate (1 - (lg_sl ([.int x0])).length) Slot.unset).toArray = ls at hl ⊢
  have hl : lv_has ls 1 [(0, .int x0)] := hl
  refine lv_iload_n hx hb dX3_bitOf_0 rfl (lv_at hl 0 rfl) ?_
  refine lv_iconst (v := (-1)) hx hb dX3_bitOf_1 (by decide) ?_
  refine lv_icmp_ne (tgt := 9) hx hb dX3_bitOf_2 (by decide) (fun c_1 => ?_) (fun c_1 => ?_)
  · skip
    refine lv_iconst (v := 1) hx hb dX3_bitOf_9 (by decide) ?_
    refine lv_iload_n hx hb dX3_bitOf_10 rfl (lv_at hl 0 rfl) ?_
    refine lv_ishl hx hb dX3_bitOf_11 ?_
    exact W.iret hx hb hr (fun t ht hW => ⟨_, rfl, (by simp [sBit, c_1]), ht⟩) (fun _ h => absurd h List.not_mem_nil) dX3_bitOf_12
  · skip
    refine lv_iconst (v := 0) hx hb dX3_bitOf_5 (by decide) ?_
    refine lv_goto (tgt := 12) hx hb dX3_bitOf_6 (by decide) ?_
    exact W.iret hx hb hr (fun t ht hW => ⟨_, rfl, (by simp [sBit, c_1]), ht⟩) (fun _ h => absurd h List.not_mem_nil) dX3_bitOf_12

set_option maxRecDepth 100000 in
set_option maxHeartbeats 4000000 in
theorem k_X3_before (l : Launch) (x0 : Int32) : Met l yX3_before wsX3_before { frames := 0, cells := 0, slots := 0, locals := 0 } (PcP [.int x0]) (vp_Si (fun r => r = sBef x0)) 0 0 (fun _ => False) := by
  refine Met.ofW (cc := cX3_before) (maxL := 1) (ret := (some .int)) (by decide) rfl ?_
  intro p e s m args below meth c s₁ B hml hv
  obtain ⟨rfl, -⟩ := hv
  have hx := B.exec
  have hb := B.bytes
  have hr := B.returns
  have hts := atoms_spec (ws := wsX3_before) B.pre
  have hown : s.vm.findClass RX3 = some m.cls := findClass_of_methodNamed B.named
  have hlocks := B.notSynchronized
  have hl := lv_entry ([.int x0]) (n := 1) (Nat.le_of_ble_eq_true rfl)
  rw [lg_entry_eq]
  generalize (lg_sl ([.int x0]) ++ List.replicate (1 - (lg_sl ([.int x0])).length) Slot.unset).toArray = ls at hl ⊢
  have hl : lv_has ls 1 [(0, .int x0)] := hl
  refine lv_iload_n hx hb dX3_before_0 rfl (lv_at hl 0 rfl) ?_
  refine lv_if_ne (tgt := 9) hx hb dX3_before_1 (by decide) (fun c_1 => ?_) (fun c_1 => ?_)
  · skip
    refine lv_iload_n hx hb dX3_before_9 rfl (lv_at hl 0 rfl) ?_
    refine lv_iconst (v := 1) hx hb dX3_before_10 (by decide) ?_
    refine lv_isub hx hb dX3_before_11 ?_
    exact W.iret hx hb hr (fun t ht hW => ⟨_, rfl, (by simp [sBef, c_1]), ht⟩) (fun _ h => absurd h List.not_mem_nil) dX3_before_12
  · skip
    refine lv_bipush (v := 9) hx hb dX3_before_4 (by decide) ?_
    refine lv_goto (tgt := 12) hx hb dX3_before_6 (by decide) ?_
    exact W.iret hx hb hr (fun t ht hW => ⟨_, rfl, (by simp [sBef, c_1]), ht⟩) (fun _ h => absurd h List.not_mem_nil) dX3_before_12

set_option maxRecDepth 100000 in
set_option maxHeartbeats 4000000 in
theorem k_X3_behind (l : Launch) (x0 : Int32) : Met l yX3_behind wsX3_behind { frames := 0, cells := 0, slots := 0, locals := 0 } (PcP [.int x0]) (vp_Si (fun r => r = sBeh x0)) 0 0 (fun _ => False) := by
  refine Met.ofW (cc := cX3_behind) (maxL := 1) (ret := (some .int)) (by decide) rfl ?_
  intro p e s m args below meth c s₁ B hml hv
  obtain ⟨rfl, -⟩ := hv
  have hx := B.exec
  have hb := B.bytes
  have hr := B.returns
  have hts := atoms_spec (ws := wsX3_behind) B.pre
  have hown : s.vm.findClass RX3 = some m.cls := findClass_of_methodNamed B.named
  have hlocks := B.notSynchronized
  have hl := lv_entry ([.int x0]) (n := 1) (Nat.le_of_ble_eq_true rfl)
  rw [lg_entry_eq]
  generalize (lg_sl ([.int x0]) ++ List.replicate (1 - (lg_sl ([.int x0])).length) Slot.unset).toArray = ls at hl ⊢
  have hl : lv_has ls 1 [(0, .int x0)] := hl
  refine lv_iload_n hx hb dX3_behind_0 rfl (lv_at hl 0 rfl) ?_
  refine lv_bipush (v := 9) hx hb dX3_behind_1 (by decide) ?_
  refine lv_icmp_ne (tgt := 10) hx hb dX3_behind_3 (by decide) (fun c_1 => ?_) (fun c_1 => ?_)
  · skip
    refine lv_iload_n hx hb dX3_behind_10 rfl (lv_at hl 0 rfl) ?_
    refine lv_iconst (v := 1) hx hb dX3_behind_11 (by decide) ?_
    refine lv_iadd hx hb dX3_behind_12 ?_
    exact W.iret hx hb hr (fun t ht hW => ⟨_, rfl, (by simp [sBeh, c_1]), ht⟩) (fun _ h => absurd h List.not_mem_nil) dX3_behind_13
  · skip
    refine lv_iconst (v := 0) hx hb dX3_behind_6 (by decide) ?_
    refine lv_goto (tgt := 13) hx hb dX3_behind_7 (by decide) ?_
    exact W.iret hx hb hr (fun t ht hW => ⟨_, rfl, (by simp [sBeh, c_1]), ht⟩) (fun _ h => absurd h List.not_mem_nil) dX3_behind_13

set_option maxRecDepth 100000 in
set_option maxHeartbeats 4000000 in
theorem k_X5_within (l : Launch) (x0 x1 x2 : Int32) : Met l yX5_within wsX5_within { frames := 0, cells := 0, slots := 0, locals := 0 } (PcP [.int x0, .int x1, .int x2]) (vp_Si (fun r => r = bI (¬ x0 < x1 ∧ ¬ x2 < x0))) 0 0 (fun _ => False) := by
  refine Met.ofW (cc := cX5_within) (maxL := 3) (ret := (some .boolean)) (by decide) rfl ?_
  intro p e s m args below meth c s₁ B hml hv
  obtain ⟨rfl, -⟩ := hv
  have hx := B.exec
  have hb := B.bytes
  have hr := B.returns
  have hts := atoms_spec (ws := wsX5_within) B.pre
  have hown : s.vm.findClass RX5 = some m.cls := findClass_of_methodNamed B.named
  have hlocks := B.notSynchronized
  have hl := lv_entry ([.int x0, .int x1, .int x2]) (n := 3) (Nat.le_of_ble_eq_true rfl)
  rw [lg_entry_eq]
  generalize (lg_sl ([.int x0, .int x1, .int x2]) ++ List.replicate (3 - (lg_sl ([.int x0, .int x1, .int x2])).length) Slot.unset).toArray = ls at hl ⊢
  have hl : lv_has ls 3 [(0, .int x0), (1, .int x1), (2, .int x2)] := hl
  refine lv_iload_n hx hb dX5_within_0 rfl (lv_at hl 0 rfl) ?_
  refine lv_iload_n hx hb dX5_within_1 rfl (lv_at hl 1 rfl) ?_
  refine lv_icmp_lt (tgt := 14) hx hb dX5_within_2 (by decide) (fun c_1 => ?_) (fun c_1 => ?_)
  · skip
    refine lv_iconst (v := 0) hx hb dX5_within_14 (by decide) ?_
    exact W.zret (ty := .boolean) hx hb hr rfl (fun t ht hW => ⟨_, rfl, (by exact (bI_f (by simp [c_1])).symm), ht⟩) (fun _ h => absurd h List.not_mem_nil) dX5_within_15
  · skip
    refine lv_iload_n hx hb dX5_within_5 rfl (lv_at hl 0 rfl) ?_
    refine lv_iload_n hx hb dX5_within_6 rfl (lv_at hl 2 rfl) ?_
    refine lv_icmp_gt (tgt := 14) hx hb dX5_within_7 (by decide) (fun c_2 => ?_) (fun c_2 => ?_)
    · skip
      refine lv_iconst (v := 0) hx hb dX5_within_14 (by decide) ?_
      exact W.zret (ty := .boolean) hx hb hr rfl (fun t ht hW => ⟨_, rfl, (by exact (bI_f (by simp [c_1, c_2])).symm), ht⟩) (fun _ h => absurd h List.not_mem_nil) dX5_within_15
    · skip
      refine lv_iconst (v := 1) hx hb dX5_within_10 (by decide) ?_
      refine lv_goto (tgt := 15) hx hb dX5_within_11 (by decide) ?_
      exact W.zret (ty := .boolean) hx hb hr rfl (fun t ht hW => ⟨_, rfl, (by exact (bI_t (by simp [c_1, c_2])).symm), ht⟩) (fun _ h => absurd h List.not_mem_nil) dX5_within_15

set_option maxRecDepth 100000 in
set_option maxHeartbeats 4000000 in
theorem k_X5_isPlace (l : Launch) (x0 : Int32) : Met l yX5_isPlace wsX5_isPlace { frames := 0, cells := 0, slots := 0, locals := 0 } (PcP [.int x0]) (vp_Si (fun r => r = bI (vp_in x0 10))) 0 0 (fun _ => False) := by
  refine Met.ofW (cc := cX5_isPlace) (maxL := 1) (ret := (some .boolean)) (by decide) rfl ?_
  intro p e s m args below meth c s₁ B hml hv
  obtain ⟨rfl, -⟩ := hv
  have hx := B.exec
  have hb := B.bytes
  have hr := B.returns
  have hts := atoms_spec (ws := wsX5_isPlace) B.pre
  have hown : s.vm.findClass RX5 = some m.cls := findClass_of_methodNamed B.named
  have hlocks := B.notSynchronized
  have hl := lv_entry ([.int x0]) (n := 1) (Nat.le_of_ble_eq_true rfl)
  rw [lg_entry_eq]
  generalize (lg_sl ([.int x0]) ++ List.replicate (1 - (lg_sl ([.int x0])).length) Slot.unset).toArray = ls at hl ⊢
  have hl : lv_has ls 1 [(0, .int x0)] := hl
  refine lv_iload_n hx hb dX5_isPlace_0 rfl (lv_at hl 0 rfl) ?_
  refine lv_if_lt (tgt := 14) hx hb dX5_isPlace_1 (by decide) (fun c_1 => ?_) (fun c_1 => ?_)
  · skip
    refine lv_iconst (v := 0) hx hb dX5_isPlace_14 (by decide) ?_
    exact W.zret (ty := .boolean) hx hb hr rfl (fun t ht hW => ⟨_, rfl, (by exact (bI_f (fun h => by have h := (in_iff (by decide)).mp h; first | exact h.1 c_1 | exact h.2 c_1)).symm), ht⟩) (fun _ h => absurd h List.not_mem_nil) dX5_isPlace_15
  · skip
    refine lv_iload_n hx hb dX5_isPlace_4 rfl (lv_at hl 0 rfl) ?_
    refine lv_bipush (v := 10) hx hb dX5_isPlace_5 (by decide) ?_
    refine lv_icmp_ge (tgt := 14) hx hb dX5_isPlace_7 (by decide) (fun c_2 => ?_) (fun c_2 => ?_)
    · skip
      refine lv_iconst (v := 0) hx hb dX5_isPlace_14 (by decide) ?_
      exact W.zret (ty := .boolean) hx hb hr rfl (fun t ht hW => ⟨_, rfl, (by exact (bI_f (fun h => by have h := (in_iff (by decide)).mp h; first | exact h.1 c_2 | exact h.2 c_2)).symm), ht⟩) (fun _ h => absurd h List.not_mem_nil) dX5_isPlace_15
    · skip
      refine lv_iconst (v := 1) hx hb dX5_isPlace_10 (by decide) ?_
      refine lv_goto (tgt := 15) hx hb dX5_isPlace_11 (by decide) ?_
      exact W.zret (ty := .boolean) hx hb hr rfl (fun t ht hW => ⟨_, rfl, (by exact (bI_t (in_of (by decide) c_1 c_2)).symm), ht⟩) (fun _ h => absurd h List.not_mem_nil) dX5_isPlace_15

set_option maxRecDepth 100000 in
set_option maxHeartbeats 4000000 in
theorem k_X5_isKind (l : Launch) (x0 : Int32) : Met l yX5_isKind wsX5_isKind { frames := 0, cells := 0, slots := 0, locals := 0 } (PcP [.int x0]) (vp_Si (fun r => r = bI (vp_in x0 6))) 0 0 (fun _ => False) := by
  refine Met.ofW (cc := cX5_isKind) (maxL := 1) (ret := (some .boolean)) (by decide) rfl ?_
  intro p e s m args below meth c s₁ B hml hv
  obtain ⟨rfl, -⟩ := hv
  have hx := B.exec
  have hb := B.bytes
  have hr := B.returns
  have hts := atoms_spec (ws := wsX5_isKind) B.pre
  have hown : s.vm.findClass RX5 = some m.cls := findClass_of_methodNamed B.named
  have hlocks := B.notSynchronized
  have hl := lv_entry ([.int x0]) (n := 1) (Nat.le_of_ble_eq_true rfl)
  rw [lg_entry_eq]
  generalize (lg_sl ([.int x0]) ++ List.replicate (1 - (lg_sl ([.int x0])).length) Slot.unset).toArray = ls at hl ⊢
  have hl : lv_has ls 1 [(0, .int x0)] := hl
  refine lv_iload_n hx hb dX5_isKind_0 rfl (lv_at hl 0 rfl) ?_
  refine lv_if_lt (tgt := 14) hx hb dX5_isKind_1 (by decide) (fun c_1 => ?_) (fun c_1 => ?_)
  · skip
    refine lv_iconst (v := 0) hx hb dX5_isKind_14 (by decide) ?_
    exact W.zret (ty := .boolean) hx hb hr rfl (fun t ht hW => ⟨_, rfl, (by exact (bI_f (fun h => by have h := (in_iff (by decide)).mp h; first | exact h.1 c_1 | exact h.2 c_1)).symm), ht⟩) (fun _ h => absurd h List.not_mem_nil) dX5_isKind_15
  · skip
    refine lv_iload_n hx hb dX5_isKind_4 rfl (lv_at hl 0 rfl) ?_
    refine lv_bipush (v := 6) hx hb dX5_isKind_5 (by decide) ?_
    refine lv_icmp_ge (tgt := 14) hx hb dX5_isKind_7 (by decide) (fun c_2 => ?_) (fun c_2 => ?_)
    · skip
      refine lv_iconst (v := 0) hx hb dX5_isKind_14 (by decide) ?_
      exact W.zret (ty := .boolean) hx hb hr rfl (fun t ht hW => ⟨_, rfl, (by exact (bI_f (fun h => by have h := (in_iff (by decide)).mp h; first | exact h.1 c_2 | exact h.2 c_2)).symm), ht⟩) (fun _ h => absurd h List.not_mem_nil) dX5_isKind_15
    · skip
      refine lv_iconst (v := 1) hx hb dX5_isKind_10 (by decide) ?_
      refine lv_goto (tgt := 15) hx hb dX5_isKind_11 (by decide) ?_
      exact W.zret (ty := .boolean) hx hb hr rfl (fun t ht hW => ⟨_, rfl, (by exact (bI_t (in_of (by decide) c_1 c_2)).symm), ht⟩) (fun _ h => absurd h List.not_mem_nil) dX5_isKind_15

set_option maxRecDepth 100000 in
set_option maxHeartbeats 4000000 in
theorem k_X5_isSheet (l : Launch) (x0 : Int32) : Met l yX5_isSheet wsX5_isSheet { frames := 0, cells := 0, slots := 0, locals := 0 } (PcP [.int x0]) (vp_Si (fun r => r = bI (vp_in x0 4))) 0 0 (fun _ => False) := by
  refine Met.ofW (cc := cX5_isSheet) (maxL := 1) (ret := (some .boolean)) (by decide) rfl ?_
  intro p e s m args below meth c s₁ B hml hv
  obtain ⟨rfl, -⟩ := hv
  have hx := B.exec
  have hb := B.bytes
  have hr := B.returns
  have hts := atoms_spec (ws := wsX5_isSheet) B.pre
  have hown : s.vm.findClass RX5 = some m.cls := findClass_of_methodNamed B.named
  have hlocks := B.notSynchronized
  have hl := lv_entry ([.int x0]) (n := 1) (Nat.le_of_ble_eq_true rfl)
  rw [lg_entry_eq]
  generalize (lg_sl ([.int x0]) ++ List.replicate (1 - (lg_sl ([.int x0])).length) Slot.unset).toArray = ls at hl ⊢
  have hl : lv_has ls 1 [(0, .int x0)] := hl
  refine lv_iload_n hx hb dX5_isSheet_0 rfl (lv_at hl 0 rfl) ?_
  refine lv_if_lt (tgt := 13) hx hb dX5_isSheet_1 (by decide) (fun c_1 => ?_) (fun c_1 => ?_)
  · skip
    refine lv_iconst (v := 0) hx hb dX5_isSheet_13 (by decide) ?_
    exact W.zret (ty := .boolean) hx hb hr rfl (fun t ht hW => ⟨_, rfl, (by exact (bI_f (fun h => by have h := (in_iff (by decide)).mp h; first | exact h.1 c_1 | exact h.2 c_1)).symm), ht⟩) (fun _ h => absurd h List.not_mem_nil) dX5_isSheet_14
  · skip
    refine lv_iload_n hx hb dX5_isSheet_4 rfl (lv_at hl 0 rfl) ?_
    refine lv_iconst (v := 4) hx hb dX5_isSheet_5 (by decide) ?_
    refine lv_icmp_ge (tgt := 13) hx hb dX5_isSheet_6 (by decide) (fun c_2 => ?_) (fun c_2 => ?_)
    · skip
      refine lv_iconst (v := 0) hx hb dX5_isSheet_13 (by decide) ?_
      exact W.zret (ty := .boolean) hx hb hr rfl (fun t ht hW => ⟨_, rfl, (by exact (bI_f (fun h => by have h := (in_iff (by decide)).mp h; first | exact h.1 c_2 | exact h.2 c_2)).symm), ht⟩) (fun _ h => absurd h List.not_mem_nil) dX5_isSheet_14
    · skip
      refine lv_iconst (v := 1) hx hb dX5_isSheet_9 (by decide) ?_
      refine lv_goto (tgt := 14) hx hb dX5_isSheet_10 (by decide) ?_
      exact W.zret (ty := .boolean) hx hb hr rfl (fun t ht hW => ⟨_, rfl, (by exact (bI_t (in_of (by decide) c_1 c_2)).symm), ht⟩) (fun _ h => absurd h List.not_mem_nil) dX5_isSheet_14

set_option maxRecDepth 100000 in
set_option maxHeartbeats 4000000 in
theorem k_J6_bitCount_0f7a4 (l : Launch) (x0 : Int32) : Met l yJ6_bitCount_0f7a4 wsJ6_bitCount_0f7a4 { frames := 0, cells := 0, slots := 0, locals := 0 } (PcP [.int x0]) (vp_Si (fun r => r = pop32 x0)) 0 0 (fun _ => False) := by
  refine Met.ofW (cc := cJ6_bitCount_0f7a4) (maxL := 1) (ret := (some .int)) (by decide) rfl ?_
  intro p e s m args below meth c s₁ B hml hv
  obtain ⟨rfl, -⟩ := hv
  have hx := B.exec
  have hb := B.bytes
  have hr := B.returns
  have hts := atoms_spec (ws := wsJ6_bitCount_0f7a4) B.pre
  have hown : s.vm.findClass RJ6 = some m.cls := findClass_of_methodNamed B.named
  have hlocks := B.notSynchronized
  have hl := lv_entry ([.int x0]) (n := 1) (Nat.le_of_ble_eq_true rfl)
  rw [lg_entry_eq]
  generalize (lg_sl ([.int x0]) ++ List.replicate (1 - (lg_sl ([.int x0])).length) Slot.unset).toArray = ls at hl ⊢
  have hl : lv_has ls 1 [(0, .int x0)] := hl
  have k265 := hts (.constant RJ6 265 (1431655765)) (List.mem_of_getElem? (i := 1) rfl)
  have k266 := hts (.constant RJ6 266 (858993459)) (List.mem_of_getElem? (i := 2) rfl)
  have k267 := hts (.constant RJ6 267 (252645135)) (List.mem_of_getElem? (i := 3) rfl)
  refine lv_iload_n hx hb dJ6_bitCount_0f7a4_0 rfl (lv_at hl 0 rfl) ?_
  refine lv_iload_n hx hb dJ6_bitCount_0f7a4_1 rfl (lv_at hl 0 rfl) ?_
  refine lv_iconst (v := 1) hx hb dJ6_bitCount_0f7a4_2 (by decide) ?_
  refine lv_iushr (v := ((x0.toUInt32 >>> ((1 : Int32).toUInt32 &&& Int32.toUInt32 31)).toInt32)) hx hb dJ6_bitCount_0f7a4_3 rfl ?_
  refine lv_ldcw hx hb hown k265 dJ6_bitCount_0f7a4_4 ?_
  refine lv_iand hx hb dJ6_bitCount_0f7a4_7 ?_
  refine lv_isub hx hb dJ6_bitCount_0f7a4_8 ?_
  refine lv_istore_n (lv' := [(0, .int (x0 - (((x0.toUInt32 >>> ((1 : Int32).toUInt32 &&& Int32.toUInt32 31)).toInt32) &&& 1431655765)))]) hx hb dJ6_bitCount_0f7a4_9 rfl hl (by decide) rfl (fun ls hl => ?_)
  refine lv_iload_n hx hb dJ6_bitCount_0f7a4_10 rfl (lv_at hl 0 rfl) ?_
  refine lv_ldcw hx hb hown k266 dJ6_bitCount_0f7a4_11 ?_
  refine lv_iand hx hb dJ6_bitCount_0f7a4_14 ?_
  refine lv_iload_n hx hb dJ6_bitCount_0f7a4_15 rfl (lv_at hl 0 rfl) ?_
  refine lv_iconst (v := 2) hx hb dJ6_bitCount_0f7a4_16 (by decide) ?_
  refine lv_iushr (v := (((x0 - (((x0.toUInt32 >>> ((1 : Int32).toUInt32 &&& Int32.toUInt32 31)).toInt32) &&& 1431655765)).toUInt32 >>> ((2 : Int32).toUInt32 &&& Int32.toUInt32 31)).toInt32)) hx hb dJ6_bitCount_0f7a4_17 rfl ?_
  refine lv_ldcw hx hb hown k266 dJ6_bitCount_0f7a4_18 ?_
  refine lv_iand hx hb dJ6_bitCount_0f7a4_21 ?_
  refine lv_iadd hx hb dJ6_bitCount_0f7a4_22 ?_
  refine lv_istore_n (lv' := [(0, .int (((x0 - (((x0.toUInt32 >>> ((1 : Int32).toUInt32 &&& Int32.toUInt32 31)).toInt32) &&& 1431655765)) &&& 858993459) + ((((x0 - (((x0.toUInt32 >>> ((1 : Int32).toUInt32 &&& Int32.toUInt32 31)).toInt32) &&& 1431655765)).toUInt32 >>> ((2 : Int32).toUInt32 &&& Int32.toUInt32 31)).toInt32) &&& 858993459)))]) hx hb dJ6_bitCount_0f7a4_23 rfl hl (by decide) rfl (fun ls hl => ?_)
  refine lv_iload_n hx hb dJ6_bitCount_0f7a4_24 rfl (lv_at hl 0 rfl) ?_
  refine lv_iload_n hx hb dJ6_bitCount_0f7a4_25 rfl (lv_at hl 0 rfl) ?_
  refine lv_iconst (v := 4) hx hb dJ6_bitCount_0f7a4_26 (by decide) ?_
  refine lv_iushr (v := (((((x0 - (((x0.toUInt32 >>> ((1 : Int32).toUInt32 &&& Int32.toUInt32 31)).toInt32) &&& 1431655765)) &&& 858993459) + ((((x0 - (((x0.toUInt32 >>> ((1 : Int32).toUInt32 &&& Int32.toUInt32 31)).toInt32) &&& 1431655765)).toUInt32 >>> ((2 : Int32).toUInt32 &&& Int32.toUInt32 31)).toInt32) &&& 858993459)).toUInt32 >>> ((4 : Int32).toUInt32 &&& Int32.toUInt32 31)).toInt32)) hx hb dJ6_bitCount_0f7a4_27 rfl ?_
  refine lv_iadd hx hb dJ6_bitCount_0f7a4_28 ?_
  refine lv_ldcw hx hb hown k267 dJ6_bitCount_0f7a4_29 ?_
  refine lv_iand hx hb dJ6_bitCount_0f7a4_32 ?_
  refine lv_istore_n (lv' := [(0, .int (((((x0 - (((x0.toUInt32 >>> ((1 : Int32).toUInt32 &&& Int32.toUInt32 31)).toInt32) &&& 1431655765)) &&& 858993459) + ((((x0 - (((x0.toUInt32 >>> ((1 : Int32).toUInt32 &&& Int32.toUInt32 31)).toInt32) &&& 1431655765)).toUInt32 >>> ((2 : Int32).toUInt32 &&& Int32.toUInt32 31)).toInt32) &&& 858993459)) + (((((x0 - (((x0.toUInt32 >>> ((1 : Int32).toUInt32 &&& Int32.toUInt32 31)).toInt32) &&& 1431655765)) &&& 858993459) + ((((x0 - (((x0.toUInt32 >>> ((1 : Int32).toUInt32 &&& Int32.toUInt32 31)).toInt32) &&& 1431655765)).toUInt32 >>> ((2 : Int32).toUInt32 &&& Int32.toUInt32 31)).toInt32) &&& 858993459)).toUInt32 >>> ((4 : Int32).toUInt32 &&& Int32.toUInt32 31)).toInt32)) &&& 252645135))]) hx hb dJ6_bitCount_0f7a4_33 rfl hl (by decide) rfl (fun ls hl => ?_)
  refine lv_iload_n hx hb dJ6_bitCount_0f7a4_34 rfl (lv_at hl 0 rfl) ?_
  refine lv_iload_n hx hb dJ6_bitCount_0f7a4_35 rfl (lv_at hl 0 rfl) ?_
  refine lv_bipush (v := 8) hx hb dJ6_bitCount_0f7a4_36 (by decide) ?_
  refine lv_iushr (v := (((((((x0 - (((x0.toUInt32 >>> ((1 : Int32).toUInt32 &&& Int32.toUInt32 31)).toInt32) &&& 1431655765)) &&& 858993459) + ((((x0 - (((x0.toUInt32 >>> ((1 : Int32).toUInt32 &&& Int32.toUInt32 31)).toInt32) &&& 1431655765)).toUInt32 >>> ((2 : Int32).toUInt32 &&& Int32.toUInt32 31)).toInt32) &&& 858993459)) + (((((x0 - (((x0.toUInt32 >>> ((1 : Int32).toUInt32 &&& Int32.toUInt32 31)).toInt32) &&& 1431655765)) &&& 858993459) + ((((x0 - (((x0.toUInt32 >>> ((1 : Int32).toUInt32 &&& Int32.toUInt32 31)).toInt32) &&& 1431655765)).toUInt32 >>> ((2 : Int32).toUInt32 &&& Int32.toUInt32 31)).toInt32) &&& 858993459)).toUInt32 >>> ((4 : Int32).toUInt32 &&& Int32.toUInt32 31)).toInt32)) &&& 252645135).toUInt32 >>> ((8 : Int32).toUInt32 &&& Int32.toUInt32 31)).toInt32)) hx hb dJ6_bitCount_0f7a4_38 rfl ?_
  refine lv_iadd hx hb dJ6_bitCount_0f7a4_39 ?_
  refine lv_istore_n (lv' := [(0, .int ((((((x0 - (((x0.toUInt32 >>> ((1 : Int32).toUInt32 &&& Int32.toUInt32 31)).toInt32) &&& 1431655765)) &&& 858993459) + ((((x0 - (((x0.toUInt32 >>> ((1 : Int32).toUInt32 &&& Int32.toUInt32 31)).toInt32) &&& 1431655765)).toUInt32 >>> ((2 : Int32).toUInt32 &&& Int32.toUInt32 31)).toInt32) &&& 858993459)) + (((((x0 - (((x0.toUInt32 >>> ((1 : Int32).toUInt32 &&& Int32.toUInt32 31)).toInt32) &&& 1431655765)) &&& 858993459) + ((((x0 - (((x0.toUInt32 >>> ((1 : Int32).toUInt32 &&& Int32.toUInt32 31)).toInt32) &&& 1431655765)).toUInt32 >>> ((2 : Int32).toUInt32 &&& Int32.toUInt32 31)).toInt32) &&& 858993459)).toUInt32 >>> ((4 : Int32).toUInt32 &&& Int32.toUInt32 31)).toInt32)) &&& 252645135) + (((((((x0 - (((x0.toUInt32 >>> ((1 : Int32).toUInt32 &&& Int32.toUInt32 31)).toInt32) &&& 1431655765)) &&& 858993459) + ((((x0 - (((x0.toUInt32 >>> ((1 : Int32).toUInt32 &&& Int32.toUInt32 31)).toInt32) &&& 1431655765)).toUInt32 >>> ((2 : Int32).toUInt32 &&& Int32.toUInt32 31)).toInt32) &&& 858993459)) + (((((x0 - (((x0.toUInt32 >>> ((1 : Int32).toUInt32 &&& Int32.toUInt32 31)).toInt32) &&& 1431655765)) &&& 858993459) + ((((x0 - (((x0.toUInt32 >>> ((1 : Int32).toUInt32 &&& Int32.toUInt32 31)).toInt32) &&& 1431655765)).toUInt32 >>> ((2 : Int32).toUInt32 &&& Int32.toUInt32 31)).toInt32) &&& 858993459)).toUInt32 >>> ((4 : Int32).toUInt32 &&& Int32.toUInt32 31)).toInt32)) &&& 252645135).toUInt32 >>> ((8 : Int32).toUInt32 &&& Int32.toUInt32 31)).toInt32)))]) hx hb dJ6_bitCount_0f7a4_40 rfl hl (by decide) rfl (fun ls hl => ?_)
  refine lv_iload_n hx hb dJ6_bitCount_0f7a4_41 rfl (lv_at hl 0 rfl) ?_
  refine lv_iload_n hx hb dJ6_bitCount_0f7a4_42 rfl (lv_at hl 0 rfl) ?_
  refine lv_bipush (v := 16) hx hb dJ6_bitCount_0f7a4_43 (by decide) ?_
  refine lv_iushr (v := ((((((((x0 - (((x0.toUInt32 >>> ((1 : Int32).toUInt32 &&& Int32.toUInt32 31)).toInt32) &&& 1431655765)) &&& 858993459) + ((((x0 - (((x0.toUInt32 >>> ((1 : Int32).toUInt32 &&& Int32.toUInt32 31)).toInt32) &&& 1431655765)).toUInt32 >>> ((2 : Int32).toUInt32 &&& Int32.toUInt32 31)).toInt32) &&& 858993459)) + (((((x0 - (((x0.toUInt32 >>> ((1 : Int32).toUInt32 &&& Int32.toUInt32 31)).toInt32) &&& 1431655765)) &&& 858993459) + ((((x0 - (((x0.toUInt32 >>> ((1 : Int32).toUInt32 &&& Int32.toUInt32 31)).toInt32) &&& 1431655765)).toUInt32 >>> ((2 : Int32).toUInt32 &&& Int32.toUInt32 31)).toInt32) &&& 858993459)).toUInt32 >>> ((4 : Int32).toUInt32 &&& Int32.toUInt32 31)).toInt32)) &&& 252645135) + (((((((x0 - (((x0.toUInt32 >>> ((1 : Int32).toUInt32 &&& Int32.toUInt32 31)).toInt32) &&& 1431655765)) &&& 858993459) + ((((x0 - (((x0.toUInt32 >>> ((1 : Int32).toUInt32 &&& Int32.toUInt32 31)).toInt32) &&& 1431655765)).toUInt32 >>> ((2 : Int32).toUInt32 &&& Int32.toUInt32 31)).toInt32) &&& 858993459)) + (((((x0 - (((x0.toUInt32 >>> ((1 : Int32).toUInt32 &&& Int32.toUInt32 31)).toInt32) &&& 1431655765)) &&& 858993459) + ((((x0 - (((x0.toUInt32 >>> ((1 : Int32).toUInt32 &&& Int32.toUInt32 31)).toInt32) &&& 1431655765)).toUInt32 >>> ((2 : Int32).toUInt32 &&& Int32.toUInt32 31)).toInt32) &&& 858993459)).toUInt32 >>> ((4 : Int32).toUInt32 &&& Int32.toUInt32 31)).toInt32)) &&& 252645135).toUInt32 >>> ((8 : Int32).toUInt32 &&& Int32.toUInt32 31)).toInt32)).toUInt32 >>> ((16 : Int32).toUInt32 &&& Int32.toUInt32 31)).toInt32)) hx hb dJ6_bitCount_0f7a4_45 rfl ?_
  refine lv_iadd hx hb dJ6_bitCount_0f7a4_46 ?_
  refine lv_istore_n (lv' := [(0, .int (((((((x0 - (((x0.toUInt32 >>> ((1 : Int32).toUInt32 &&& Int32.toUInt32 31)).toInt32) &&& 1431655765)) &&& 858993459) + ((((x0 - (((x0.toUInt32 >>> ((1 : Int32).toUInt32 &&& Int32.toUInt32 31)).toInt32) &&& 1431655765)).toUInt32 >>> ((2 : Int32).toUInt32 &&& Int32.toUInt32 31)).toInt32) &&& 858993459)) + (((((x0 - (((x0.toUInt32 >>> ((1 : Int32).toUInt32 &&& Int32.toUInt32 31)).toInt32) &&& 1431655765)) &&& 858993459) + ((((x0 - (((x0.toUInt32 >>> ((1 : Int32).toUInt32 &&& Int32.toUInt32 31)).toInt32) &&& 1431655765)).toUInt32 >>> ((2 : Int32).toUInt32 &&& Int32.toUInt32 31)).toInt32) &&& 858993459)).toUInt32 >>> ((4 : Int32).toUInt32 &&& Int32.toUInt32 31)).toInt32)) &&& 252645135) + (((((((x0 - (((x0.toUInt32 >>> ((1 : Int32).toUInt32 &&& Int32.toUInt32 31)).toInt32) &&& 1431655765)) &&& 858993459) + ((((x0 - (((x0.toUInt32 >>> ((1 : Int32).toUInt32 &&& Int32.toUInt32 31)).toInt32) &&& 1431655765)).toUInt32 >>> ((2 : Int32).toUInt32 &&& Int32.toUInt32 31)).toInt32) &&& 858993459)) + (((((x0 - (((x0.toUInt32 >>> ((1 : Int32).toUInt32 &&& Int32.toUInt32 31)).toInt32) &&& 1431655765)) &&& 858993459) + ((((x0 - (((x0.toUInt32 >>> ((1 : Int32).toUInt32 &&& Int32.toUInt32 31)).toInt32) &&& 1431655765)).toUInt32 >>> ((2 : Int32).toUInt32 &&& Int32.toUInt32 31)).toInt32) &&& 858993459)).toUInt32 >>> ((4 : Int32).toUInt32 &&& Int32.toUInt32 31)).toInt32)) &&& 252645135).toUInt32 >>> ((8 : Int32).toUInt32 &&& Int32.toUInt32 31)).toInt32)) + ((((((((x0 - (((x0.toUInt32 >>> ((1 : Int32).toUInt32 &&& Int32.toUInt32 31)).toInt32) &&& 1431655765)) &&& 858993459) + ((((x0 - (((x0.toUInt32 >>> ((1 : Int32).toUInt32 &&& Int32.toUInt32 31)).toInt32) &&& 1431655765)).toUInt32 >>> ((2 : Int32).toUInt32 &&& Int32.toUInt32 31)).toInt32) &&& 858993459)) + (((((x0 - (((x0.toUInt32 >>> ((1 : Int32).toUInt32 &&& Int32.toUInt32 31)).toInt32) &&& 1431655765)) &&& 858993459) + ((((x0 - (((x0.toUInt32 >>> ((1 : Int32).toUInt32 &&& Int32.toUInt32 31)).toInt32) &&& 1431655765)).toUInt32 >>> ((2 : Int32).toUInt32 &&& Int32.toUInt32 31)).toInt32) &&& 858993459)).toUInt32 >>> ((4 : Int32).toUInt32 &&& Int32.toUInt32 31)).toInt32)) &&& 252645135) + (((((((x0 - (((x0.toUInt32 >>> ((1 : Int32).toUInt32 &&& Int32.toUInt32 31)).toInt32) &&& 1431655765)) &&& 858993459) + ((((x0 - (((x0.toUInt32 >>> ((1 : Int32).toUInt32 &&& Int32.toUInt32 31)).toInt32) &&& 1431655765)).toUInt32 >>> ((2 : Int32).toUInt32 &&& Int32.toUInt32 31)).toInt32) &&& 858993459)) + (((((x0 - (((x0.toUInt32 >>> ((1 : Int32).toUInt32 &&& Int32.toUInt32 31)).toInt32) &&& 1431655765)) &&& 858993459) + ((((x0 - (((x0.toUInt32 >>> ((1 : Int32).toUInt32 &&& Int32.toUInt32 31)).toInt32) &&& 1431655765)).toUInt32 >>> ((2 : Int32).toUInt32 &&& Int32.toUInt32 31)).toInt32) &&& 858993459)).toUInt32 >>> ((4 : Int32).toUInt32 &&& Int32.toUInt32 31)).toInt32)) &&& 252645135).toUInt32 >>> ((8 : Int32).toUInt32 &&& Int32.toUInt32 31)).toInt32)).toUInt32 >>> ((16 : Int32).toUInt32 &&& Int32.toUInt32 31)).toInt32)))]) hx hb dJ6_bitCount_0f7a4_47 rfl hl (by decide) rfl (fun ls hl => ?_)
  refine lv_iload_n hx hb dJ6_bitCount_0f7a4_48 rfl (lv_at hl 0 rfl) ?_
  refine lv_bipush (v := 63) hx hb dJ6_bitCount_0f7a4_49 (by decide) ?_
  refine lv_iand hx hb dJ6_bitCount_0f7a4_51 ?_
  exact W.iret hx hb hr (fun t ht hW => ⟨_, rfl, (by rfl), ht⟩) (fun _ h => absurd h List.not_mem_nil) dJ6_bitCount_0f7a4_52
