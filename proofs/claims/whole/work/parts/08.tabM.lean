set_option maxRecDepth 100000 in
set_option maxHeartbeats 4000000 in
theorem k_X3_welcome (l : Launch) (D : va_G) (cI cL cS : ClassId) (b : Nat → Nat) (co gu : Int32) (kn fo sp wh ki pl ea to qu mo ne : FI) (x0 x1 : Int32) (dj : va_D (fun _ => True) (dj0 b 12)) (h8 : vp_in gu 8) (h1 : vp_in x1 10) : Met l yX3_welcome wsX3_welcome { frames := 0, cells := 0, slots := 0, locals := 0 } (PcR D vwCl (tyG cI cL cS) [.ref (b 0), .int x0, .int x1] (tbw cI b co gu kn fo sp wh ki pl ea to qu mo ne)) (va_Qi (fun (r : Int32) (u : Unit) => r = gu ∧ (True)) (fun u t => va_P D vwCl (tbw cI b co (gu + 1) kn fo sp (upd wh (ix x1) gu) (upd ki (ix gu) x0) (upd pl (ix gu) x1) (upd ea (ix gu) 0) (upd to (ix gu) 0) (upd qu (ix gu) 0) mo ne) t.heap) (Aof (tbw cI b co gu kn fo sp wh ki pl ea to qu mo ne))) 0 0 (Aof (tbw cI b co gu kn fo sp wh ki pl ea to qu mo ne)) := by
  refine Met.ofW (cc := cX3_welcome) (maxL := 4) (ret := (some .int)) (by decide) rfl ?_
  intro p e s m args below meth c s₁ B hml hv
  obtain ⟨rfl, hP, hK⟩ := hv
  have hx := B.exec
  have hb := B.bytes
  have hr := B.returns
  have hts := atoms_spec (ws := wsX3_welcome) B.pre
  have hown : s.vm.findClass RX3 = some m.cls := findClass_of_methodNamed B.named
  have hlocks := B.notSynchronized
  obtain ⟨A, hAe⟩ : ∃ A, A = Aof (tbw cI b co gu kn fo sp wh ki pl ea to qu mo ne) := ⟨_, rfl⟩
  rw [← hAe]
  have hD : ∀ ws' : va_W, ws'.map Prod.fst = (tbw cI b co gu kn fo sp wh ki pl ea to qu mo ne).map Prod.fst → va_D A ws' := fun ws' e => by rw [hAe]; exact va_D_adr (va_D_self (va_D_adr dj rfl)) e
  have hS : va_S A s.heap s.heap [] := va_S.rf
  have hP : va_P D vwCl (tbw cI b co gu kn fo sp wh ki pl ea to qu mo ne) s.heap := hP
  have hl := lv_entry ([.ref (b 0), .int x0, .int x1]) (n := 4) (Nat.le_of_ble_eq_true rfl)
  rw [lg_entry_eq]
  generalize (lg_sl ([.ref (b 0), .int x0, .int x1]) ++ List.replicate (4 - (lg_sl ([.ref (b 0), .int x0, .int x1])).length) Slot.unset).toArray = ls at hl ⊢
  have hl : lv_has ls 4 [(0, .ref (b 0)), (1, .int x0), (2, .int x1)] := hl
  have f34 := hts (.fieldLink RX3 34 "KnivesLaid$Table" "guests" "I") (List.mem_of_getElem? (i := 1) rfl)
  have inX3 : ∀ w ∈ u_ws RX3 TX3 13, w ∈ wsX3_welcome := in_at 8 _ _ rfl
  have f37 := hts (.fieldLink RX3 37 "KnivesLaid$Table" "kinds" "[I") (List.mem_of_getElem? (i := 2) rfl)
  have f40 := hts (.fieldLink RX3 40 "KnivesLaid$Table" "at" "[I") (List.mem_of_getElem? (i := 3) rfl)
  have f43 := hts (.fieldLink RX3 43 "KnivesLaid$Table" "ease" "[I") (List.mem_of_getElem? (i := 4) rfl)
  have f46 := hts (.fieldLink RX3 46 "KnivesLaid$Table" "told" "[I") (List.mem_of_getElem? (i := 5) rfl)
  have f49 := hts (.fieldLink RX3 49 "KnivesLaid$Table" "quarrelled" "[I") (List.mem_of_getElem? (i := 6) rfl)
  have f25 := hts (.fieldLink RX3 25 "KnivesLaid$Table" "who" "[I") (List.mem_of_getElem? (i := 7) rfl)
  skip
  refine lv_aload_n hx hb dX3_welcome_0 rfl (lv_at hl 0 rfl) ?_
  refine va_get (ci := 1) (v := .int gu) (C := RX3) (T := TX3) (N := 13) hx hb hts inX3 hown hK hP 0 rfl rfl 5 (by decide) f34 (fun _ h9 => h9) rfl dX3_welcome_1 ?_
  refine lv_istore_n (lv' := [(3, .int gu), (0, .ref (b 0)), (1, .int x0), (2, .int x1)]) hx hb dX3_welcome_4 rfl hl (by decide) rfl (fun ls hl => ?_)
  refine lv_aload_n hx hb dX3_welcome_5 rfl (lv_at hl 1 rfl) ?_
  refine lv_dup hx hb dX3_welcome_6 rfl ?_
  refine va_get (ci := 1) (v := .int gu) (C := RX3) (T := TX3) (N := 13) hx hb hts inX3 hown hK hP 0 rfl rfl 5 (by decide) f34 (fun _ h9 => h9) rfl dX3_welcome_7 ?_
  refine lv_iconst (v := 1) hx hb dX3_welcome_10 (by decide) ?_
  refine lv_iadd hx hb dX3_welcome_11 ?_
  refine va_put (ci := 1) (v := .int (gu + 1)) (ty := .int) (C := RX3) (T := TX3) (N := 13) hx hb hts inX3 tyX3 tyX3_ok nmX3 hown hK hP (hD _ rfl) hS 0 rfl rfl 5 (by decide) f34 (fun _ h9 => h9) rfl rfl rfl rfl (Nat.le_of_ble_eq_true rfl) dX3_welcome_12 (fun H locs hP _ hS => ?_)
  have hP : va_P D vwCl (tbw cI b co (gu + 1) kn fo sp wh ki pl ea to qu mo ne) H := hP
  refine lv_aload_n hx hb dX3_welcome_15 rfl (lv_at hl 1 rfl) ?_
  refine va_get (ci := 1) (v := .ref (b 5)) (C := RX3) (T := TX3) (N := 13) hx hb hts inX3 hown hK hP 0 rfl rfl 6 (by decide) f37 (fun _ h9 => h9) rfl dX3_welcome_16 ?_
  refine lv_iload_n hx hb dX3_welcome_19 rfl (lv_at hl 0 rfl) ?_
  refine lv_iload_n hx hb dX3_welcome_20 rfl (lv_at hl 2 rfl) ?_
  refine va_iast hx hb hK hP (hD _ rfl) hS 5 0 rfl rfl (by assumption) dX3_welcome_21 (fun H locs hP _ hS => ?_)
  have hP : va_P D vwCl (tbw cI b co (gu + 1) kn fo sp wh (upd ki (ix gu) x0) pl ea to qu mo ne) H := hP
  refine lv_aload_n hx hb dX3_welcome_22 rfl (lv_at hl 1 rfl) ?_
  refine va_get (ci := 1) (v := .ref (b 6)) (C := RX3) (T := TX3) (N := 13) hx hb hts inX3 hown hK hP 0 rfl rfl 7 (by decide) f40 (fun _ h9 => h9) rfl dX3_welcome_23 ?_
  refine lv_iload_n hx hb dX3_welcome_26 rfl (lv_at hl 0 rfl) ?_
  refine lv_iload_n hx hb dX3_welcome_27 rfl (lv_at hl 3 rfl) ?_
  refine va_iast hx hb hK hP (hD _ rfl) hS 6 0 rfl rfl (by assumption) dX3_welcome_28 (fun H locs hP _ hS => ?_)
  have hP : va_P D vwCl (tbw cI b co (gu + 1) kn fo sp wh (upd ki (ix gu) x0) (upd pl (ix gu) x1) ea to qu mo ne) H := hP
  refine lv_aload_n hx hb dX3_welcome_29 rfl (lv_at hl 1 rfl) ?_
  refine va_get (ci := 1) (v := .ref (b 7)) (C := RX3) (T := TX3) (N := 13) hx hb hts inX3 hown hK hP 0 rfl rfl 8 (by decide) f43 (fun _ h9 => h9) rfl dX3_welcome_30 ?_
  refine lv_iload_n hx hb dX3_welcome_33 rfl (lv_at hl 0 rfl) ?_
  refine lv_iconst (v := 0) hx hb dX3_welcome_34 (by decide) ?_
  refine va_iast hx hb hK hP (hD _ rfl) hS 7 0 rfl rfl (by assumption) dX3_welcome_35 (fun H locs hP _ hS => ?_)
  have hP : va_P D vwCl (tbw cI b co (gu + 1) kn fo sp wh (upd ki (ix gu) x0) (upd pl (ix gu) x1) (upd ea (ix gu) 0) to qu mo ne) H := hP
  refine lv_aload_n hx hb dX3_welcome_36 rfl (lv_at hl 1 rfl) ?_
  refine va_get (ci := 1) (v := .ref (b 8)) (C := RX3) (T := TX3) (N := 13) hx hb hts inX3 hown hK hP 0 rfl rfl 9 (by decide) f46 (fun _ h9 => h9) rfl dX3_welcome_37 ?_
  refine lv_iload_n hx hb dX3_welcome_40 rfl (lv_at hl 0 rfl) ?_
  refine lv_iconst (v := 0) hx hb dX3_welcome_41 (by decide) ?_
  refine va_iast hx hb hK hP (hD _ rfl) hS 8 0 rfl rfl (by assumption) dX3_welcome_42 (fun H locs hP _ hS => ?_)
  have hP : va_P D vwCl (tbw cI b co (gu + 1) kn fo sp wh (upd ki (ix gu) x0) (upd pl (ix gu) x1) (upd ea (ix gu) 0) (upd to (ix gu) 0) qu mo ne) H := hP
  refine lv_aload_n hx hb dX3_welcome_43 rfl (lv_at hl 1 rfl) ?_
  refine va_get (ci := 1) (v := .ref (b 9)) (C := RX3) (T := TX3) (N := 13) hx hb hts inX3 hown hK hP 0 rfl rfl 10 (by decide) f49 (fun _ h9 => h9) rfl dX3_welcome_44 ?_
  refine lv_iload_n hx hb dX3_welcome_47 rfl (lv_at hl 0 rfl) ?_
  refine lv_iconst (v := 0) hx hb dX3_welcome_48 (by decide) ?_
  refine va_iast hx hb hK hP (hD _ rfl) hS 9 0 rfl rfl (by assumption) dX3_welcome_49 (fun H locs hP _ hS => ?_)
  have hP : va_P D vwCl (tbw cI b co (gu + 1) kn fo sp wh (upd ki (ix gu) x0) (upd pl (ix gu) x1) (upd ea (ix gu) 0) (upd to (ix gu) 0) (upd qu (ix gu) 0) mo ne) H := hP
  refine lv_aload_n hx hb dX3_welcome_50 rfl (lv_at hl 1 rfl) ?_
  refine va_get (ci := 1) (v := .ref (b 4)) (C := RX3) (T := TX3) (N := 13) hx hb hts inX3 hown hK hP 0 rfl rfl 4 (by decide) f25 (fun _ h9 => h9) rfl dX3_welcome_51 ?_
  refine lv_iload_n hx hb dX3_welcome_54 rfl (lv_at hl 3 rfl) ?_
  refine lv_iload_n hx hb dX3_welcome_55 rfl (lv_at hl 0 rfl) ?_
  refine va_iast hx hb hK hP (hD _ rfl) hS 4 0 rfl rfl (by assumption) dX3_welcome_56 (fun H locs hP _ hS => ?_)
  have hP : va_P D vwCl (tbw cI b co (gu + 1) kn fo sp (upd wh (ix x1) gu) (upd ki (ix gu) x0) (upd pl (ix gu) x1) (upd ea (ix gu) 0) (upd to (ix gu) 0) (upd qu (ix gu) 0) mo ne) H := hP
  refine lv_iload_n hx hb dX3_welcome_57 rfl (lv_at hl 0 rfl) ?_
  exact W.iret hx hb hr (fun t ht hW => ⟨⟨_, (), rfl, (by exact ⟨rfl, trivial⟩), by dsimp only; rw [ht]; exact hP⟩, hS.F ht⟩) hS.2.2 dX3_welcome_58

set_option maxRecDepth 100000 in
set_option maxHeartbeats 4000000 in
theorem k_X3_move (l : Launch) (D : va_G) (cI cL cS : ClassId) (b : Nat → Nat) (co gu : Int32) (kn fo sp wh ki pl ea to qu mo ne : FI) (x0 x1 : Int32) (dj : va_D (fun _ => True) (dj0 b 12)) (h0 : vp_in x0 8) (h1 : vp_in x1 10) (hp : vp_in (pl (ix x0)) 10) : Met l yX3_move wsX3_move { frames := 0, cells := 0, slots := 0, locals := 0 } (PcR D vwCl (tyG cI cL cS) [.ref (b 0), .int x0, .int x1] (tbw cI b co gu kn fo sp wh ki pl ea to qu mo ne)) (va_Qv (fun (u : Unit) => True) (fun u t => va_P D vwCl (tbw cI b co gu kn fo sp (upd (upd wh (ix (pl (ix x0))) (-1)) (ix x1) x0) ki (upd pl (ix x0) x1) ea to qu mo ne) t.heap) (Aof (tbw cI b co gu kn fo sp wh ki pl ea to qu mo ne))) 0 0 (Aof (tbw cI b co gu kn fo sp wh ki pl ea to qu mo ne)) := by
  refine Met.ofW (cc := cX3_move) (maxL := 3) (ret := none) (by decide) rfl ?_
  intro p e s m args below meth c s₁ B hml hv
  obtain ⟨rfl, hP, hK⟩ := hv
  have hx := B.exec
  have hb := B.bytes
  have hr := B.returns
  have hts := atoms_spec (ws := wsX3_move) B.pre
  have hown : s.vm.findClass RX3 = some m.cls := findClass_of_methodNamed B.named
  have hlocks := B.notSynchronized
  obtain ⟨A, hAe⟩ : ∃ A, A = Aof (tbw cI b co gu kn fo sp wh ki pl ea to qu mo ne) := ⟨_, rfl⟩
  rw [← hAe]
  have hD : ∀ ws' : va_W, ws'.map Prod.fst = (tbw cI b co gu kn fo sp wh ki pl ea to qu mo ne).map Prod.fst → va_D A ws' := fun ws' e => by rw [hAe]; exact va_D_adr (va_D_self (va_D_adr dj rfl)) e
  have hS : va_S A s.heap s.heap [] := va_S.rf
  have hP : va_P D vwCl (tbw cI b co gu kn fo sp wh ki pl ea to qu mo ne) s.heap := hP
  have hl := lv_entry ([.ref (b 0), .int x0, .int x1]) (n := 3) (Nat.le_of_ble_eq_true rfl)
  rw [lg_entry_eq]
  generalize (lg_sl ([.ref (b 0), .int x0, .int x1]) ++ List.replicate (3 - (lg_sl ([.ref (b 0), .int x0, .int x1])).length) Slot.unset).toArray = ls at hl ⊢
  have hl : lv_has ls 3 [(0, .ref (b 0)), (1, .int x0), (2, .int x1)] := hl
  have f25 := hts (.fieldLink RX3 25 "KnivesLaid$Table" "who" "[I") (List.mem_of_getElem? (i := 1) rfl)
  have inX3 : ∀ w ∈ u_ws RX3 TX3 13, w ∈ wsX3_move := in_at 3 _ _ rfl
  have f40 := hts (.fieldLink RX3 40 "KnivesLaid$Table" "at" "[I") (List.mem_of_getElem? (i := 2) rfl)
  skip
  refine lv_aload_n hx hb dX3_move_0 rfl (lv_at hl 0 rfl) ?_
  refine va_get (ci := 1) (v := .ref (b 4)) (C := RX3) (T := TX3) (N := 13) hx hb hts inX3 hown hK hP 0 rfl rfl 4 (by decide) f25 (fun _ h9 => h9) rfl dX3_move_1 ?_
  refine lv_aload_n hx hb dX3_move_4 rfl (lv_at hl 0 rfl) ?_
  refine va_get (ci := 1) (v := .ref (b 6)) (C := RX3) (T := TX3) (N := 13) hx hb hts inX3 hown hK hP 0 rfl rfl 7 (by decide) f40 (fun _ h9 => h9) rfl dX3_move_5 ?_
  refine lv_iload_n hx hb dX3_move_8 rfl (lv_at hl 1 rfl) ?_
  refine va_iald hx hb hK hP 6 0 rfl rfl (by assumption) dX3_move_9 ?_
  refine lv_iconst (v := (-1)) hx hb dX3_move_10 (by decide) ?_
  refine va_iast hx hb hK hP (hD _ rfl) hS 4 0 rfl rfl (by assumption) dX3_move_11 (fun H locs hP _ hS => ?_)
  have hP : va_P D vwCl (tbw cI b co gu kn fo sp (upd wh (ix (pl (ix x0))) (-1)) ki pl ea to qu mo ne) H := hP
  refine lv_aload_n hx hb dX3_move_12 rfl (lv_at hl 0 rfl) ?_
  refine va_get (ci := 1) (v := .ref (b 6)) (C := RX3) (T := TX3) (N := 13) hx hb hts inX3 hown hK hP 0 rfl rfl 7 (by decide) f40 (fun _ h9 => h9) rfl dX3_move_13 ?_
  refine lv_iload_n hx hb dX3_move_16 rfl (lv_at hl 1 rfl) ?_
  refine lv_iload_n hx hb dX3_move_17 rfl (lv_at hl 2 rfl) ?_
  refine va_iast hx hb hK hP (hD _ rfl) hS 6 0 rfl rfl (by assumption) dX3_move_18 (fun H locs hP _ hS => ?_)
  have hP : va_P D vwCl (tbw cI b co gu kn fo sp (upd wh (ix (pl (ix x0))) (-1)) ki (upd pl (ix x0) x1) ea to qu mo ne) H := hP
  refine lv_aload_n hx hb dX3_move_19 rfl (lv_at hl 0 rfl) ?_
  refine va_get (ci := 1) (v := .ref (b 4)) (C := RX3) (T := TX3) (N := 13) hx hb hts inX3 hown hK hP 0 rfl rfl 4 (by decide) f25 (fun _ h9 => h9) rfl dX3_move_20 ?_
  refine lv_iload_n hx hb dX3_move_23 rfl (lv_at hl 2 rfl) ?_
  refine lv_iload_n hx hb dX3_move_24 rfl (lv_at hl 1 rfl) ?_
  refine va_iast hx hb hK hP (hD _ rfl) hS 4 0 rfl rfl (by assumption) dX3_move_25 (fun H locs hP _ hS => ?_)
  have hP : va_P D vwCl (tbw cI b co gu kn fo sp (upd (upd wh (ix (pl (ix x0))) (-1)) (ix x1) x0) ki (upd pl (ix x0) x1) ea to qu mo ne) H := hP
  exact W.vret hx hb hr (fun t ht hW => ⟨⟨(), rfl, (by trivial), by dsimp only; rw [ht]; exact hP⟩, hS.F ht⟩) hS.2.2 dX3_move_26

set_option maxRecDepth 100000 in
set_option maxHeartbeats 4000000 in
theorem k_X3_exchange (l : Launch) (D : va_G) (cI cL cS : ClassId) (b : Nat → Nat) (co gu : Int32) (kn fo sp wh ki pl ea to qu mo ne : FI) (x0 x1 : Int32) (dj : va_D (fun _ => True) (dj0 b 12)) (h0 : vp_in x0 8) (h1 : vp_in x1 8) (hp0 : vp_in (upd (upd pl (ix x0) (pl (ix x1))) (ix x1) (pl (ix x0)) (ix x0)) 10) (hp1 : vp_in (upd (upd pl (ix x0) (pl (ix x1))) (ix x1) (pl (ix x0)) (ix x1)) 10) : Met l yX3_exchange wsX3_exchange { frames := 0, cells := 0, slots := 0, locals := 0 } (PcR D vwCl (tyG cI cL cS) [.ref (b 0), .int x0, .int x1] (tbw cI b co gu kn fo sp wh ki pl ea to qu mo ne)) (va_Qv (fun (u : Unit) => True) (fun u t => va_P D vwCl (tbw cI b co gu kn fo sp (upd (upd wh (ix ((upd (upd pl (ix x0) (pl (ix x1))) (ix x1) (pl (ix x0))) (ix x0))) x0) (ix ((upd (upd pl (ix x0) (pl (ix x1))) (ix x1) (pl (ix x0))) (ix x1))) x1) ki (upd (upd pl (ix x0) (pl (ix x1))) (ix x1) (pl (ix x0))) ea to qu mo ne) t.heap) (Aof (tbw cI b co gu kn fo sp wh ki pl ea to qu mo ne))) 0 0 (Aof (tbw cI b co gu kn fo sp wh ki pl ea to qu mo ne)) := by
  refine Met.ofW (cc := cX3_exchange) (maxL := 4) (ret := none) (by decide) rfl ?_
  intro p e s m args below meth c s₁ B hml hv
  obtain ⟨rfl, hP, hK⟩ := hv
  have hx := B.exec
  have hb := B.bytes
  have hr := B.returns
  have hts := atoms_spec (ws := wsX3_exchange) B.pre
  have hown : s.vm.findClass RX3 = some m.cls := findClass_of_methodNamed B.named
  have hlocks := B.notSynchronized
  obtain ⟨A, hAe⟩ : ∃ A, A = Aof (tbw cI b co gu kn fo sp wh ki pl ea to qu mo ne) := ⟨_, rfl⟩
  rw [← hAe]
  have hD : ∀ ws' : va_W, ws'.map Prod.fst = (tbw cI b co gu kn fo sp wh ki pl ea to qu mo ne).map Prod.fst → va_D A ws' := fun ws' e => by rw [hAe]; exact va_D_adr (va_D_self (va_D_adr dj rfl)) e
  have hS : va_S A s.heap s.heap [] := va_S.rf
  have hP : va_P D vwCl (tbw cI b co gu kn fo sp wh ki pl ea to qu mo ne) s.heap := hP
  have hl := lv_entry ([.ref (b 0), .int x0, .int x1]) (n := 4) (Nat.le_of_ble_eq_true rfl)
  rw [lg_entry_eq]
  generalize (lg_sl ([.ref (b 0), .int x0, .int x1]) ++ List.replicate (4 - (lg_sl ([.ref (b 0), .int x0, .int x1])).length) Slot.unset).toArray = ls at hl ⊢
  have hl : lv_has ls 4 [(0, .ref (b 0)), (1, .int x0), (2, .int x1)] := hl
  have f40 := hts (.fieldLink RX3 40 "KnivesLaid$Table" "at" "[I") (List.mem_of_getElem? (i := 1) rfl)
  have inX3 : ∀ w ∈ u_ws RX3 TX3 13, w ∈ wsX3_exchange := in_at 3 _ _ rfl
  have f25 := hts (.fieldLink RX3 25 "KnivesLaid$Table" "who" "[I") (List.mem_of_getElem? (i := 2) rfl)
  skip
  refine lv_aload_n hx hb dX3_exchange_0 rfl (lv_at hl 0 rfl) ?_
  refine va_get (ci := 1) (v := .ref (b 6)) (C := RX3) (T := TX3) (N := 13) hx hb hts inX3 hown hK hP 0 rfl rfl 7 (by decide) f40 (fun _ h9 => h9) rfl dX3_exchange_1 ?_
  refine lv_iload_n hx hb dX3_exchange_4 rfl (lv_at hl 1 rfl) ?_
  refine va_iald hx hb hK hP 6 0 rfl rfl (by assumption) dX3_exchange_5 ?_
  refine lv_istore_n (lv' := [(3, .int (pl (ix x0))), (0, .ref (b 0)), (1, .int x0), (2, .int x1)]) hx hb dX3_exchange_6 rfl hl (by decide) rfl (fun ls hl => ?_)
  refine lv_aload_n hx hb dX3_exchange_7 rfl (lv_at hl 1 rfl) ?_
  refine va_get (ci := 1) (v := .ref (b 6)) (C := RX3) (T := TX3) (N := 13) hx hb hts inX3 hown hK hP 0 rfl rfl 7 (by decide) f40 (fun _ h9 => h9) rfl dX3_exchange_8 ?_
  refine lv_iload_n hx hb dX3_exchange_11 rfl (lv_at hl 2 rfl) ?_
  refine lv_aload_n hx hb dX3_exchange_12 rfl (lv_at hl 1 rfl) ?_
  refine va_get (ci := 1) (v := .ref (b 6)) (C := RX3) (T := TX3) (N := 13) hx hb hts inX3 hown hK hP 0 rfl rfl 7 (by decide) f40 (fun _ h9 => h9) rfl dX3_exchange_13 ?_
  refine lv_iload_n hx hb dX3_exchange_16 rfl (lv_at hl 3 rfl) ?_
  refine va_iald hx hb hK hP 6 0 rfl rfl (by assumption) dX3_exchange_17 ?_
  refine va_iast hx hb hK hP (hD _ rfl) hS 6 0 rfl rfl (by assumption) dX3_exchange_18 (fun H locs hP _ hS => ?_)
  have hP : va_P D vwCl (tbw cI b co gu kn fo sp wh ki (upd pl (ix x0) (pl (ix x1))) ea to qu mo ne) H := hP
  refine lv_aload_n hx hb dX3_exchange_19 rfl (lv_at hl 1 rfl) ?_
  refine va_get (ci := 1) (v := .ref (b 6)) (C := RX3) (T := TX3) (N := 13) hx hb hts inX3 hown hK hP 0 rfl rfl 7 (by decide) f40 (fun _ h9 => h9) rfl dX3_exchange_20 ?_
  refine lv_iload_n hx hb dX3_exchange_23 rfl (lv_at hl 3 rfl) ?_
  refine lv_iload_n hx hb dX3_exchange_24 rfl (lv_at hl 0 rfl) ?_
  refine va_iast hx hb hK hP (hD _ rfl) hS 6 0 rfl rfl (by assumption) dX3_exchange_25 (fun H locs hP _ hS => ?_)
  have hP : va_P D vwCl (tbw cI b co gu kn fo sp wh ki (upd (upd pl (ix x0) (pl (ix x1))) (ix x1) (pl (ix x0))) ea to qu mo ne) H := hP
  refine lv_aload_n hx hb dX3_exchange_26 rfl (lv_at hl 1 rfl) ?_
  refine va_get (ci := 1) (v := .ref (b 4)) (C := RX3) (T := TX3) (N := 13) hx hb hts inX3 hown hK hP 0 rfl rfl 4 (by decide) f25 (fun _ h9 => h9) rfl dX3_exchange_27 ?_
  refine lv_aload_n hx hb dX3_exchange_30 rfl (lv_at hl 1 rfl) ?_
  refine va_get (ci := 1) (v := .ref (b 6)) (C := RX3) (T := TX3) (N := 13) hx hb hts inX3 hown hK hP 0 rfl rfl 7 (by decide) f40 (fun _ h9 => h9) rfl dX3_exchange_31 ?_
  refine lv_iload_n hx hb dX3_exchange_34 rfl (lv_at hl 2 rfl) ?_
  refine va_iald hx hb hK hP 6 0 rfl rfl (by assumption) dX3_exchange_35 ?_
  refine lv_iload_n hx hb dX3_exchange_36 rfl (lv_at hl 2 rfl) ?_
  refine va_iast hx hb hK hP (hD _ rfl) hS 4 0 rfl rfl (by assumption) dX3_exchange_37 (fun H locs hP _ hS => ?_)
  have hP : va_P D vwCl (tbw cI b co gu kn fo sp (upd wh (ix ((upd (upd pl (ix x0) (pl (ix x1))) (ix x1) (pl (ix x0))) (ix x0))) x0) ki (upd (upd pl (ix x0) (pl (ix x1))) (ix x1) (pl (ix x0))) ea to qu mo ne) H := hP
  refine lv_aload_n hx hb dX3_exchange_38 rfl (lv_at hl 1 rfl) ?_
  refine va_get (ci := 1) (v := .ref (b 4)) (C := RX3) (T := TX3) (N := 13) hx hb hts inX3 hown hK hP 0 rfl rfl 4 (by decide) f25 (fun _ h9 => h9) rfl dX3_exchange_39 ?_
  refine lv_aload_n hx hb dX3_exchange_42 rfl (lv_at hl 1 rfl) ?_
  refine va_get (ci := 1) (v := .ref (b 6)) (C := RX3) (T := TX3) (N := 13) hx hb hts inX3 hown hK hP 0 rfl rfl 7 (by decide) f40 (fun _ h9 => h9) rfl dX3_exchange_43 ?_
  refine lv_iload_n hx hb dX3_exchange_46 rfl (lv_at hl 3 rfl) ?_
  refine va_iald hx hb hK hP 6 0 rfl rfl (by assumption) dX3_exchange_47 ?_
  refine lv_iload_n hx hb dX3_exchange_48 rfl (lv_at hl 3 rfl) ?_
  refine va_iast hx hb hK hP (hD _ rfl) hS 4 0 rfl rfl (by assumption) dX3_exchange_49 (fun H locs hP _ hS => ?_)
  have hP : va_P D vwCl (tbw cI b co gu kn fo sp (upd (upd wh (ix ((upd (upd pl (ix x0) (pl (ix x1))) (ix x1) (pl (ix x0))) (ix x0))) x0) (ix ((upd (upd pl (ix x0) (pl (ix x1))) (ix x1) (pl (ix x0))) (ix x1))) x1) ki (upd (upd pl (ix x0) (pl (ix x1))) (ix x1) (pl (ix x0))) ea to qu mo ne) H := hP
  exact W.vret hx hb hr (fun t ht hW => ⟨⟨(), rfl, (by trivial), by dsimp only; rw [ht]; exact hP⟩, hS.F ht⟩) hS.2.2 dX3_exchange_50

set_option maxRecDepth 100000 in
set_option maxHeartbeats 4000000 in
theorem k_X3_layJustSo (l : Launch) (D : va_G) (cI cL cS : ClassId) (b : Nat → Nat) (co gu : Int32) (kn fo sp wh ki pl ea to qu mo ne : FI) (x0 x1 x2 x3 : Int32) (dj : va_D (fun _ => True) (dj0 b 12)) (h0 : vp_in x0 10) : Met l yX3_layJustSo wsX3_layJustSo { frames := 0, cells := 0, slots := 0, locals := 0 } (PcR D vwCl (tyG cI cL cS) [.ref (b 0), .int x0, .int x1, .int x2, .int x3] (tbw cI b co gu kn fo sp wh ki pl ea to qu mo ne)) (va_Qv (fun (u : Unit) => True) (fun u t => va_P D vwCl (tbw cI b co gu (upd kn (ix x0) x1) (upd fo (ix x0) x2) (upd sp (ix x0) x3) wh ki pl ea to qu mo ne) t.heap) (Aof (tbw cI b co gu kn fo sp wh ki pl ea to qu mo ne))) 0 0 (Aof (tbw cI b co gu kn fo sp wh ki pl ea to qu mo ne)) := by
  refine Met.ofW (cc := cX3_layJustSo) (maxL := 5) (ret := none) (by decide) rfl ?_
  intro p e s m args below meth c s₁ B hml hv
  obtain ⟨rfl, hP, hK⟩ := hv
  have hx := B.exec
  have hb := B.bytes
  have hr := B.returns
  have hts := atoms_spec (ws := wsX3_layJustSo) B.pre
  have hown : s.vm.findClass RX3 = some m.cls := findClass_of_methodNamed B.named
  have hlocks := B.notSynchronized
  obtain ⟨A, hAe⟩ : ∃ A, A = Aof (tbw cI b co gu kn fo sp wh ki pl ea to qu mo ne) := ⟨_, rfl⟩
  rw [← hAe]
  have hD : ∀ ws' : va_W, ws'.map Prod.fst = (tbw cI b co gu kn fo sp wh ki pl ea to qu mo ne).map Prod.fst → va_D A ws' := fun ws' e => by rw [hAe]; exact va_D_adr (va_D_self (va_D_adr dj rfl)) e
  have hS : va_S A s.heap s.heap [] := va_S.rf
  have hP : va_P D vwCl (tbw cI b co gu kn fo sp wh ki pl ea to qu mo ne) s.heap := hP
  have hl := lv_entry ([.ref (b 0), .int x0, .int x1, .int x2, .int x3]) (n := 5) (Nat.le_of_ble_eq_true rfl)
  rw [lg_entry_eq]
  generalize (lg_sl ([.ref (b 0), .int x0, .int x1, .int x2, .int x3]) ++ List.replicate (5 - (lg_sl ([.ref (b 0), .int x0, .int x1, .int x2, .int x3])).length) Slot.unset).toArray = ls at hl ⊢
  have hl : lv_has ls 5 [(0, .ref (b 0)), (1, .int x0), (2, .int x1), (3, .int x2), (4, .int x3)] := hl
  have f15 := hts (.fieldLink RX3 15 "KnivesLaid$Table" "knives" "[I") (List.mem_of_getElem? (i := 1) rfl)
  have inX3 : ∀ w ∈ u_ws RX3 TX3 13, w ∈ wsX3_layJustSo := in_at 4 _ _ rfl
  have f19 := hts (.fieldLink RX3 19 "KnivesLaid$Table" "forks" "[I") (List.mem_of_getElem? (i := 2) rfl)
  have f22 := hts (.fieldLink RX3 22 "KnivesLaid$Table" "spoons" "[I") (List.mem_of_getElem? (i := 3) rfl)
  skip
  refine lv_aload_n hx hb dX3_layJustSo_0 rfl (lv_at hl 0 rfl) ?_
  refine va_get (ci := 1) (v := .ref (b 1)) (C := RX3) (T := TX3) (N := 13) hx hb hts inX3 hown hK hP 0 rfl rfl 1 (by decide) f15 (fun _ h9 => h9) rfl dX3_layJustSo_1 ?_
  refine lv_iload_n hx hb dX3_layJustSo_4 rfl (lv_at hl 1 rfl) ?_
  refine lv_iload_n hx hb dX3_layJustSo_5 rfl (lv_at hl 2 rfl) ?_
  refine va_iast hx hb hK hP (hD _ rfl) hS 1 0 rfl rfl (by assumption) dX3_layJustSo_6 (fun H locs hP _ hS => ?_)
  have hP : va_P D vwCl (tbw cI b co gu (upd kn (ix x0) x1) fo sp wh ki pl ea to qu mo ne) H := hP
  refine lv_aload_n hx hb dX3_layJustSo_7 rfl (lv_at hl 0 rfl) ?_
  refine va_get (ci := 1) (v := .ref (b 2)) (C := RX3) (T := TX3) (N := 13) hx hb hts inX3 hown hK hP 0 rfl rfl 2 (by decide) f19 (fun _ h9 => h9) rfl dX3_layJustSo_8 ?_
  refine lv_iload_n hx hb dX3_layJustSo_11 rfl (lv_at hl 1 rfl) ?_
  refine lv_iload_n hx hb dX3_layJustSo_12 rfl (lv_at hl 3 rfl) ?_
  refine va_iast hx hb hK hP (hD _ rfl) hS 2 0 rfl rfl (by assumption) dX3_layJustSo_13 (fun H locs hP _ hS => ?_)
  have hP : va_P D vwCl (tbw cI b co gu (upd kn (ix x0) x1) (upd fo (ix x0) x2) sp wh ki pl ea to qu mo ne) H := hP
  refine lv_aload_n hx hb dX3_layJustSo_14 rfl (lv_at hl 0 rfl) ?_
  refine va_get (ci := 1) (v := .ref (b 3)) (C := RX3) (T := TX3) (N := 13) hx hb hts inX3 hown hK hP 0 rfl rfl 3 (by decide) f22 (fun _ h9 => h9) rfl dX3_layJustSo_15 ?_
  refine lv_iload_n hx hb dX3_layJustSo_18 rfl (lv_at hl 1 rfl) ?_
  refine lv_iload hx hb dX3_layJustSo_19 (lv_at hl 4 rfl) ?_
  refine va_iast hx hb hK hP (hD _ rfl) hS 3 0 rfl rfl (by assumption) dX3_layJustSo_21 (fun H locs hP _ hS => ?_)
  have hP : va_P D vwCl (tbw cI b co gu (upd kn (ix x0) x1) (upd fo (ix x0) x2) (upd sp (ix x0) x3) wh ki pl ea to qu mo ne) H := hP
  exact W.vret hx hb hr (fun t ht hW => ⟨⟨(), rfl, (by trivial), by dsimp only; rw [ht]; exact hP⟩, hS.F ht⟩) hS.2.2 dX3_layJustSo_22

set_option maxRecDepth 100000 in
set_option maxHeartbeats 4000000 in
theorem k_X3_findMore (l : Launch) (D : va_G) (cI cL cS : ClassId) (b : Nat → Nat) (co gu : Int32) (kn fo sp wh ki pl ea to qu mo ne : FI) (dj : va_D (fun _ => True) (dj0 b 12)) (ok : okT gu kn fo sp wh ki pl) : Met l yX3_findMore wsX3_findMore { frames := 3, cells := 0, slots := 0, locals := 68 } (PcR D vwCl (tyG cI cL cS) [.ref (b 0)] (tbw cI b co gu kn fo sp wh ki pl ea to qu mo ne)) (va_Qv (fun (u : FI × FI) => (∀ g, g < ix gu → u.1 g = sMore gu kn fo sp ki pl g) ∧ (∀ g, g < ix gu → u.2 g = sNear gu pl g)) (fun u t => va_P D vwCl (tbw cI b co gu kn fo sp wh ki pl ea to qu u.1 u.2) t.heap) (Aof (tbw cI b co gu kn fo sp wh ki pl ea to qu mo ne))) 0 0 (Aof (tbw cI b co gu kn fo sp wh ki pl ea to qu mo ne)) := by
  refine Met.ofW (cc := cX3_findMore) (maxL := 2) (ret := none) (by decide) rfl ?_
  intro p e s m args below meth c s₁ B hml hv
  obtain ⟨rfl, hP, hK⟩ := hv
  have hx := B.exec
  have hb := B.bytes
  have hr := B.returns
  have hts := atoms_spec (ws := wsX3_findMore) B.pre
  have hown : s.vm.findClass RX3 = some m.cls := findClass_of_methodNamed B.named
  have hlocks := B.notSynchronized
  obtain ⟨A, hAe⟩ : ∃ A, A = Aof (tbw cI b co gu kn fo sp wh ki pl ea to qu mo ne) := ⟨_, rfl⟩
  rw [← hAe]
  have hD : ∀ ws' : va_W, ws'.map Prod.fst = (tbw cI b co gu kn fo sp wh ki pl ea to qu mo ne).map Prod.fst → va_D A ws' := fun ws' e => by rw [hAe]; exact va_D_adr (va_D_self (va_D_adr dj rfl)) e
  have hS : va_S A s.heap s.heap [] := va_S.rf
  have hP : va_P D vwCl (tbw cI b co gu kn fo sp wh ki pl ea to qu mo ne) s.heap := hP
  have hl := lv_entry ([.ref (b 0)]) (n := 2) (Nat.le_of_ble_eq_true rfl)
  rw [lg_entry_eq]
  generalize (lg_sl ([.ref (b 0)]) ++ List.replicate (2 - (lg_sl ([.ref (b 0)])).length) Slot.unset).toArray = ls at hl ⊢
  have hl : lv_has ls 2 [(0, .ref (b 0))] := hl
  have f34 := hts (.fieldLink RX3 34 "KnivesLaid$Table" "guests" "I") (List.mem_of_getElem? (i := 1) rfl)
  have inX3 : ∀ w ∈ u_ws RX3 TX3 13, w ∈ wsX3_findMore := in_at 50 _ _ rfl
  have f52 := hts (.fieldLink RX3 52 "KnivesLaid$Table" "more" "[I") (List.mem_of_getElem? (i := 2) rfl)
  have f55 := hts (.fieldLink RX3 55 "KnivesLaid$Table" "near" "[I") (List.mem_of_getElem? (i := 3) rfl)
  skip
  have hgu := gu_of ok.gu
  have hgu8 := hgu.2
  refine lv_iconst (v := 0) hx hb dX3_findMore_0 (by decide) ?_
  refine lv_istore_n (lv' := [(1, .int 0), (0, .ref (b 0))]) hx hb dX3_findMore_1 rfl hl (by decide) rfl (fun ls hl => ?_)
  refine lpW (fun n (u : Nat × FI × FI) H locs ls => (u.1 + n = ix gu) ∧ (∀ g, g < u.1 → u.2.1 g = sMore gu kn fo sp ki pl g) ∧ (∀ g, g < u.1 → u.2.2 g = sNear gu pl g) ∧ va_P D vwCl (tbw cI b co gu kn fo sp wh ki pl ea to qu u.2.1 u.2.2) H ∧ va_S A s.heap H locs ∧ lv_has ls 2 [(0, .ref (b 0)), (1, .int (nI u.1))]) (ix gu) ((0, mo, ne)) ⟨by omega, fun g hg => absurd hg (Nat.not_lt_zero g), fun g hg => absurd hg (Nat.not_lt_zero g), hP, hS, lv_sub hl [1, 0] rfl⟩ (fun n ih u H locs ls hI => ?_)
  obtain ⟨i, mo1, ne1⟩ := u
  obtain ⟨hi0, hi1, hi2, hP, hS, hl⟩ := hI
  have hi0 : i + n = ix gu := hi0
  have hi1 : ∀ g, g < i → mo1 g = sMore gu kn fo sp ki pl g := hi1
  have hi2 : ∀ g, g < i → ne1 g = sNear gu pl g := hi2
  have hl : lv_has ls 2 [(0, .ref (b 0)), (1, .int (nI i))] := hl
  have hP : va_P D vwCl (tbw cI b co gu kn fo sp wh ki pl ea to qu mo1 ne1) H := hP
  have hix : ix (nI i) = i := ix_nI (by omega)
  refine lv_iload_n hx hb dX3_findMore_2 rfl (lv_at hl 1 rfl) ?_
  refine lv_aload_n hx hb dX3_findMore_3 rfl (lv_at hl 0 rfl) ?_
  refine va_get (ci := 1) (v := .int gu) (C := RX3) (T := TX3) (N := 13) hx hb hts inX3 hown hK hP 0 rfl rfl 5 (by decide) f34 (fun _ h9 => h9) rfl dX3_findMore_4 ?_
  refine lv_icmp_ge (tgt := 44) hx hb dX3_findMore_7 (by decide) (fun c_1 => ?_) (fun c_1 => ?_)
  · skip
    have c_1n := (cmp_le (a := ix gu) (b := i) hgu.1 rfl (by omega) (by omega)).mp c_1
    exact W.vret hx hb hr (fun t ht hW => ⟨⟨(mo1, ne1), rfl, (by exact ⟨fun g hg => hi1 g (by omega), fun g hg => hi2 g (by omega)⟩), by dsimp only; rw [ht]; exact hP⟩, hS.F ht⟩) hS.2.2 dX3_findMore_44
  · skip
    have c_1n := mt (cmp_le (a := ix gu) (b := i) hgu.1 rfl (by omega) (by omega)).mpr c_1
    refine lv_aload_n hx hb dX3_findMore_10 rfl (lv_at hl 0 rfl) ?_
    refine va_get (ci := 1) (v := .ref (b 10)) (C := RX3) (T := TX3) (N := 13) hx hb hts inX3 hown hK hP 0 rfl rfl 11 (by decide) f52 (fun _ h9 => h9) rfl dX3_findMore_11 ?_
    refine lv_iload_n hx hb dX3_findMore_14 rfl (lv_at hl 1 rfl) ?_
    refine lv_aload_n hx hb dX3_findMore_15 rfl (lv_at hl 0 rfl) ?_
    refine lv_iload_n hx hb dX3_findMore_16 rfl (lv_at hl 1 rfl) ?_
    refine callE (W.runV (As := [.int (nI i)]) (rest := [.int (nI i), .ref (b 10)]) ⟨hx, hb, hml, hown, hts⟩ (k_X3_feeling l D cI cL cS b co gu kn fo sp wh ki pl ea to qu mo1 ne1 (nI i) ok (vp_in_nI (by omega) (by omega))) (cwV 1 hts gX3_findMore_X3_feeling rfl rfl rfl (by decide +kernel) ⟨Nat.le_of_ble_eq_true rfl, Nat.le_of_ble_eq_true rfl⟩) ⟨PcR_fb, va_recv hK hP (ci := 1) (q0 := 0) rfl rfl, PcR_pre hP hK⟩ rfl rfl hl.1 rfl (lv_room (Nat.le_of_ble_eq_true rfl)) dX3_findMore_17 ⟨Nat.zero_le _, Nat.zero_le _⟩) ?_
    refine lv_aload_n hx hb dX3_findMore_20 rfl (lv_at hl 0 rfl) ?_
    refine lv_iload_n hx hb dX3_findMore_21 rfl (lv_at hl 1 rfl) ?_
    refine callE (W.runV (As := [.int (nI i)]) (rest := [.int (sFeels gu kn fo sp ki pl (ix (nI i))), .int (nI i), .ref (b 10)]) ⟨hx, hb, hml, hown, hts⟩ (k_X3_caught l D cI cL cS b co gu kn fo sp wh ki pl ea to qu mo1 ne1 (nI i) ok (vp_in_nI (by omega) (by omega))) (cwV 1 hts gX3_findMore_X3_caught rfl rfl rfl (by decide +kernel) ⟨Nat.le_of_ble_eq_true rfl, Nat.le_of_ble_eq_true rfl⟩) ⟨PcR_fb, va_recv hK hP (ci := 1) (q0 := 0) rfl rfl, PcR_pre hP hK⟩ rfl rfl hl.1 rfl (lv_room (Nat.le_of_ble_eq_true rfl)) dX3_findMore_22 ⟨Nat.zero_le _, Nat.zero_le _⟩) ?_
    refine lv_iadd hx hb dX3_findMore_25 ?_
    refine va_iast hx hb hK hP (hD _ rfl) hS 10 0 rfl rfl (vp_in_nI (by omega) (by omega)) dX3_findMore_26 (fun H locs hP _ hS => ?_)
    have hP : va_P D vwCl (tbw cI b co gu kn fo sp wh ki pl ea to qu (upd mo1 (ix (nI i)) ((sFeels gu kn fo sp ki pl (ix (nI i))) + (sCatch gu kn fo ki pl (ix (nI i))))) ne1) H := hP
    refine lv_aload_n hx hb dX3_findMore_27 rfl (lv_at hl 0 rfl) ?_
    refine va_get (ci := 1) (v := .ref (b 11)) (C := RX3) (T := TX3) (N := 13) hx hb hts inX3 hown hK hP 0 rfl rfl 12 (by decide) f55 (fun _ h9 => h9) rfl dX3_findMore_28 ?_
    refine lv_iload_n hx hb dX3_findMore_31 rfl (lv_at hl 1 rfl) ?_
    refine lv_aload_n hx hb dX3_findMore_32 rfl (lv_at hl 0 rfl) ?_
    refine lv_iload_n hx hb dX3_findMore_33 rfl (lv_at hl 1 rfl) ?_
    refine callE (W.runV (As := [.int (nI i)]) (rest := [.int (nI i), .ref (b 11)]) ⟨hx, hb, hml, hown, hts⟩ (k_X3_neighbours l D cI cL cS b co gu kn fo sp wh ki pl ea to qu (upd mo1 (ix (nI i)) ((sFeels gu kn fo sp ki pl (ix (nI i))) + (sCatch gu kn fo ki pl (ix (nI i))))) ne1 (nI i) ok (vp_in_nI (by omega) (by omega))) (cwV 1 hts gX3_findMore_X3_neighbours rfl rfl rfl (by decide +kernel) ⟨Nat.le_of_ble_eq_true rfl, Nat.le_of_ble_eq_true rfl⟩) ⟨PcR_fb, va_recv hK hP (ci := 1) (q0 := 0) rfl rfl, PcR_pre hP hK⟩ rfl rfl hl.1 rfl (lv_room (Nat.le_of_ble_eq_true rfl)) dX3_findMore_34 ⟨Nat.zero_le _, Nat.zero_le _⟩) ?_
    refine va_iast hx hb hK hP (hD _ rfl) hS 11 0 rfl rfl (vp_in_nI (by omega) (by omega)) dX3_findMore_37 (fun H locs hP _ hS => ?_)
    have hP : va_P D vwCl (tbw cI b co gu kn fo sp wh ki pl ea to qu (upd mo1 (ix (nI i)) ((sFeels gu kn fo sp ki pl (ix (nI i))) + (sCatch gu kn fo ki pl (ix (nI i))))) (upd ne1 (ix (nI i)) (sNear gu pl (ix (nI i))))) H := hP
    refine lv_iinc (v := nI (i + 1)) (lv' := [(1, .int (nI (i + 1))), (0, .ref (b 0))]) hx hb dX3_findMore_38 hl (k := 1) rfl (nI_1 _) (by decide) rfl (fun ls hl => ?_)
    refine lv_goto (tgt := 2) hx hb dX3_findMore_41 (by decide) ?_
    have hi8 : vp_in (nI i) 8 := vp_in_nI (by omega) (by omega)
    exact ih (n - 1) (by omega) ((i + 1, (upd mo1 (ix (nI i)) ((sFeels gu kn fo sp ki pl (ix (nI i))) + (sCatch gu kn fo ki pl (ix (nI i))))), (upd ne1 (ix (nI i)) (sNear gu pl (ix (nI i)))))) H locs ls ⟨by omega, by rw [hix]; exact lt_upd hi1 rfl, by rw [hix]; exact lt_upd hi2 rfl, hP, hS, lv_sub hl [1, 0] rfl⟩

set_option maxRecDepth 100000 in
set_option maxHeartbeats 4000000 in
theorem k_X3_serveOne (l : Launch) (D : va_G) (cI cL cS : ClassId) (b : Nat → Nat) (co gu : Int32) (kn fo sp wh ki pl ea to qu mo ne : FI) (dj : va_D (fun _ => True) (dj0 b 12)) (ok : okT gu kn fo sp wh ki pl) (oe : okE ea to qu) (hm : ∀ g, g < ix gu → mo g = sMore gu kn fo sp ki pl g) (hn : ∀ g, g < ix gu → ne g = sNear gu pl g) : Met l yX3_serveOne wsX3_serveOne { frames := 3, cells := 0, slots := 0, locals := 65 } (PcR D vwCl (tyG cI cL cS) [.ref (b 0)] (tbw cI b co gu kn fo sp wh ki pl ea to qu mo ne)) (va_Qv (fun (u : Unit) => True) (fun u t => va_P D vwCl (tbw cI b (co + 1) gu kn fo sp wh ki pl (cEa gu kn fo sp ki pl ea) (cTo gu sp ki pl ea to) (cQu gu ki pl (cEa gu kn fo sp ki pl ea) qu) mo ne) t.heap) (Aof (tbw cI b co gu kn fo sp wh ki pl ea to qu mo ne))) 0 0 (Aof (tbw cI b co gu kn fo sp wh ki pl ea to qu mo ne)) := by
  refine Met.ofW (cc := cX3_serveOne) (maxL := 4) (ret := none) (by decide) rfl ?_
  intro p e s m args below meth c s₁ B hml hv
  obtain ⟨rfl, hP, hK⟩ := hv
  have hx := B.exec
  have hb := B.bytes
  have hr := B.returns
  have hts := atoms_spec (ws := wsX3_serveOne) B.pre
  have hown : s.vm.findClass RX3 = some m.cls := findClass_of_methodNamed B.named
  have hlocks := B.notSynchronized
  obtain ⟨A, hAe⟩ : ∃ A, A = Aof (tbw cI b co gu kn fo sp wh ki pl ea to qu mo ne) := ⟨_, rfl⟩
  rw [← hAe]
  have hD : ∀ ws' : va_W, ws'.map Prod.fst = (tbw cI b co gu kn fo sp wh ki pl ea to qu mo ne).map Prod.fst → va_D A ws' := fun ws' e => by rw [hAe]; exact va_D_adr (va_D_self (va_D_adr dj rfl)) e
  have hS : va_S A s.heap s.heap [] := va_S.rf
  have hP : va_P D vwCl (tbw cI b co gu kn fo sp wh ki pl ea to qu mo ne) s.heap := hP
  have hl := lv_entry ([.ref (b 0)]) (n := 4) (Nat.le_of_ble_eq_true rfl)
  rw [lg_entry_eq]
  generalize (lg_sl ([.ref (b 0)]) ++ List.replicate (4 - (lg_sl ([.ref (b 0)])).length) Slot.unset).toArray = ls at hl ⊢
  have hl : lv_has ls 4 [(0, .ref (b 0))] := hl
  have f34 := hts (.fieldLink RX3 34 "KnivesLaid$Table" "guests" "I") (List.mem_of_getElem? (i := 1) rfl)
  have inX3 : ∀ w ∈ u_ws RX3 TX3 13, w ∈ wsX3_serveOne := in_at 45 _ _ rfl
  have f9 := hts (.fieldLink RX3 9 "KnivesLaid$Table" "course" "I") (List.mem_of_getElem? (i := 14) rfl)
  have f49 := hts (.fieldLink RX3 49 "KnivesLaid$Table" "quarrelled" "[I") (List.mem_of_getElem? (i := 12) rfl)
  have f55 := hts (.fieldLink RX3 55 "KnivesLaid$Table" "near" "[I") (List.mem_of_getElem? (i := 13) rfl)
  have ml123 := hts (.methodLink RX3 123 Lib.Math.min.name) (List.mem_of_getElem? (i := 4) rfl)
  have stmin := hts (.static Lib.Math.min.name) (List.mem_of_getElem? (i := 5) rfl)
  have iMath := hts (.initialized "java/lang/Math") (List.mem_of_getElem? (i := 6) rfl)
  have comin := hts (.code Lib.Math.min.name Lib.Math.min.code 2 (some .int)) (List.mem_of_getElem? (i := 7) rfl)
  have f43 := hts (.fieldLink RX3 43 "KnivesLaid$Table" "ease" "[I") (List.mem_of_getElem? (i := 2) rfl)
  have f52 := hts (.fieldLink RX3 52 "KnivesLaid$Table" "more" "[I") (List.mem_of_getElem? (i := 3) rfl)
  have ml128 := hts (.methodLink RX3 128 Lib.Math.max.name) (List.mem_of_getElem? (i := 8) rfl)
  have stmax := hts (.static Lib.Math.max.name) (List.mem_of_getElem? (i := 9) rfl)
  have comax := hts (.code Lib.Math.max.name Lib.Math.max.code 2 (some .int)) (List.mem_of_getElem? (i := 10) rfl)
  have f46 := hts (.fieldLink RX3 46 "KnivesLaid$Table" "told" "[I") (List.mem_of_getElem? (i := 11) rfl)
  skip
  have hgu := gu_of ok.gu
  have hgu8 := hgu.2
  refine lv_aload_n hx hb dX3_serveOne_0 rfl (lv_at hl 0 rfl) ?_
  refine callE (W.runV (As := []) (rest := []) ⟨hx, hb, hml, hown, hts⟩ (k_X3_tellingSet l D cI cL cS b co gu kn fo sp wh ki pl ea to qu mo ne ok) (cwV 0 hts gX3_serveOne_X3_tellingSet rfl rfl rfl (by decide +kernel) ⟨Nat.le_of_ble_eq_true rfl, Nat.le_of_ble_eq_true rfl⟩) ⟨PcR_fb, va_recv hK hP (ci := 1) (q0 := 0) rfl rfl, PcR_pre hP hK⟩ rfl rfl hl.1 rfl (lv_room (Nat.le_of_ble_eq_true rfl)) dX3_serveOne_1 ⟨Nat.zero_le _, Nat.zero_le _⟩) ?_
  refine lv_istore_n (lv' := [(1, .int (sSet (sTells sp ki pl ea) (ix gu))), (0, .ref (b 0))]) hx hb dX3_serveOne_4 rfl hl (by decide) rfl (fun ls hl => ?_)
  have hP : va_P D vwCl (tbw cI b co gu kn fo sp wh ki pl (fa_fill (fEa gu kn fo sp ki pl ea) ea 0) (fa_fill (fTo gu sp ki pl ea to) to 0) qu mo ne) s.heap := by rw [fa_fill_0, fa_fill_0]; exact hP
  refine lv_iconst (v := 0) hx hb dX3_serveOne_5 (by decide) ?_
  refine lv_istore_n (lv' := [(2, .int 0), (1, .int (sSet (sTells sp ki pl ea) (ix gu))), (0, .ref (b 0))]) hx hb dX3_serveOne_6 rfl hl (by decide) rfl (fun ls hl => ?_)
  refine lpW (fun n (u : Nat) H locs ls => (u + n = ix gu) ∧ va_P D vwCl (tbw cI b co gu kn fo sp wh ki pl (fa_fill (fEa gu kn fo sp ki pl ea) ea u) (fa_fill (fTo gu sp ki pl ea to) to u) qu mo ne) H ∧ va_S A s.heap H locs ∧ lv_has ls 4 [(0, .ref (b 0)), (1, .int (sSet (sTells sp ki pl ea) (ix gu))), (2, .int (nI u))]) (ix gu) (0) ⟨by omega, hP, hS, lv_sub hl [2, 1, 0] rfl⟩ (fun n ih u H locs ls hI => ?_)
  obtain ⟨i, rfl⟩ : ∃ z, z = u := ⟨_, rfl⟩
  obtain ⟨hi0, hP, hS, hl⟩ := hI
  have hi0 : i + n = ix gu := hi0
  have hl : lv_has ls 4 [(0, .ref (b 0)), (1, .int (sSet (sTells sp ki pl ea) (ix gu))), (2, .int (nI i))] := hl
  have hP : va_P D vwCl (tbw cI b co gu kn fo sp wh ki pl (fa_fill (fEa gu kn fo sp ki pl ea) ea i) (fa_fill (fTo gu sp ki pl ea to) to i) qu mo ne) H := hP
  have hix : ix (nI i) = i := ix_nI (by omega)
  refine lv_iload_n hx hb dX3_serveOne_7 rfl (lv_at hl 2 rfl) ?_
  refine lv_aload_n hx hb dX3_serveOne_8 rfl (lv_at hl 0 rfl) ?_
  refine va_get (ci := 1) (v := .int gu) (C := RX3) (T := TX3) (N := 13) hx hb hts inX3 hown hK hP 0 rfl rfl 5 (by decide) f34 (fun _ h9 => h9) rfl dX3_serveOne_9 ?_
  refine lv_icmp_ge (tgt := 74) hx hb dX3_serveOne_12 (by decide) (fun c_1 => ?_) (fun c_1 => ?_)
  · skip
    have c_1n := (cmp_le (a := ix gu) (b := i) hgu.1 rfl (by omega) (by omega)).mp c_1
    have hP : va_P D vwCl (tbw cI b co gu kn fo sp wh ki pl (cEa gu kn fo sp ki pl ea) (cTo gu sp ki pl ea to) qu mo ne) H := by rw [show i = ix gu by omega] at hP; exact hP
    refine lv_aload_n hx hb dX3_serveOne_74 rfl (lv_at hl 0 rfl) ?_
    refine callE (W.runV (As := []) (rest := []) ⟨hx, hb, hml, hown, hts⟩ (k_X3_soreSet l D cI cL cS b co gu kn fo sp wh ki pl (cEa gu kn fo sp ki pl ea) (cTo gu sp ki pl ea to) qu mo ne ok.gu) (cwV 0 hts gX3_serveOne_X3_soreSet rfl rfl rfl (by decide +kernel) ⟨Nat.le_of_ble_eq_true rfl, Nat.le_of_ble_eq_true rfl⟩) ⟨PcR_fb, va_recv hK hP (ci := 1) (q0 := 0) rfl rfl, PcR_pre hP hK⟩ rfl rfl hl.1 rfl (lv_room (Nat.le_of_ble_eq_true rfl)) dX3_serveOne_75 ⟨Nat.zero_le _, Nat.zero_le _⟩) ?_
    refine lv_istore_n (lv' := [(2, .int (sSet (sSores ki (cEa gu kn fo sp ki pl ea)) (ix gu))), (0, .ref (b 0)), (1, .int (sSet (sTells sp ki pl ea) (ix gu)))]) hx hb dX3_serveOne_78 rfl hl (by decide) rfl (fun ls hl => ?_)
    have hP : va_P D vwCl (tbw cI b co gu kn fo sp wh ki pl (cEa gu kn fo sp ki pl ea) (cTo gu sp ki pl ea to) (fa_fill (fQu gu ki pl (cEa gu kn fo sp ki pl ea) qu) qu 0) mo ne) H := by rw [fa_fill_0]; exact hP
    refine lv_iconst (v := 0) hx hb dX3_serveOne_79 (by decide) ?_
    refine lv_istore_n (lv' := [(3, .int 0), (2, .int (sSet (sSores ki (cEa gu kn fo sp ki pl ea)) (ix gu))), (0, .ref (b 0)), (1, .int (sSet (sTells sp ki pl ea) (ix gu)))]) hx hb dX3_serveOne_80 rfl hl (by decide) rfl (fun ls hl => ?_)
    refine lpW (fun n (u : Nat) H locs ls => (u + n = ix gu) ∧ va_P D vwCl (tbw cI b co gu kn fo sp wh ki pl (cEa gu kn fo sp ki pl ea) (cTo gu sp ki pl ea to) (fa_fill (fQu gu ki pl (cEa gu kn fo sp ki pl ea) qu) qu u) mo ne) H ∧ va_S A s.heap H locs ∧ lv_has ls 4 [(0, .ref (b 0)), (2, .int (sSet (sSores ki (cEa gu kn fo sp ki pl ea)) (ix gu))), (3, .int (nI u))]) (ix gu) (0) ⟨by omega, hP, hS, lv_sub hl [2, 1, 0] rfl⟩ (fun n ih u H locs ls hI => ?_)
    obtain ⟨j, rfl⟩ : ∃ z, z = u := ⟨_, rfl⟩
    obtain ⟨hj0, hP, hS, hl⟩ := hI
    have hj0 : j + n = ix gu := hj0
    have hl : lv_has ls 4 [(0, .ref (b 0)), (2, .int (sSet (sSores ki (cEa gu kn fo sp ki pl ea)) (ix gu))), (3, .int (nI j))] := hl
    have hP : va_P D vwCl (tbw cI b co gu kn fo sp wh ki pl (cEa gu kn fo sp ki pl ea) (cTo gu sp ki pl ea to) (fa_fill (fQu gu ki pl (cEa gu kn fo sp ki pl ea) qu) qu j) mo ne) H := hP
    have hjx : ix (nI j) = j := ix_nI (by omega)
    refine lv_iload_n hx hb dX3_serveOne_81 rfl (lv_at hl 2 rfl) ?_
    refine lv_aload_n hx hb dX3_serveOne_82 rfl (lv_at hl 0 rfl) ?_
    refine va_get (ci := 1) (v := .int gu) (C := RX3) (T := TX3) (N := 13) hx hb hts inX3 hown hK hP 0 rfl rfl 5 (by decide) f34 (fun _ h9 => h9) rfl dX3_serveOne_83 ?_
    refine lv_icmp_ge (tgt := 134) hx hb dX3_serveOne_86 (by decide) (fun c_2 => ?_) (fun c_2 => ?_)
    · skip
      have c_2n := (cmp_le (a := ix gu) (b := j) hgu.1 rfl (by omega) (by omega)).mp c_2
      have hP : va_P D vwCl (tbw cI b co gu kn fo sp wh ki pl (cEa gu kn fo sp ki pl ea) (cTo gu sp ki pl ea to) (cQu gu ki pl (cEa gu kn fo sp ki pl ea) qu) mo ne) H := by rw [show j = ix gu by omega] at hP; exact hP
      refine lv_aload_n hx hb dX3_serveOne_134 rfl (lv_at hl 0 rfl) ?_
      refine lv_dup hx hb dX3_serveOne_135 rfl ?_
      refine va_get (ci := 1) (v := .int co) (C := RX3) (T := TX3) (N := 13) hx hb hts inX3 hown hK hP 0 rfl rfl 0 (by decide) f9 (fun _ h9 => h9) rfl dX3_serveOne_136 ?_
      refine lv_iconst (v := 1) hx hb dX3_serveOne_139 (by decide) ?_
      refine lv_iadd hx hb dX3_serveOne_140 ?_
      refine va_put (ci := 1) (v := .int (co + 1)) (ty := .int) (C := RX3) (T := TX3) (N := 13) hx hb hts inX3 tyX3 tyX3_ok nmX3 hown hK hP (hD _ rfl) hS 0 rfl rfl 0 (by decide) f9 (fun _ h9 => h9) rfl rfl rfl rfl (Nat.le_of_ble_eq_true rfl) dX3_serveOne_141 (fun H locs hP _ hS => ?_)
      have hP : va_P D vwCl (tbw cI b (co + 1) gu kn fo sp wh ki pl (cEa gu kn fo sp ki pl ea) (cTo gu sp ki pl ea to) (cQu gu ki pl (cEa gu kn fo sp ki pl ea) qu) mo ne) H := hP
      exact W.vret hx hb hr (fun t ht hW => ⟨⟨(), rfl, (by trivial), by dsimp only; rw [ht]; exact hP⟩, hS.F ht⟩) hS.2.2 dX3_serveOne_144
    · skip
      have c_2n := mt (cmp_le (a := ix gu) (b := j) hgu.1 rfl (by omega) (by omega)).mpr c_2
      refine lv_iload_n hx hb dX3_serveOne_89 rfl (lv_at hl 1 rfl) ?_
      refine lv_iload_n hx hb dX3_serveOne_90 rfl (lv_at hl 2 rfl) ?_
      refine lv_ishr hx hb dX3_serveOne_91 ?_
      refine lv_iconst (v := 1) hx hb dX3_serveOne_92 (by decide) ?_
      refine lv_iand hx hb dX3_serveOne_93 ?_
      refine lv_iconst (v := 1) hx hb dX3_serveOne_94 (by decide) ?_
      refine lv_icmp_ne (tgt := 128) hx hb dX3_serveOne_95 (by decide) (fun c_3 => ?_) (fun c_3 => ?_)
      · skip
        refine lv_iinc (v := nI (j + 1)) (lv' := [(3, .int (nI (j + 1))), (0, .ref (b 0)), (2, .int (sSet (sSores ki (cEa gu kn fo sp ki pl ea)) (ix gu)))]) hx hb dX3_serveOne_128 hl (k := 2) rfl (nI_1 _) (by decide) rfl (fun ls hl => ?_)
        refine lv_goto (tgt := 81) hx hb dX3_serveOne_131 (by decide) ?_
        have hP : va_P D vwCl (tbw cI b co gu kn fo sp wh ki pl (cEa gu kn fo sp ki pl ea) (cTo gu sp ki pl ea to) (fa_fill (fQu gu ki pl (cEa gu kn fo sp ki pl ea) qu) qu (j + 1)) mo ne) H := by rw [keep_qu oe (by omega) c_3]; exact hP
        exact ih (n - 1) (by omega) (j + 1) H locs ls ⟨by omega, hP, hS, lv_sub hl [1, 2, 0] rfl⟩
      · skip
        refine lv_aload_n hx hb dX3_serveOne_98 rfl (lv_at hl 0 rfl) ?_
        refine va_get (ci := 1) (v := .ref (b 9)) (C := RX3) (T := TX3) (N := 13) hx hb hts inX3 hown hK hP 0 rfl rfl 10 (by decide) f49 (fun _ h9 => h9) rfl dX3_serveOne_99 ?_
        refine lv_iload_n hx hb dX3_serveOne_102 rfl (lv_at hl 2 rfl) ?_
        refine lv_sipush (v := 9999) hx hb dX3_serveOne_103 (by decide) ?_
        refine lv_aload_n hx hb dX3_serveOne_106 rfl (lv_at hl 0 rfl) ?_
        refine va_get (ci := 1) (v := .ref (b 9)) (C := RX3) (T := TX3) (N := 13) hx hb hts inX3 hown hK hP 0 rfl rfl 10 (by decide) f49 (fun _ h9 => h9) rfl dX3_serveOne_107 ?_
        refine lv_iload_n hx hb dX3_serveOne_110 rfl (lv_at hl 2 rfl) ?_
        refine va_iald hx hb hK hP 9 0 rfl rfl (vp_in_nI (by omega) (by omega)) dX3_serveOne_111 ?_
        refine lv_aload_n hx hb dX3_serveOne_112 rfl (lv_at hl 0 rfl) ?_
        refine va_get (ci := 1) (v := .ref (b 11)) (C := RX3) (T := TX3) (N := 13) hx hb hts inX3 hown hK hP 0 rfl rfl 12 (by decide) f55 (fun _ h9 => h9) rfl dX3_serveOne_113 ?_
        refine lv_iload_n hx hb dX3_serveOne_116 rfl (lv_at hl 2 rfl) ?_
        refine va_iald hx hb hK hP 11 0 rfl rfl (vp_in_nI (by omega) (by omega)) dX3_serveOne_117 ?_
        refine lv_iload_n hx hb dX3_serveOne_118 rfl (lv_at hl 1 rfl) ?_
        refine lv_iand hx hb dX3_serveOne_119 ?_
        refine callE (W.runS (As := [.int ((ne (ix (nI j))) &&& (sSet (sSores ki (cEa gu kn fo sp ki pl ea)) (ix gu)))]) (rest := [.int ((fa_fill (fQu gu ki pl (cEa gu kn fo sp ki pl ea) qu) qu j) (ix (nI j))), .int 9999, .int (nI j), .ref (b 9)]) ⟨hx, hb, hml, hown, hts⟩ (k_J6_bitCount_0f7a4 l ((ne (ix (nI j))) &&& (sSet (sSores ki (cEa gu kn fo sp ki pl ea)) (ix gu)))) (va_cwS 1 hts gX3_serveOne_J6_bitCount_0f7a4 rfl rfl rfl (by decide +kernel) ⟨Nat.le_of_ble_eq_true rfl, Nat.le_of_ble_eq_true rfl⟩) ⟨PcP_fb, fun U _ _ => ⟨rfl, trivial⟩⟩ rfl rfl hl.1 rfl (lv_room (Nat.le_of_ble_eq_true rfl)) dX3_serveOne_120 ⟨Nat.zero_le _, Nat.zero_le _⟩) ?_
        refine lv_iadd hx hb dX3_serveOne_123 ?_
        refine va_mmin hx hb (by rw [hml]; exact hl.1.symm) hown ml123 stmin iMath comin (Nat.le_of_ble_eq_true rfl) (Nat.le_of_ble_eq_true rfl) (Nat.zero_le _) (Nat.zero_le _) dX3_serveOne_124 ?_
        refine va_iast hx hb hK hP (hD _ rfl) hS 9 0 rfl rfl (vp_in_nI (by omega) (by omega)) dX3_serveOne_127 (fun H locs hP _ hS => ?_)
        have hP : va_P D vwCl (tbw cI b co gu kn fo sp wh ki pl (cEa gu kn fo sp ki pl ea) (cTo gu sp ki pl ea to) (upd (fa_fill (fQu gu ki pl (cEa gu kn fo sp ki pl ea) qu) qu j) (ix (nI j)) (if (((fa_fill (fQu gu ki pl (cEa gu kn fo sp ki pl ea) qu) qu j) (ix (nI j))) + (pop32 ((ne (ix (nI j))) &&& (sSet (sSores ki (cEa gu kn fo sp ki pl ea)) (ix gu))))) < 9999 then (((fa_fill (fQu gu ki pl (cEa gu kn fo sp ki pl ea) qu) qu j) (ix (nI j))) + (pop32 ((ne (ix (nI j))) &&& (sSet (sSores ki (cEa gu kn fo sp ki pl ea)) (ix gu))))) else 9999)) mo ne) H := hP
        refine lv_iinc (v := nI (j + 1)) (lv' := [(3, .int (nI (j + 1))), (0, .ref (b 0)), (2, .int (sSet (sSores ki (cEa gu kn fo sp ki pl ea)) (ix gu)))]) hx hb dX3_serveOne_128 hl (k := 2) rfl (nI_1 _) (by decide) rfl (fun ls hl => ?_)
        refine lv_goto (tgt := 81) hx hb dX3_serveOne_131 (by decide) ?_
        have hP : va_P D vwCl (tbw cI b co gu kn fo sp wh ki pl (cEa gu kn fo sp ki pl ea) (cTo gu sp ki pl ea to) (fa_fill (fQu gu ki pl (cEa gu kn fo sp ki pl ea) qu) qu (j + 1)) mo ne) H := by rw [← step_qu ok.gu oe hjx (by omega) (hn j (by omega)) c_3]; exact hP
        exact ih (n - 1) (by omega) (j + 1) H locs ls ⟨by omega, hP, hS, lv_sub hl [1, 2, 0] rfl⟩
  · skip
    have c_1n := mt (cmp_le (a := ix gu) (b := i) hgu.1 rfl (by omega) (by omega)).mpr c_1
    refine lv_aload_n hx hb dX3_serveOne_15 rfl (lv_at hl 0 rfl) ?_
    refine va_get (ci := 1) (v := .ref (b 7)) (C := RX3) (T := TX3) (N := 13) hx hb hts inX3 hown hK hP 0 rfl rfl 8 (by decide) f43 (fun _ h9 => h9) rfl dX3_serveOne_16 ?_
    refine lv_iload_n hx hb dX3_serveOne_19 rfl (lv_at hl 2 rfl) ?_
    refine lv_bipush (v := (-99)) hx hb dX3_serveOne_20 (by decide) ?_
    refine lv_bipush (v := 99) hx hb dX3_serveOne_22 (by decide) ?_
    refine lv_aload_n hx hb dX3_serveOne_24 rfl (lv_at hl 0 rfl) ?_
    refine va_get (ci := 1) (v := .ref (b 7)) (C := RX3) (T := TX3) (N := 13) hx hb hts inX3 hown hK hP 0 rfl rfl 8 (by decide) f43 (fun _ h9 => h9) rfl dX3_serveOne_25 ?_
    refine lv_iload_n hx hb dX3_serveOne_28 rfl (lv_at hl 2 rfl) ?_
    refine va_iald hx hb hK hP 7 0 rfl rfl (vp_in_nI (by omega) (by omega)) dX3_serveOne_29 ?_
    refine lv_aload_n hx hb dX3_serveOne_30 rfl (lv_at hl 0 rfl) ?_
    refine va_get (ci := 1) (v := .ref (b 10)) (C := RX3) (T := TX3) (N := 13) hx hb hts inX3 hown hK hP 0 rfl rfl 11 (by decide) f52 (fun _ h9 => h9) rfl dX3_serveOne_31 ?_
    refine lv_iload_n hx hb dX3_serveOne_34 rfl (lv_at hl 2 rfl) ?_
    refine va_iald hx hb hK hP 10 0 rfl rfl (vp_in_nI (by omega) (by omega)) dX3_serveOne_35 ?_
    refine lv_iadd hx hb dX3_serveOne_36 ?_
    refine va_mmin hx hb (by rw [hml]; exact hl.1.symm) hown ml123 stmin iMath comin (Nat.le_of_ble_eq_true rfl) (Nat.le_of_ble_eq_true rfl) (Nat.zero_le _) (Nat.zero_le _) dX3_serveOne_37 ?_
    refine va_mmax hx hb (by rw [hml]; exact hl.1.symm) hown ml128 stmax iMath comax (Nat.le_of_ble_eq_true rfl) (Nat.le_of_ble_eq_true rfl) (Nat.zero_le _) (Nat.zero_le _) dX3_serveOne_40 ?_
    refine va_iast hx hb hK hP (hD _ rfl) hS 7 0 rfl rfl (vp_in_nI (by omega) (by omega)) dX3_serveOne_43 (fun H locs hP _ hS => ?_)
    have hP : va_P D vwCl (tbw cI b co gu kn fo sp wh ki pl (upd (fa_fill (fEa gu kn fo sp ki pl ea) ea i) (ix (nI i)) (if (-99) < (if (((fa_fill (fEa gu kn fo sp ki pl ea) ea i) (ix (nI i))) + (mo (ix (nI i)))) < 99 then (((fa_fill (fEa gu kn fo sp ki pl ea) ea i) (ix (nI i))) + (mo (ix (nI i)))) else 99) then (if (((fa_fill (fEa gu kn fo sp ki pl ea) ea i) (ix (nI i))) + (mo (ix (nI i)))) < 99 then (((fa_fill (fEa gu kn fo sp ki pl ea) ea i) (ix (nI i))) + (mo (ix (nI i)))) else 99) else (-99))) (fa_fill (fTo gu sp ki pl ea to) to i) qu mo ne) H := hP
    refine lv_aload_n hx hb dX3_serveOne_44 rfl (lv_at hl 0 rfl) ?_
    refine va_get (ci := 1) (v := .ref (b 8)) (C := RX3) (T := TX3) (N := 13) hx hb hts inX3 hown hK hP 0 rfl rfl 9 (by decide) f46 (fun _ h9 => h9) rfl dX3_serveOne_45 ?_
    refine lv_iload_n hx hb dX3_serveOne_48 rfl (lv_at hl 2 rfl) ?_
    refine lv_sipush (v := 9999) hx hb dX3_serveOne_49 (by decide) ?_
    refine lv_aload_n hx hb dX3_serveOne_52 rfl (lv_at hl 0 rfl) ?_
    refine va_get (ci := 1) (v := .ref (b 8)) (C := RX3) (T := TX3) (N := 13) hx hb hts inX3 hown hK hP 0 rfl rfl 9 (by decide) f46 (fun _ h9 => h9) rfl dX3_serveOne_53 ?_
    refine lv_iload_n hx hb dX3_serveOne_56 rfl (lv_at hl 2 rfl) ?_
    refine va_iald hx hb hK hP 8 0 rfl rfl (vp_in_nI (by omega) (by omega)) dX3_serveOne_57 ?_
    refine lv_iload_n hx hb dX3_serveOne_58 rfl (lv_at hl 1 rfl) ?_
    refine lv_iload_n hx hb dX3_serveOne_59 rfl (lv_at hl 2 rfl) ?_
    refine lv_ishr hx hb dX3_serveOne_60 ?_
    refine lv_iconst (v := 1) hx hb dX3_serveOne_61 (by decide) ?_
    refine lv_iand hx hb dX3_serveOne_62 ?_
    refine lv_iadd hx hb dX3_serveOne_63 ?_
    refine va_mmin hx hb (by rw [hml]; exact hl.1.symm) hown ml123 stmin iMath comin (Nat.le_of_ble_eq_true rfl) (Nat.le_of_ble_eq_true rfl) (Nat.zero_le _) (Nat.zero_le _) dX3_serveOne_64 ?_
    refine va_iast hx hb hK hP (hD _ rfl) hS 8 0 rfl rfl (vp_in_nI (by omega) (by omega)) dX3_serveOne_67 (fun H locs hP _ hS => ?_)
    have hP : va_P D vwCl (tbw cI b co gu kn fo sp wh ki pl (upd (fa_fill (fEa gu kn fo sp ki pl ea) ea i) (ix (nI i)) (if (-99) < (if (((fa_fill (fEa gu kn fo sp ki pl ea) ea i) (ix (nI i))) + (mo (ix (nI i)))) < 99 then (((fa_fill (fEa gu kn fo sp ki pl ea) ea i) (ix (nI i))) + (mo (ix (nI i)))) else 99) then (if (((fa_fill (fEa gu kn fo sp ki pl ea) ea i) (ix (nI i))) + (mo (ix (nI i)))) < 99 then (((fa_fill (fEa gu kn fo sp ki pl ea) ea i) (ix (nI i))) + (mo (ix (nI i)))) else 99) else (-99))) (upd (fa_fill (fTo gu sp ki pl ea to) to i) (ix (nI i)) (if (((fa_fill (fTo gu sp ki pl ea to) to i) (ix (nI i))) + (((sSet (sTells sp ki pl ea) (ix gu)) >>> ((nI i) &&& 31)) &&& 1)) < 9999 then (((fa_fill (fTo gu sp ki pl ea to) to i) (ix (nI i))) + (((sSet (sTells sp ki pl ea) (ix gu)) >>> ((nI i) &&& 31)) &&& 1)) else 9999)) qu mo ne) H := hP
    refine lv_iinc (v := nI (i + 1)) (lv' := [(2, .int (nI (i + 1))), (0, .ref (b 0)), (1, .int (sSet (sTells sp ki pl ea) (ix gu)))]) hx hb dX3_serveOne_68 hl (k := 2) rfl (nI_1 _) (by decide) rfl (fun ls hl => ?_)
    refine lv_goto (tgt := 7) hx hb dX3_serveOne_71 (by decide) ?_
    have hP : va_P D vwCl (tbw cI b co gu kn fo sp wh ki pl (fa_fill (fEa gu kn fo sp ki pl ea) ea (i + 1)) (fa_fill (fTo gu sp ki pl ea to) to (i + 1)) qu mo ne) H := by rw [← step_ea hix (hm i (by omega)), ← step_to oe hix (by omega)]; exact hP
    exact ih (n - 1) (by omega) (i + 1) H locs ls ⟨by omega, hP, hS, lv_sub hl [1, 2, 0] rfl⟩

set_option maxRecDepth 100000 in
set_option maxHeartbeats 4000000 in
theorem k_X3_serve (l : Launch) (D : va_G) (cI cL cS : ClassId) (b : Nat → Nat) (co gu : Int32) (kn fo sp wh ki pl ea to qu mo ne : FI) (x0 : Int32) (dj : va_D (fun _ => True) (dj0 b 12)) (ok : okT gu kn fo sp wh ki pl) (oe : okE ea to qu) (h0 : vp_in x0 1000) : Met l yX3_serve wsX3_serve { frames := 4, cells := 0, slots := 0, locals := 89 } (PcR D vwCl (tyG cI cL cS) [.ref (b 0), .int x0] (tbw cI b co gu kn fo sp wh ki pl ea to qu mo ne)) (va_Qv (fun (u : FI × FI) => True) (fun u t => va_P D vwCl (tbw cI b (sCo (sPass (ix x0) (co, gu, kn, fo, sp, ki, pl, ea, to, qu))) (sGu (sPass (ix x0) (co, gu, kn, fo, sp, ki, pl, ea, to, qu))) (sKn (sPass (ix x0) (co, gu, kn, fo, sp, ki, pl, ea, to, qu))) (sFo (sPass (ix x0) (co, gu, kn, fo, sp, ki, pl, ea, to, qu))) (sSp (sPass (ix x0) (co, gu, kn, fo, sp, ki, pl, ea, to, qu))) wh (sKi (sPass (ix x0) (co, gu, kn, fo, sp, ki, pl, ea, to, qu))) (sPl (sPass (ix x0) (co, gu, kn, fo, sp, ki, pl, ea, to, qu))) (sEa (sPass (ix x0) (co, gu, kn, fo, sp, ki, pl, ea, to, qu))) (sTo (sPass (ix x0) (co, gu, kn, fo, sp, ki, pl, ea, to, qu))) (sQu (sPass (ix x0) (co, gu, kn, fo, sp, ki, pl, ea, to, qu))) u.1 u.2) t.heap) (Aof (tbw cI b co gu kn fo sp wh ki pl ea to qu mo ne))) 0 0 (Aof (tbw cI b co gu kn fo sp wh ki pl ea to qu mo ne)) := by
  refine Met.ofW (cc := cX3_serve) (maxL := 3) (ret := none) (by decide) rfl ?_
  intro p e s m args below meth c s₁ B hml hv
  obtain ⟨rfl, hP, hK⟩ := hv
  have hx := B.exec
  have hb := B.bytes
  have hr := B.returns
  have hts := atoms_spec (ws := wsX3_serve) B.pre
  have hown : s.vm.findClass RX3 = some m.cls := findClass_of_methodNamed B.named
  have hlocks := B.notSynchronized
  obtain ⟨A, hAe⟩ : ∃ A, A = Aof (tbw cI b co gu kn fo sp wh ki pl ea to qu mo ne) := ⟨_, rfl⟩
  rw [← hAe]
  have hD : ∀ ws' : va_W, ws'.map Prod.fst = (tbw cI b co gu kn fo sp wh ki pl ea to qu mo ne).map Prod.fst → va_D A ws' := fun ws' e => by rw [hAe]; exact va_D_adr (va_D_self (va_D_adr dj rfl)) e
  have hS : va_S A s.heap s.heap [] := va_S.rf
  have hP : va_P D vwCl (tbw cI b co gu kn fo sp wh ki pl ea to qu mo ne) s.heap := hP
  have hl := lv_entry ([.ref (b 0), .int x0]) (n := 3) (Nat.le_of_ble_eq_true rfl)
  rw [lg_entry_eq]
  generalize (lg_sl ([.ref (b 0), .int x0]) ++ List.replicate (3 - (lg_sl ([.ref (b 0), .int x0])).length) Slot.unset).toArray = ls at hl ⊢
  have hl : lv_has ls 3 [(0, .ref (b 0)), (1, .int x0)] := hl
  skip
  have e0 : x0 = nI (ix x0) := (nI_ix (by omega) h0).symm
  have b0 := ix_lt (by omega) h0
  refine lv_aload_n hx hb dX3_serve_0 rfl (lv_at hl 0 rfl) ?_
  refine callMv (va_runV (As := []) (rest := []) ⟨hx, hb, hml, hown, hts⟩ (k_X3_findMore l D cI cL cS b co gu kn fo sp wh ki pl ea to qu mo ne (va_DT (hD _ rfl) rfl) ok) (cwV 0 hts gX3_serve_X3_findMore rfl rfl rfl (by decide +kernel) ⟨Nat.le_of_ble_eq_true rfl, Nat.le_of_ble_eq_true rfl⟩) ⟨PcR_fb, va_recv hK hP (ci := 1) (q0 := 0) rfl rfl, PcR_pre hP hK⟩ rfl rfl hl.1 rfl (lv_room (Nat.le_of_ble_eq_true rfl)) dX3_serve_1 ⟨Nat.zero_le _, Nat.zero_le _⟩) hP (hD _ rfl) hS 0 12 rfl (fun u_1 H locs hu_1 hP hS => ?_)
  obtain ⟨mo_3, ne_4⟩ := u_1
  have hu_1 : (∀ g, g < ix gu → mo_3 g = sMore gu kn fo sp ki pl g) ∧ (∀ g, g < ix gu → ne_4 g = sNear gu pl g) := hu_1
  have hMN := hu_1
  have hP : va_P D vwCl (tbw cI b co gu kn fo sp wh ki pl ea to qu mo_3 ne_4) H := hP
  have hP : va_P D vwCl (tbw cI b (sCo (sPass 0 (co, gu, kn, fo, sp, ki, pl, ea, to, qu))) (sGu (sPass 0 (co, gu, kn, fo, sp, ki, pl, ea, to, qu))) (sKn (sPass 0 (co, gu, kn, fo, sp, ki, pl, ea, to, qu))) (sFo (sPass 0 (co, gu, kn, fo, sp, ki, pl, ea, to, qu))) (sSp (sPass 0 (co, gu, kn, fo, sp, ki, pl, ea, to, qu))) wh (sKi (sPass 0 (co, gu, kn, fo, sp, ki, pl, ea, to, qu))) (sPl (sPass 0 (co, gu, kn, fo, sp, ki, pl, ea, to, qu))) (sEa (sPass 0 (co, gu, kn, fo, sp, ki, pl, ea, to, qu))) (sTo (sPass 0 (co, gu, kn, fo, sp, ki, pl, ea, to, qu))) (sQu (sPass 0 (co, gu, kn, fo, sp, ki, pl, ea, to, qu))) mo_3 ne_4) H := by exact hP
  refine lv_iconst (v := 0) hx hb dX3_serve_4 (by decide) ?_
  refine lv_istore_n (lv' := [(2, .int 0), (0, .ref (b 0)), (1, .int x0)]) hx hb dX3_serve_5 rfl hl (by decide) rfl (fun ls hl => ?_)
  refine lpW (fun n (u : Nat) H locs ls => (u + n = ix x0) ∧ va_P D vwCl (tbw cI b (sCo (sPass u (co, gu, kn, fo, sp, ki, pl, ea, to, qu))) (sGu (sPass u (co, gu, kn, fo, sp, ki, pl, ea, to, qu))) (sKn (sPass u (co, gu, kn, fo, sp, ki, pl, ea, to, qu))) (sFo (sPass u (co, gu, kn, fo, sp, ki, pl, ea, to, qu))) (sSp (sPass u (co, gu, kn, fo, sp, ki, pl, ea, to, qu))) wh (sKi (sPass u (co, gu, kn, fo, sp, ki, pl, ea, to, qu))) (sPl (sPass u (co, gu, kn, fo, sp, ki, pl, ea, to, qu))) (sEa (sPass u (co, gu, kn, fo, sp, ki, pl, ea, to, qu))) (sTo (sPass u (co, gu, kn, fo, sp, ki, pl, ea, to, qu))) (sQu (sPass u (co, gu, kn, fo, sp, ki, pl, ea, to, qu))) mo_3 ne_4) H ∧ va_S A s.heap H locs ∧ lv_has ls 3 [(0, .ref (b 0)), (1, .int x0), (2, .int (nI u))]) (ix x0) (0) ⟨by omega, hP, hS, lv_sub hl [1, 2, 0] rfl⟩ (fun n ih u H locs ls hI => ?_)
  obtain ⟨i, rfl⟩ : ∃ z, z = u := ⟨_, rfl⟩
  obtain ⟨hi0, hP, hS, hl⟩ := hI
  have hi0 : i + n = ix x0 := hi0
  have hl : lv_has ls 3 [(0, .ref (b 0)), (1, .int x0), (2, .int (nI i))] := hl
  have hP : va_P D vwCl (tbw cI b (sCo (sPass i (co, gu, kn, fo, sp, ki, pl, ea, to, qu))) (sGu (sPass i (co, gu, kn, fo, sp, ki, pl, ea, to, qu))) (sKn (sPass i (co, gu, kn, fo, sp, ki, pl, ea, to, qu))) (sFo (sPass i (co, gu, kn, fo, sp, ki, pl, ea, to, qu))) (sSp (sPass i (co, gu, kn, fo, sp, ki, pl, ea, to, qu))) wh (sKi (sPass i (co, gu, kn, fo, sp, ki, pl, ea, to, qu))) (sPl (sPass i (co, gu, kn, fo, sp, ki, pl, ea, to, qu))) (sEa (sPass i (co, gu, kn, fo, sp, ki, pl, ea, to, qu))) (sTo (sPass i (co, gu, kn, fo, sp, ki, pl, ea, to, qu))) (sQu (sPass i (co, gu, kn, fo, sp, ki, pl, ea, to, qu))) mo_3 ne_4) H := hP
  refine lv_iload_n hx hb dX3_serve_6 rfl (lv_at hl 2 rfl) ?_
  refine lv_iload_n hx hb dX3_serve_7 rfl (lv_at hl 1 rfl) ?_
  refine lv_icmp_ge (tgt := 21) hx hb dX3_serve_8 (by decide) (fun c_5 => ?_) (fun c_5 => ?_)
  · skip
    have c_5n := (cmp_le (a := ix x0) (b := i) e0 rfl (by omega) (by omega)).mp c_5
    exact W.vret hx hb hr (fun t ht hW => ⟨⟨(mo_3, ne_4), rfl, (by trivial), by dsimp only; rw [ht]; exact (by rw [show i = ix x0 by omega] at hP; exact hP)⟩, hS.F ht⟩) hS.2.2 dX3_serve_21
  · skip
    have c_5n := mt (cmp_le (a := ix x0) (b := i) e0 rfl (by omega) (by omega)).mpr c_5
    refine lv_aload_n hx hb dX3_serve_11 rfl (lv_at hl 0 rfl) ?_
    refine callMv (va_runV (As := []) (rest := []) ⟨hx, hb, hml, hown, hts⟩ (k_X3_serveOne l D cI cL cS b (sCo (sPass i (co, gu, kn, fo, sp, ki, pl, ea, to, qu))) (sGu (sPass i (co, gu, kn, fo, sp, ki, pl, ea, to, qu))) (sKn (sPass i (co, gu, kn, fo, sp, ki, pl, ea, to, qu))) (sFo (sPass i (co, gu, kn, fo, sp, ki, pl, ea, to, qu))) (sSp (sPass i (co, gu, kn, fo, sp, ki, pl, ea, to, qu))) wh (sKi (sPass i (co, gu, kn, fo, sp, ki, pl, ea, to, qu))) (sPl (sPass i (co, gu, kn, fo, sp, ki, pl, ea, to, qu))) (sEa (sPass i (co, gu, kn, fo, sp, ki, pl, ea, to, qu))) (sTo (sPass i (co, gu, kn, fo, sp, ki, pl, ea, to, qu))) (sQu (sPass i (co, gu, kn, fo, sp, ki, pl, ea, to, qu))) mo_3 ne_4 (va_DT (hD _ rfl) rfl) ((okS_pass (σ := (co, gu, kn, fo, sp, ki, pl, ea, to, qu)) ⟨ok, oe⟩ i).1) ((okS_pass (σ := (co, gu, kn, fo, sp, ki, pl, ea, to, qu)) ⟨ok, oe⟩ i).2) (pass_more (σ := (co, gu, kn, fo, sp, ki, pl, ea, to, qu)) hMN.1 i) (pass_near (σ := (co, gu, kn, fo, sp, ki, pl, ea, to, qu)) hMN.2 i)) (cwV 0 hts gX3_serve_X3_serveOne rfl rfl rfl (by decide +kernel) ⟨Nat.le_of_ble_eq_true rfl, Nat.le_of_ble_eq_true rfl⟩) ⟨PcR_fb, va_recv hK hP (ci := 1) (q0 := 0) rfl rfl, PcR_pre hP hK⟩ rfl rfl hl.1 rfl (lv_room (Nat.le_of_ble_eq_true rfl)) dX3_serve_12 ⟨Nat.zero_le _, Nat.zero_le _⟩) hP (hD _ rfl) hS 0 12 rfl (fun u_6 H locs hu_6 hP hS => ?_)
    have hP : va_P D vwCl (tbw cI b ((sCo (sPass i (co, gu, kn, fo, sp, ki, pl, ea, to, qu))) + 1) (sGu (sPass i (co, gu, kn, fo, sp, ki, pl, ea, to, qu))) (sKn (sPass i (co, gu, kn, fo, sp, ki, pl, ea, to, qu))) (sFo (sPass i (co, gu, kn, fo, sp, ki, pl, ea, to, qu))) (sSp (sPass i (co, gu, kn, fo, sp, ki, pl, ea, to, qu))) wh (sKi (sPass i (co, gu, kn, fo, sp, ki, pl, ea, to, qu))) (sPl (sPass i (co, gu, kn, fo, sp, ki, pl, ea, to, qu))) (cEa (sGu (sPass i (co, gu, kn, fo, sp, ki, pl, ea, to, qu))) (sKn (sPass i (co, gu, kn, fo, sp, ki, pl, ea, to, qu))) (sFo (sPass i (co, gu, kn, fo, sp, ki, pl, ea, to, qu))) (sSp (sPass i (co, gu, kn, fo, sp, ki, pl, ea, to, qu))) (sKi (sPass i (co, gu, kn, fo, sp, ki, pl, ea, to, qu))) (sPl (sPass i (co, gu, kn, fo, sp, ki, pl, ea, to, qu))) (sEa (sPass i (co, gu, kn, fo, sp, ki, pl, ea, to, qu)))) (cTo (sGu (sPass i (co, gu, kn, fo, sp, ki, pl, ea, to, qu))) (sSp (sPass i (co, gu, kn, fo, sp, ki, pl, ea, to, qu))) (sKi (sPass i (co, gu, kn, fo, sp, ki, pl, ea, to, qu))) (sPl (sPass i (co, gu, kn, fo, sp, ki, pl, ea, to, qu))) (sEa (sPass i (co, gu, kn, fo, sp, ki, pl, ea, to, qu))) (sTo (sPass i (co, gu, kn, fo, sp, ki, pl, ea, to, qu)))) (cQu (sGu (sPass i (co, gu, kn, fo, sp, ki, pl, ea, to, qu))) (sKi (sPass i (co, gu, kn, fo, sp, ki, pl, ea, to, qu))) (sPl (sPass i (co, gu, kn, fo, sp, ki, pl, ea, to, qu))) (cEa (sGu (sPass i (co, gu, kn, fo, sp, ki, pl, ea, to, qu))) (sKn (sPass i (co, gu, kn, fo, sp, ki, pl, ea, to, qu))) (sFo (sPass i (co, gu, kn, fo, sp, ki, pl, ea, to, qu))) (sSp (sPass i (co, gu, kn, fo, sp, ki, pl, ea, to, qu))) (sKi (sPass i (co, gu, kn, fo, sp, ki, pl, ea, to, qu))) (sPl (sPass i (co, gu, kn, fo, sp, ki, pl, ea, to, qu))) (sEa (sPass i (co, gu, kn, fo, sp, ki, pl, ea, to, qu)))) (sQu (sPass i (co, gu, kn, fo, sp, ki, pl, ea, to, qu)))) mo_3 ne_4) H := hP
    refine lv_iinc (v := nI (i + 1)) (lv' := [(2, .int (nI (i + 1))), (0, .ref (b 0)), (1, .int x0)]) hx hb dX3_serve_15 hl (k := 2) rfl (nI_1 _) (by decide) rfl (fun ls hl => ?_)
    refine lv_goto (tgt := 6) hx hb dX3_serve_18 (by decide) ?_
    have hP : va_P D vwCl (tbw cI b (sCo (sPass (i + 1) (co, gu, kn, fo, sp, ki, pl, ea, to, qu))) (sGu (sPass (i + 1) (co, gu, kn, fo, sp, ki, pl, ea, to, qu))) (sKn (sPass (i + 1) (co, gu, kn, fo, sp, ki, pl, ea, to, qu))) (sFo (sPass (i + 1) (co, gu, kn, fo, sp, ki, pl, ea, to, qu))) (sSp (sPass (i + 1) (co, gu, kn, fo, sp, ki, pl, ea, to, qu))) wh (sKi (sPass (i + 1) (co, gu, kn, fo, sp, ki, pl, ea, to, qu))) (sPl (sPass (i + 1) (co, gu, kn, fo, sp, ki, pl, ea, to, qu))) (sEa (sPass (i + 1) (co, gu, kn, fo, sp, ki, pl, ea, to, qu))) (sTo (sPass (i + 1) (co, gu, kn, fo, sp, ki, pl, ea, to, qu))) (sQu (sPass (i + 1) (co, gu, kn, fo, sp, ki, pl, ea, to, qu))) mo_3 ne_4) H := by exact hP
    exact ih (n - 1) (by omega) (i + 1) H locs ls ⟨by omega, hP, hS, lv_sub hl [1, 2, 0] rfl⟩

set_option maxRecDepth 100000 in
set_option maxHeartbeats 4000000 in
theorem k_X3_become (l : Launch) (D : va_G) (cI cL cS : ClassId) (b : Nat → Nat) (co gu : Int32) (kn fo sp wh ki pl ea to qu mo ne : FI) (b2 : Nat → Nat) (co2 gu2 : Int32) (kn2 fo2 sp2 wh2 ki2 pl2 ea2 to2 qu2 mo2 ne2 : FI) (dj : va_D (fun _ => True) (dj0 b 12 ++ dj0 b2 12)) : Met l yX3_become wsX3_become { frames := 1, cells := 0, slots := 0, locals := 30 } (PcR D vwCl (tyG cI cL cS) [.ref (b 0), .ref (b2 0)] (tbw2 cI b b2 co gu kn fo sp wh ki pl ea to qu mo ne co2 gu2 kn2 fo2 sp2 wh2 ki2 pl2 ea2 to2 qu2 mo2 ne2)) (va_Qv (fun (_ : Unit) => True) (fun _ t => va_P D vwCl (tbw2 cI b b2 co2 gu2 kn2 fo2 sp2 wh2 ki2 pl2 ea2 to2 qu2 mo ne co2 gu2 kn2 fo2 sp2 wh2 ki2 pl2 ea2 to2 qu2 mo2 ne2) t.heap) (Aof (tbw2 cI b b2 co gu kn fo sp wh ki pl ea to qu mo ne co2 gu2 kn2 fo2 sp2 wh2 ki2 pl2 ea2 to2 qu2 mo2 ne2))) 0 0 (Aof (tbw2 cI b b2 co gu kn fo sp wh ki pl ea to qu mo ne co2 gu2 kn2 fo2 sp2 wh2 ki2 pl2 ea2 to2 qu2 mo2 ne2)) := by
  refine Met.ofW (cc := cX3_become) (maxL := 2) (ret := none) (by decide) rfl ?_
  intro p e s m args below meth c s₁ B hml hv
  obtain ⟨rfl, hP, hK⟩ := hv
  have hx := B.exec
  have hb := B.bytes
  have hr := B.returns
  have hts := atoms_spec (ws := wsX3_become) B.pre
  have hown : s.vm.findClass RX3 = some m.cls := findClass_of_methodNamed B.named
  have hlocks := B.notSynchronized
  obtain ⟨A, hAe⟩ : ∃ A, A = Aof (tbw2 cI b b2 co gu kn fo sp wh ki pl ea to qu mo ne co2 gu2 kn2 fo2 sp2 wh2 ki2 pl2 ea2 to2 qu2 mo2 ne2) := ⟨_, rfl⟩
  rw [← hAe]
  have hD : ∀ ws' : va_W, ws'.map Prod.fst = (tbw2 cI b b2 co gu kn fo sp wh ki pl ea to qu mo ne co2 gu2 kn2 fo2 sp2 wh2 ki2 pl2 ea2 to2 qu2 mo2 ne2).map Prod.fst → va_D A ws' := fun ws' e => by rw [hAe]; exact va_D_adr (va_D_self (va_D_adr dj rfl)) e
  have hS : va_S A s.heap s.heap [] := va_S.rf
  have hP : va_P D vwCl (tbw2 cI b b2 co gu kn fo sp wh ki pl ea to qu mo ne co2 gu2 kn2 fo2 sp2 wh2 ki2 pl2 ea2 to2 qu2 mo2 ne2) s.heap := hP
  have hl := lv_entry ([.ref (b 0), .ref (b2 0)]) (n := 2) (Nat.le_of_ble_eq_true rfl)
  rw [lg_entry_eq]
  generalize (lg_sl ([.ref (b 0), .ref (b2 0)]) ++ List.replicate (2 - (lg_sl ([.ref (b 0), .ref (b2 0)])).length) Slot.unset).toArray = ls at hl ⊢
  have hl : lv_has ls 2 [(0, .ref (b 0)), (1, .ref (b2 0))] := hl
  have f9 := hts (.fieldLink RX3 9 "KnivesLaid$Table" "course" "I") (List.mem_of_getElem? (i := 1) rfl)
  have inX3 : ∀ w ∈ u_ws RX3 TX3 13, w ∈ wsX3_become := in_at 16 _ _ rfl
  have f15 := hts (.fieldLink RX3 15 "KnivesLaid$Table" "knives" "[I") (List.mem_of_getElem? (i := 2) rfl)
  have ml58 := hts (.methodLink RX3 58 arraycopyName) (List.mem_of_getElem? (i := 3) rfl)
  have nAc := hts (.native arraycopyName) (List.mem_of_getElem? (i := 4) rfl)
  have sAc := hts (.static arraycopyName) (List.mem_of_getElem? (i := 5) rfl)
  have iSys := hts (.initialized "java/lang/System") (List.mem_of_getElem? (i := 6) rfl)
  have f19 := hts (.fieldLink RX3 19 "KnivesLaid$Table" "forks" "[I") (List.mem_of_getElem? (i := 7) rfl)
  have f22 := hts (.fieldLink RX3 22 "KnivesLaid$Table" "spoons" "[I") (List.mem_of_getElem? (i := 8) rfl)
  have f25 := hts (.fieldLink RX3 25 "KnivesLaid$Table" "who" "[I") (List.mem_of_getElem? (i := 9) rfl)
  have f34 := hts (.fieldLink RX3 34 "KnivesLaid$Table" "guests" "I") (List.mem_of_getElem? (i := 10) rfl)
  have f37 := hts (.fieldLink RX3 37 "KnivesLaid$Table" "kinds" "[I") (List.mem_of_getElem? (i := 11) rfl)
  have f40 := hts (.fieldLink RX3 40 "KnivesLaid$Table" "at" "[I") (List.mem_of_getElem? (i := 12) rfl)
  have f43 := hts (.fieldLink RX3 43 "KnivesLaid$Table" "ease" "[I") (List.mem_of_getElem? (i := 13) rfl)
  have f46 := hts (.fieldLink RX3 46 "KnivesLaid$Table" "told" "[I") (List.mem_of_getElem? (i := 14) rfl)
  have f49 := hts (.fieldLink RX3 49 "KnivesLaid$Table" "quarrelled" "[I") (List.mem_of_getElem? (i := 15) rfl)
  skip
  refine lv_aload_n hx hb dX3_become_0 rfl (lv_at hl 0 rfl) ?_
  refine lv_aload_n hx hb dX3_become_1 rfl (lv_at hl 1 rfl) ?_
  refine va_get (ci := 1) (v := .int co2) (C := RX3) (T := TX3) (N := 13) hx hb hts inX3 hown hK hP 12 rfl rfl 0 (by decide) f9 (fun _ h9 => h9) rfl dX3_become_2 ?_
  refine va_put (ci := 1) (v := .int co2) (ty := .int) (C := RX3) (T := TX3) (N := 13) hx hb hts inX3 tyX3 tyX3_ok nmX3 hown hK hP (hD _ rfl) hS 0 rfl rfl 0 (by decide) f9 (fun _ h9 => h9) rfl rfl rfl rfl (Nat.le_of_ble_eq_true rfl) dX3_become_5 (fun H locs hP _ hS => ?_)
  have hP : va_P D vwCl (tbw2 cI b b2 co2 gu kn fo sp wh ki pl ea to qu mo ne co2 gu2 kn2 fo2 sp2 wh2 ki2 pl2 ea2 to2 qu2 mo2 ne2) H := hP
  refine lv_aload_n hx hb dX3_become_8 rfl (lv_at hl 1 rfl) ?_
  refine va_get (ci := 1) (v := .ref (b2 1)) (C := RX3) (T := TX3) (N := 13) hx hb hts inX3 hown hK hP 12 rfl rfl 1 (by decide) f15 (fun _ h9 => h9) rfl dX3_become_9 ?_
  refine lv_iconst (v := 0) hx hb dX3_become_12 (by decide) ?_
  refine lv_aload_n hx hb dX3_become_13 rfl (lv_at hl 0 rfl) ?_
  refine va_get (ci := 1) (v := .ref (b 1)) (C := RX3) (T := TX3) (N := 13) hx hb hts inX3 hown hK hP 0 rfl rfl 1 (by decide) f15 (fun _ h9 => h9) rfl dX3_become_14 ?_
  refine lv_iconst (v := 0) hx hb dX3_become_17 (by decide) ?_
  refine lv_bipush (v := 10) hx hb dX3_become_18 (by decide) ?_
  refine va_copyA hx hb (by rw [hml]; exact hl.1.symm) hown ml58 nAc sAc iSys hK hP (hD _ rfl) hS 13 1 0 0 rfl rfl rfl rfl (by decide) (by decide) (Nat.le_of_ble_eq_true rfl) (Nat.le_of_ble_eq_true rfl) dX3_become_20 (fun H locs hP hS => ?_)
  have hP : va_P D vwCl (tbw2 cI b b2 co2 gu kn2 fo sp wh ki pl ea to qu mo ne co2 gu2 kn2 fo2 sp2 wh2 ki2 pl2 ea2 to2 qu2 mo2 ne2) H := hP
  refine lv_aload_n hx hb dX3_become_23 rfl (lv_at hl 1 rfl) ?_
  refine va_get (ci := 1) (v := .ref (b2 2)) (C := RX3) (T := TX3) (N := 13) hx hb hts inX3 hown hK hP 12 rfl rfl 2 (by decide) f19 (fun _ h9 => h9) rfl dX3_become_24 ?_
  refine lv_iconst (v := 0) hx hb dX3_become_27 (by decide) ?_
  refine lv_aload_n hx hb dX3_become_28 rfl (lv_at hl 0 rfl) ?_
  refine va_get (ci := 1) (v := .ref (b 2)) (C := RX3) (T := TX3) (N := 13) hx hb hts inX3 hown hK hP 0 rfl rfl 2 (by decide) f19 (fun _ h9 => h9) rfl dX3_become_29 ?_
  refine lv_iconst (v := 0) hx hb dX3_become_32 (by decide) ?_
  refine lv_bipush (v := 10) hx hb dX3_become_33 (by decide) ?_
  refine va_copyA hx hb (by rw [hml]; exact hl.1.symm) hown ml58 nAc sAc iSys hK hP (hD _ rfl) hS 14 2 0 0 rfl rfl rfl rfl (by decide) (by decide) (Nat.le_of_ble_eq_true rfl) (Nat.le_of_ble_eq_true rfl) dX3_become_35 (fun H locs hP hS => ?_)
  have hP : va_P D vwCl (tbw2 cI b b2 co2 gu kn2 fo2 sp wh ki pl ea to qu mo ne co2 gu2 kn2 fo2 sp2 wh2 ki2 pl2 ea2 to2 qu2 mo2 ne2) H := hP
  refine lv_aload_n hx hb dX3_become_38 rfl (lv_at hl 1 rfl) ?_
  refine va_get (ci := 1) (v := .ref (b2 3)) (C := RX3) (T := TX3) (N := 13) hx hb hts inX3 hown hK hP 12 rfl rfl 3 (by decide) f22 (fun _ h9 => h9) rfl dX3_become_39 ?_
  refine lv_iconst (v := 0) hx hb dX3_become_42 (by decide) ?_
  refine lv_aload_n hx hb dX3_become_43 rfl (lv_at hl 0 rfl) ?_
  refine va_get (ci := 1) (v := .ref (b 3)) (C := RX3) (T := TX3) (N := 13) hx hb hts inX3 hown hK hP 0 rfl rfl 3 (by decide) f22 (fun _ h9 => h9) rfl dX3_become_44 ?_
  refine lv_iconst (v := 0) hx hb dX3_become_47 (by decide) ?_
  refine lv_bipush (v := 10) hx hb dX3_become_48 (by decide) ?_
  refine va_copyA hx hb (by rw [hml]; exact hl.1.symm) hown ml58 nAc sAc iSys hK hP (hD _ rfl) hS 15 3 0 0 rfl rfl rfl rfl (by decide) (by decide) (Nat.le_of_ble_eq_true rfl) (Nat.le_of_ble_eq_true rfl) dX3_become_50 (fun H locs hP hS => ?_)
  have hP : va_P D vwCl (tbw2 cI b b2 co2 gu kn2 fo2 sp2 wh ki pl ea to qu mo ne co2 gu2 kn2 fo2 sp2 wh2 ki2 pl2 ea2 to2 qu2 mo2 ne2) H := hP
  refine lv_aload_n hx hb dX3_become_53 rfl (lv_at hl 1 rfl) ?_
  refine va_get (ci := 1) (v := .ref (b2 4)) (C := RX3) (T := TX3) (N := 13) hx hb hts inX3 hown hK hP 12 rfl rfl 4 (by decide) f25 (fun _ h9 => h9) rfl dX3_become_54 ?_
  refine lv_iconst (v := 0) hx hb dX3_become_57 (by decide) ?_
  refine lv_aload_n hx hb dX3_become_58 rfl (lv_at hl 0 rfl) ?_
  refine va_get (ci := 1) (v := .ref (b 4)) (C := RX3) (T := TX3) (N := 13) hx hb hts inX3 hown hK hP 0 rfl rfl 4 (by decide) f25 (fun _ h9 => h9) rfl dX3_become_59 ?_
  refine lv_iconst (v := 0) hx hb dX3_become_62 (by decide) ?_
  refine lv_bipush (v := 10) hx hb dX3_become_63 (by decide) ?_
  refine va_copyA hx hb (by rw [hml]; exact hl.1.symm) hown ml58 nAc sAc iSys hK hP (hD _ rfl) hS 16 4 0 0 rfl rfl rfl rfl (by decide) (by decide) (Nat.le_of_ble_eq_true rfl) (Nat.le_of_ble_eq_true rfl) dX3_become_65 (fun H locs hP hS => ?_)
  have hP : va_P D vwCl (tbw2 cI b b2 co2 gu kn2 fo2 sp2 wh2 ki pl ea to qu mo ne co2 gu2 kn2 fo2 sp2 wh2 ki2 pl2 ea2 to2 qu2 mo2 ne2) H := hP
  refine lv_aload_n hx hb dX3_become_68 rfl (lv_at hl 0 rfl) ?_
  refine lv_aload_n hx hb dX3_become_69 rfl (lv_at hl 1 rfl) ?_
  refine va_get (ci := 1) (v := .int gu2) (C := RX3) (T := TX3) (N := 13) hx hb hts inX3 hown hK hP 12 rfl rfl 5 (by decide) f34 (fun _ h9 => h9) rfl dX3_become_70 ?_
  refine va_put (ci := 1) (v := .int gu2) (ty := .int) (C := RX3) (T := TX3) (N := 13) hx hb hts inX3 tyX3 tyX3_ok nmX3 hown hK hP (hD _ rfl) hS 0 rfl rfl 5 (by decide) f34 (fun _ h9 => h9) rfl rfl rfl rfl (Nat.le_of_ble_eq_true rfl) dX3_become_73 (fun H locs hP _ hS => ?_)
  have hP : va_P D vwCl (tbw2 cI b b2 co2 gu2 kn2 fo2 sp2 wh2 ki pl ea to qu mo ne co2 gu2 kn2 fo2 sp2 wh2 ki2 pl2 ea2 to2 qu2 mo2 ne2) H := hP
  refine lv_aload_n hx hb dX3_become_76 rfl (lv_at hl 1 rfl) ?_
  refine va_get (ci := 1) (v := .ref (b2 5)) (C := RX3) (T := TX3) (N := 13) hx hb hts inX3 hown hK hP 12 rfl rfl 6 (by decide) f37 (fun _ h9 => h9) rfl dX3_become_77 ?_
  refine lv_iconst (v := 0) hx hb dX3_become_80 (by decide) ?_
  refine lv_aload_n hx hb dX3_become_81 rfl (lv_at hl 0 rfl) ?_
  refine va_get (ci := 1) (v := .ref (b 5)) (C := RX3) (T := TX3) (N := 13) hx hb hts inX3 hown hK hP 0 rfl rfl 6 (by decide) f37 (fun _ h9 => h9) rfl dX3_become_82 ?_
  refine lv_iconst (v := 0) hx hb dX3_become_85 (by decide) ?_
  refine lv_bipush (v := 8) hx hb dX3_become_86 (by decide) ?_
  refine va_copyA hx hb (by rw [hml]; exact hl.1.symm) hown ml58 nAc sAc iSys hK hP (hD _ rfl) hS 17 5 0 0 rfl rfl rfl rfl (by decide) (by decide) (Nat.le_of_ble_eq_true rfl) (Nat.le_of_ble_eq_true rfl) dX3_become_88 (fun H locs hP hS => ?_)
  have hP : va_P D vwCl (tbw2 cI b b2 co2 gu2 kn2 fo2 sp2 wh2 ki2 pl ea to qu mo ne co2 gu2 kn2 fo2 sp2 wh2 ki2 pl2 ea2 to2 qu2 mo2 ne2) H := hP
  refine lv_aload_n hx hb dX3_become_91 rfl (lv_at hl 1 rfl) ?_
  refine va_get (ci := 1) (v := .ref (b2 6)) (C := RX3) (T := TX3) (N := 13) hx hb hts inX3 hown hK hP 12 rfl rfl 7 (by decide) f40 (fun _ h9 => h9) rfl dX3_become_92 ?_
  refine lv_iconst (v := 0) hx hb dX3_become_95 (by decide) ?_
  refine lv_aload_n hx hb dX3_become_96 rfl (lv_at hl 0 rfl) ?_
  refine va_get (ci := 1) (v := .ref (b 6)) (C := RX3) (T := TX3) (N := 13) hx hb hts inX3 hown hK hP 0 rfl rfl 7 (by decide) f40 (fun _ h9 => h9) rfl dX3_become_97 ?_
  refine lv_iconst (v := 0) hx hb dX3_become_100 (by decide) ?_
  refine lv_bipush (v := 8) hx hb dX3_become_101 (by decide) ?_
  refine va_copyA hx hb (by rw [hml]; exact hl.1.symm) hown ml58 nAc sAc iSys hK hP (hD _ rfl) hS 18 6 0 0 rfl rfl rfl rfl (by decide) (by decide) (Nat.le_of_ble_eq_true rfl) (Nat.le_of_ble_eq_true rfl) dX3_become_103 (fun H locs hP hS => ?_)
  have hP : va_P D vwCl (tbw2 cI b b2 co2 gu2 kn2 fo2 sp2 wh2 ki2 pl2 ea to qu mo ne co2 gu2 kn2 fo2 sp2 wh2 ki2 pl2 ea2 to2 qu2 mo2 ne2) H := hP
  refine lv_aload_n hx hb dX3_become_106 rfl (lv_at hl 1 rfl) ?_
  refine va_get (ci := 1) (v := .ref (b2 7)) (C := RX3) (T := TX3) (N := 13) hx hb hts inX3 hown hK hP 12 rfl rfl 8 (by decide) f43 (fun _ h9 => h9) rfl dX3_become_107 ?_
  refine lv_iconst (v := 0) hx hb dX3_become_110 (by decide) ?_
  refine lv_aload_n hx hb dX3_become_111 rfl (lv_at hl 0 rfl) ?_
  refine va_get (ci := 1) (v := .ref (b 7)) (C := RX3) (T := TX3) (N := 13) hx hb hts inX3 hown hK hP 0 rfl rfl 8 (by decide) f43 (fun _ h9 => h9) rfl dX3_become_112 ?_
  refine lv_iconst (v := 0) hx hb dX3_become_115 (by decide) ?_
  refine lv_bipush (v := 8) hx hb dX3_become_116 (by decide) ?_
  refine va_copyA hx hb (by rw [hml]; exact hl.1.symm) hown ml58 nAc sAc iSys hK hP (hD _ rfl) hS 19 7 0 0 rfl rfl rfl rfl (by decide) (by decide) (Nat.le_of_ble_eq_true rfl) (Nat.le_of_ble_eq_true rfl) dX3_become_118 (fun H locs hP hS => ?_)
  have hP : va_P D vwCl (tbw2 cI b b2 co2 gu2 kn2 fo2 sp2 wh2 ki2 pl2 ea2 to qu mo ne co2 gu2 kn2 fo2 sp2 wh2 ki2 pl2 ea2 to2 qu2 mo2 ne2) H := hP
  refine lv_aload_n hx hb dX3_become_121 rfl (lv_at hl 1 rfl) ?_
  refine va_get (ci := 1) (v := .ref (b2 8)) (C := RX3) (T := TX3) (N := 13) hx hb hts inX3 hown hK hP 12 rfl rfl 9 (by decide) f46 (fun _ h9 => h9) rfl dX3_become_122 ?_
  refine lv_iconst (v := 0) hx hb dX3_become_125 (by decide) ?_
  refine lv_aload_n hx hb dX3_become_126 rfl (lv_at hl 0 rfl) ?_
  refine va_get (ci := 1) (v := .ref (b 8)) (C := RX3) (T := TX3) (N := 13) hx hb hts inX3 hown hK hP 0 rfl rfl 9 (by decide) f46 (fun _ h9 => h9) rfl dX3_become_127 ?_
  refine lv_iconst (v := 0) hx hb dX3_become_130 (by decide) ?_
  refine lv_bipush (v := 8) hx hb dX3_become_131 (by decide) ?_
  refine va_copyA hx hb (by rw [hml]; exact hl.1.symm) hown ml58 nAc sAc iSys hK hP (hD _ rfl) hS 20 8 0 0 rfl rfl rfl rfl (by decide) (by decide) (Nat.le_of_ble_eq_true rfl) (Nat.le_of_ble_eq_true rfl) dX3_become_133 (fun H locs hP hS => ?_)
  have hP : va_P D vwCl (tbw2 cI b b2 co2 gu2 kn2 fo2 sp2 wh2 ki2 pl2 ea2 to2 qu mo ne co2 gu2 kn2 fo2 sp2 wh2 ki2 pl2 ea2 to2 qu2 mo2 ne2) H := hP
  refine lv_aload_n hx hb dX3_become_136 rfl (lv_at hl 1 rfl) ?_
  refine va_get (ci := 1) (v := .ref (b2 9)) (C := RX3) (T := TX3) (N := 13) hx hb hts inX3 hown hK hP 12 rfl rfl 10 (by decide) f49 (fun _ h9 => h9) rfl dX3_become_137 ?_
  refine lv_iconst (v := 0) hx hb dX3_become_140 (by decide) ?_
  refine lv_aload_n hx hb dX3_become_141 rfl (lv_at hl 0 rfl) ?_
  refine va_get (ci := 1) (v := .ref (b 9)) (C := RX3) (T := TX3) (N := 13) hx hb hts inX3 hown hK hP 0 rfl rfl 10 (by decide) f49 (fun _ h9 => h9) rfl dX3_become_142 ?_
  refine lv_iconst (v := 0) hx hb dX3_become_145 (by decide) ?_
  refine lv_bipush (v := 8) hx hb dX3_become_146 (by decide) ?_
  refine va_copyA hx hb (by rw [hml]; exact hl.1.symm) hown ml58 nAc sAc iSys hK hP (hD _ rfl) hS 21 9 0 0 rfl rfl rfl rfl (by decide) (by decide) (Nat.le_of_ble_eq_true rfl) (Nat.le_of_ble_eq_true rfl) dX3_become_148 (fun H locs hP hS => ?_)
  have hP : va_P D vwCl (tbw2 cI b b2 co2 gu2 kn2 fo2 sp2 wh2 ki2 pl2 ea2 to2 qu2 mo ne co2 gu2 kn2 fo2 sp2 wh2 ki2 pl2 ea2 to2 qu2 mo2 ne2) H := hP
  exact W.vret hx hb hr (fun t ht hW => ⟨⟨(), rfl, (by trivial), by dsimp only; rw [ht]; exact hP⟩, hS.F ht⟩) hS.2.2 dX3_become_151
