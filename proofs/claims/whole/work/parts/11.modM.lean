set_option maxRecDepth 100000 in
set_option maxHeartbeats 4000000 in
theorem k_X6_finds (l : Launch) (D : va_G) (cI cL cS : ClassId) (b : Nat → Nat) (co gu : Int32) (kn fo sp ki pl ea to qu : FI) (fd mo tr b1 tp : FI) (tm so bg te : Int32) (wd : Int64) (va gd : Int32) (bo sz : FI) (sh le : FJ) (im bf : FI) (ik : Int32) (x0 : Int32) (dj : va_D (fun _ => True) (dj0 b 13)) (h0 : vp_in ((-1000000001) - x0) 7) : Met l yX6_finds wsX6_finds { frames := 0, cells := 0, slots := 0, locals := 0 } (PcR D vwCl (tyG cI cL cS) [.ref (b 0), .int x0] (mdw cI cL b (enc co gu kn fo sp ki pl ea to qu) fd mo tr b1 tp tm so bg te wd va gd bo sz sh le im bf ik)) (va_Qi (fun (r : Int32) (u : Unit) => r = x0 ∧ (True)) (fun u t => va_P D vwCl (mdw cI cL b (enc co gu kn fo sp ki pl ea to qu) (bump fd x0) mo tr b1 tp tm so bg te wd va gd bo sz sh le im bf ik) t.heap) (Aof (mdw cI cL b (enc co gu kn fo sp ki pl ea to qu) fd mo tr b1 tp tm so bg te wd va gd bo sz sh le im bf ik))) 0 0 (Aof (mdw cI cL b (enc co gu kn fo sp ki pl ea to qu) fd mo tr b1 tp tm so bg te wd va gd bo sz sh le im bf ik)) := by
  refine Met.ofW (cc := cX6_finds) (maxL := 2) (ret := (some .int)) (by decide) rfl ?_
  intro p e s m args below meth c s₁ B hml hv
  obtain ⟨rfl, hP, hK⟩ := hv
  have hx := B.exec
  have hb := B.bytes
  have hr := B.returns
  have hts := atoms_spec (ws := wsX6_finds) B.pre
  have hown : s.vm.findClass RX6 = some m.cls := findClass_of_methodNamed B.named
  have hlocks := B.notSynchronized
  obtain ⟨A, hAe⟩ : ∃ A, A = Aof (mdw cI cL b (enc co gu kn fo sp ki pl ea to qu) fd mo tr b1 tp tm so bg te wd va gd bo sz sh le im bf ik) := ⟨_, rfl⟩
  rw [← hAe]
  have hD : ∀ ws' : va_W, ws'.map Prod.fst = (mdw cI cL b (enc co gu kn fo sp ki pl ea to qu) fd mo tr b1 tp tm so bg te wd va gd bo sz sh le im bf ik).map Prod.fst → va_D A ws' := fun ws' e => by rw [hAe]; exact va_D_adr (va_D_self (va_D_adr dj rfl)) e
  have hS : va_S A s.heap s.heap [] := va_S.rf
  have hP : va_P D vwCl (mdw cI cL b (enc co gu kn fo sp ki pl ea to qu) fd mo tr b1 tp tm so bg te wd va gd bo sz sh le im bf ik) s.heap := hP
  have hl := lv_entry ([.ref (b 0), .int x0]) (n := 2) (Nat.le_of_ble_eq_true rfl)
  rw [lg_entry_eq]
  generalize (lg_sl ([.ref (b 0), .int x0]) ++ List.replicate (2 - (lg_sl ([.ref (b 0), .int x0])).length) Slot.unset).toArray = ls at hl ⊢
  have hl : lv_has ls 2 [(0, .ref (b 0)), (1, .int x0)] := hl
  have f13 := hts (.fieldLink RX6 13 "KnivesLaidModel" "found" "[I") (List.mem_of_getElem? (i := 1) rfl)
  have inX6 : ∀ w ∈ u_ws RX6 TX6 20, w ∈ wsX6_finds := in_at 3 _ _ rfl
  have k47 := hts (.constant RX6 47 (-1000000001)) (List.mem_of_getElem? (i := 2) rfl)
  skip
  refine lv_aload_n hx hb dX6_finds_0 rfl (lv_at hl 0 rfl) ?_
  refine va_get (ci := 4) (v := .ref (b 2)) (C := RX6) (T := TX6) (N := 20) hx hb hts inX6 hown hK hP 0 rfl rfl 1 (by decide) f13 (fun _ h9 => h9) rfl dX6_finds_1 ?_
  refine lv_ldc hx hb hown k47 dX6_finds_4 ?_
  refine lv_iload_n hx hb dX6_finds_6 rfl (lv_at hl 1 rfl) ?_
  refine lv_isub hx hb dX6_finds_7 ?_
  refine lv_dup2_11 hx hb dX6_finds_8 rfl rfl ?_
  refine va_iald hx hb hK hP 2 0 rfl rfl h0 dX6_finds_9 ?_
  refine lv_iconst (v := 1) hx hb dX6_finds_10 (by decide) ?_
  refine lv_iadd hx hb dX6_finds_11 ?_
  refine va_iast hx hb hK hP (hD _ rfl) hS 2 0 rfl rfl h0 dX6_finds_12 (fun H locs hP _ hS => ?_)
  have hP : va_P D vwCl (mdw cI cL b (enc co gu kn fo sp ki pl ea to qu) (upd fd (ix ((-1000000001) - x0)) ((fd (ix ((-1000000001) - x0))) + 1)) mo tr b1 tp tm so bg te wd va gd bo sz sh le im bf ik) H := hP
  refine lv_iload_n hx hb dX6_finds_13 rfl (lv_at hl 1 rfl) ?_
  exact W.iret hx hb hr (fun t ht hW => ⟨⟨_, (), rfl, (by exact ⟨rfl, trivial⟩), by dsimp only; rw [ht]; exact hP⟩, hS.F ht⟩) hS.2.2 dX6_finds_14

set_option maxRecDepth 100000 in
set_option maxHeartbeats 4000000 in
theorem k_X6_puts0 (l : Launch) (D : va_G) (cI cL cS : ClassId) (b : Nat → Nat) (co gu : Int32) (kn fo sp ki pl ea to qu : FI) (fd mo tr b1 tp : FI) (tm so bg te : Int32) (wd : Int64) (va gd : Int32) (bo sz : FI) (sh le : FJ) (im bf : FI) (ik : Int32) (x0 : Int32) (x2 : Int32) (dj : va_D (fun _ => True) (dj0 b 13)) (h0 : vp_in x0 8) : Met l yX6_puts wsX6_puts { frames := 0, cells := 0, slots := 0, locals := 0 } (PcR D vwCl (tyG cI cL cS) [.ref (b 0), .int x0, .int 0, .int x2] (mdw cI cL b (enc co gu kn fo sp ki pl ea to qu) fd mo tr b1 tp tm so bg te wd va gd bo sz sh le im bf ik)) (va_Qv (fun (u : Unit) => True) (fun u t => va_P D vwCl (mdw cI cL b (enc co gu kn fo sp (upd ki (ix x0) x2) pl ea to qu) fd mo tr b1 tp tm so bg te wd va gd bo sz sh le im bf ik) t.heap) (Aof (mdw cI cL b (enc co gu kn fo sp ki pl ea to qu) fd mo tr b1 tp tm so bg te wd va gd bo sz sh le im bf ik))) 0 0 (Aof (mdw cI cL b (enc co gu kn fo sp ki pl ea to qu) fd mo tr b1 tp tm so bg te wd va gd bo sz sh le im bf ik)) := by
  refine Met.ofW (cc := cX6_puts) (maxL := 4) (ret := none) (by decide) rfl ?_
  intro p e s m args below meth c s₁ B hml hv
  obtain ⟨rfl, hP, hK⟩ := hv
  have hx := B.exec
  have hb := B.bytes
  have hr := B.returns
  have hts := atoms_spec (ws := wsX6_puts) B.pre
  have hown : s.vm.findClass RX6 = some m.cls := findClass_of_methodNamed B.named
  have hlocks := B.notSynchronized
  obtain ⟨A, hAe⟩ : ∃ A, A = Aof (mdw cI cL b (enc co gu kn fo sp ki pl ea to qu) fd mo tr b1 tp tm so bg te wd va gd bo sz sh le im bf ik) := ⟨_, rfl⟩
  rw [← hAe]
  have hD : ∀ ws' : va_W, ws'.map Prod.fst = (mdw cI cL b (enc co gu kn fo sp ki pl ea to qu) fd mo tr b1 tp tm so bg te wd va gd bo sz sh le im bf ik).map Prod.fst → va_D A ws' := fun ws' e => by rw [hAe]; exact va_D_adr (va_D_self (va_D_adr dj rfl)) e
  have hS : va_S A s.heap s.heap [] := va_S.rf
  have hP : va_P D vwCl (mdw cI cL b (enc co gu kn fo sp ki pl ea to qu) fd mo tr b1 tp tm so bg te wd va gd bo sz sh le im bf ik) s.heap := hP
  have hl := lv_entry ([.ref (b 0), .int x0, .int 0, .int x2]) (n := 4) (Nat.le_of_ble_eq_true rfl)
  rw [lg_entry_eq]
  generalize (lg_sl ([.ref (b 0), .int x0, .int 0, .int x2]) ++ List.replicate (4 - (lg_sl ([.ref (b 0), .int x0, .int 0, .int x2])).length) Slot.unset).toArray = ls at hl ⊢
  have hl : lv_has ls 4 [(0, .ref (b 0)), (1, .int x0), (2, .int 0), (3, .int x2)] := hl
  have f7 := hts (.fieldLink RX6 7 "KnivesLaidModel" "row" "[I") (List.mem_of_getElem? (i := 1) rfl)
  have inX6 : ∀ w ∈ u_ws RX6 TX6 20, w ∈ wsX6_puts := in_at 2 _ _ rfl
  skip
  refine lv_aload_n hx hb dX6_puts_0 rfl (lv_at hl 0 rfl) ?_
  refine va_get (ci := 4) (v := .ref (b 1)) (C := RX6) (T := TX6) (N := 20) hx hb hts inX6 hown hK hP 0 rfl rfl 0 (by decide) f7 (fun _ h9 => h9) rfl dX6_puts_1 ?_
  refine lv_bipush (v := 32) hx hb dX6_puts_4 (by decide) ?_
  refine lv_iconst (v := 5) hx hb dX6_puts_6 (by decide) ?_
  refine lv_iload_n hx hb dX6_puts_7 rfl (lv_at hl 1 rfl) ?_
  refine lv_imul hx hb dX6_puts_8 ?_
  refine lv_iadd hx hb dX6_puts_9 ?_
  refine lv_iload_n hx hb dX6_puts_10 rfl (lv_at hl 2 rfl) ?_
  refine lv_iadd hx hb dX6_puts_11 ?_
  refine lv_iload_n hx hb dX6_puts_12 rfl (lv_at hl 3 rfl) ?_
  refine va_iast hx hb hK hP (hD _ rfl) hS 1 0 rfl rfl ((ixg h0 (vp_in_iff.mpr (by decide))).2) dX6_puts_13 (fun H locs hP _ hS => ?_)
  have hP : va_P D vwCl (mdw cI cL b (enc co gu kn fo sp (upd ki (ix x0) x2) pl ea to qu) fd mo tr b1 tp tm so bg te wd va gd bo sz sh le im bf ik) H := by rw [← enc_w0 h0]; exact hP
  exact W.vret hx hb hr (fun t ht hW => ⟨⟨(), rfl, (by trivial), by dsimp only; rw [ht]; exact hP⟩, hS.F ht⟩) hS.2.2 dX6_puts_14

set_option maxRecDepth 100000 in
set_option maxHeartbeats 4000000 in
theorem k_X6_puts1 (l : Launch) (D : va_G) (cI cL cS : ClassId) (b : Nat → Nat) (co gu : Int32) (kn fo sp ki pl ea to qu : FI) (fd mo tr b1 tp : FI) (tm so bg te : Int32) (wd : Int64) (va gd : Int32) (bo sz : FI) (sh le : FJ) (im bf : FI) (ik : Int32) (x0 : Int32) (x2 : Int32) (dj : va_D (fun _ => True) (dj0 b 13)) (h0 : vp_in x0 8) : Met l yX6_puts wsX6_puts { frames := 0, cells := 0, slots := 0, locals := 0 } (PcR D vwCl (tyG cI cL cS) [.ref (b 0), .int x0, .int 1, .int x2] (mdw cI cL b (enc co gu kn fo sp ki pl ea to qu) fd mo tr b1 tp tm so bg te wd va gd bo sz sh le im bf ik)) (va_Qv (fun (u : Unit) => True) (fun u t => va_P D vwCl (mdw cI cL b (enc co gu kn fo sp ki (upd pl (ix x0) x2) ea to qu) fd mo tr b1 tp tm so bg te wd va gd bo sz sh le im bf ik) t.heap) (Aof (mdw cI cL b (enc co gu kn fo sp ki pl ea to qu) fd mo tr b1 tp tm so bg te wd va gd bo sz sh le im bf ik))) 0 0 (Aof (mdw cI cL b (enc co gu kn fo sp ki pl ea to qu) fd mo tr b1 tp tm so bg te wd va gd bo sz sh le im bf ik)) := by
  refine Met.ofW (cc := cX6_puts) (maxL := 4) (ret := none) (by decide) rfl ?_
  intro p e s m args below meth c s₁ B hml hv
  obtain ⟨rfl, hP, hK⟩ := hv
  have hx := B.exec
  have hb := B.bytes
  have hr := B.returns
  have hts := atoms_spec (ws := wsX6_puts) B.pre
  have hown : s.vm.findClass RX6 = some m.cls := findClass_of_methodNamed B.named
  have hlocks := B.notSynchronized
  obtain ⟨A, hAe⟩ : ∃ A, A = Aof (mdw cI cL b (enc co gu kn fo sp ki pl ea to qu) fd mo tr b1 tp tm so bg te wd va gd bo sz sh le im bf ik) := ⟨_, rfl⟩
  rw [← hAe]
  have hD : ∀ ws' : va_W, ws'.map Prod.fst = (mdw cI cL b (enc co gu kn fo sp ki pl ea to qu) fd mo tr b1 tp tm so bg te wd va gd bo sz sh le im bf ik).map Prod.fst → va_D A ws' := fun ws' e => by rw [hAe]; exact va_D_adr (va_D_self (va_D_adr dj rfl)) e
  have hS : va_S A s.heap s.heap [] := va_S.rf
  have hP : va_P D vwCl (mdw cI cL b (enc co gu kn fo sp ki pl ea to qu) fd mo tr b1 tp tm so bg te wd va gd bo sz sh le im bf ik) s.heap := hP
  have hl := lv_entry ([.ref (b 0), .int x0, .int 1, .int x2]) (n := 4) (Nat.le_of_ble_eq_true rfl)
  rw [lg_entry_eq]
  generalize (lg_sl ([.ref (b 0), .int x0, .int 1, .int x2]) ++ List.replicate (4 - (lg_sl ([.ref (b 0), .int x0, .int 1, .int x2])).length) Slot.unset).toArray = ls at hl ⊢
  have hl : lv_has ls 4 [(0, .ref (b 0)), (1, .int x0), (2, .int 1), (3, .int x2)] := hl
  have f7 := hts (.fieldLink RX6 7 "KnivesLaidModel" "row" "[I") (List.mem_of_getElem? (i := 1) rfl)
  have inX6 : ∀ w ∈ u_ws RX6 TX6 20, w ∈ wsX6_puts := in_at 2 _ _ rfl
  skip
  refine lv_aload_n hx hb dX6_puts_0 rfl (lv_at hl 0 rfl) ?_
  refine va_get (ci := 4) (v := .ref (b 1)) (C := RX6) (T := TX6) (N := 20) hx hb hts inX6 hown hK hP 0 rfl rfl 0 (by decide) f7 (fun _ h9 => h9) rfl dX6_puts_1 ?_
  refine lv_bipush (v := 32) hx hb dX6_puts_4 (by decide) ?_
  refine lv_iconst (v := 5) hx hb dX6_puts_6 (by decide) ?_
  refine lv_iload_n hx hb dX6_puts_7 rfl (lv_at hl 1 rfl) ?_
  refine lv_imul hx hb dX6_puts_8 ?_
  refine lv_iadd hx hb dX6_puts_9 ?_
  refine lv_iload_n hx hb dX6_puts_10 rfl (lv_at hl 2 rfl) ?_
  refine lv_iadd hx hb dX6_puts_11 ?_
  refine lv_iload_n hx hb dX6_puts_12 rfl (lv_at hl 3 rfl) ?_
  refine va_iast hx hb hK hP (hD _ rfl) hS 1 0 rfl rfl ((ixg h0 (vp_in_iff.mpr (by decide))).2) dX6_puts_13 (fun H locs hP _ hS => ?_)
  have hP : va_P D vwCl (mdw cI cL b (enc co gu kn fo sp ki (upd pl (ix x0) x2) ea to qu) fd mo tr b1 tp tm so bg te wd va gd bo sz sh le im bf ik) H := by rw [← enc_w1 h0]; exact hP
  exact W.vret hx hb hr (fun t ht hW => ⟨⟨(), rfl, (by trivial), by dsimp only; rw [ht]; exact hP⟩, hS.F ht⟩) hS.2.2 dX6_puts_14

set_option maxRecDepth 100000 in
set_option maxHeartbeats 4000000 in
theorem k_X6_puts2 (l : Launch) (D : va_G) (cI cL cS : ClassId) (b : Nat → Nat) (co gu : Int32) (kn fo sp ki pl ea to qu : FI) (fd mo tr b1 tp : FI) (tm so bg te : Int32) (wd : Int64) (va gd : Int32) (bo sz : FI) (sh le : FJ) (im bf : FI) (ik : Int32) (x0 : Int32) (x2 : Int32) (dj : va_D (fun _ => True) (dj0 b 13)) (h0 : vp_in x0 8) : Met l yX6_puts wsX6_puts { frames := 0, cells := 0, slots := 0, locals := 0 } (PcR D vwCl (tyG cI cL cS) [.ref (b 0), .int x0, .int 2, .int x2] (mdw cI cL b (enc co gu kn fo sp ki pl ea to qu) fd mo tr b1 tp tm so bg te wd va gd bo sz sh le im bf ik)) (va_Qv (fun (u : Unit) => True) (fun u t => va_P D vwCl (mdw cI cL b (enc co gu kn fo sp ki pl (upd ea (ix x0) x2) to qu) fd mo tr b1 tp tm so bg te wd va gd bo sz sh le im bf ik) t.heap) (Aof (mdw cI cL b (enc co gu kn fo sp ki pl ea to qu) fd mo tr b1 tp tm so bg te wd va gd bo sz sh le im bf ik))) 0 0 (Aof (mdw cI cL b (enc co gu kn fo sp ki pl ea to qu) fd mo tr b1 tp tm so bg te wd va gd bo sz sh le im bf ik)) := by
  refine Met.ofW (cc := cX6_puts) (maxL := 4) (ret := none) (by decide) rfl ?_
  intro p e s m args below meth c s₁ B hml hv
  obtain ⟨rfl, hP, hK⟩ := hv
  have hx := B.exec
  have hb := B.bytes
  have hr := B.returns
  have hts := atoms_spec (ws := wsX6_puts) B.pre
  have hown : s.vm.findClass RX6 = some m.cls := findClass_of_methodNamed B.named
  have hlocks := B.notSynchronized
  obtain ⟨A, hAe⟩ : ∃ A, A = Aof (mdw cI cL b (enc co gu kn fo sp ki pl ea to qu) fd mo tr b1 tp tm so bg te wd va gd bo sz sh le im bf ik) := ⟨_, rfl⟩
  rw [← hAe]
  have hD : ∀ ws' : va_W, ws'.map Prod.fst = (mdw cI cL b (enc co gu kn fo sp ki pl ea to qu) fd mo tr b1 tp tm so bg te wd va gd bo sz sh le im bf ik).map Prod.fst → va_D A ws' := fun ws' e => by rw [hAe]; exact va_D_adr (va_D_self (va_D_adr dj rfl)) e
  have hS : va_S A s.heap s.heap [] := va_S.rf
  have hP : va_P D vwCl (mdw cI cL b (enc co gu kn fo sp ki pl ea to qu) fd mo tr b1 tp tm so bg te wd va gd bo sz sh le im bf ik) s.heap := hP
  have hl := lv_entry ([.ref (b 0), .int x0, .int 2, .int x2]) (n := 4) (Nat.le_of_ble_eq_true rfl)
  rw [lg_entry_eq]
  generalize (lg_sl ([.ref (b 0), .int x0, .int 2, .int x2]) ++ List.replicate (4 - (lg_sl ([.ref (b 0), .int x0, .int 2, .int x2])).length) Slot.unset).toArray = ls at hl ⊢
  have hl : lv_has ls 4 [(0, .ref (b 0)), (1, .int x0), (2, .int 2), (3, .int x2)] := hl
  have f7 := hts (.fieldLink RX6 7 "KnivesLaidModel" "row" "[I") (List.mem_of_getElem? (i := 1) rfl)
  have inX6 : ∀ w ∈ u_ws RX6 TX6 20, w ∈ wsX6_puts := in_at 2 _ _ rfl
  skip
  refine lv_aload_n hx hb dX6_puts_0 rfl (lv_at hl 0 rfl) ?_
  refine va_get (ci := 4) (v := .ref (b 1)) (C := RX6) (T := TX6) (N := 20) hx hb hts inX6 hown hK hP 0 rfl rfl 0 (by decide) f7 (fun _ h9 => h9) rfl dX6_puts_1 ?_
  refine lv_bipush (v := 32) hx hb dX6_puts_4 (by decide) ?_
  refine lv_iconst (v := 5) hx hb dX6_puts_6 (by decide) ?_
  refine lv_iload_n hx hb dX6_puts_7 rfl (lv_at hl 1 rfl) ?_
  refine lv_imul hx hb dX6_puts_8 ?_
  refine lv_iadd hx hb dX6_puts_9 ?_
  refine lv_iload_n hx hb dX6_puts_10 rfl (lv_at hl 2 rfl) ?_
  refine lv_iadd hx hb dX6_puts_11 ?_
  refine lv_iload_n hx hb dX6_puts_12 rfl (lv_at hl 3 rfl) ?_
  refine va_iast hx hb hK hP (hD _ rfl) hS 1 0 rfl rfl ((ixg h0 (vp_in_iff.mpr (by decide))).2) dX6_puts_13 (fun H locs hP _ hS => ?_)
  have hP : va_P D vwCl (mdw cI cL b (enc co gu kn fo sp ki pl (upd ea (ix x0) x2) to qu) fd mo tr b1 tp tm so bg te wd va gd bo sz sh le im bf ik) H := by rw [← enc_w2 h0]; exact hP
  exact W.vret hx hb hr (fun t ht hW => ⟨⟨(), rfl, (by trivial), by dsimp only; rw [ht]; exact hP⟩, hS.F ht⟩) hS.2.2 dX6_puts_14

set_option maxRecDepth 100000 in
set_option maxHeartbeats 4000000 in
theorem k_X6_puts3 (l : Launch) (D : va_G) (cI cL cS : ClassId) (b : Nat → Nat) (co gu : Int32) (kn fo sp ki pl ea to qu : FI) (fd mo tr b1 tp : FI) (tm so bg te : Int32) (wd : Int64) (va gd : Int32) (bo sz : FI) (sh le : FJ) (im bf : FI) (ik : Int32) (x0 : Int32) (x2 : Int32) (dj : va_D (fun _ => True) (dj0 b 13)) (h0 : vp_in x0 8) : Met l yX6_puts wsX6_puts { frames := 0, cells := 0, slots := 0, locals := 0 } (PcR D vwCl (tyG cI cL cS) [.ref (b 0), .int x0, .int 3, .int x2] (mdw cI cL b (enc co gu kn fo sp ki pl ea to qu) fd mo tr b1 tp tm so bg te wd va gd bo sz sh le im bf ik)) (va_Qv (fun (u : Unit) => True) (fun u t => va_P D vwCl (mdw cI cL b (enc co gu kn fo sp ki pl ea (upd to (ix x0) x2) qu) fd mo tr b1 tp tm so bg te wd va gd bo sz sh le im bf ik) t.heap) (Aof (mdw cI cL b (enc co gu kn fo sp ki pl ea to qu) fd mo tr b1 tp tm so bg te wd va gd bo sz sh le im bf ik))) 0 0 (Aof (mdw cI cL b (enc co gu kn fo sp ki pl ea to qu) fd mo tr b1 tp tm so bg te wd va gd bo sz sh le im bf ik)) := by
  refine Met.ofW (cc := cX6_puts) (maxL := 4) (ret := none) (by decide) rfl ?_
  intro p e s m args below meth c s₁ B hml hv
  obtain ⟨rfl, hP, hK⟩ := hv
  have hx := B.exec
  have hb := B.bytes
  have hr := B.returns
  have hts := atoms_spec (ws := wsX6_puts) B.pre
  have hown : s.vm.findClass RX6 = some m.cls := findClass_of_methodNamed B.named
  have hlocks := B.notSynchronized
  obtain ⟨A, hAe⟩ : ∃ A, A = Aof (mdw cI cL b (enc co gu kn fo sp ki pl ea to qu) fd mo tr b1 tp tm so bg te wd va gd bo sz sh le im bf ik) := ⟨_, rfl⟩
  rw [← hAe]
  have hD : ∀ ws' : va_W, ws'.map Prod.fst = (mdw cI cL b (enc co gu kn fo sp ki pl ea to qu) fd mo tr b1 tp tm so bg te wd va gd bo sz sh le im bf ik).map Prod.fst → va_D A ws' := fun ws' e => by rw [hAe]; exact va_D_adr (va_D_self (va_D_adr dj rfl)) e
  have hS : va_S A s.heap s.heap [] := va_S.rf
  have hP : va_P D vwCl (mdw cI cL b (enc co gu kn fo sp ki pl ea to qu) fd mo tr b1 tp tm so bg te wd va gd bo sz sh le im bf ik) s.heap := hP
  have hl := lv_entry ([.ref (b 0), .int x0, .int 3, .int x2]) (n := 4) (Nat.le_of_ble_eq_true rfl)
  rw [lg_entry_eq]
  generalize (lg_sl ([.ref (b 0), .int x0, .int 3, .int x2]) ++ List.replicate (4 - (lg_sl ([.ref (b 0), .int x0, .int 3, .int x2])).length) Slot.unset).toArray = ls at hl ⊢
  have hl : lv_has ls 4 [(0, .ref (b 0)), (1, .int x0), (2, .int 3), (3, .int x2)] := hl
  have f7 := hts (.fieldLink RX6 7 "KnivesLaidModel" "row" "[I") (List.mem_of_getElem? (i := 1) rfl)
  have inX6 : ∀ w ∈ u_ws RX6 TX6 20, w ∈ wsX6_puts := in_at 2 _ _ rfl
  skip
  refine lv_aload_n hx hb dX6_puts_0 rfl (lv_at hl 0 rfl) ?_
  refine va_get (ci := 4) (v := .ref (b 1)) (C := RX6) (T := TX6) (N := 20) hx hb hts inX6 hown hK hP 0 rfl rfl 0 (by decide) f7 (fun _ h9 => h9) rfl dX6_puts_1 ?_
  refine lv_bipush (v := 32) hx hb dX6_puts_4 (by decide) ?_
  refine lv_iconst (v := 5) hx hb dX6_puts_6 (by decide) ?_
  refine lv_iload_n hx hb dX6_puts_7 rfl (lv_at hl 1 rfl) ?_
  refine lv_imul hx hb dX6_puts_8 ?_
  refine lv_iadd hx hb dX6_puts_9 ?_
  refine lv_iload_n hx hb dX6_puts_10 rfl (lv_at hl 2 rfl) ?_
  refine lv_iadd hx hb dX6_puts_11 ?_
  refine lv_iload_n hx hb dX6_puts_12 rfl (lv_at hl 3 rfl) ?_
  refine va_iast hx hb hK hP (hD _ rfl) hS 1 0 rfl rfl ((ixg h0 (vp_in_iff.mpr (by decide))).2) dX6_puts_13 (fun H locs hP _ hS => ?_)
  have hP : va_P D vwCl (mdw cI cL b (enc co gu kn fo sp ki pl ea (upd to (ix x0) x2) qu) fd mo tr b1 tp tm so bg te wd va gd bo sz sh le im bf ik) H := by rw [← enc_w3 h0]; exact hP
  exact W.vret hx hb hr (fun t ht hW => ⟨⟨(), rfl, (by trivial), by dsimp only; rw [ht]; exact hP⟩, hS.F ht⟩) hS.2.2 dX6_puts_14

set_option maxRecDepth 100000 in
set_option maxHeartbeats 4000000 in
theorem k_X6_puts4 (l : Launch) (D : va_G) (cI cL cS : ClassId) (b : Nat → Nat) (co gu : Int32) (kn fo sp ki pl ea to qu : FI) (fd mo tr b1 tp : FI) (tm so bg te : Int32) (wd : Int64) (va gd : Int32) (bo sz : FI) (sh le : FJ) (im bf : FI) (ik : Int32) (x0 : Int32) (x2 : Int32) (dj : va_D (fun _ => True) (dj0 b 13)) (h0 : vp_in x0 8) : Met l yX6_puts wsX6_puts { frames := 0, cells := 0, slots := 0, locals := 0 } (PcR D vwCl (tyG cI cL cS) [.ref (b 0), .int x0, .int 4, .int x2] (mdw cI cL b (enc co gu kn fo sp ki pl ea to qu) fd mo tr b1 tp tm so bg te wd va gd bo sz sh le im bf ik)) (va_Qv (fun (u : Unit) => True) (fun u t => va_P D vwCl (mdw cI cL b (enc co gu kn fo sp ki pl ea to (upd qu (ix x0) x2)) fd mo tr b1 tp tm so bg te wd va gd bo sz sh le im bf ik) t.heap) (Aof (mdw cI cL b (enc co gu kn fo sp ki pl ea to qu) fd mo tr b1 tp tm so bg te wd va gd bo sz sh le im bf ik))) 0 0 (Aof (mdw cI cL b (enc co gu kn fo sp ki pl ea to qu) fd mo tr b1 tp tm so bg te wd va gd bo sz sh le im bf ik)) := by
  refine Met.ofW (cc := cX6_puts) (maxL := 4) (ret := none) (by decide) rfl ?_
  intro p e s m args below meth c s₁ B hml hv
  obtain ⟨rfl, hP, hK⟩ := hv
  have hx := B.exec
  have hb := B.bytes
  have hr := B.returns
  have hts := atoms_spec (ws := wsX6_puts) B.pre
  have hown : s.vm.findClass RX6 = some m.cls := findClass_of_methodNamed B.named
  have hlocks := B.notSynchronized
  obtain ⟨A, hAe⟩ : ∃ A, A = Aof (mdw cI cL b (enc co gu kn fo sp ki pl ea to qu) fd mo tr b1 tp tm so bg te wd va gd bo sz sh le im bf ik) := ⟨_, rfl⟩
  rw [← hAe]
  have hD : ∀ ws' : va_W, ws'.map Prod.fst = (mdw cI cL b (enc co gu kn fo sp ki pl ea to qu) fd mo tr b1 tp tm so bg te wd va gd bo sz sh le im bf ik).map Prod.fst → va_D A ws' := fun ws' e => by rw [hAe]; exact va_D_adr (va_D_self (va_D_adr dj rfl)) e
  have hS : va_S A s.heap s.heap [] := va_S.rf
  have hP : va_P D vwCl (mdw cI cL b (enc co gu kn fo sp ki pl ea to qu) fd mo tr b1 tp tm so bg te wd va gd bo sz sh le im bf ik) s.heap := hP
  have hl := lv_entry ([.ref (b 0), .int x0, .int 4, .int x2]) (n := 4) (Nat.le_of_ble_eq_true rfl)
  rw [lg_entry_eq]
  generalize (lg_sl ([.ref (b 0), .int x0, .int 4, .int x2]) ++ List.replicate (4 - (lg_sl ([.ref (b 0), .int x0, .int 4, .int x2])).length) Slot.unset).toArray = ls at hl ⊢
  have hl : lv_has ls 4 [(0, .ref (b 0)), (1, .int x0), (2, .int 4), (3, .int x2)] := hl
  have f7 := hts (.fieldLink RX6 7 "KnivesLaidModel" "row" "[I") (List.mem_of_getElem? (i := 1) rfl)
  have inX6 : ∀ w ∈ u_ws RX6 TX6 20, w ∈ wsX6_puts := in_at 2 _ _ rfl
  skip
  refine lv_aload_n hx hb dX6_puts_0 rfl (lv_at hl 0 rfl) ?_
  refine va_get (ci := 4) (v := .ref (b 1)) (C := RX6) (T := TX6) (N := 20) hx hb hts inX6 hown hK hP 0 rfl rfl 0 (by decide) f7 (fun _ h9 => h9) rfl dX6_puts_1 ?_
  refine lv_bipush (v := 32) hx hb dX6_puts_4 (by decide) ?_
  refine lv_iconst (v := 5) hx hb dX6_puts_6 (by decide) ?_
  refine lv_iload_n hx hb dX6_puts_7 rfl (lv_at hl 1 rfl) ?_
  refine lv_imul hx hb dX6_puts_8 ?_
  refine lv_iadd hx hb dX6_puts_9 ?_
  refine lv_iload_n hx hb dX6_puts_10 rfl (lv_at hl 2 rfl) ?_
  refine lv_iadd hx hb dX6_puts_11 ?_
  refine lv_iload_n hx hb dX6_puts_12 rfl (lv_at hl 3 rfl) ?_
  refine va_iast hx hb hK hP (hD _ rfl) hS 1 0 rfl rfl ((ixg h0 (vp_in_iff.mpr (by decide))).2) dX6_puts_13 (fun H locs hP _ hS => ?_)
  have hP : va_P D vwCl (mdw cI cL b (enc co gu kn fo sp ki pl ea to (upd qu (ix x0) x2)) fd mo tr b1 tp tm so bg te wd va gd bo sz sh le im bf ik) H := by rw [← enc_w4 h0]; exact hP
  exact W.vret hx hb hr (fun t ht hW => ⟨⟨(), rfl, (by trivial), by dsimp only; rw [ht]; exact hP⟩, hS.F ht⟩) hS.2.2 dX6_puts_14

set_option maxRecDepth 100000 in
set_option maxHeartbeats 4000000 in
theorem k_X6_becomes (l : Launch) (D : va_G) (cI cL cS : ClassId) (b : Nat → Nat) (co gu : Int32) (kn fo sp ki pl ea to qu : FI) (fd mo tr b1 tp : FI) (tm so bg te : Int32) (wd : Int64) (va gd : Int32) (bo sz : FI) (sh le : FJ) (im bf : FI) (ik : Int32) (x0 : Int32) (x1 : Int32) (dj : va_D (fun _ => True) (dj0 b 13)) (h0 : vp_in x0 72) : Met l yX6_becomes wsX6_becomes { frames := 0, cells := 0, slots := 0, locals := 0 } (PcR D vwCl (tyG cI cL cS) [.ref (b 0), .int x0, .int x1] (mdw cI cL b (enc co gu kn fo sp ki pl ea to qu) fd mo tr b1 tp tm so bg te wd va gd bo sz sh le im bf ik)) (va_Qi (fun (r : Int32) (u : Unit) => r = enc co gu kn fo sp ki pl ea to qu (ix x0) ∧ (True)) (fun u t => va_P D vwCl (mdw cI cL b (upd (enc co gu kn fo sp ki pl ea to qu) (ix x0) x1) fd mo tr b1 tp tm so bg te wd va gd bo sz sh le im bf ik) t.heap) (Aof (mdw cI cL b (enc co gu kn fo sp ki pl ea to qu) fd mo tr b1 tp tm so bg te wd va gd bo sz sh le im bf ik))) 0 0 (Aof (mdw cI cL b (enc co gu kn fo sp ki pl ea to qu) fd mo tr b1 tp tm so bg te wd va gd bo sz sh le im bf ik)) := by
  refine Met.ofW (cc := cX6_becomes) (maxL := 4) (ret := (some .int)) (by decide) rfl ?_
  intro p e s m args below meth c s₁ B hml hv
  obtain ⟨rfl, hP, hK⟩ := hv
  have hx := B.exec
  have hb := B.bytes
  have hr := B.returns
  have hts := atoms_spec (ws := wsX6_becomes) B.pre
  have hown : s.vm.findClass RX6 = some m.cls := findClass_of_methodNamed B.named
  have hlocks := B.notSynchronized
  obtain ⟨A, hAe⟩ : ∃ A, A = Aof (mdw cI cL b (enc co gu kn fo sp ki pl ea to qu) fd mo tr b1 tp tm so bg te wd va gd bo sz sh le im bf ik) := ⟨_, rfl⟩
  rw [← hAe]
  have hD : ∀ ws' : va_W, ws'.map Prod.fst = (mdw cI cL b (enc co gu kn fo sp ki pl ea to qu) fd mo tr b1 tp tm so bg te wd va gd bo sz sh le im bf ik).map Prod.fst → va_D A ws' := fun ws' e => by rw [hAe]; exact va_D_adr (va_D_self (va_D_adr dj rfl)) e
  have hS : va_S A s.heap s.heap [] := va_S.rf
  have hP : va_P D vwCl (mdw cI cL b (enc co gu kn fo sp ki pl ea to qu) fd mo tr b1 tp tm so bg te wd va gd bo sz sh le im bf ik) s.heap := hP
  have hl := lv_entry ([.ref (b 0), .int x0, .int x1]) (n := 4) (Nat.le_of_ble_eq_true rfl)
  rw [lg_entry_eq]
  generalize (lg_sl ([.ref (b 0), .int x0, .int x1]) ++ List.replicate (4 - (lg_sl ([.ref (b 0), .int x0, .int x1])).length) Slot.unset).toArray = ls at hl ⊢
  have hl : lv_has ls 4 [(0, .ref (b 0)), (1, .int x0), (2, .int x1)] := hl
  have f7 := hts (.fieldLink RX6 7 "KnivesLaidModel" "row" "[I") (List.mem_of_getElem? (i := 1) rfl)
  have inX6 : ∀ w ∈ u_ws RX6 TX6 20, w ∈ wsX6_becomes := in_at 2 _ _ rfl
  skip
  refine lv_aload_n hx hb dX6_becomes_0 rfl (lv_at hl 0 rfl) ?_
  refine va_get (ci := 4) (v := .ref (b 1)) (C := RX6) (T := TX6) (N := 20) hx hb hts inX6 hown hK hP 0 rfl rfl 0 (by decide) f7 (fun _ h9 => h9) rfl dX6_becomes_1 ?_
  refine lv_iload_n hx hb dX6_becomes_4 rfl (lv_at hl 1 rfl) ?_
  refine va_iald hx hb hK hP 1 0 rfl rfl h0 dX6_becomes_5 ?_
  refine lv_istore_n (lv' := [(3, .int ((enc co gu kn fo sp ki pl ea to qu) (ix x0))), (0, .ref (b 0)), (1, .int x0), (2, .int x1)]) hx hb dX6_becomes_6 rfl hl (by decide) rfl (fun ls hl => ?_)
  refine lv_aload_n hx hb dX6_becomes_7 rfl (lv_at hl 1 rfl) ?_
  refine va_get (ci := 4) (v := .ref (b 1)) (C := RX6) (T := TX6) (N := 20) hx hb hts inX6 hown hK hP 0 rfl rfl 0 (by decide) f7 (fun _ h9 => h9) rfl dX6_becomes_8 ?_
  refine lv_iload_n hx hb dX6_becomes_11 rfl (lv_at hl 2 rfl) ?_
  refine lv_iload_n hx hb dX6_becomes_12 rfl (lv_at hl 3 rfl) ?_
  refine va_iast hx hb hK hP (hD _ rfl) hS 1 0 rfl rfl h0 dX6_becomes_13 (fun H locs hP _ hS => ?_)
  have hP : va_P D vwCl (mdw cI cL b (upd (enc co gu kn fo sp ki pl ea to qu) (ix x0) x1) fd mo tr b1 tp tm so bg te wd va gd bo sz sh le im bf ik) H := hP
  refine lv_iload_n hx hb dX6_becomes_14 rfl (lv_at hl 0 rfl) ?_
  exact W.iret hx hb hr (fun t ht hW => ⟨⟨_, (), rfl, (by exact ⟨rfl, trivial⟩), by dsimp only; rw [ht]; exact hP⟩, hS.F ht⟩) hS.2.2 dX6_becomes_15

set_option maxRecDepth 100000 in
set_option maxHeartbeats 4000000 in
theorem k_X6_adds (l : Launch) (D : va_G) (cI cL cS : ClassId) (b : Nat → Nat) (co gu : Int32) (kn fo sp ki pl ea to qu : FI) (fd mo tr b1 tp : FI) (tm so bg te : Int32) (wd : Int64) (va gd : Int32) (bo sz : FI) (sh le : FJ) (im bf : FI) (ik : Int32) (x0 : Int32) (x1 : Int32) (dj : va_D (fun _ => True) (dj0 b 13)) (h8 : vp_in gu 8) : Met l yX6_adds wsX6_adds { frames := 1, cells := 0, slots := 0, locals := 23 } (PcR D vwCl (tyG cI cL cS) [.ref (b 0), .int x0, .int x1] (mdw cI cL b (enc co gu kn fo sp ki pl ea to qu) fd mo tr b1 tp tm so bg te wd va gd bo sz sh le im bf ik)) (va_Qv (fun (u : Unit) => True) (fun u t => va_P D vwCl (mdw cI cL b (enc co (gu + 1) kn fo sp (upd ki (ix gu) x0) (upd pl (ix gu) x1) (upd ea (ix gu) 0) (upd to (ix gu) 0) (upd qu (ix gu) 0)) fd mo tr b1 tp tm so bg te wd va gd bo sz sh le im bf ik) t.heap) (Aof (mdw cI cL b (enc co gu kn fo sp ki pl ea to qu) fd mo tr b1 tp tm so bg te wd va gd bo sz sh le im bf ik))) 0 0 (Aof (mdw cI cL b (enc co gu kn fo sp ki pl ea to qu) fd mo tr b1 tp tm so bg te wd va gd bo sz sh le im bf ik)) := by
  refine Met.ofW (cc := cX6_adds) (maxL := 4) (ret := none) (by decide) rfl ?_
  intro p e s m args below meth c s₁ B hml hv
  obtain ⟨rfl, hP, hK⟩ := hv
  have hx := B.exec
  have hb := B.bytes
  have hr := B.returns
  have hts := atoms_spec (ws := wsX6_adds) B.pre
  have hown : s.vm.findClass RX6 = some m.cls := findClass_of_methodNamed B.named
  have hlocks := B.notSynchronized
  obtain ⟨A, hAe⟩ : ∃ A, A = Aof (mdw cI cL b (enc co gu kn fo sp ki pl ea to qu) fd mo tr b1 tp tm so bg te wd va gd bo sz sh le im bf ik) := ⟨_, rfl⟩
  rw [← hAe]
  have hD : ∀ ws' : va_W, ws'.map Prod.fst = (mdw cI cL b (enc co gu kn fo sp ki pl ea to qu) fd mo tr b1 tp tm so bg te wd va gd bo sz sh le im bf ik).map Prod.fst → va_D A ws' := fun ws' e => by rw [hAe]; exact va_D_adr (va_D_self (va_D_adr dj rfl)) e
  have hS : va_S A s.heap s.heap [] := va_S.rf
  have hP : va_P D vwCl (mdw cI cL b (enc co gu kn fo sp ki pl ea to qu) fd mo tr b1 tp tm so bg te wd va gd bo sz sh le im bf ik) s.heap := hP
  have hl := lv_entry ([.ref (b 0), .int x0, .int x1]) (n := 4) (Nat.le_of_ble_eq_true rfl)
  rw [lg_entry_eq]
  generalize (lg_sl ([.ref (b 0), .int x0, .int x1]) ++ List.replicate (4 - (lg_sl ([.ref (b 0), .int x0, .int x1])).length) Slot.unset).toArray = ls at hl ⊢
  have hl : lv_has ls 4 [(0, .ref (b 0)), (1, .int x0), (2, .int x1)] := hl
  have f7 := hts (.fieldLink RX6 7 "KnivesLaidModel" "row" "[I") (List.mem_of_getElem? (i := 1) rfl)
  have inX6 : ∀ w ∈ u_ws RX6 TX6 20, w ∈ wsX6_adds := in_at 7 _ _ rfl
  skip
  refine lv_aload_n hx hb dX6_adds_0 rfl (lv_at hl 0 rfl) ?_
  refine va_get (ci := 4) (v := .ref (b 1)) (C := RX6) (T := TX6) (N := 20) hx hb hts inX6 hown hK hP 0 rfl rfl 0 (by decide) f7 (fun _ h9 => h9) rfl dX6_adds_1 ?_
  refine lv_iconst (v := 1) hx hb dX6_adds_4 (by decide) ?_
  refine va_iald hx hb hK hP 1 0 rfl rfl (vp_in_iff.mpr (by decide)) dX6_adds_5 ?_
  refine lv_to (y := gu) rfl ?_
  refine lv_istore_n (lv' := [(3, .int gu), (0, .ref (b 0)), (1, .int x0), (2, .int x1)]) hx hb dX6_adds_6 rfl hl (by decide) rfl (fun ls hl => ?_)
  refine lv_aload_n hx hb dX6_adds_7 rfl (lv_at hl 1 rfl) ?_
  refine lv_iload_n hx hb dX6_adds_8 rfl (lv_at hl 0 rfl) ?_
  refine lv_iconst (v := 0) hx hb dX6_adds_9 (by decide) ?_
  refine lv_iload_n hx hb dX6_adds_10 rfl (lv_at hl 2 rfl) ?_
  refine callMv (va_runV (As := [.int gu, .int 0, .int x0]) (rest := []) ⟨hx, hb, hml, hown, hts⟩ (k_X6_puts0 l D cI cL cS b co gu kn fo sp ki pl ea to qu fd mo tr b1 tp tm so bg te wd va gd bo sz sh le im bf ik gu x0 (va_DT (hD _ rfl) rfl) (by assumption)) (cwV 3 hts gX6_adds_X6_puts rfl rfl rfl (by decide +kernel) ⟨Nat.le_of_ble_eq_true rfl, Nat.le_of_ble_eq_true rfl⟩) ⟨PcR_fb, va_recv hK hP (ci := 4) (q0 := 0) rfl rfl, PcR_pre hP hK⟩ rfl rfl hl.1 rfl (lv_room (Nat.le_of_ble_eq_true rfl)) dX6_adds_11 ⟨Nat.zero_le _, Nat.zero_le _⟩) hP (hD _ rfl) hS 0 13 rfl (fun u_1 H locs hu_1 hP hS => ?_)
  have hP : va_P D vwCl (mdw cI cL b (enc co gu kn fo sp (upd ki (ix gu) x0) pl ea to qu) fd mo tr b1 tp tm so bg te wd va gd bo sz sh le im bf ik) H := hP
  refine lv_aload_n hx hb dX6_adds_14 rfl (lv_at hl 1 rfl) ?_
  refine lv_iload_n hx hb dX6_adds_15 rfl (lv_at hl 0 rfl) ?_
  refine lv_iconst (v := 1) hx hb dX6_adds_16 (by decide) ?_
  refine lv_iload_n hx hb dX6_adds_17 rfl (lv_at hl 3 rfl) ?_
  refine callMv (va_runV (As := [.int gu, .int 1, .int x1]) (rest := []) ⟨hx, hb, hml, hown, hts⟩ (k_X6_puts1 l D cI cL cS b co gu kn fo sp (upd ki (ix gu) x0) pl ea to qu fd mo tr b1 tp tm so bg te wd va gd bo sz sh le im bf ik gu x1 (va_DT (hD _ rfl) rfl) (by assumption)) (cwV 3 hts gX6_adds_X6_puts rfl rfl rfl (by decide +kernel) ⟨Nat.le_of_ble_eq_true rfl, Nat.le_of_ble_eq_true rfl⟩) ⟨PcR_fb, va_recv hK hP (ci := 4) (q0 := 0) rfl rfl, PcR_pre hP hK⟩ rfl rfl hl.1 rfl (lv_room (Nat.le_of_ble_eq_true rfl)) dX6_adds_18 ⟨Nat.zero_le _, Nat.zero_le _⟩) hP (hD _ rfl) hS 0 13 rfl (fun u_3 H locs hu_3 hP hS => ?_)
  have hP : va_P D vwCl (mdw cI cL b (enc co gu kn fo sp (upd ki (ix gu) x0) (upd pl (ix gu) x1) ea to qu) fd mo tr b1 tp tm so bg te wd va gd bo sz sh le im bf ik) H := hP
  refine lv_aload_n hx hb dX6_adds_21 rfl (lv_at hl 1 rfl) ?_
  refine lv_iload_n hx hb dX6_adds_22 rfl (lv_at hl 0 rfl) ?_
  refine lv_iconst (v := 2) hx hb dX6_adds_23 (by decide) ?_
  refine lv_iconst (v := 0) hx hb dX6_adds_24 (by decide) ?_
  refine callMv (va_runV (As := [.int gu, .int 2, .int 0]) (rest := []) ⟨hx, hb, hml, hown, hts⟩ (k_X6_puts2 l D cI cL cS b co gu kn fo sp (upd ki (ix gu) x0) (upd pl (ix gu) x1) ea to qu fd mo tr b1 tp tm so bg te wd va gd bo sz sh le im bf ik gu 0 (va_DT (hD _ rfl) rfl) (by assumption)) (cwV 3 hts gX6_adds_X6_puts rfl rfl rfl (by decide +kernel) ⟨Nat.le_of_ble_eq_true rfl, Nat.le_of_ble_eq_true rfl⟩) ⟨PcR_fb, va_recv hK hP (ci := 4) (q0 := 0) rfl rfl, PcR_pre hP hK⟩ rfl rfl hl.1 rfl (lv_room (Nat.le_of_ble_eq_true rfl)) dX6_adds_25 ⟨Nat.zero_le _, Nat.zero_le _⟩) hP (hD _ rfl) hS 0 13 rfl (fun u_5 H locs hu_5 hP hS => ?_)
  have hP : va_P D vwCl (mdw cI cL b (enc co gu kn fo sp (upd ki (ix gu) x0) (upd pl (ix gu) x1) (upd ea (ix gu) 0) to qu) fd mo tr b1 tp tm so bg te wd va gd bo sz sh le im bf ik) H := hP
  refine lv_aload_n hx hb dX6_adds_28 rfl (lv_at hl 1 rfl) ?_
  refine lv_iload_n hx hb dX6_adds_29 rfl (lv_at hl 0 rfl) ?_
  refine lv_iconst (v := 3) hx hb dX6_adds_30 (by decide) ?_
  refine lv_iconst (v := 0) hx hb dX6_adds_31 (by decide) ?_
  refine callMv (va_runV (As := [.int gu, .int 3, .int 0]) (rest := []) ⟨hx, hb, hml, hown, hts⟩ (k_X6_puts3 l D cI cL cS b co gu kn fo sp (upd ki (ix gu) x0) (upd pl (ix gu) x1) (upd ea (ix gu) 0) to qu fd mo tr b1 tp tm so bg te wd va gd bo sz sh le im bf ik gu 0 (va_DT (hD _ rfl) rfl) (by assumption)) (cwV 3 hts gX6_adds_X6_puts rfl rfl rfl (by decide +kernel) ⟨Nat.le_of_ble_eq_true rfl, Nat.le_of_ble_eq_true rfl⟩) ⟨PcR_fb, va_recv hK hP (ci := 4) (q0 := 0) rfl rfl, PcR_pre hP hK⟩ rfl rfl hl.1 rfl (lv_room (Nat.le_of_ble_eq_true rfl)) dX6_adds_32 ⟨Nat.zero_le _, Nat.zero_le _⟩) hP (hD _ rfl) hS 0 13 rfl (fun u_7 H locs hu_7 hP hS => ?_)
  have hP : va_P D vwCl (mdw cI cL b (enc co gu kn fo sp (upd ki (ix gu) x0) (upd pl (ix gu) x1) (upd ea (ix gu) 0) (upd to (ix gu) 0) qu) fd mo tr b1 tp tm so bg te wd va gd bo sz sh le im bf ik) H := hP
  refine lv_aload_n hx hb dX6_adds_35 rfl (lv_at hl 1 rfl) ?_
  refine lv_iload_n hx hb dX6_adds_36 rfl (lv_at hl 0 rfl) ?_
  refine lv_iconst (v := 4) hx hb dX6_adds_37 (by decide) ?_
  refine lv_iconst (v := 0) hx hb dX6_adds_38 (by decide) ?_
  refine callMv (va_runV (As := [.int gu, .int 4, .int 0]) (rest := []) ⟨hx, hb, hml, hown, hts⟩ (k_X6_puts4 l D cI cL cS b co gu kn fo sp (upd ki (ix gu) x0) (upd pl (ix gu) x1) (upd ea (ix gu) 0) (upd to (ix gu) 0) qu fd mo tr b1 tp tm so bg te wd va gd bo sz sh le im bf ik gu 0 (va_DT (hD _ rfl) rfl) (by assumption)) (cwV 3 hts gX6_adds_X6_puts rfl rfl rfl (by decide +kernel) ⟨Nat.le_of_ble_eq_true rfl, Nat.le_of_ble_eq_true rfl⟩) ⟨PcR_fb, va_recv hK hP (ci := 4) (q0 := 0) rfl rfl, PcR_pre hP hK⟩ rfl rfl hl.1 rfl (lv_room (Nat.le_of_ble_eq_true rfl)) dX6_adds_39 ⟨Nat.zero_le _, Nat.zero_le _⟩) hP (hD _ rfl) hS 0 13 rfl (fun u_9 H locs hu_9 hP hS => ?_)
  have hP : va_P D vwCl (mdw cI cL b (enc co gu kn fo sp (upd ki (ix gu) x0) (upd pl (ix gu) x1) (upd ea (ix gu) 0) (upd to (ix gu) 0) (upd qu (ix gu) 0)) fd mo tr b1 tp tm so bg te wd va gd bo sz sh le im bf ik) H := hP
  refine lv_aload_n hx hb dX6_adds_42 rfl (lv_at hl 1 rfl) ?_
  refine va_get (ci := 4) (v := .ref (b 1)) (C := RX6) (T := TX6) (N := 20) hx hb hts inX6 hown hK hP 0 rfl rfl 0 (by decide) f7 (fun _ h9 => h9) rfl dX6_adds_43 ?_
  refine lv_iconst (v := 1) hx hb dX6_adds_46 (by decide) ?_
  refine lv_dup2_11 hx hb dX6_adds_47 rfl rfl ?_
  refine va_iald hx hb hK hP 1 0 rfl rfl (vp_in_iff.mpr (by decide)) dX6_adds_48 ?_
  refine lv_to (y := gu) rfl ?_
  refine lv_iconst (v := 1) hx hb dX6_adds_49 (by decide) ?_
  refine lv_iadd hx hb dX6_adds_50 ?_
  refine va_iast hx hb hK hP (hD _ rfl) hS 1 0 rfl rfl (vp_in_iff.mpr (by decide)) dX6_adds_51 (fun H locs hP _ hS => ?_)
  have hP : va_P D vwCl (mdw cI cL b (enc co (gu + 1) kn fo sp (upd ki (ix gu) x0) (upd pl (ix gu) x1) (upd ea (ix gu) 0) (upd to (ix gu) 0) (upd qu (ix gu) 0)) fd mo tr b1 tp tm so bg te wd va gd bo sz sh le im bf ik) H := by rw [← enc_ugu]; exact hP
  exact W.vret hx hb hr (fun t ht hW => ⟨⟨(), rfl, (by trivial), by dsimp only; rw [ht]; exact hP⟩, hS.F ht⟩) hS.2.2 dX6_adds_52

set_option maxRecDepth 100000 in
set_option maxHeartbeats 4000000 in
theorem k_X6_swaps (l : Launch) (D : va_G) (cI cL cS : ClassId) (b : Nat → Nat) (co gu : Int32) (kn fo sp ki pl ea to qu : FI) (fd mo tr b1 tp : FI) (tm so bg te : Int32) (wd : Int64) (va gd : Int32) (bo sz : FI) (sh le : FJ) (im bf : FI) (ik : Int32) (x0 : Int32) (x1 : Int32) (dj : va_D (fun _ => True) (dj0 b 13)) (h0 : vp_in x0 8) (h1 : vp_in x1 8) : Met l yX6_swaps wsX6_swaps { frames := 1, cells := 0, slots := 0, locals := 23 } (PcR D vwCl (tyG cI cL cS) [.ref (b 0), .int x0, .int x1] (mdw cI cL b (enc co gu kn fo sp ki pl ea to qu) fd mo tr b1 tp tm so bg te wd va gd bo sz sh le im bf ik)) (va_Qv (fun (u : Unit) => True) (fun u t => va_P D vwCl (mdw cI cL b (enc co gu kn fo sp ki (upd (upd pl (ix x0) (pl (ix x1))) (ix x1) (pl (ix x0))) ea to qu) fd mo tr b1 tp tm so bg te wd va gd bo sz sh le im bf ik) t.heap) (Aof (mdw cI cL b (enc co gu kn fo sp ki pl ea to qu) fd mo tr b1 tp tm so bg te wd va gd bo sz sh le im bf ik))) 0 0 (Aof (mdw cI cL b (enc co gu kn fo sp ki pl ea to qu) fd mo tr b1 tp tm so bg te wd va gd bo sz sh le im bf ik)) := by
  refine Met.ofW (cc := cX6_swaps) (maxL := 4) (ret := none) (by decide) rfl ?_
  intro p e s m args below meth c s₁ B hml hv
  obtain ⟨rfl, hP, hK⟩ := hv
  have hx := B.exec
  have hb := B.bytes
  have hr := B.returns
  have hts := atoms_spec (ws := wsX6_swaps) B.pre
  have hown : s.vm.findClass RX6 = some m.cls := findClass_of_methodNamed B.named
  have hlocks := B.notSynchronized
  obtain ⟨A, hAe⟩ : ∃ A, A = Aof (mdw cI cL b (enc co gu kn fo sp ki pl ea to qu) fd mo tr b1 tp tm so bg te wd va gd bo sz sh le im bf ik) := ⟨_, rfl⟩
  rw [← hAe]
  have hD : ∀ ws' : va_W, ws'.map Prod.fst = (mdw cI cL b (enc co gu kn fo sp ki pl ea to qu) fd mo tr b1 tp tm so bg te wd va gd bo sz sh le im bf ik).map Prod.fst → va_D A ws' := fun ws' e => by rw [hAe]; exact va_D_adr (va_D_self (va_D_adr dj rfl)) e
  have hS : va_S A s.heap s.heap [] := va_S.rf
  have hP : va_P D vwCl (mdw cI cL b (enc co gu kn fo sp ki pl ea to qu) fd mo tr b1 tp tm so bg te wd va gd bo sz sh le im bf ik) s.heap := hP
  have hl := lv_entry ([.ref (b 0), .int x0, .int x1]) (n := 4) (Nat.le_of_ble_eq_true rfl)
  rw [lg_entry_eq]
  generalize (lg_sl ([.ref (b 0), .int x0, .int x1]) ++ List.replicate (4 - (lg_sl ([.ref (b 0), .int x0, .int x1])).length) Slot.unset).toArray = ls at hl ⊢
  have hl : lv_has ls 4 [(0, .ref (b 0)), (1, .int x0), (2, .int x1)] := hl
  skip
  refine lv_aload_n hx hb dX6_swaps_0 rfl (lv_at hl 0 rfl) ?_
  refine lv_iload_n hx hb dX6_swaps_1 rfl (lv_at hl 1 rfl) ?_
  refine lv_iconst (v := 1) hx hb dX6_swaps_2 (by decide) ?_
  refine callE (W.runV (As := [.int x0, .int 1]) (rest := []) ⟨hx, hb, hml, hown, hts⟩ (k_X6_its1 l D cI cL cS b co gu kn fo sp ki pl ea to qu fd mo tr b1 tp tm so bg te wd va gd bo sz sh le im bf ik x0 (by assumption)) (cwV 2 hts gX6_swaps_X6_its rfl rfl rfl (by decide +kernel) ⟨Nat.le_of_ble_eq_true rfl, Nat.le_of_ble_eq_true rfl⟩) ⟨PcR_fb, va_recv hK hP (ci := 4) (q0 := 0) rfl rfl, PcR_pre hP hK⟩ rfl rfl hl.1 rfl (lv_room (Nat.le_of_ble_eq_true rfl)) dX6_swaps_3 ⟨Nat.zero_le _, Nat.zero_le _⟩) ?_
  refine lv_istore_n (lv' := [(3, .int (pl (ix x0))), (0, .ref (b 0)), (1, .int x0), (2, .int x1)]) hx hb dX6_swaps_6 rfl hl (by decide) rfl (fun ls hl => ?_)
  refine lv_aload_n hx hb dX6_swaps_7 rfl (lv_at hl 1 rfl) ?_
  refine lv_iload_n hx hb dX6_swaps_8 rfl (lv_at hl 2 rfl) ?_
  refine lv_iconst (v := 1) hx hb dX6_swaps_9 (by decide) ?_
  refine lv_aload_n hx hb dX6_swaps_10 rfl (lv_at hl 1 rfl) ?_
  refine lv_iload_n hx hb dX6_swaps_11 rfl (lv_at hl 3 rfl) ?_
  refine lv_iconst (v := 1) hx hb dX6_swaps_12 (by decide) ?_
  refine callE (W.runV (As := [.int x1, .int 1]) (rest := [.int 1, .int x0, .ref (b 0)]) ⟨hx, hb, hml, hown, hts⟩ (k_X6_its1 l D cI cL cS b co gu kn fo sp ki pl ea to qu fd mo tr b1 tp tm so bg te wd va gd bo sz sh le im bf ik x1 (by assumption)) (cwV 2 hts gX6_swaps_X6_its rfl rfl rfl (by decide +kernel) ⟨Nat.le_of_ble_eq_true rfl, Nat.le_of_ble_eq_true rfl⟩) ⟨PcR_fb, va_recv hK hP (ci := 4) (q0 := 0) rfl rfl, PcR_pre hP hK⟩ rfl rfl hl.1 rfl (lv_room (Nat.le_of_ble_eq_true rfl)) dX6_swaps_13 ⟨Nat.zero_le _, Nat.zero_le _⟩) ?_
  refine callMv (va_runV (As := [.int x0, .int 1, .int (pl (ix x1))]) (rest := []) ⟨hx, hb, hml, hown, hts⟩ (k_X6_puts1 l D cI cL cS b co gu kn fo sp ki pl ea to qu fd mo tr b1 tp tm so bg te wd va gd bo sz sh le im bf ik x0 (pl (ix x1)) (va_DT (hD _ rfl) rfl) (by assumption)) (cwV 3 hts gX6_swaps_X6_puts rfl rfl rfl (by decide +kernel) ⟨Nat.le_of_ble_eq_true rfl, Nat.le_of_ble_eq_true rfl⟩) ⟨PcR_fb, va_recv hK hP (ci := 4) (q0 := 0) rfl rfl, PcR_pre hP hK⟩ rfl rfl hl.1 rfl (lv_room (Nat.le_of_ble_eq_true rfl)) dX6_swaps_16 ⟨Nat.zero_le _, Nat.zero_le _⟩) hP (hD _ rfl) hS 0 13 rfl (fun u_1 H locs hu_1 hP hS => ?_)
  have hP : va_P D vwCl (mdw cI cL b (enc co gu kn fo sp ki (upd pl (ix x0) (pl (ix x1))) ea to qu) fd mo tr b1 tp tm so bg te wd va gd bo sz sh le im bf ik) H := hP
  refine lv_aload_n hx hb dX6_swaps_19 rfl (lv_at hl 1 rfl) ?_
  refine lv_iload_n hx hb dX6_swaps_20 rfl (lv_at hl 3 rfl) ?_
  refine lv_iconst (v := 1) hx hb dX6_swaps_21 (by decide) ?_
  refine lv_iload_n hx hb dX6_swaps_22 rfl (lv_at hl 0 rfl) ?_
  refine callMv (va_runV (As := [.int x1, .int 1, .int (pl (ix x0))]) (rest := []) ⟨hx, hb, hml, hown, hts⟩ (k_X6_puts1 l D cI cL cS b co gu kn fo sp ki (upd pl (ix x0) (pl (ix x1))) ea to qu fd mo tr b1 tp tm so bg te wd va gd bo sz sh le im bf ik x1 (pl (ix x0)) (va_DT (hD _ rfl) rfl) (by assumption)) (cwV 3 hts gX6_swaps_X6_puts rfl rfl rfl (by decide +kernel) ⟨Nat.le_of_ble_eq_true rfl, Nat.le_of_ble_eq_true rfl⟩) ⟨PcR_fb, va_recv hK hP (ci := 4) (q0 := 0) rfl rfl, PcR_pre hP hK⟩ rfl rfl hl.1 rfl (lv_room (Nat.le_of_ble_eq_true rfl)) dX6_swaps_23 ⟨Nat.zero_le _, Nat.zero_le _⟩) hP (hD _ rfl) hS 0 13 rfl (fun u_3 H locs hu_3 hP hS => ?_)
  have hP : va_P D vwCl (mdw cI cL b (enc co gu kn fo sp ki (upd (upd pl (ix x0) (pl (ix x1))) (ix x1) (pl (ix x0))) ea to qu) fd mo tr b1 tp tm so bg te wd va gd bo sz sh le im bf ik) H := hP
  exact W.vret hx hb hr (fun t ht hW => ⟨⟨(), rfl, (by trivial), by dsimp only; rw [ht]; exact hP⟩, hS.F ht⟩) hS.2.2 dX6_swaps_26

set_option maxRecDepth 100000 in
set_option maxHeartbeats 4000000 in
theorem k_X6_oneCourse (l : Launch) (D : va_G) (cI cL cS : ClassId) (b : Nat → Nat) (co gu : Int32) (kn fo sp ki pl ea to qu : FI) (fd mo tr b1 tp : FI) (tm so bg te : Int32) (wd : Int64) (va gd : Int32) (bo sz : FI) (sh le : FJ) (im bf : FI) (ik : Int32) (dj : va_D (fun _ => True) (dj0 b 13)) (ok : okT gu kn fo sp (whC gu pl) ki pl) (oe : okE ea to qu) : Met l yX6_oneCourse wsX6_oneCourse { frames := 5, cells := 0, slots := 0, locals := 114 } (PcR D vwCl (tyG cI cL cS) [.ref (b 0)] (mdw cI cL b (enc co gu kn fo sp ki pl ea to qu) fd mo tr b1 tp tm so bg te wd va gd bo sz sh le im bf ik)) (va_Qv (fun (u : FI) => True) (fun u t => va_P D vwCl (mdw cI cL b (enc (co + 1) gu kn fo sp ki pl (cEa gu kn fo sp ki pl ea) (cTo gu sp ki pl ea to) (cQu gu ki pl (cEa gu kn fo sp ki pl ea) qu)) fd u tr b1 tp tm so bg te wd va gd bo sz sh le im bf ik) t.heap) (Aof (mdw cI cL b (enc co gu kn fo sp ki pl ea to qu) fd mo tr b1 tp tm so bg te wd va gd bo sz sh le im bf ik))) 0 0 (Aof (mdw cI cL b (enc co gu kn fo sp ki pl ea to qu) fd mo tr b1 tp tm so bg te wd va gd bo sz sh le im bf ik)) := by
  refine Met.ofW (cc := cX6_oneCourse) (maxL := 5) (ret := none) (by decide) rfl ?_
  intro p e s m args below meth c s₁ B hml hv
  obtain ⟨rfl, hP, hK⟩ := hv
  have hx := B.exec
  have hb := B.bytes
  have hr := B.returns
  have hts := atoms_spec (ws := wsX6_oneCourse) B.pre
  have hown : s.vm.findClass RX6 = some m.cls := findClass_of_methodNamed B.named
  have hlocks := B.notSynchronized
  obtain ⟨A, hAe⟩ : ∃ A, A = Aof (mdw cI cL b (enc co gu kn fo sp ki pl ea to qu) fd mo tr b1 tp tm so bg te wd va gd bo sz sh le im bf ik) := ⟨_, rfl⟩
  rw [← hAe]
  have hD : ∀ ws' : va_W, ws'.map Prod.fst = (mdw cI cL b (enc co gu kn fo sp ki pl ea to qu) fd mo tr b1 tp tm so bg te wd va gd bo sz sh le im bf ik).map Prod.fst → va_D A ws' := fun ws' e => by rw [hAe]; exact va_D_adr (va_D_self (va_D_adr dj rfl)) e
  have hS : va_S A s.heap s.heap [] := va_S.rf
  have hP : va_P D vwCl (mdw cI cL b (enc co gu kn fo sp ki pl ea to qu) fd mo tr b1 tp tm so bg te wd va gd bo sz sh le im bf ik) s.heap := hP
  have hl := lv_entry ([.ref (b 0)]) (n := 5) (Nat.le_of_ble_eq_true rfl)
  rw [lg_entry_eq]
  generalize (lg_sl ([.ref (b 0)]) ++ List.replicate (5 - (lg_sl ([.ref (b 0)])).length) Slot.unset).toArray = ls at hl ⊢
  have hl : lv_has ls 5 [(0, .ref (b 0))] := hl
  have f7 := hts (.fieldLink RX6 7 "KnivesLaidModel" "row" "[I") (List.mem_of_getElem? (i := 1) rfl)
  have inX6 : ∀ w ∈ u_ws RX6 TX6 20, w ∈ wsX6_oneCourse := in_at 70 _ _ rfl
  have f16 := hts (.fieldLink RX6 16 "KnivesLaidModel" "more" "[I") (List.mem_of_getElem? (i := 2) rfl)
  skip
  have hgu := gu_of ok.gu
  have hgu8 := hgu.2
  refine lv_aload_n hx hb dX6_oneCourse_0 rfl (lv_at hl 0 rfl) ?_
  refine callE (W.runV (As := []) (rest := []) ⟨hx, hb, hml, hown, hts⟩ (k_X6_tellingSet l D cI cL cS b co gu kn fo sp ki pl ea to qu fd mo tr b1 tp tm so bg te wd va gd bo sz sh le im bf ik ok) (cwV 0 hts gX6_oneCourse_X6_tellingSet rfl rfl rfl (by decide +kernel) ⟨Nat.le_of_ble_eq_true rfl, Nat.le_of_ble_eq_true rfl⟩) ⟨PcR_fb, va_recv hK hP (ci := 4) (q0 := 0) rfl rfl, PcR_pre hP hK⟩ rfl rfl hl.1 rfl (lv_room (Nat.le_of_ble_eq_true rfl)) dX6_oneCourse_1 ⟨Nat.zero_le _, Nat.zero_le _⟩) ?_
  refine lv_istore_n (lv' := [(1, .int (sSet (sTells sp ki pl ea) (ix gu))), (0, .ref (b 0))]) hx hb dX6_oneCourse_4 rfl hl (by decide) rfl (fun ls hl => ?_)
  refine lv_iconst (v := 0) hx hb dX6_oneCourse_5 (by decide) ?_
  refine lv_istore_n (lv' := [(2, .int 0), (1, .int (sSet (sTells sp ki pl ea) (ix gu))), (0, .ref (b 0))]) hx hb dX6_oneCourse_6 rfl hl (by decide) rfl (fun ls hl => ?_)
  refine lpW (fun n (u : Nat × FI) H locs ls => (u.1 + n = ix gu) ∧ (∀ g, g < u.1 → u.2 g = sMore gu kn fo sp ki pl g) ∧ va_P D vwCl (mdw cI cL b (enc co gu kn fo sp ki pl ea to qu) fd u.2 tr b1 tp tm so bg te wd va gd bo sz sh le im bf ik) H ∧ va_S A s.heap H locs ∧ lv_has ls 5 [(0, .ref (b 0)), (1, .int (sSet (sTells sp ki pl ea) (ix gu))), (2, .int (nI u.1))]) (ix gu) ((0, mo)) ⟨by omega, fun g hg => absurd hg (Nat.not_lt_zero g), hP, hS, lv_sub hl [2, 1, 0] rfl⟩ (fun n ih u H locs ls hI => ?_)
  obtain ⟨k, mo1⟩ := u
  obtain ⟨hk0, hk1, hP, hS, hl⟩ := hI
  have hk0 : k + n = ix gu := hk0
  have hk1 : ∀ g, g < k → mo1 g = sMore gu kn fo sp ki pl g := hk1
  have hl : lv_has ls 5 [(0, .ref (b 0)), (1, .int (sSet (sTells sp ki pl ea) (ix gu))), (2, .int (nI k))] := hl
  have hP : va_P D vwCl (mdw cI cL b (enc co gu kn fo sp ki pl ea to qu) fd mo1 tr b1 tp tm so bg te wd va gd bo sz sh le im bf ik) H := hP
  have hkx : ix (nI k) = k := ix_nI (by omega)
  refine lv_iload_n hx hb dX6_oneCourse_7 rfl (lv_at hl 2 rfl) ?_
  refine lv_aload_n hx hb dX6_oneCourse_8 rfl (lv_at hl 0 rfl) ?_
  refine va_get (ci := 4) (v := .ref (b 1)) (C := RX6) (T := TX6) (N := 20) hx hb hts inX6 hown hK hP 0 rfl rfl 0 (by decide) f7 (fun _ h9 => h9) rfl dX6_oneCourse_9 ?_
  refine lv_iconst (v := 1) hx hb dX6_oneCourse_12 (by decide) ?_
  refine va_iald hx hb hK hP 1 0 rfl rfl (vp_in_iff.mpr (by decide)) dX6_oneCourse_13 ?_
  refine lv_to (y := gu) rfl ?_
  refine lv_icmp_ge (tgt := 40) hx hb dX6_oneCourse_14 (by decide) (fun c_1 => ?_) (fun c_1 => ?_)
  · skip
    have c_1n := (cmp_le (a := ix gu) (b := k) hgu.1 rfl (by omega) (by omega)).mp c_1
    have hP : va_P D vwCl (mdw cI cL b (enc co gu kn fo sp ki pl (fa_fill (fEa gu kn fo sp ki pl ea) ea 0) (fa_fill (fTo gu sp ki pl ea to) to 0) qu) fd mo1 tr b1 tp tm so bg te wd va gd bo sz sh le im bf ik) H := by rw [fa_fill_0, fa_fill_0]; exact hP
    refine lv_iconst (v := 0) hx hb dX6_oneCourse_40 (by decide) ?_
    refine lv_istore_n (lv' := [(2, .int 0), (0, .ref (b 0)), (1, .int (sSet (sTells sp ki pl ea) (ix gu)))]) hx hb dX6_oneCourse_41 rfl hl (by decide) rfl (fun ls hl => ?_)
    refine lpW (fun n (u : Nat) H locs ls => (u + n = ix gu) ∧ va_P D vwCl (mdw cI cL b (enc co gu kn fo sp ki pl (fa_fill (fEa gu kn fo sp ki pl ea) ea u) (fa_fill (fTo gu sp ki pl ea to) to u) qu) fd mo1 tr b1 tp tm so bg te wd va gd bo sz sh le im bf ik) H ∧ va_S A s.heap H locs ∧ lv_has ls 5 [(0, .ref (b 0)), (1, .int (sSet (sTells sp ki pl ea) (ix gu))), (2, .int (nI u))]) (ix gu) (0) ⟨by omega, hP, hS, lv_sub hl [1, 2, 0] rfl⟩ (fun n ih u H locs ls hI => ?_)
    obtain ⟨i, rfl⟩ : ∃ z, z = u := ⟨_, rfl⟩
    obtain ⟨hi0, hP, hS, hl⟩ := hI
    have hi0 : i + n = ix gu := hi0
    have hl : lv_has ls 5 [(0, .ref (b 0)), (1, .int (sSet (sTells sp ki pl ea) (ix gu))), (2, .int (nI i))] := hl
    have hP : va_P D vwCl (mdw cI cL b (enc co gu kn fo sp ki pl (fa_fill (fEa gu kn fo sp ki pl ea) ea i) (fa_fill (fTo gu sp ki pl ea to) to i) qu) fd mo1 tr b1 tp tm so bg te wd va gd bo sz sh le im bf ik) H := hP
    have hix : ix (nI i) = i := ix_nI (by omega)
    refine lv_iload_n hx hb dX6_oneCourse_42 rfl (lv_at hl 2 rfl) ?_
    refine lv_aload_n hx hb dX6_oneCourse_43 rfl (lv_at hl 0 rfl) ?_
    refine va_get (ci := 4) (v := .ref (b 1)) (C := RX6) (T := TX6) (N := 20) hx hb hts inX6 hown hK hP 0 rfl rfl 0 (by decide) f7 (fun _ h9 => h9) rfl dX6_oneCourse_44 ?_
    refine lv_iconst (v := 1) hx hb dX6_oneCourse_47 (by decide) ?_
    refine va_iald hx hb hK hP 1 0 rfl rfl (vp_in_iff.mpr (by decide)) dX6_oneCourse_48 ?_
    refine lv_to (y := gu) rfl ?_
    refine lv_icmp_ge (tgt := 109) hx hb dX6_oneCourse_49 (by decide) (fun c_2 => ?_) (fun c_2 => ?_)
    · skip
      have c_2n := (cmp_le (a := ix gu) (b := i) hgu.1 rfl (by omega) (by omega)).mp c_2
      have hP : va_P D vwCl (mdw cI cL b (enc co gu kn fo sp ki pl (cEa gu kn fo sp ki pl ea) (cTo gu sp ki pl ea to) qu) fd mo1 tr b1 tp tm so bg te wd va gd bo sz sh le im bf ik) H := by rw [show i = ix gu by omega] at hP; exact hP
      refine lv_aload_n hx hb dX6_oneCourse_109 rfl (lv_at hl 0 rfl) ?_
      refine callE (W.runV (As := []) (rest := []) ⟨hx, hb, hml, hown, hts⟩ (k_X6_soreSet l D cI cL cS b co gu kn fo sp ki pl (cEa gu kn fo sp ki pl ea) (cTo gu sp ki pl ea to) qu fd mo1 tr b1 tp tm so bg te wd va gd bo sz sh le im bf ik ok.gu) (cwV 0 hts gX6_oneCourse_X6_soreSet rfl rfl rfl (by decide +kernel) ⟨Nat.le_of_ble_eq_true rfl, Nat.le_of_ble_eq_true rfl⟩) ⟨PcR_fb, va_recv hK hP (ci := 4) (q0 := 0) rfl rfl, PcR_pre hP hK⟩ rfl rfl hl.1 rfl (lv_room (Nat.le_of_ble_eq_true rfl)) dX6_oneCourse_110 ⟨Nat.zero_le _, Nat.zero_le _⟩) ?_
      refine lv_istore_n (lv' := [(2, .int (sSet (sSores ki (cEa gu kn fo sp ki pl ea)) (ix gu))), (0, .ref (b 0)), (1, .int (sSet (sTells sp ki pl ea) (ix gu)))]) hx hb dX6_oneCourse_113 rfl hl (by decide) rfl (fun ls hl => ?_)
      have hP : va_P D vwCl (mdw cI cL b (enc co gu kn fo sp ki pl (cEa gu kn fo sp ki pl ea) (cTo gu sp ki pl ea to) (fa_fill (fQu gu ki pl (cEa gu kn fo sp ki pl ea) qu) qu 0)) fd mo1 tr b1 tp tm so bg te wd va gd bo sz sh le im bf ik) H := by rw [fa_fill_0]; exact hP
      refine lv_iconst (v := 0) hx hb dX6_oneCourse_114 (by decide) ?_
      refine lv_istore_n (lv' := [(3, .int 0), (2, .int (sSet (sSores ki (cEa gu kn fo sp ki pl ea)) (ix gu))), (0, .ref (b 0)), (1, .int (sSet (sTells sp ki pl ea) (ix gu)))]) hx hb dX6_oneCourse_115 rfl hl (by decide) rfl (fun ls hl => ?_)
      refine lpW (fun n (u : Nat) H locs ls => (u + n = ix gu) ∧ va_P D vwCl (mdw cI cL b (enc co gu kn fo sp ki pl (cEa gu kn fo sp ki pl ea) (cTo gu sp ki pl ea to) (fa_fill (fQu gu ki pl (cEa gu kn fo sp ki pl ea) qu) qu u)) fd mo1 tr b1 tp tm so bg te wd va gd bo sz sh le im bf ik) H ∧ va_S A s.heap H locs ∧ lv_has ls 5 [(0, .ref (b 0)), (2, .int (sSet (sSores ki (cEa gu kn fo sp ki pl ea)) (ix gu))), (3, .int (nI u))]) (ix gu) (0) ⟨by omega, hP, hS, lv_sub hl [2, 1, 0] rfl⟩ (fun n ih u H locs ls hI => ?_)
      obtain ⟨j, rfl⟩ : ∃ z, z = u := ⟨_, rfl⟩
      obtain ⟨hj0, hP, hS, hl⟩ := hI
      have hj0 : j + n = ix gu := hj0
      have hl : lv_has ls 5 [(0, .ref (b 0)), (2, .int (sSet (sSores ki (cEa gu kn fo sp ki pl ea)) (ix gu))), (3, .int (nI j))] := hl
      have hP : va_P D vwCl (mdw cI cL b (enc co gu kn fo sp ki pl (cEa gu kn fo sp ki pl ea) (cTo gu sp ki pl ea to) (fa_fill (fQu gu ki pl (cEa gu kn fo sp ki pl ea) qu) qu j)) fd mo1 tr b1 tp tm so bg te wd va gd bo sz sh le im bf ik) H := hP
      have hjx : ix (nI j) = j := ix_nI (by omega)
      refine lv_iload_n hx hb dX6_oneCourse_116 rfl (lv_at hl 2 rfl) ?_
      refine lv_aload_n hx hb dX6_oneCourse_117 rfl (lv_at hl 0 rfl) ?_
      refine va_get (ci := 4) (v := .ref (b 1)) (C := RX6) (T := TX6) (N := 20) hx hb hts inX6 hown hK hP 0 rfl rfl 0 (by decide) f7 (fun _ h9 => h9) rfl dX6_oneCourse_118 ?_
      refine lv_iconst (v := 1) hx hb dX6_oneCourse_121 (by decide) ?_
      refine va_iald hx hb hK hP 1 0 rfl rfl (vp_in_iff.mpr (by decide)) dX6_oneCourse_122 ?_
      refine lv_to (y := gu) rfl ?_
      refine lv_icmp_ge (tgt := 179) hx hb dX6_oneCourse_123 (by decide) (fun c_3 => ?_) (fun c_3 => ?_)
      · skip
        have c_3n := (cmp_le (a := ix gu) (b := j) hgu.1 rfl (by omega) (by omega)).mp c_3
        have hP : va_P D vwCl (mdw cI cL b (enc co gu kn fo sp ki pl (cEa gu kn fo sp ki pl ea) (cTo gu sp ki pl ea to) (cQu gu ki pl (cEa gu kn fo sp ki pl ea) qu)) fd mo1 tr b1 tp tm so bg te wd va gd bo sz sh le im bf ik) H := by rw [show j = ix gu by omega] at hP; exact hP
        refine lv_aload_n hx hb dX6_oneCourse_179 rfl (lv_at hl 0 rfl) ?_
        refine va_get (ci := 4) (v := .ref (b 1)) (C := RX6) (T := TX6) (N := 20) hx hb hts inX6 hown hK hP 0 rfl rfl 0 (by decide) f7 (fun _ h9 => h9) rfl dX6_oneCourse_180 ?_
        refine lv_iconst (v := 0) hx hb dX6_oneCourse_183 (by decide) ?_
        refine lv_dup2_11 hx hb dX6_oneCourse_184 rfl rfl ?_
        refine va_iald hx hb hK hP 1 0 rfl rfl (vp_in_iff.mpr (by decide)) dX6_oneCourse_185 ?_
        refine lv_to (y := co) rfl ?_
        refine lv_iconst (v := 1) hx hb dX6_oneCourse_186 (by decide) ?_
        refine lv_iadd hx hb dX6_oneCourse_187 ?_
        refine va_iast hx hb hK hP (hD _ rfl) hS 1 0 rfl rfl (vp_in_iff.mpr (by decide)) dX6_oneCourse_188 (fun H locs hP _ hS => ?_)
        have hP : va_P D vwCl (mdw cI cL b (enc (co + 1) gu kn fo sp ki pl (cEa gu kn fo sp ki pl ea) (cTo gu sp ki pl ea to) (cQu gu ki pl (cEa gu kn fo sp ki pl ea) qu)) fd mo1 tr b1 tp tm so bg te wd va gd bo sz sh le im bf ik) H := by rw [← enc_uco]; exact hP
        exact W.vret hx hb hr (fun t ht hW => ⟨⟨(mo1), rfl, (by trivial), by dsimp only; rw [ht]; exact hP⟩, hS.F ht⟩) hS.2.2 dX6_oneCourse_189
      · skip
        have c_3n := mt (cmp_le (a := ix gu) (b := j) hgu.1 rfl (by omega) (by omega)).mpr c_3
        refine lv_iload_n hx hb dX6_oneCourse_126 rfl (lv_at hl 1 rfl) ?_
        refine lv_iload_n hx hb dX6_oneCourse_127 rfl (lv_at hl 2 rfl) ?_
        refine lv_ishr hx hb dX6_oneCourse_128 ?_
        refine lv_iconst (v := 1) hx hb dX6_oneCourse_129 (by decide) ?_
        refine lv_iand hx hb dX6_oneCourse_130 ?_
        refine lv_iconst (v := 1) hx hb dX6_oneCourse_131 (by decide) ?_
        refine jn (fun v_4 : Int32 => v_4 = (if (((sSet (sSores ki (cEa gu kn fo sp ki pl ea)) (ix gu)) >>> ((nI j) &&& 31)) &&& 1) = 1 then (pop32 ((sNear gu pl (ix (nI j))) &&& (sSet (sSores ki (cEa gu kn fo sp ki pl ea)) (ix gu)))) else 0 : Int32)) (fun v_4 => F0 m 149 ls [.int v_4]) (fun Jv_4 => ?_) (fun v_4 ev_4 => ?_)
        · skip
          refine lv_icmp_ne (tgt := 148) hx hb dX6_oneCourse_132 (by decide) (fun c_5 => ?_) (fun c_5 => ?_)
          · skip
            refine lv_iconst (v := 0) hx hb dX6_oneCourse_148 (by decide) ?_
            exact Jv_4 _ (by rw [if_neg c_5])
          · skip
            refine lv_aload_n hx hb dX6_oneCourse_135 rfl (lv_at hl 0 rfl) ?_
            refine lv_iload_n hx hb dX6_oneCourse_136 rfl (lv_at hl 2 rfl) ?_
            refine callE (W.runV (As := [.int (nI j)]) (rest := []) ⟨hx, hb, hml, hown, hts⟩ (k_X6_neighbours l D cI cL cS b co gu kn fo sp ki pl (cEa gu kn fo sp ki pl ea) (cTo gu sp ki pl ea to) (fa_fill (fQu gu ki pl (cEa gu kn fo sp ki pl ea) qu) qu j) fd mo1 tr b1 tp tm so bg te wd va gd bo sz sh le im bf ik (nI j) ok (vp_in_nI (by omega) (by omega))) (cwV 1 hts gX6_oneCourse_X6_neighbours rfl rfl rfl (by decide +kernel) ⟨Nat.le_of_ble_eq_true rfl, Nat.le_of_ble_eq_true rfl⟩) ⟨PcR_fb, va_recv hK hP (ci := 4) (q0 := 0) rfl rfl, PcR_pre hP hK⟩ rfl rfl hl.1 rfl (lv_room (Nat.le_of_ble_eq_true rfl)) dX6_oneCourse_137 ⟨Nat.zero_le _, Nat.zero_le _⟩) ?_
            refine lv_iload_n hx hb dX6_oneCourse_140 rfl (lv_at hl 1 rfl) ?_
            refine lv_iand hx hb dX6_oneCourse_141 ?_
            refine callE (W.runS (As := [.int ((sNear gu pl (ix (nI j))) &&& (sSet (sSores ki (cEa gu kn fo sp ki pl ea)) (ix gu)))]) (rest := []) ⟨hx, hb, hml, hown, hts⟩ (k_X6_bits l ((sNear gu pl (ix (nI j))) &&& (sSet (sSores ki (cEa gu kn fo sp ki pl ea)) (ix gu))) (and_in (near_in ok.gu _ _))) (va_cwS 1 hts gX6_oneCourse_X6_bits rfl rfl rfl (by decide +kernel) ⟨Nat.le_of_ble_eq_true rfl, Nat.le_of_ble_eq_true rfl⟩) ⟨PcP_fb, fun U _ _ => ⟨rfl, trivial⟩⟩ rfl rfl hl.1 rfl (lv_room (Nat.le_of_ble_eq_true rfl)) dX6_oneCourse_142 ⟨Nat.zero_le _, Nat.zero_le _⟩) ?_
            refine lv_goto (tgt := 149) hx hb dX6_oneCourse_145 (by decide) ?_
            exact Jv_4 _ (by rw [if_pos c_5])
        refine lv_istore (lv' := [(4, .int v_4), (0, .ref (b 0)), (2, .int (sSet (sSores ki (cEa gu kn fo sp ki pl ea)) (ix gu))), (3, .int (nI j))]) hx hb dX6_oneCourse_149 hl (by decide) rfl (fun ls hl => ?_)
        refine lv_aload_n hx hb dX6_oneCourse_151 rfl (lv_at hl 1 rfl) ?_
        refine lv_iload_n hx hb dX6_oneCourse_152 rfl (lv_at hl 3 rfl) ?_
        refine lv_iconst (v := 4) hx hb dX6_oneCourse_153 (by decide) ?_
        refine lv_aload_n hx hb dX6_oneCourse_154 rfl (lv_at hl 1 rfl) ?_
        refine lv_iload_n hx hb dX6_oneCourse_155 rfl (lv_at hl 3 rfl) ?_
        refine lv_iconst (v := 4) hx hb dX6_oneCourse_156 (by decide) ?_
        refine callE (W.runV (As := [.int (nI j), .int 4]) (rest := [.int 4, .int (nI j), .ref (b 0)]) ⟨hx, hb, hml, hown, hts⟩ (k_X6_its4 l D cI cL cS b co gu kn fo sp ki pl (cEa gu kn fo sp ki pl ea) (cTo gu sp ki pl ea to) (fa_fill (fQu gu ki pl (cEa gu kn fo sp ki pl ea) qu) qu j) fd mo1 tr b1 tp tm so bg te wd va gd bo sz sh le im bf ik (nI j) (vp_in_nI (by omega) (by omega))) (cwV 2 hts gX6_oneCourse_X6_its rfl rfl rfl (by decide +kernel) ⟨Nat.le_of_ble_eq_true rfl, Nat.le_of_ble_eq_true rfl⟩) ⟨PcR_fb, va_recv hK hP (ci := 4) (q0 := 0) rfl rfl, PcR_pre hP hK⟩ rfl rfl hl.1 rfl (lv_room (Nat.le_of_ble_eq_true rfl)) dX6_oneCourse_157 ⟨Nat.zero_le _, Nat.zero_le _⟩) ?_
        refine lv_iload hx hb dX6_oneCourse_160 (lv_at hl 0 rfl) ?_
        refine lv_iadd hx hb dX6_oneCourse_162 ?_
        refine lv_iconst (v := 0) hx hb dX6_oneCourse_163 (by decide) ?_
        refine lv_sipush (v := 9999) hx hb dX6_oneCourse_164 (by decide) ?_
        refine callE (W.runS (As := [.int (((fa_fill (fQu gu ki pl (cEa gu kn fo sp ki pl ea) qu) qu j) (ix (nI j))) + v_4), .int 0, .int 9999]) (rest := [.int 4, .int (nI j), .ref (b 0)]) ⟨hx, hb, hml, hown, hts⟩ (k_X6_held l (((fa_fill (fQu gu ki pl (cEa gu kn fo sp ki pl ea) qu) qu j) (ix (nI j))) + v_4) 0 9999) (va_cwS 3 hts gX6_oneCourse_X6_held rfl rfl rfl (by decide +kernel) ⟨Nat.le_of_ble_eq_true rfl, Nat.le_of_ble_eq_true rfl⟩) ⟨PcP_fb, fun U _ _ => ⟨rfl, trivial⟩⟩ rfl rfl hl.1 rfl (lv_room (Nat.le_of_ble_eq_true rfl)) dX6_oneCourse_167 ⟨Nat.zero_le _, Nat.zero_le _⟩) ?_
        refine callMv (va_runV (As := [.int (nI j), .int 4, .int (sHeld (((fa_fill (fQu gu ki pl (cEa gu kn fo sp ki pl ea) qu) qu j) (ix (nI j))) + v_4) 0 9999)]) (rest := []) ⟨hx, hb, hml, hown, hts⟩ (k_X6_puts4 l D cI cL cS b co gu kn fo sp ki pl (cEa gu kn fo sp ki pl ea) (cTo gu sp ki pl ea to) (fa_fill (fQu gu ki pl (cEa gu kn fo sp ki pl ea) qu) qu j) fd mo1 tr b1 tp tm so bg te wd va gd bo sz sh le im bf ik (nI j) (sHeld (((fa_fill (fQu gu ki pl (cEa gu kn fo sp ki pl ea) qu) qu j) (ix (nI j))) + v_4) 0 9999) (va_DT (hD _ rfl) rfl) (vp_in_nI (by omega) (by omega))) (cwV 3 hts gX6_oneCourse_X6_puts rfl rfl rfl (by decide +kernel) ⟨Nat.le_of_ble_eq_true rfl, Nat.le_of_ble_eq_true rfl⟩) ⟨PcR_fb, va_recv hK hP (ci := 4) (q0 := 0) rfl rfl, PcR_pre hP hK⟩ rfl rfl hl.1 rfl (lv_room (Nat.le_of_ble_eq_true rfl)) dX6_oneCourse_170 ⟨Nat.zero_le _, Nat.zero_le _⟩) hP (hD _ rfl) hS 0 13 rfl (fun u_6 H locs hu_6 hP hS => ?_)
        have hP : va_P D vwCl (mdw cI cL b (enc co gu kn fo sp ki pl (cEa gu kn fo sp ki pl ea) (cTo gu sp ki pl ea to) (upd (fa_fill (fQu gu ki pl (cEa gu kn fo sp ki pl ea) qu) qu j) (ix (nI j)) (sHeld (((fa_fill (fQu gu ki pl (cEa gu kn fo sp ki pl ea) qu) qu j) (ix (nI j))) + v_4) 0 9999))) fd mo1 tr b1 tp tm so bg te wd va gd bo sz sh le im bf ik) H := hP
        refine lv_iinc (v := nI (j + 1)) (lv' := [(3, .int (nI (j + 1))), (4, .int v_4), (0, .ref (b 0)), (2, .int (sSet (sSores ki (cEa gu kn fo sp ki pl ea)) (ix gu)))]) hx hb dX6_oneCourse_173 hl (k := 3) rfl (nI_1 _) (by decide) rfl (fun ls hl => ?_)
        refine lv_goto (tgt := 116) hx hb dX6_oneCourse_176 (by decide) ?_
        have hP : va_P D vwCl (mdw cI cL b (enc co gu kn fo sp ki pl (cEa gu kn fo sp ki pl ea) (cTo gu sp ki pl ea to) (fa_fill (fQu gu ki pl (cEa gu kn fo sp ki pl ea) qu) qu (j + 1))) fd mo1 tr b1 tp tm so bg te wd va gd bo sz sh le im bf ik) H := by rw [← step_quM hjx ev_4]; exact hP
        exact ih (n - 1) (by omega) (j + 1) H locs ls ⟨by omega, hP, hS, lv_sub hl [2, 3, 0] rfl⟩
    · skip
      have c_2n := mt (cmp_le (a := ix gu) (b := i) hgu.1 rfl (by omega) (by omega)).mpr c_2
      refine lv_aload_n hx hb dX6_oneCourse_52 rfl (lv_at hl 0 rfl) ?_
      refine lv_iload_n hx hb dX6_oneCourse_53 rfl (lv_at hl 2 rfl) ?_
      refine lv_iconst (v := 2) hx hb dX6_oneCourse_54 (by decide) ?_
      refine lv_aload_n hx hb dX6_oneCourse_55 rfl (lv_at hl 0 rfl) ?_
      refine lv_iload_n hx hb dX6_oneCourse_56 rfl (lv_at hl 2 rfl) ?_
      refine lv_iconst (v := 2) hx hb dX6_oneCourse_57 (by decide) ?_
      refine callE (W.runV (As := [.int (nI i), .int 2]) (rest := [.int 2, .int (nI i), .ref (b 0)]) ⟨hx, hb, hml, hown, hts⟩ (k_X6_its2 l D cI cL cS b co gu kn fo sp ki pl (fa_fill (fEa gu kn fo sp ki pl ea) ea i) (fa_fill (fTo gu sp ki pl ea to) to i) qu fd mo1 tr b1 tp tm so bg te wd va gd bo sz sh le im bf ik (nI i) (vp_in_nI (by omega) (by omega))) (cwV 2 hts gX6_oneCourse_X6_its rfl rfl rfl (by decide +kernel) ⟨Nat.le_of_ble_eq_true rfl, Nat.le_of_ble_eq_true rfl⟩) ⟨PcR_fb, va_recv hK hP (ci := 4) (q0 := 0) rfl rfl, PcR_pre hP hK⟩ rfl rfl hl.1 rfl (lv_room (Nat.le_of_ble_eq_true rfl)) dX6_oneCourse_58 ⟨Nat.zero_le _, Nat.zero_le _⟩) ?_
      refine lv_aload_n hx hb dX6_oneCourse_61 rfl (lv_at hl 0 rfl) ?_
      refine va_get (ci := 4) (v := .ref (b 3)) (C := RX6) (T := TX6) (N := 20) hx hb hts inX6 hown hK hP 0 rfl rfl 2 (by decide) f16 (fun _ h9 => h9) rfl dX6_oneCourse_62 ?_
      refine lv_iload_n hx hb dX6_oneCourse_65 rfl (lv_at hl 2 rfl) ?_
      refine va_iald hx hb hK hP 3 0 rfl rfl (vp_in_nI (by omega) (by omega)) dX6_oneCourse_66 ?_
      refine lv_iadd hx hb dX6_oneCourse_67 ?_
      refine lv_bipush (v := (-99)) hx hb dX6_oneCourse_68 (by decide) ?_
      refine lv_bipush (v := 99) hx hb dX6_oneCourse_70 (by decide) ?_
      refine callE (W.runS (As := [.int (((fa_fill (fEa gu kn fo sp ki pl ea) ea i) (ix (nI i))) + (mo1 (ix (nI i)))), .int (-99), .int 99]) (rest := [.int 2, .int (nI i), .ref (b 0)]) ⟨hx, hb, hml, hown, hts⟩ (k_X6_held l (((fa_fill (fEa gu kn fo sp ki pl ea) ea i) (ix (nI i))) + (mo1 (ix (nI i)))) (-99) 99) (va_cwS 3 hts gX6_oneCourse_X6_held rfl rfl rfl (by decide +kernel) ⟨Nat.le_of_ble_eq_true rfl, Nat.le_of_ble_eq_true rfl⟩) ⟨PcP_fb, fun U _ _ => ⟨rfl, trivial⟩⟩ rfl rfl hl.1 rfl (lv_room (Nat.le_of_ble_eq_true rfl)) dX6_oneCourse_72 ⟨Nat.zero_le _, Nat.zero_le _⟩) ?_
      refine callMv (va_runV (As := [.int (nI i), .int 2, .int (sHeld (((fa_fill (fEa gu kn fo sp ki pl ea) ea i) (ix (nI i))) + (mo1 (ix (nI i)))) (-99) 99)]) (rest := []) ⟨hx, hb, hml, hown, hts⟩ (k_X6_puts2 l D cI cL cS b co gu kn fo sp ki pl (fa_fill (fEa gu kn fo sp ki pl ea) ea i) (fa_fill (fTo gu sp ki pl ea to) to i) qu fd mo1 tr b1 tp tm so bg te wd va gd bo sz sh le im bf ik (nI i) (sHeld (((fa_fill (fEa gu kn fo sp ki pl ea) ea i) (ix (nI i))) + (mo1 (ix (nI i)))) (-99) 99) (va_DT (hD _ rfl) rfl) (vp_in_nI (by omega) (by omega))) (cwV 3 hts gX6_oneCourse_X6_puts rfl rfl rfl (by decide +kernel) ⟨Nat.le_of_ble_eq_true rfl, Nat.le_of_ble_eq_true rfl⟩) ⟨PcR_fb, va_recv hK hP (ci := 4) (q0 := 0) rfl rfl, PcR_pre hP hK⟩ rfl rfl hl.1 rfl (lv_room (Nat.le_of_ble_eq_true rfl)) dX6_oneCourse_75 ⟨Nat.zero_le _, Nat.zero_le _⟩) hP (hD _ rfl) hS 0 13 rfl (fun u_8 H locs hu_8 hP hS => ?_)
      have hP : va_P D vwCl (mdw cI cL b (enc co gu kn fo sp ki pl (upd (fa_fill (fEa gu kn fo sp ki pl ea) ea i) (ix (nI i)) (sHeld (((fa_fill (fEa gu kn fo sp ki pl ea) ea i) (ix (nI i))) + (mo1 (ix (nI i)))) (-99) 99)) (fa_fill (fTo gu sp ki pl ea to) to i) qu) fd mo1 tr b1 tp tm so bg te wd va gd bo sz sh le im bf ik) H := hP
      refine lv_aload_n hx hb dX6_oneCourse_78 rfl (lv_at hl 0 rfl) ?_
      refine lv_iload_n hx hb dX6_oneCourse_79 rfl (lv_at hl 2 rfl) ?_
      refine lv_iconst (v := 3) hx hb dX6_oneCourse_80 (by decide) ?_
      refine lv_aload_n hx hb dX6_oneCourse_81 rfl (lv_at hl 0 rfl) ?_
      refine lv_iload_n hx hb dX6_oneCourse_82 rfl (lv_at hl 2 rfl) ?_
      refine lv_iconst (v := 3) hx hb dX6_oneCourse_83 (by decide) ?_
      refine callE (W.runV (As := [.int (nI i), .int 3]) (rest := [.int 3, .int (nI i), .ref (b 0)]) ⟨hx, hb, hml, hown, hts⟩ (k_X6_its3 l D cI cL cS b co gu kn fo sp ki pl (upd (fa_fill (fEa gu kn fo sp ki pl ea) ea i) (ix (nI i)) (sHeld (((fa_fill (fEa gu kn fo sp ki pl ea) ea i) (ix (nI i))) + (mo1 (ix (nI i)))) (-99) 99)) (fa_fill (fTo gu sp ki pl ea to) to i) qu fd mo1 tr b1 tp tm so bg te wd va gd bo sz sh le im bf ik (nI i) (vp_in_nI (by omega) (by omega))) (cwV 2 hts gX6_oneCourse_X6_its rfl rfl rfl (by decide +kernel) ⟨Nat.le_of_ble_eq_true rfl, Nat.le_of_ble_eq_true rfl⟩) ⟨PcR_fb, va_recv hK hP (ci := 4) (q0 := 0) rfl rfl, PcR_pre hP hK⟩ rfl rfl hl.1 rfl (lv_room (Nat.le_of_ble_eq_true rfl)) dX6_oneCourse_84 ⟨Nat.zero_le _, Nat.zero_le _⟩) ?_
      refine lv_iload_n hx hb dX6_oneCourse_87 rfl (lv_at hl 1 rfl) ?_
      refine lv_iload_n hx hb dX6_oneCourse_88 rfl (lv_at hl 2 rfl) ?_
      refine lv_ishr hx hb dX6_oneCourse_89 ?_
      refine lv_iconst (v := 1) hx hb dX6_oneCourse_90 (by decide) ?_
      refine lv_iand hx hb dX6_oneCourse_91 ?_
      refine lv_iadd hx hb dX6_oneCourse_92 ?_
      refine lv_iconst (v := 0) hx hb dX6_oneCourse_93 (by decide) ?_
      refine lv_sipush (v := 9999) hx hb dX6_oneCourse_94 (by decide) ?_
      refine callE (W.runS (As := [.int (((fa_fill (fTo gu sp ki pl ea to) to i) (ix (nI i))) + (((sSet (sTells sp ki pl ea) (ix gu)) >>> ((nI i) &&& 31)) &&& 1)), .int 0, .int 9999]) (rest := [.int 3, .int (nI i), .ref (b 0)]) ⟨hx, hb, hml, hown, hts⟩ (k_X6_held l (((fa_fill (fTo gu sp ki pl ea to) to i) (ix (nI i))) + (((sSet (sTells sp ki pl ea) (ix gu)) >>> ((nI i) &&& 31)) &&& 1)) 0 9999) (va_cwS 3 hts gX6_oneCourse_X6_held rfl rfl rfl (by decide +kernel) ⟨Nat.le_of_ble_eq_true rfl, Nat.le_of_ble_eq_true rfl⟩) ⟨PcP_fb, fun U _ _ => ⟨rfl, trivial⟩⟩ rfl rfl hl.1 rfl (lv_room (Nat.le_of_ble_eq_true rfl)) dX6_oneCourse_97 ⟨Nat.zero_le _, Nat.zero_le _⟩) ?_
      refine callMv (va_runV (As := [.int (nI i), .int 3, .int (sHeld (((fa_fill (fTo gu sp ki pl ea to) to i) (ix (nI i))) + (((sSet (sTells sp ki pl ea) (ix gu)) >>> ((nI i) &&& 31)) &&& 1)) 0 9999)]) (rest := []) ⟨hx, hb, hml, hown, hts⟩ (k_X6_puts3 l D cI cL cS b co gu kn fo sp ki pl (upd (fa_fill (fEa gu kn fo sp ki pl ea) ea i) (ix (nI i)) (sHeld (((fa_fill (fEa gu kn fo sp ki pl ea) ea i) (ix (nI i))) + (mo1 (ix (nI i)))) (-99) 99)) (fa_fill (fTo gu sp ki pl ea to) to i) qu fd mo1 tr b1 tp tm so bg te wd va gd bo sz sh le im bf ik (nI i) (sHeld (((fa_fill (fTo gu sp ki pl ea to) to i) (ix (nI i))) + (((sSet (sTells sp ki pl ea) (ix gu)) >>> ((nI i) &&& 31)) &&& 1)) 0 9999) (va_DT (hD _ rfl) rfl) (vp_in_nI (by omega) (by omega))) (cwV 3 hts gX6_oneCourse_X6_puts rfl rfl rfl (by decide +kernel) ⟨Nat.le_of_ble_eq_true rfl, Nat.le_of_ble_eq_true rfl⟩) ⟨PcR_fb, va_recv hK hP (ci := 4) (q0 := 0) rfl rfl, PcR_pre hP hK⟩ rfl rfl hl.1 rfl (lv_room (Nat.le_of_ble_eq_true rfl)) dX6_oneCourse_100 ⟨Nat.zero_le _, Nat.zero_le _⟩) hP (hD _ rfl) hS 0 13 rfl (fun u_10 H locs hu_10 hP hS => ?_)
      have hP : va_P D vwCl (mdw cI cL b (enc co gu kn fo sp ki pl (upd (fa_fill (fEa gu kn fo sp ki pl ea) ea i) (ix (nI i)) (sHeld (((fa_fill (fEa gu kn fo sp ki pl ea) ea i) (ix (nI i))) + (mo1 (ix (nI i)))) (-99) 99)) (upd (fa_fill (fTo gu sp ki pl ea to) to i) (ix (nI i)) (sHeld (((fa_fill (fTo gu sp ki pl ea to) to i) (ix (nI i))) + (((sSet (sTells sp ki pl ea) (ix gu)) >>> ((nI i) &&& 31)) &&& 1)) 0 9999)) qu) fd mo1 tr b1 tp tm so bg te wd va gd bo sz sh le im bf ik) H := hP
      refine lv_iinc (v := nI (i + 1)) (lv' := [(2, .int (nI (i + 1))), (0, .ref (b 0)), (1, .int (sSet (sTells sp ki pl ea) (ix gu)))]) hx hb dX6_oneCourse_103 hl (k := 2) rfl (nI_1 _) (by decide) rfl (fun ls hl => ?_)
      refine lv_goto (tgt := 42) hx hb dX6_oneCourse_106 (by decide) ?_
      have hP : va_P D vwCl (mdw cI cL b (enc co gu kn fo sp ki pl (fa_fill (fEa gu kn fo sp ki pl ea) ea (i + 1)) (fa_fill (fTo gu sp ki pl ea to) to (i + 1)) qu) fd mo1 tr b1 tp tm so bg te wd va gd bo sz sh le im bf ik) H := by rw [← step_eaM hix (hk1 i (by omega)), ← step_toM hix]; exact hP
      exact ih (n - 1) (by omega) (i + 1) H locs ls ⟨by omega, hP, hS, lv_sub hl [1, 2, 0] rfl⟩
  · skip
    have c_1n := mt (cmp_le (a := ix gu) (b := k) hgu.1 rfl (by omega) (by omega)).mpr c_1
    refine lv_aload_n hx hb dX6_oneCourse_17 rfl (lv_at hl 0 rfl) ?_
    refine va_get (ci := 4) (v := .ref (b 3)) (C := RX6) (T := TX6) (N := 20) hx hb hts inX6 hown hK hP 0 rfl rfl 2 (by decide) f16 (fun _ h9 => h9) rfl dX6_oneCourse_18 ?_
    refine lv_iload_n hx hb dX6_oneCourse_21 rfl (lv_at hl 2 rfl) ?_
    refine lv_aload_n hx hb dX6_oneCourse_22 rfl (lv_at hl 0 rfl) ?_
    refine lv_iload_n hx hb dX6_oneCourse_23 rfl (lv_at hl 2 rfl) ?_
    refine callE (W.runV (As := [.int (nI k)]) (rest := [.int (nI k), .ref (b 3)]) ⟨hx, hb, hml, hown, hts⟩ (k_X6_feels l D cI cL cS b co gu kn fo sp ki pl ea to qu fd mo1 tr b1 tp tm so bg te wd va gd bo sz sh le im bf ik (nI k) ok (vp_in_nI (by omega) (by omega))) (cwV 1 hts gX6_oneCourse_X6_feels rfl rfl rfl (by decide +kernel) ⟨Nat.le_of_ble_eq_true rfl, Nat.le_of_ble_eq_true rfl⟩) ⟨PcR_fb, va_recv hK hP (ci := 4) (q0 := 0) rfl rfl, PcR_pre hP hK⟩ rfl rfl hl.1 rfl (lv_room (Nat.le_of_ble_eq_true rfl)) dX6_oneCourse_24 ⟨Nat.zero_le _, Nat.zero_le _⟩) ?_
    refine lv_aload_n hx hb dX6_oneCourse_27 rfl (lv_at hl 0 rfl) ?_
    refine lv_iload_n hx hb dX6_oneCourse_28 rfl (lv_at hl 2 rfl) ?_
    refine callE (W.runV (As := [.int (nI k)]) (rest := [.int (sFeels gu kn fo sp ki pl (ix (nI k))), .int (nI k), .ref (b 3)]) ⟨hx, hb, hml, hown, hts⟩ (k_X6_catches l D cI cL cS b co gu kn fo sp ki pl ea to qu fd mo1 tr b1 tp tm so bg te wd va gd bo sz sh le im bf ik (nI k) ok (vp_in_nI (by omega) (by omega))) (cwV 1 hts gX6_oneCourse_X6_catches rfl rfl rfl (by decide +kernel) ⟨Nat.le_of_ble_eq_true rfl, Nat.le_of_ble_eq_true rfl⟩) ⟨PcR_fb, va_recv hK hP (ci := 4) (q0 := 0) rfl rfl, PcR_pre hP hK⟩ rfl rfl hl.1 rfl (lv_room (Nat.le_of_ble_eq_true rfl)) dX6_oneCourse_29 ⟨Nat.zero_le _, Nat.zero_le _⟩) ?_
    refine lv_iadd hx hb dX6_oneCourse_32 ?_
    refine va_iast hx hb hK hP (hD _ rfl) hS 3 0 rfl rfl (vp_in_nI (by omega) (by omega)) dX6_oneCourse_33 (fun H locs hP _ hS => ?_)
    have hP : va_P D vwCl (mdw cI cL b (enc co gu kn fo sp ki pl ea to qu) fd (upd mo1 (ix (nI k)) ((sFeels gu kn fo sp ki pl (ix (nI k))) + (sCatch gu kn fo ki pl (ix (nI k))))) tr b1 tp tm so bg te wd va gd bo sz sh le im bf ik) H := hP
    refine lv_iinc (v := nI (k + 1)) (lv' := [(2, .int (nI (k + 1))), (0, .ref (b 0)), (1, .int (sSet (sTells sp ki pl ea) (ix gu)))]) hx hb dX6_oneCourse_34 hl (k := 2) rfl (nI_1 _) (by decide) rfl (fun ls hl => ?_)
    refine lv_goto (tgt := 7) hx hb dX6_oneCourse_37 (by decide) ?_
    exact ih (n - 1) (by omega) ((k + 1, (upd mo1 (ix (nI k)) ((sFeels gu kn fo sp ki pl (ix (nI k))) + (sCatch gu kn fo ki pl (ix (nI k))))))) H locs ls ⟨by omega, by rw [hkx]; exact lt_upd hk1 rfl, hP, hS, lv_sub hl [1, 2, 0] rfl⟩

set_option maxRecDepth 100000 in
set_option maxHeartbeats 4000000 in
theorem k_X6_passes (l : Launch) (D : va_G) (cI cL cS : ClassId) (b : Nat → Nat) (co gu : Int32) (kn fo sp ki pl ea to qu : FI) (fd mo tr b1 tp : FI) (tm so bg te : Int32) (wd : Int64) (va gd : Int32) (bo sz : FI) (sh le : FJ) (im bf : FI) (ik : Int32) (x0 : Int32) (dj : va_D (fun _ => True) (dj0 b 13)) (ok : okT gu kn fo sp (whC gu pl) ki pl) (oe : okE ea to qu) (h0 : vp_in x0 1000) : Met l yX6_passes wsX6_passes { frames := 6, cells := 0, slots := 0, locals := 138 } (PcR D vwCl (tyG cI cL cS) [.ref (b 0), .int x0] (mdw cI cL b (enc co gu kn fo sp ki pl ea to qu) fd mo tr b1 tp tm so bg te wd va gd bo sz sh le im bf ik)) (va_Qv (fun (u : FI) => True) (fun u t => va_P D vwCl (mdw cI cL b (enc (sCo (sPass (ix x0) (co, gu, kn, fo, sp, ki, pl, ea, to, qu))) (sGu (sPass (ix x0) (co, gu, kn, fo, sp, ki, pl, ea, to, qu))) (sKn (sPass (ix x0) (co, gu, kn, fo, sp, ki, pl, ea, to, qu))) (sFo (sPass (ix x0) (co, gu, kn, fo, sp, ki, pl, ea, to, qu))) (sSp (sPass (ix x0) (co, gu, kn, fo, sp, ki, pl, ea, to, qu))) (sKi (sPass (ix x0) (co, gu, kn, fo, sp, ki, pl, ea, to, qu))) (sPl (sPass (ix x0) (co, gu, kn, fo, sp, ki, pl, ea, to, qu))) (sEa (sPass (ix x0) (co, gu, kn, fo, sp, ki, pl, ea, to, qu))) (sTo (sPass (ix x0) (co, gu, kn, fo, sp, ki, pl, ea, to, qu))) (sQu (sPass (ix x0) (co, gu, kn, fo, sp, ki, pl, ea, to, qu)))) fd u tr b1 tp tm so bg te wd va gd bo sz sh le im bf ik) t.heap) (Aof (mdw cI cL b (enc co gu kn fo sp ki pl ea to qu) fd mo tr b1 tp tm so bg te wd va gd bo sz sh le im bf ik))) 0 0 (Aof (mdw cI cL b (enc co gu kn fo sp ki pl ea to qu) fd mo tr b1 tp tm so bg te wd va gd bo sz sh le im bf ik)) := by
  refine Met.ofW (cc := cX6_passes) (maxL := 3) (ret := none) (by decide) rfl ?_
  intro p e s m args below meth c s₁ B hml hv
  obtain ⟨rfl, hP, hK⟩ := hv
  have hx := B.exec
  have hb := B.bytes
  have hr := B.returns
  have hts := atoms_spec (ws := wsX6_passes) B.pre
  have hown : s.vm.findClass RX6 = some m.cls := findClass_of_methodNamed B.named
  have hlocks := B.notSynchronized
  obtain ⟨A, hAe⟩ : ∃ A, A = Aof (mdw cI cL b (enc co gu kn fo sp ki pl ea to qu) fd mo tr b1 tp tm so bg te wd va gd bo sz sh le im bf ik) := ⟨_, rfl⟩
  rw [← hAe]
  have hD : ∀ ws' : va_W, ws'.map Prod.fst = (mdw cI cL b (enc co gu kn fo sp ki pl ea to qu) fd mo tr b1 tp tm so bg te wd va gd bo sz sh le im bf ik).map Prod.fst → va_D A ws' := fun ws' e => by rw [hAe]; exact va_D_adr (va_D_self (va_D_adr dj rfl)) e
  have hS : va_S A s.heap s.heap [] := va_S.rf
  have hP : va_P D vwCl (mdw cI cL b (enc co gu kn fo sp ki pl ea to qu) fd mo tr b1 tp tm so bg te wd va gd bo sz sh le im bf ik) s.heap := hP
  have hl := lv_entry ([.ref (b 0), .int x0]) (n := 3) (Nat.le_of_ble_eq_true rfl)
  rw [lg_entry_eq]
  generalize (lg_sl ([.ref (b 0), .int x0]) ++ List.replicate (3 - (lg_sl ([.ref (b 0), .int x0])).length) Slot.unset).toArray = ls at hl ⊢
  have hl : lv_has ls 3 [(0, .ref (b 0)), (1, .int x0)] := hl
  skip
  have e0 : x0 = nI (ix x0) := (nI_ix (by omega) h0).symm
  have b0 := ix_lt (by omega) h0
  have hP : va_P D vwCl (mdw cI cL b (enc (sCo (sPass 0 (co, gu, kn, fo, sp, ki, pl, ea, to, qu))) (sGu (sPass 0 (co, gu, kn, fo, sp, ki, pl, ea, to, qu))) (sKn (sPass 0 (co, gu, kn, fo, sp, ki, pl, ea, to, qu))) (sFo (sPass 0 (co, gu, kn, fo, sp, ki, pl, ea, to, qu))) (sSp (sPass 0 (co, gu, kn, fo, sp, ki, pl, ea, to, qu))) (sKi (sPass 0 (co, gu, kn, fo, sp, ki, pl, ea, to, qu))) (sPl (sPass 0 (co, gu, kn, fo, sp, ki, pl, ea, to, qu))) (sEa (sPass 0 (co, gu, kn, fo, sp, ki, pl, ea, to, qu))) (sTo (sPass 0 (co, gu, kn, fo, sp, ki, pl, ea, to, qu))) (sQu (sPass 0 (co, gu, kn, fo, sp, ki, pl, ea, to, qu)))) fd mo tr b1 tp tm so bg te wd va gd bo sz sh le im bf ik) s.heap := by exact hP
  refine lv_iconst (v := 0) hx hb dX6_passes_0 (by decide) ?_
  refine lv_istore_n (lv' := [(2, .int 0), (0, .ref (b 0)), (1, .int x0)]) hx hb dX6_passes_1 rfl hl (by decide) rfl (fun ls hl => ?_)
  refine lpW (fun n (u : Nat × FI) H locs ls => (u.1 + n = ix x0) ∧ va_P D vwCl (mdw cI cL b (enc (sCo (sPass u.1 (co, gu, kn, fo, sp, ki, pl, ea, to, qu))) (sGu (sPass u.1 (co, gu, kn, fo, sp, ki, pl, ea, to, qu))) (sKn (sPass u.1 (co, gu, kn, fo, sp, ki, pl, ea, to, qu))) (sFo (sPass u.1 (co, gu, kn, fo, sp, ki, pl, ea, to, qu))) (sSp (sPass u.1 (co, gu, kn, fo, sp, ki, pl, ea, to, qu))) (sKi (sPass u.1 (co, gu, kn, fo, sp, ki, pl, ea, to, qu))) (sPl (sPass u.1 (co, gu, kn, fo, sp, ki, pl, ea, to, qu))) (sEa (sPass u.1 (co, gu, kn, fo, sp, ki, pl, ea, to, qu))) (sTo (sPass u.1 (co, gu, kn, fo, sp, ki, pl, ea, to, qu))) (sQu (sPass u.1 (co, gu, kn, fo, sp, ki, pl, ea, to, qu)))) fd u.2 tr b1 tp tm so bg te wd va gd bo sz sh le im bf ik) H ∧ va_S A s.heap H locs ∧ lv_has ls 3 [(0, .ref (b 0)), (1, .int x0), (2, .int (nI u.1))]) (ix x0) ((0, mo)) ⟨by omega, hP, hS, lv_sub hl [1, 2, 0] rfl⟩ (fun n ih u H locs ls hI => ?_)
  obtain ⟨i, mo1⟩ := u
  obtain ⟨hi0, hP, hS, hl⟩ := hI
  have hi0 : i + n = ix x0 := hi0
  have hl : lv_has ls 3 [(0, .ref (b 0)), (1, .int x0), (2, .int (nI i))] := hl
  have hP : va_P D vwCl (mdw cI cL b (enc (sCo (sPass i (co, gu, kn, fo, sp, ki, pl, ea, to, qu))) (sGu (sPass i (co, gu, kn, fo, sp, ki, pl, ea, to, qu))) (sKn (sPass i (co, gu, kn, fo, sp, ki, pl, ea, to, qu))) (sFo (sPass i (co, gu, kn, fo, sp, ki, pl, ea, to, qu))) (sSp (sPass i (co, gu, kn, fo, sp, ki, pl, ea, to, qu))) (sKi (sPass i (co, gu, kn, fo, sp, ki, pl, ea, to, qu))) (sPl (sPass i (co, gu, kn, fo, sp, ki, pl, ea, to, qu))) (sEa (sPass i (co, gu, kn, fo, sp, ki, pl, ea, to, qu))) (sTo (sPass i (co, gu, kn, fo, sp, ki, pl, ea, to, qu))) (sQu (sPass i (co, gu, kn, fo, sp, ki, pl, ea, to, qu)))) fd mo1 tr b1 tp tm so bg te wd va gd bo sz sh le im bf ik) H := hP
  refine lv_iload_n hx hb dX6_passes_2 rfl (lv_at hl 2 rfl) ?_
  refine lv_iload_n hx hb dX6_passes_3 rfl (lv_at hl 1 rfl) ?_
  refine lv_icmp_ge (tgt := 17) hx hb dX6_passes_4 (by decide) (fun c_1 => ?_) (fun c_1 => ?_)
  · skip
    have c_1n := (cmp_le (a := ix x0) (b := i) e0 rfl (by omega) (by omega)).mp c_1
    exact W.vret hx hb hr (fun t ht hW => ⟨⟨(mo1), rfl, (by trivial), by dsimp only; rw [ht]; exact (by rw [show i = ix x0 by omega] at hP; exact hP)⟩, hS.F ht⟩) hS.2.2 dX6_passes_17
  · skip
    have c_1n := mt (cmp_le (a := ix x0) (b := i) e0 rfl (by omega) (by omega)).mpr c_1
    refine lv_aload_n hx hb dX6_passes_7 rfl (lv_at hl 0 rfl) ?_
    refine callMv (va_runV (As := []) (rest := []) ⟨hx, hb, hml, hown, hts⟩ (k_X6_oneCourse l D cI cL cS b (sCo (sPass i (co, gu, kn, fo, sp, ki, pl, ea, to, qu))) (sGu (sPass i (co, gu, kn, fo, sp, ki, pl, ea, to, qu))) (sKn (sPass i (co, gu, kn, fo, sp, ki, pl, ea, to, qu))) (sFo (sPass i (co, gu, kn, fo, sp, ki, pl, ea, to, qu))) (sSp (sPass i (co, gu, kn, fo, sp, ki, pl, ea, to, qu))) (sKi (sPass i (co, gu, kn, fo, sp, ki, pl, ea, to, qu))) (sPl (sPass i (co, gu, kn, fo, sp, ki, pl, ea, to, qu))) (sEa (sPass i (co, gu, kn, fo, sp, ki, pl, ea, to, qu))) (sTo (sPass i (co, gu, kn, fo, sp, ki, pl, ea, to, qu))) (sQu (sPass i (co, gu, kn, fo, sp, ki, pl, ea, to, qu))) fd mo1 tr b1 tp tm so bg te wd va gd bo sz sh le im bf ik (va_DT (hD _ rfl) rfl) ((okS_pass (σ := (co, gu, kn, fo, sp, ki, pl, ea, to, qu)) ⟨ok, oe⟩ i).1.cC) ((okS_pass (σ := (co, gu, kn, fo, sp, ki, pl, ea, to, qu)) ⟨ok, oe⟩ i).2)) (cwV 0 hts gX6_passes_X6_oneCourse rfl rfl rfl (by decide +kernel) ⟨Nat.le_of_ble_eq_true rfl, Nat.le_of_ble_eq_true rfl⟩) ⟨PcR_fb, va_recv hK hP (ci := 4) (q0 := 0) rfl rfl, PcR_pre hP hK⟩ rfl rfl hl.1 rfl (lv_room (Nat.le_of_ble_eq_true rfl)) dX6_passes_8 ⟨Nat.zero_le _, Nat.zero_le _⟩) hP (hD _ rfl) hS 0 13 rfl (fun u_2 H locs hu_2 hP hS => ?_)
    obtain ⟨mo_4, rfl⟩ : ∃ z, z = u_2 := ⟨_, rfl⟩
    have hP : va_P D vwCl (mdw cI cL b (enc ((sCo (sPass i (co, gu, kn, fo, sp, ki, pl, ea, to, qu))) + 1) (sGu (sPass i (co, gu, kn, fo, sp, ki, pl, ea, to, qu))) (sKn (sPass i (co, gu, kn, fo, sp, ki, pl, ea, to, qu))) (sFo (sPass i (co, gu, kn, fo, sp, ki, pl, ea, to, qu))) (sSp (sPass i (co, gu, kn, fo, sp, ki, pl, ea, to, qu))) (sKi (sPass i (co, gu, kn, fo, sp, ki, pl, ea, to, qu))) (sPl (sPass i (co, gu, kn, fo, sp, ki, pl, ea, to, qu))) (cEa (sGu (sPass i (co, gu, kn, fo, sp, ki, pl, ea, to, qu))) (sKn (sPass i (co, gu, kn, fo, sp, ki, pl, ea, to, qu))) (sFo (sPass i (co, gu, kn, fo, sp, ki, pl, ea, to, qu))) (sSp (sPass i (co, gu, kn, fo, sp, ki, pl, ea, to, qu))) (sKi (sPass i (co, gu, kn, fo, sp, ki, pl, ea, to, qu))) (sPl (sPass i (co, gu, kn, fo, sp, ki, pl, ea, to, qu))) (sEa (sPass i (co, gu, kn, fo, sp, ki, pl, ea, to, qu)))) (cTo (sGu (sPass i (co, gu, kn, fo, sp, ki, pl, ea, to, qu))) (sSp (sPass i (co, gu, kn, fo, sp, ki, pl, ea, to, qu))) (sKi (sPass i (co, gu, kn, fo, sp, ki, pl, ea, to, qu))) (sPl (sPass i (co, gu, kn, fo, sp, ki, pl, ea, to, qu))) (sEa (sPass i (co, gu, kn, fo, sp, ki, pl, ea, to, qu))) (sTo (sPass i (co, gu, kn, fo, sp, ki, pl, ea, to, qu)))) (cQu (sGu (sPass i (co, gu, kn, fo, sp, ki, pl, ea, to, qu))) (sKi (sPass i (co, gu, kn, fo, sp, ki, pl, ea, to, qu))) (sPl (sPass i (co, gu, kn, fo, sp, ki, pl, ea, to, qu))) (cEa (sGu (sPass i (co, gu, kn, fo, sp, ki, pl, ea, to, qu))) (sKn (sPass i (co, gu, kn, fo, sp, ki, pl, ea, to, qu))) (sFo (sPass i (co, gu, kn, fo, sp, ki, pl, ea, to, qu))) (sSp (sPass i (co, gu, kn, fo, sp, ki, pl, ea, to, qu))) (sKi (sPass i (co, gu, kn, fo, sp, ki, pl, ea, to, qu))) (sPl (sPass i (co, gu, kn, fo, sp, ki, pl, ea, to, qu))) (sEa (sPass i (co, gu, kn, fo, sp, ki, pl, ea, to, qu)))) (sQu (sPass i (co, gu, kn, fo, sp, ki, pl, ea, to, qu))))) fd mo_4 tr b1 tp tm so bg te wd va gd bo sz sh le im bf ik) H := hP
    refine lv_iinc (v := nI (i + 1)) (lv' := [(2, .int (nI (i + 1))), (0, .ref (b 0)), (1, .int x0)]) hx hb dX6_passes_11 hl (k := 2) rfl (nI_1 _) (by decide) rfl (fun ls hl => ?_)
    refine lv_goto (tgt := 2) hx hb dX6_passes_14 (by decide) ?_
    have hP : va_P D vwCl (mdw cI cL b (enc (sCo (sPass (i + 1) (co, gu, kn, fo, sp, ki, pl, ea, to, qu))) (sGu (sPass (i + 1) (co, gu, kn, fo, sp, ki, pl, ea, to, qu))) (sKn (sPass (i + 1) (co, gu, kn, fo, sp, ki, pl, ea, to, qu))) (sFo (sPass (i + 1) (co, gu, kn, fo, sp, ki, pl, ea, to, qu))) (sSp (sPass (i + 1) (co, gu, kn, fo, sp, ki, pl, ea, to, qu))) (sKi (sPass (i + 1) (co, gu, kn, fo, sp, ki, pl, ea, to, qu))) (sPl (sPass (i + 1) (co, gu, kn, fo, sp, ki, pl, ea, to, qu))) (sEa (sPass (i + 1) (co, gu, kn, fo, sp, ki, pl, ea, to, qu))) (sTo (sPass (i + 1) (co, gu, kn, fo, sp, ki, pl, ea, to, qu))) (sQu (sPass (i + 1) (co, gu, kn, fo, sp, ki, pl, ea, to, qu)))) fd mo_4 tr b1 tp tm so bg te wd va gd bo sz sh le im bf ik) H := by exact hP
    exact ih (n - 1) (by omega) ((i + 1, mo_4)) H locs ls ⟨by omega, hP, hS, lv_sub hl [1, 2, 0] rfl⟩

set_option maxRecDepth 100000 in
set_option maxHeartbeats 4000000 in
theorem k_X6_moveAll_tr1 (l : Launch) (D : va_G) (cI cL cS : ClassId) (b : Nat → Nat) (co gu : Int32) (kn fo sp ki pl ea to qu : FI) (fd mo tr b1 tp : FI) (tm so bg te : Int32) (wd : Int64) (va gd : Int32) (bo sz : FI) (sh le : FJ) (im bf : FI) (ik : Int32) (dj : va_D (fun _ => True) (dj0 b 13))  : Met l yX6_moveAll wsX6_moveAll { frames := 0, cells := 0, slots := 0, locals := 0 } (PcR D vwCl (tyG cI cL cS) [.ref (b 0), .int 1, .ref (b 4)] (mdw cI cL b (enc co gu kn fo sp ki pl ea to qu) fd mo tr b1 tp tm so bg te wd va gd bo sz sh le im bf ik)) (va_Qv (fun (u : Unit) => True) (fun u t => va_P D vwCl (mdw cI cL b (enc co gu kn fo sp ki pl ea to qu) fd mo (enc co gu kn fo sp ki pl ea to qu) b1 tp tm so bg te wd va gd bo sz sh le im bf ik) t.heap) (Aof (mdw cI cL b (enc co gu kn fo sp ki pl ea to qu) fd mo tr b1 tp tm so bg te wd va gd bo sz sh le im bf ik))) 0 0 (Aof (mdw cI cL b (enc co gu kn fo sp ki pl ea to qu) fd mo tr b1 tp tm so bg te wd va gd bo sz sh le im bf ik)) := by
  refine Met.ofW (cc := cX6_moveAll) (maxL := 4) (ret := none) (by decide) rfl ?_
  intro p e s m args below meth c s₁ B hml hv
  obtain ⟨rfl, hP, hK⟩ := hv
  have hx := B.exec
  have hb := B.bytes
  have hr := B.returns
  have hts := atoms_spec (ws := wsX6_moveAll) B.pre
  have hown : s.vm.findClass RX6 = some m.cls := findClass_of_methodNamed B.named
  have hlocks := B.notSynchronized
  obtain ⟨A, hAe⟩ : ∃ A, A = Aof (mdw cI cL b (enc co gu kn fo sp ki pl ea to qu) fd mo tr b1 tp tm so bg te wd va gd bo sz sh le im bf ik) := ⟨_, rfl⟩
  rw [← hAe]
  have hD : ∀ ws' : va_W, ws'.map Prod.fst = (mdw cI cL b (enc co gu kn fo sp ki pl ea to qu) fd mo tr b1 tp tm so bg te wd va gd bo sz sh le im bf ik).map Prod.fst → va_D A ws' := fun ws' e => by rw [hAe]; exact va_D_adr (va_D_self (va_D_adr dj rfl)) e
  have hS : va_S A s.heap s.heap [] := va_S.rf
  have hP : va_P D vwCl (mdw cI cL b (enc co gu kn fo sp ki pl ea to qu) fd mo tr b1 tp tm so bg te wd va gd bo sz sh le im bf ik) s.heap := hP
  have hl := lv_entry ([.ref (b 0), .int 1, .ref (b 4)]) (n := 4) (Nat.le_of_ble_eq_true rfl)
  rw [lg_entry_eq]
  generalize (lg_sl ([.ref (b 0), .int 1, .ref (b 4)]) ++ List.replicate (4 - (lg_sl ([.ref (b 0), .int 1, .ref (b 4)])).length) Slot.unset).toArray = ls at hl ⊢
  have hl : lv_has ls 4 [(0, .ref (b 0)), (1, .int 1), (2, .ref (b 4))] := hl
  have f7 := hts (.fieldLink RX6 7 "KnivesLaidModel" "row" "[I") (List.mem_of_getElem? (i := 1) rfl)
  have inX6 : ∀ w ∈ u_ws RX6 TX6 20, w ∈ wsX6_moveAll := in_at 2 _ _ rfl
  skip
  have hP : va_P D vwCl (mdw cI cL b (enc co gu kn fo sp ki pl ea to qu) fd mo (fa_fill (enc co gu kn fo sp ki pl ea to qu) tr 0) b1 tp tm so bg te wd va gd bo sz sh le im bf ik) s.heap := by rw [fa_fill_0]; exact hP
  refine lv_iconst (v := 0) hx hb dX6_moveAll_0 (by decide) ?_
  refine lv_istore_n (lv' := [(3, .int 0), (0, .ref (b 0)), (1, .int 1), (2, .ref (b 4))]) hx hb dX6_moveAll_1 rfl hl (by decide) rfl (fun ls hl => ?_)
  refine lpW (fun n (u : Nat) H locs ls => (u + n = 72) ∧ va_P D vwCl (mdw cI cL b (enc co gu kn fo sp ki pl ea to qu) fd mo (fa_fill (enc co gu kn fo sp ki pl ea to qu) tr u) b1 tp tm so bg te wd va gd bo sz sh le im bf ik) H ∧ va_S A s.heap H locs ∧ lv_has ls 4 [(0, .ref (b 0)), (1, .int 1), (2, .ref (b 4)), (3, .int (nI u))]) (72) (0) ⟨by omega, hP, hS, lv_sub hl [1, 2, 3, 0] rfl⟩ (fun n ih u H locs ls hI => ?_)
  obtain ⟨i, rfl⟩ : ∃ z, z = u := ⟨_, rfl⟩
  obtain ⟨hi0, hP, hS, hl⟩ := hI
  have hi0 : i + n = 72 := hi0
  have hl : lv_has ls 4 [(0, .ref (b 0)), (1, .int 1), (2, .ref (b 4)), (3, .int (nI i))] := hl
  have hP : va_P D vwCl (mdw cI cL b (enc co gu kn fo sp ki pl ea to qu) fd mo (fa_fill (enc co gu kn fo sp ki pl ea to qu) tr i) b1 tp tm so bg te wd va gd bo sz sh le im bf ik) H := hP
  have hix : ix (nI i) = i := ix_nI (by omega)
  refine lv_iload_n hx hb dX6_moveAll_2 rfl (lv_at hl 3 rfl) ?_
  refine lv_bipush (v := 72) hx hb dX6_moveAll_3 (by decide) ?_
  refine lv_icmp_ge (tgt := 39) hx hb dX6_moveAll_5 (by decide) (fun c_1 => ?_) (fun c_1 => ?_)
  · skip
    have c_1n := (cmp_le (a := 72) (b := i) rfl rfl (by omega) (by omega)).mp c_1
    exact W.vret hx hb hr (fun t ht hW => ⟨⟨(), rfl, (by trivial), by dsimp only; rw [ht]; exact (va_P_rep (q0 := 4) hP rfl (arr_eq (fun j hj => fa_fill_in (by omega))))⟩, hS.F ht⟩) hS.2.2 dX6_moveAll_39
  · skip
    have c_1n := mt (cmp_le (a := 72) (b := i) rfl rfl (by omega) (by omega)).mpr c_1
    refine lv_iload_n hx hb dX6_moveAll_8 rfl (lv_at hl 1 rfl) ?_
    refine lv_if_eq (tgt := 24) hx hb dX6_moveAll_9 (by decide) (fun c_2 => ?_) (fun c_2 => ?_)
    · skip
      have c_2n := (cmp_eq (a := 1) (b := 0) rfl rfl (by omega) (by omega)).mp c_2
      exact absurd c_2 (by decide)
    · skip
      have c_2n := mt (cmp_eq (a := 1) (b := 0) rfl rfl (by omega) (by omega)).mpr c_2
      refine lv_aload_n hx hb dX6_moveAll_12 rfl (lv_at hl 2 rfl) ?_
      refine lv_iload_n hx hb dX6_moveAll_13 rfl (lv_at hl 3 rfl) ?_
      refine lv_aload_n hx hb dX6_moveAll_14 rfl (lv_at hl 0 rfl) ?_
      refine va_get (ci := 4) (v := .ref (b 1)) (C := RX6) (T := TX6) (N := 20) hx hb hts inX6 hown hK hP 0 rfl rfl 0 (by decide) f7 (fun _ h9 => h9) rfl dX6_moveAll_15 ?_
      refine lv_iload_n hx hb dX6_moveAll_18 rfl (lv_at hl 3 rfl) ?_
      refine va_iald hx hb hK hP 1 0 rfl rfl (vp_in_nI (by omega) (by omega)) dX6_moveAll_19 ?_
      refine va_iast hx hb hK hP (hD _ rfl) hS 4 0 rfl rfl (vp_in_nI (by omega) (by omega)) dX6_moveAll_20 (fun H locs hP _ hS => ?_)
      have hP : va_P D vwCl (mdw cI cL b (enc co gu kn fo sp ki pl ea to qu) fd mo (upd (fa_fill (enc co gu kn fo sp ki pl ea to qu) tr i) (ix (nI i)) ((enc co gu kn fo sp ki pl ea to qu) (ix (nI i)))) b1 tp tm so bg te wd va gd bo sz sh le im bf ik) H := hP
      refine lv_goto (tgt := 33) hx hb dX6_moveAll_21 (by decide) ?_
      refine lv_iinc (v := nI (i + 1)) (lv' := [(3, .int (nI (i + 1))), (0, .ref (b 0)), (1, .int 1), (2, .ref (b 4))]) hx hb dX6_moveAll_33 hl (k := 3) rfl (nI_1 _) (by decide) rfl (fun ls hl => ?_)
      refine lv_goto (tgt := 2) hx hb dX6_moveAll_36 (by decide) ?_
      have hP : va_P D vwCl (mdw cI cL b (enc co gu kn fo sp ki pl ea to qu) fd mo (fa_fill (enc co gu kn fo sp ki pl ea to qu) tr (i + 1)) b1 tp tm so bg te wd va gd bo sz sh le im bf ik) H := by rw [← fa_fill_succ (enc co gu kn fo sp ki pl ea to qu) tr i]; rw [hix] at hP; exact hP
      exact ih (n - 1) (by omega) (i + 1) H locs ls ⟨by omega, hP, hS, lv_sub hl [1, 2, 3, 0] rfl⟩

set_option maxRecDepth 100000 in
set_option maxHeartbeats 4000000 in
theorem k_X6_moveAll_tr0 (l : Launch) (D : va_G) (cI cL cS : ClassId) (b : Nat → Nat) (co gu : Int32) (kn fo sp ki pl ea to qu : FI) (fd : FI) (mo : FI) (b1 : FI) (tp : FI) (tm : Int32) (so : Int32) (bg : Int32) (te : Int32) (wd : Int64) (va : Int32) (gd : Int32) (bo : FI) (sz : FI) (sh : FJ) (le : FJ) (im : FI) (bf : FI) (ik : Int32) (co2 gu2 : Int32) (kn2 fo2 sp2 ki2 pl2 ea2 to2 qu2 : FI) (dj : va_D (fun _ => True) (dj0 b 13)) : Met l yX6_moveAll wsX6_moveAll { frames := 0, cells := 0, slots := 0, locals := 0 } (PcR D vwCl (tyG cI cL cS) [.ref (b 0), .int 0, .ref (b 4)] (mdw cI cL b (enc co gu kn fo sp ki pl ea to qu) fd mo (enc co2 gu2 kn2 fo2 sp2 ki2 pl2 ea2 to2 qu2) b1 tp tm so bg te wd va gd bo sz sh le im bf ik)) (va_Qv (fun (_ : Unit) => True) (fun _ t => va_P D vwCl (mdw cI cL b (enc co2 gu2 kn2 fo2 sp2 ki2 pl2 ea2 to2 qu2) fd mo (enc co2 gu2 kn2 fo2 sp2 ki2 pl2 ea2 to2 qu2) b1 tp tm so bg te wd va gd bo sz sh le im bf ik) t.heap) (Aof (mdw cI cL b (enc co gu kn fo sp ki pl ea to qu) fd mo (enc co2 gu2 kn2 fo2 sp2 ki2 pl2 ea2 to2 qu2) b1 tp tm so bg te wd va gd bo sz sh le im bf ik))) 0 0 (Aof (mdw cI cL b (enc co gu kn fo sp ki pl ea to qu) fd mo (enc co2 gu2 kn2 fo2 sp2 ki2 pl2 ea2 to2 qu2) b1 tp tm so bg te wd va gd bo sz sh le im bf ik)) := by
  refine Met.ofW (cc := cX6_moveAll) (maxL := 4) (ret := none) (by decide) rfl ?_
  intro p e s m args below meth c s₁ B hml hv
  obtain ⟨rfl, hP, hK⟩ := hv
  have hx := B.exec
  have hb := B.bytes
  have hr := B.returns
  have hts := atoms_spec (ws := wsX6_moveAll) B.pre
  have hown : s.vm.findClass RX6 = some m.cls := findClass_of_methodNamed B.named
  have hlocks := B.notSynchronized
  obtain ⟨A, hAe⟩ : ∃ A, A = Aof (mdw cI cL b (enc co gu kn fo sp ki pl ea to qu) fd mo (enc co2 gu2 kn2 fo2 sp2 ki2 pl2 ea2 to2 qu2) b1 tp tm so bg te wd va gd bo sz sh le im bf ik) := ⟨_, rfl⟩
  rw [← hAe]
  have hD : ∀ ws' : va_W, ws'.map Prod.fst = (mdw cI cL b (enc co gu kn fo sp ki pl ea to qu) fd mo (enc co2 gu2 kn2 fo2 sp2 ki2 pl2 ea2 to2 qu2) b1 tp tm so bg te wd va gd bo sz sh le im bf ik).map Prod.fst → va_D A ws' := fun ws' e => by rw [hAe]; exact va_D_adr (va_D_self (va_D_adr dj rfl)) e
  have hS : va_S A s.heap s.heap [] := va_S.rf
  have hP : va_P D vwCl (mdw cI cL b (enc co gu kn fo sp ki pl ea to qu) fd mo (enc co2 gu2 kn2 fo2 sp2 ki2 pl2 ea2 to2 qu2) b1 tp tm so bg te wd va gd bo sz sh le im bf ik) s.heap := hP
  have hl := lv_entry ([.ref (b 0), .int 0, .ref (b 4)]) (n := 4) (Nat.le_of_ble_eq_true rfl)
  rw [lg_entry_eq]
  generalize (lg_sl ([.ref (b 0), .int 0, .ref (b 4)]) ++ List.replicate (4 - (lg_sl ([.ref (b 0), .int 0, .ref (b 4)])).length) Slot.unset).toArray = ls at hl ⊢
  have hl : lv_has ls 4 [(0, .ref (b 0)), (1, .int 0), (2, .ref (b 4))] := hl
  have f7 := hts (.fieldLink RX6 7 "KnivesLaidModel" "row" "[I") (List.mem_of_getElem? (i := 1) rfl)
  have inX6 : ∀ w ∈ u_ws RX6 TX6 20, w ∈ wsX6_moveAll := in_at 2 _ _ rfl
  skip
  have hP : va_P D vwCl (mdw cI cL b (enc co gu kn fo sp ki pl ea to qu) fd mo (enc co2 gu2 kn2 fo2 sp2 ki2 pl2 ea2 to2 qu2) b1 tp tm so bg te wd va gd bo sz sh le im bf ik) s.heap := by exact hP
  have hP : va_P D vwCl (mdw cI cL b (fa_fill (enc co2 gu2 kn2 fo2 sp2 ki2 pl2 ea2 to2 qu2) (enc co gu kn fo sp ki pl ea to qu) 0) fd mo (enc co2 gu2 kn2 fo2 sp2 ki2 pl2 ea2 to2 qu2) b1 tp tm so bg te wd va gd bo sz sh le im bf ik) s.heap := by rw [fa_fill_0]; exact hP
  refine lv_iconst (v := 0) hx hb dX6_moveAll_0 (by decide) ?_
  refine lv_istore_n (lv' := [(3, .int 0), (0, .ref (b 0)), (1, .int 0), (2, .ref (b 4))]) hx hb dX6_moveAll_1 rfl hl (by decide) rfl (fun ls hl => ?_)
  refine lpW (fun n (u : Nat) H locs ls => (u + n = 72) ∧ va_P D vwCl (mdw cI cL b (fa_fill (enc co2 gu2 kn2 fo2 sp2 ki2 pl2 ea2 to2 qu2) (enc co gu kn fo sp ki pl ea to qu) u) fd mo (enc co2 gu2 kn2 fo2 sp2 ki2 pl2 ea2 to2 qu2) b1 tp tm so bg te wd va gd bo sz sh le im bf ik) H ∧ va_S A s.heap H locs ∧ lv_has ls 4 [(0, .ref (b 0)), (1, .int 0), (2, .ref (b 4)), (3, .int (nI u))]) (72) (0) ⟨by omega, hP, hS, lv_sub hl [1, 2, 3, 0] rfl⟩ (fun n ih u H locs ls hI => ?_)
  obtain ⟨i, rfl⟩ : ∃ z, z = u := ⟨_, rfl⟩
  obtain ⟨hi0, hP, hS, hl⟩ := hI
  have hi0 : i + n = 72 := hi0
  have hl : lv_has ls 4 [(0, .ref (b 0)), (1, .int 0), (2, .ref (b 4)), (3, .int (nI i))] := hl
  have hP : va_P D vwCl (mdw cI cL b (fa_fill (enc co2 gu2 kn2 fo2 sp2 ki2 pl2 ea2 to2 qu2) (enc co gu kn fo sp ki pl ea to qu) i) fd mo (enc co2 gu2 kn2 fo2 sp2 ki2 pl2 ea2 to2 qu2) b1 tp tm so bg te wd va gd bo sz sh le im bf ik) H := hP
  have hix : ix (nI i) = i := ix_nI (by omega)
  refine lv_iload_n hx hb dX6_moveAll_2 rfl (lv_at hl 3 rfl) ?_
  refine lv_bipush (v := 72) hx hb dX6_moveAll_3 (by decide) ?_
  refine lv_icmp_ge (tgt := 39) hx hb dX6_moveAll_5 (by decide) (fun c_1 => ?_) (fun c_1 => ?_)
  · skip
    have c_1n := (cmp_le (a := 72) (b := i) rfl rfl (by omega) (by omega)).mp c_1
    exact W.vret hx hb hr (fun t ht hW => ⟨⟨(), rfl, (by trivial), by dsimp only; rw [ht]; exact (va_P_rep (q0 := 1) hP rfl (arr_eq (fun j hj => fa_fill_in (by omega))))⟩, hS.F ht⟩) hS.2.2 dX6_moveAll_39
  · skip
    have c_1n := mt (cmp_le (a := 72) (b := i) rfl rfl (by omega) (by omega)).mpr c_1
    refine lv_iload_n hx hb dX6_moveAll_8 rfl (lv_at hl 1 rfl) ?_
    refine lv_if_eq (tgt := 24) hx hb dX6_moveAll_9 (by decide) (fun c_2 => ?_) (fun c_2 => ?_)
    · skip
      have c_2n := (cmp_eq (a := 0) (b := 0) rfl rfl (by omega) (by omega)).mp c_2
      refine lv_aload_n hx hb dX6_moveAll_24 rfl (lv_at hl 0 rfl) ?_
      refine va_get (ci := 4) (v := .ref (b 1)) (C := RX6) (T := TX6) (N := 20) hx hb hts inX6 hown hK hP 0 rfl rfl 0 (by decide) f7 (fun _ h9 => h9) rfl dX6_moveAll_25 ?_
      refine lv_iload_n hx hb dX6_moveAll_28 rfl (lv_at hl 3 rfl) ?_
      refine lv_aload_n hx hb dX6_moveAll_29 rfl (lv_at hl 2 rfl) ?_
      refine lv_iload_n hx hb dX6_moveAll_30 rfl (lv_at hl 3 rfl) ?_
      refine va_iald hx hb hK hP 4 0 rfl rfl (vp_in_nI (by omega) (by omega)) dX6_moveAll_31 ?_
      refine va_iast hx hb hK hP (hD _ rfl) hS 1 0 rfl rfl (vp_in_nI (by omega) (by omega)) dX6_moveAll_32 (fun H locs hP _ hS => ?_)
      have hP : va_P D vwCl (mdw cI cL b (upd (fa_fill (enc co2 gu2 kn2 fo2 sp2 ki2 pl2 ea2 to2 qu2) (enc co gu kn fo sp ki pl ea to qu) i) (ix (nI i)) ((enc co2 gu2 kn2 fo2 sp2 ki2 pl2 ea2 to2 qu2) (ix (nI i)))) fd mo (enc co2 gu2 kn2 fo2 sp2 ki2 pl2 ea2 to2 qu2) b1 tp tm so bg te wd va gd bo sz sh le im bf ik) H := hP
      refine lv_iinc (v := nI (i + 1)) (lv' := [(3, .int (nI (i + 1))), (0, .ref (b 0)), (1, .int 0), (2, .ref (b 4))]) hx hb dX6_moveAll_33 hl (k := 3) rfl (nI_1 _) (by decide) rfl (fun ls hl => ?_)
      refine lv_goto (tgt := 2) hx hb dX6_moveAll_36 (by decide) ?_
      have hP : va_P D vwCl (mdw cI cL b (fa_fill (enc co2 gu2 kn2 fo2 sp2 ki2 pl2 ea2 to2 qu2) (enc co gu kn fo sp ki pl ea to qu) (i + 1)) fd mo (enc co2 gu2 kn2 fo2 sp2 ki2 pl2 ea2 to2 qu2) b1 tp tm so bg te wd va gd bo sz sh le im bf ik) H := by rw [← fa_fill_succ (enc co2 gu2 kn2 fo2 sp2 ki2 pl2 ea2 to2 qu2) (enc co gu kn fo sp ki pl ea to qu) i]; rw [hix] at hP; exact hP
      exact ih (n - 1) (by omega) (i + 1) H locs ls ⟨by omega, hP, hS, lv_sub hl [1, 2, 3, 0] rfl⟩
    · skip
      have c_2n := mt (cmp_eq (a := 0) (b := 0) rfl rfl (by omega) (by omega)).mpr c_2
      exact absurd rfl c_2

set_option maxRecDepth 100000 in
set_option maxHeartbeats 4000000 in
theorem k_X6_moveAll_b11 (l : Launch) (D : va_G) (cI cL cS : ClassId) (b : Nat → Nat) (co gu : Int32) (kn fo sp ki pl ea to qu : FI) (fd mo tr b1 tp : FI) (tm so bg te : Int32) (wd : Int64) (va gd : Int32) (bo sz : FI) (sh le : FJ) (im bf : FI) (ik : Int32) (dj : va_D (fun _ => True) (dj0 b 13))  : Met l yX6_moveAll wsX6_moveAll { frames := 0, cells := 0, slots := 0, locals := 0 } (PcR D vwCl (tyG cI cL cS) [.ref (b 0), .int 1, .ref (b 5)] (mdw cI cL b (enc co gu kn fo sp ki pl ea to qu) fd mo tr b1 tp tm so bg te wd va gd bo sz sh le im bf ik)) (va_Qv (fun (u : Unit) => True) (fun u t => va_P D vwCl (mdw cI cL b (enc co gu kn fo sp ki pl ea to qu) fd mo tr (enc co gu kn fo sp ki pl ea to qu) tp tm so bg te wd va gd bo sz sh le im bf ik) t.heap) (Aof (mdw cI cL b (enc co gu kn fo sp ki pl ea to qu) fd mo tr b1 tp tm so bg te wd va gd bo sz sh le im bf ik))) 0 0 (Aof (mdw cI cL b (enc co gu kn fo sp ki pl ea to qu) fd mo tr b1 tp tm so bg te wd va gd bo sz sh le im bf ik)) := by
  refine Met.ofW (cc := cX6_moveAll) (maxL := 4) (ret := none) (by decide) rfl ?_
  intro p e s m args below meth c s₁ B hml hv
  obtain ⟨rfl, hP, hK⟩ := hv
  have hx := B.exec
  have hb := B.bytes
  have hr := B.returns
  have hts := atoms_spec (ws := wsX6_moveAll) B.pre
  have hown : s.vm.findClass RX6 = some m.cls := findClass_of_methodNamed B.named
  have hlocks := B.notSynchronized
  obtain ⟨A, hAe⟩ : ∃ A, A = Aof (mdw cI cL b (enc co gu kn fo sp ki pl ea to qu) fd mo tr b1 tp tm so bg te wd va gd bo sz sh le im bf ik) := ⟨_, rfl⟩
  rw [← hAe]
  have hD : ∀ ws' : va_W, ws'.map Prod.fst = (mdw cI cL b (enc co gu kn fo sp ki pl ea to qu) fd mo tr b1 tp tm so bg te wd va gd bo sz sh le im bf ik).map Prod.fst → va_D A ws' := fun ws' e => by rw [hAe]; exact va_D_adr (va_D_self (va_D_adr dj rfl)) e
  have hS : va_S A s.heap s.heap [] := va_S.rf
  have hP : va_P D vwCl (mdw cI cL b (enc co gu kn fo sp ki pl ea to qu) fd mo tr b1 tp tm so bg te wd va gd bo sz sh le im bf ik) s.heap := hP
  have hl := lv_entry ([.ref (b 0), .int 1, .ref (b 5)]) (n := 4) (Nat.le_of_ble_eq_true rfl)
  rw [lg_entry_eq]
  generalize (lg_sl ([.ref (b 0), .int 1, .ref (b 5)]) ++ List.replicate (4 - (lg_sl ([.ref (b 0), .int 1, .ref (b 5)])).length) Slot.unset).toArray = ls at hl ⊢
  have hl : lv_has ls 4 [(0, .ref (b 0)), (1, .int 1), (2, .ref (b 5))] := hl
  have f7 := hts (.fieldLink RX6 7 "KnivesLaidModel" "row" "[I") (List.mem_of_getElem? (i := 1) rfl)
  have inX6 : ∀ w ∈ u_ws RX6 TX6 20, w ∈ wsX6_moveAll := in_at 2 _ _ rfl
  skip
  have hP : va_P D vwCl (mdw cI cL b (enc co gu kn fo sp ki pl ea to qu) fd mo tr (fa_fill (enc co gu kn fo sp ki pl ea to qu) b1 0) tp tm so bg te wd va gd bo sz sh le im bf ik) s.heap := by rw [fa_fill_0]; exact hP
  refine lv_iconst (v := 0) hx hb dX6_moveAll_0 (by decide) ?_
  refine lv_istore_n (lv' := [(3, .int 0), (0, .ref (b 0)), (1, .int 1), (2, .ref (b 5))]) hx hb dX6_moveAll_1 rfl hl (by decide) rfl (fun ls hl => ?_)
  refine lpW (fun n (u : Nat) H locs ls => (u + n = 72) ∧ va_P D vwCl (mdw cI cL b (enc co gu kn fo sp ki pl ea to qu) fd mo tr (fa_fill (enc co gu kn fo sp ki pl ea to qu) b1 u) tp tm so bg te wd va gd bo sz sh le im bf ik) H ∧ va_S A s.heap H locs ∧ lv_has ls 4 [(0, .ref (b 0)), (1, .int 1), (2, .ref (b 5)), (3, .int (nI u))]) (72) (0) ⟨by omega, hP, hS, lv_sub hl [1, 2, 3, 0] rfl⟩ (fun n ih u H locs ls hI => ?_)
  obtain ⟨i, rfl⟩ : ∃ z, z = u := ⟨_, rfl⟩
  obtain ⟨hi0, hP, hS, hl⟩ := hI
  have hi0 : i + n = 72 := hi0
  have hl : lv_has ls 4 [(0, .ref (b 0)), (1, .int 1), (2, .ref (b 5)), (3, .int (nI i))] := hl
  have hP : va_P D vwCl (mdw cI cL b (enc co gu kn fo sp ki pl ea to qu) fd mo tr (fa_fill (enc co gu kn fo sp ki pl ea to qu) b1 i) tp tm so bg te wd va gd bo sz sh le im bf ik) H := hP
  have hix : ix (nI i) = i := ix_nI (by omega)
  refine lv_iload_n hx hb dX6_moveAll_2 rfl (lv_at hl 3 rfl) ?_
  refine lv_bipush (v := 72) hx hb dX6_moveAll_3 (by decide) ?_
  refine lv_icmp_ge (tgt := 39) hx hb dX6_moveAll_5 (by decide) (fun c_1 => ?_) (fun c_1 => ?_)
  · skip
    have c_1n := (cmp_le (a := 72) (b := i) rfl rfl (by omega) (by omega)).mp c_1
    exact W.vret hx hb hr (fun t ht hW => ⟨⟨(), rfl, (by trivial), by dsimp only; rw [ht]; exact (va_P_rep (q0 := 5) hP rfl (arr_eq (fun j hj => fa_fill_in (by omega))))⟩, hS.F ht⟩) hS.2.2 dX6_moveAll_39
  · skip
    have c_1n := mt (cmp_le (a := 72) (b := i) rfl rfl (by omega) (by omega)).mpr c_1
    refine lv_iload_n hx hb dX6_moveAll_8 rfl (lv_at hl 1 rfl) ?_
    refine lv_if_eq (tgt := 24) hx hb dX6_moveAll_9 (by decide) (fun c_2 => ?_) (fun c_2 => ?_)
    · skip
      have c_2n := (cmp_eq (a := 1) (b := 0) rfl rfl (by omega) (by omega)).mp c_2
      exact absurd c_2 (by decide)
    · skip
      have c_2n := mt (cmp_eq (a := 1) (b := 0) rfl rfl (by omega) (by omega)).mpr c_2
      refine lv_aload_n hx hb dX6_moveAll_12 rfl (lv_at hl 2 rfl) ?_
      refine lv_iload_n hx hb dX6_moveAll_13 rfl (lv_at hl 3 rfl) ?_
      refine lv_aload_n hx hb dX6_moveAll_14 rfl (lv_at hl 0 rfl) ?_
      refine va_get (ci := 4) (v := .ref (b 1)) (C := RX6) (T := TX6) (N := 20) hx hb hts inX6 hown hK hP 0 rfl rfl 0 (by decide) f7 (fun _ h9 => h9) rfl dX6_moveAll_15 ?_
      refine lv_iload_n hx hb dX6_moveAll_18 rfl (lv_at hl 3 rfl) ?_
      refine va_iald hx hb hK hP 1 0 rfl rfl (vp_in_nI (by omega) (by omega)) dX6_moveAll_19 ?_
      refine va_iast hx hb hK hP (hD _ rfl) hS 5 0 rfl rfl (vp_in_nI (by omega) (by omega)) dX6_moveAll_20 (fun H locs hP _ hS => ?_)
      have hP : va_P D vwCl (mdw cI cL b (enc co gu kn fo sp ki pl ea to qu) fd mo tr (upd (fa_fill (enc co gu kn fo sp ki pl ea to qu) b1 i) (ix (nI i)) ((enc co gu kn fo sp ki pl ea to qu) (ix (nI i)))) tp tm so bg te wd va gd bo sz sh le im bf ik) H := hP
      refine lv_goto (tgt := 33) hx hb dX6_moveAll_21 (by decide) ?_
      refine lv_iinc (v := nI (i + 1)) (lv' := [(3, .int (nI (i + 1))), (0, .ref (b 0)), (1, .int 1), (2, .ref (b 5))]) hx hb dX6_moveAll_33 hl (k := 3) rfl (nI_1 _) (by decide) rfl (fun ls hl => ?_)
      refine lv_goto (tgt := 2) hx hb dX6_moveAll_36 (by decide) ?_
      have hP : va_P D vwCl (mdw cI cL b (enc co gu kn fo sp ki pl ea to qu) fd mo tr (fa_fill (enc co gu kn fo sp ki pl ea to qu) b1 (i + 1)) tp tm so bg te wd va gd bo sz sh le im bf ik) H := by rw [← fa_fill_succ (enc co gu kn fo sp ki pl ea to qu) b1 i]; rw [hix] at hP; exact hP
      exact ih (n - 1) (by omega) (i + 1) H locs ls ⟨by omega, hP, hS, lv_sub hl [1, 2, 3, 0] rfl⟩

set_option maxRecDepth 100000 in
set_option maxHeartbeats 4000000 in
theorem k_X6_moveAll_b10 (l : Launch) (D : va_G) (cI cL cS : ClassId) (b : Nat → Nat) (co gu : Int32) (kn fo sp ki pl ea to qu : FI) (fd : FI) (mo : FI) (tr : FI) (tp : FI) (tm : Int32) (so : Int32) (bg : Int32) (te : Int32) (wd : Int64) (va : Int32) (gd : Int32) (bo : FI) (sz : FI) (sh : FJ) (le : FJ) (im : FI) (bf : FI) (ik : Int32) (co2 gu2 : Int32) (kn2 fo2 sp2 ki2 pl2 ea2 to2 qu2 : FI) (dj : va_D (fun _ => True) (dj0 b 13)) : Met l yX6_moveAll wsX6_moveAll { frames := 0, cells := 0, slots := 0, locals := 0 } (PcR D vwCl (tyG cI cL cS) [.ref (b 0), .int 0, .ref (b 5)] (mdw cI cL b (enc co gu kn fo sp ki pl ea to qu) fd mo tr (enc co2 gu2 kn2 fo2 sp2 ki2 pl2 ea2 to2 qu2) tp tm so bg te wd va gd bo sz sh le im bf ik)) (va_Qv (fun (_ : Unit) => True) (fun _ t => va_P D vwCl (mdw cI cL b (enc co2 gu2 kn2 fo2 sp2 ki2 pl2 ea2 to2 qu2) fd mo tr (enc co2 gu2 kn2 fo2 sp2 ki2 pl2 ea2 to2 qu2) tp tm so bg te wd va gd bo sz sh le im bf ik) t.heap) (Aof (mdw cI cL b (enc co gu kn fo sp ki pl ea to qu) fd mo tr (enc co2 gu2 kn2 fo2 sp2 ki2 pl2 ea2 to2 qu2) tp tm so bg te wd va gd bo sz sh le im bf ik))) 0 0 (Aof (mdw cI cL b (enc co gu kn fo sp ki pl ea to qu) fd mo tr (enc co2 gu2 kn2 fo2 sp2 ki2 pl2 ea2 to2 qu2) tp tm so bg te wd va gd bo sz sh le im bf ik)) := by
  refine Met.ofW (cc := cX6_moveAll) (maxL := 4) (ret := none) (by decide) rfl ?_
  intro p e s m args below meth c s₁ B hml hv
  obtain ⟨rfl, hP, hK⟩ := hv
  have hx := B.exec
  have hb := B.bytes
  have hr := B.returns
  have hts := atoms_spec (ws := wsX6_moveAll) B.pre
  have hown : s.vm.findClass RX6 = some m.cls := findClass_of_methodNamed B.named
  have hlocks := B.notSynchronized
  obtain ⟨A, hAe⟩ : ∃ A, A = Aof (mdw cI cL b (enc co gu kn fo sp ki pl ea to qu) fd mo tr (enc co2 gu2 kn2 fo2 sp2 ki2 pl2 ea2 to2 qu2) tp tm so bg te wd va gd bo sz sh le im bf ik) := ⟨_, rfl⟩
  rw [← hAe]
  have hD : ∀ ws' : va_W, ws'.map Prod.fst = (mdw cI cL b (enc co gu kn fo sp ki pl ea to qu) fd mo tr (enc co2 gu2 kn2 fo2 sp2 ki2 pl2 ea2 to2 qu2) tp tm so bg te wd va gd bo sz sh le im bf ik).map Prod.fst → va_D A ws' := fun ws' e => by rw [hAe]; exact va_D_adr (va_D_self (va_D_adr dj rfl)) e
  have hS : va_S A s.heap s.heap [] := va_S.rf
  have hP : va_P D vwCl (mdw cI cL b (enc co gu kn fo sp ki pl ea to qu) fd mo tr (enc co2 gu2 kn2 fo2 sp2 ki2 pl2 ea2 to2 qu2) tp tm so bg te wd va gd bo sz sh le im bf ik) s.heap := hP
  have hl := lv_entry ([.ref (b 0), .int 0, .ref (b 5)]) (n := 4) (Nat.le_of_ble_eq_true rfl)
  rw [lg_entry_eq]
  generalize (lg_sl ([.ref (b 0), .int 0, .ref (b 5)]) ++ List.replicate (4 - (lg_sl ([.ref (b 0), .int 0, .ref (b 5)])).length) Slot.unset).toArray = ls at hl ⊢
  have hl : lv_has ls 4 [(0, .ref (b 0)), (1, .int 0), (2, .ref (b 5))] := hl
  have f7 := hts (.fieldLink RX6 7 "KnivesLaidModel" "row" "[I") (List.mem_of_getElem? (i := 1) rfl)
  have inX6 : ∀ w ∈ u_ws RX6 TX6 20, w ∈ wsX6_moveAll := in_at 2 _ _ rfl
  skip
  have hP : va_P D vwCl (mdw cI cL b (enc co gu kn fo sp ki pl ea to qu) fd mo tr (enc co2 gu2 kn2 fo2 sp2 ki2 pl2 ea2 to2 qu2) tp tm so bg te wd va gd bo sz sh le im bf ik) s.heap := by exact hP
  have hP : va_P D vwCl (mdw cI cL b (fa_fill (enc co2 gu2 kn2 fo2 sp2 ki2 pl2 ea2 to2 qu2) (enc co gu kn fo sp ki pl ea to qu) 0) fd mo tr (enc co2 gu2 kn2 fo2 sp2 ki2 pl2 ea2 to2 qu2) tp tm so bg te wd va gd bo sz sh le im bf ik) s.heap := by rw [fa_fill_0]; exact hP
  refine lv_iconst (v := 0) hx hb dX6_moveAll_0 (by decide) ?_
  refine lv_istore_n (lv' := [(3, .int 0), (0, .ref (b 0)), (1, .int 0), (2, .ref (b 5))]) hx hb dX6_moveAll_1 rfl hl (by decide) rfl (fun ls hl => ?_)
  refine lpW (fun n (u : Nat) H locs ls => (u + n = 72) ∧ va_P D vwCl (mdw cI cL b (fa_fill (enc co2 gu2 kn2 fo2 sp2 ki2 pl2 ea2 to2 qu2) (enc co gu kn fo sp ki pl ea to qu) u) fd mo tr (enc co2 gu2 kn2 fo2 sp2 ki2 pl2 ea2 to2 qu2) tp tm so bg te wd va gd bo sz sh le im bf ik) H ∧ va_S A s.heap H locs ∧ lv_has ls 4 [(0, .ref (b 0)), (1, .int 0), (2, .ref (b 5)), (3, .int (nI u))]) (72) (0) ⟨by omega, hP, hS, lv_sub hl [1, 2, 3, 0] rfl⟩ (fun n ih u H locs ls hI => ?_)
  obtain ⟨i, rfl⟩ : ∃ z, z = u := ⟨_, rfl⟩
  obtain ⟨hi0, hP, hS, hl⟩ := hI
  have hi0 : i + n = 72 := hi0
  have hl : lv_has ls 4 [(0, .ref (b 0)), (1, .int 0), (2, .ref (b 5)), (3, .int (nI i))] := hl
  have hP : va_P D vwCl (mdw cI cL b (fa_fill (enc co2 gu2 kn2 fo2 sp2 ki2 pl2 ea2 to2 qu2) (enc co gu kn fo sp ki pl ea to qu) i) fd mo tr (enc co2 gu2 kn2 fo2 sp2 ki2 pl2 ea2 to2 qu2) tp tm so bg te wd va gd bo sz sh le im bf ik) H := hP
  have hix : ix (nI i) = i := ix_nI (by omega)
  refine lv_iload_n hx hb dX6_moveAll_2 rfl (lv_at hl 3 rfl) ?_
  refine lv_bipush (v := 72) hx hb dX6_moveAll_3 (by decide) ?_
  refine lv_icmp_ge (tgt := 39) hx hb dX6_moveAll_5 (by decide) (fun c_1 => ?_) (fun c_1 => ?_)
  · skip
    have c_1n := (cmp_le (a := 72) (b := i) rfl rfl (by omega) (by omega)).mp c_1
    exact W.vret hx hb hr (fun t ht hW => ⟨⟨(), rfl, (by trivial), by dsimp only; rw [ht]; exact (va_P_rep (q0 := 1) hP rfl (arr_eq (fun j hj => fa_fill_in (by omega))))⟩, hS.F ht⟩) hS.2.2 dX6_moveAll_39
  · skip
    have c_1n := mt (cmp_le (a := 72) (b := i) rfl rfl (by omega) (by omega)).mpr c_1
    refine lv_iload_n hx hb dX6_moveAll_8 rfl (lv_at hl 1 rfl) ?_
    refine lv_if_eq (tgt := 24) hx hb dX6_moveAll_9 (by decide) (fun c_2 => ?_) (fun c_2 => ?_)
    · skip
      have c_2n := (cmp_eq (a := 0) (b := 0) rfl rfl (by omega) (by omega)).mp c_2
      refine lv_aload_n hx hb dX6_moveAll_24 rfl (lv_at hl 0 rfl) ?_
      refine va_get (ci := 4) (v := .ref (b 1)) (C := RX6) (T := TX6) (N := 20) hx hb hts inX6 hown hK hP 0 rfl rfl 0 (by decide) f7 (fun _ h9 => h9) rfl dX6_moveAll_25 ?_
      refine lv_iload_n hx hb dX6_moveAll_28 rfl (lv_at hl 3 rfl) ?_
      refine lv_aload_n hx hb dX6_moveAll_29 rfl (lv_at hl 2 rfl) ?_
      refine lv_iload_n hx hb dX6_moveAll_30 rfl (lv_at hl 3 rfl) ?_
      refine va_iald hx hb hK hP 5 0 rfl rfl (vp_in_nI (by omega) (by omega)) dX6_moveAll_31 ?_
      refine va_iast hx hb hK hP (hD _ rfl) hS 1 0 rfl rfl (vp_in_nI (by omega) (by omega)) dX6_moveAll_32 (fun H locs hP _ hS => ?_)
      have hP : va_P D vwCl (mdw cI cL b (upd (fa_fill (enc co2 gu2 kn2 fo2 sp2 ki2 pl2 ea2 to2 qu2) (enc co gu kn fo sp ki pl ea to qu) i) (ix (nI i)) ((enc co2 gu2 kn2 fo2 sp2 ki2 pl2 ea2 to2 qu2) (ix (nI i)))) fd mo tr (enc co2 gu2 kn2 fo2 sp2 ki2 pl2 ea2 to2 qu2) tp tm so bg te wd va gd bo sz sh le im bf ik) H := hP
      refine lv_iinc (v := nI (i + 1)) (lv' := [(3, .int (nI (i + 1))), (0, .ref (b 0)), (1, .int 0), (2, .ref (b 5))]) hx hb dX6_moveAll_33 hl (k := 3) rfl (nI_1 _) (by decide) rfl (fun ls hl => ?_)
      refine lv_goto (tgt := 2) hx hb dX6_moveAll_36 (by decide) ?_
      have hP : va_P D vwCl (mdw cI cL b (fa_fill (enc co2 gu2 kn2 fo2 sp2 ki2 pl2 ea2 to2 qu2) (enc co gu kn fo sp ki pl ea to qu) (i + 1)) fd mo tr (enc co2 gu2 kn2 fo2 sp2 ki2 pl2 ea2 to2 qu2) tp tm so bg te wd va gd bo sz sh le im bf ik) H := by rw [← fa_fill_succ (enc co2 gu2 kn2 fo2 sp2 ki2 pl2 ea2 to2 qu2) (enc co gu kn fo sp ki pl ea to qu) i]; rw [hix] at hP; exact hP
      exact ih (n - 1) (by omega) (i + 1) H locs ls ⟨by omega, hP, hS, lv_sub hl [1, 2, 3, 0] rfl⟩
    · skip
      have c_2n := mt (cmp_eq (a := 0) (b := 0) rfl rfl (by omega) (by omega)).mpr c_2
      exact absurd rfl c_2

set_option maxRecDepth 100000 in
set_option maxHeartbeats 4000000 in
theorem k_X6_moveAll_im1 (l : Launch) (D : va_G) (cI cL cS : ClassId) (b : Nat → Nat) (co gu : Int32) (kn fo sp ki pl ea to qu : FI) (fd mo tr b1 tp : FI) (tm so bg te : Int32) (wd : Int64) (va gd : Int32) (bo sz : FI) (sh le : FJ) (im bf : FI) (ik : Int32) (dj : va_D (fun _ => True) (dj0 b 13))  : Met l yX6_moveAll wsX6_moveAll { frames := 0, cells := 0, slots := 0, locals := 0 } (PcR D vwCl (tyG cI cL cS) [.ref (b 0), .int 1, .ref (b 11)] (mdw cI cL b (enc co gu kn fo sp ki pl ea to qu) fd mo tr b1 tp tm so bg te wd va gd bo sz sh le im bf ik)) (va_Qv (fun (u : Unit) => True) (fun u t => va_P D vwCl (mdw cI cL b (enc co gu kn fo sp ki pl ea to qu) fd mo tr b1 tp tm so bg te wd va gd bo sz sh le (enc co gu kn fo sp ki pl ea to qu) bf ik) t.heap) (Aof (mdw cI cL b (enc co gu kn fo sp ki pl ea to qu) fd mo tr b1 tp tm so bg te wd va gd bo sz sh le im bf ik))) 0 0 (Aof (mdw cI cL b (enc co gu kn fo sp ki pl ea to qu) fd mo tr b1 tp tm so bg te wd va gd bo sz sh le im bf ik)) := by
  refine Met.ofW (cc := cX6_moveAll) (maxL := 4) (ret := none) (by decide) rfl ?_
  intro p e s m args below meth c s₁ B hml hv
  obtain ⟨rfl, hP, hK⟩ := hv
  have hx := B.exec
  have hb := B.bytes
  have hr := B.returns
  have hts := atoms_spec (ws := wsX6_moveAll) B.pre
  have hown : s.vm.findClass RX6 = some m.cls := findClass_of_methodNamed B.named
  have hlocks := B.notSynchronized
  obtain ⟨A, hAe⟩ : ∃ A, A = Aof (mdw cI cL b (enc co gu kn fo sp ki pl ea to qu) fd mo tr b1 tp tm so bg te wd va gd bo sz sh le im bf ik) := ⟨_, rfl⟩
  rw [← hAe]
  have hD : ∀ ws' : va_W, ws'.map Prod.fst = (mdw cI cL b (enc co gu kn fo sp ki pl ea to qu) fd mo tr b1 tp tm so bg te wd va gd bo sz sh le im bf ik).map Prod.fst → va_D A ws' := fun ws' e => by rw [hAe]; exact va_D_adr (va_D_self (va_D_adr dj rfl)) e
  have hS : va_S A s.heap s.heap [] := va_S.rf
  have hP : va_P D vwCl (mdw cI cL b (enc co gu kn fo sp ki pl ea to qu) fd mo tr b1 tp tm so bg te wd va gd bo sz sh le im bf ik) s.heap := hP
  have hl := lv_entry ([.ref (b 0), .int 1, .ref (b 11)]) (n := 4) (Nat.le_of_ble_eq_true rfl)
  rw [lg_entry_eq]
  generalize (lg_sl ([.ref (b 0), .int 1, .ref (b 11)]) ++ List.replicate (4 - (lg_sl ([.ref (b 0), .int 1, .ref (b 11)])).length) Slot.unset).toArray = ls at hl ⊢
  have hl : lv_has ls 4 [(0, .ref (b 0)), (1, .int 1), (2, .ref (b 11))] := hl
  have f7 := hts (.fieldLink RX6 7 "KnivesLaidModel" "row" "[I") (List.mem_of_getElem? (i := 1) rfl)
  have inX6 : ∀ w ∈ u_ws RX6 TX6 20, w ∈ wsX6_moveAll := in_at 2 _ _ rfl
  skip
  have hP : va_P D vwCl (mdw cI cL b (enc co gu kn fo sp ki pl ea to qu) fd mo tr b1 tp tm so bg te wd va gd bo sz sh le (fa_fill (enc co gu kn fo sp ki pl ea to qu) im 0) bf ik) s.heap := by rw [fa_fill_0]; exact hP
  refine lv_iconst (v := 0) hx hb dX6_moveAll_0 (by decide) ?_
  refine lv_istore_n (lv' := [(3, .int 0), (0, .ref (b 0)), (1, .int 1), (2, .ref (b 11))]) hx hb dX6_moveAll_1 rfl hl (by decide) rfl (fun ls hl => ?_)
  refine lpW (fun n (u : Nat) H locs ls => (u + n = 72) ∧ va_P D vwCl (mdw cI cL b (enc co gu kn fo sp ki pl ea to qu) fd mo tr b1 tp tm so bg te wd va gd bo sz sh le (fa_fill (enc co gu kn fo sp ki pl ea to qu) im u) bf ik) H ∧ va_S A s.heap H locs ∧ lv_has ls 4 [(0, .ref (b 0)), (1, .int 1), (2, .ref (b 11)), (3, .int (nI u))]) (72) (0) ⟨by omega, hP, hS, lv_sub hl [1, 2, 3, 0] rfl⟩ (fun n ih u H locs ls hI => ?_)
  obtain ⟨i, rfl⟩ : ∃ z, z = u := ⟨_, rfl⟩
  obtain ⟨hi0, hP, hS, hl⟩ := hI
  have hi0 : i + n = 72 := hi0
  have hl : lv_has ls 4 [(0, .ref (b 0)), (1, .int 1), (2, .ref (b 11)), (3, .int (nI i))] := hl
  have hP : va_P D vwCl (mdw cI cL b (enc co gu kn fo sp ki pl ea to qu) fd mo tr b1 tp tm so bg te wd va gd bo sz sh le (fa_fill (enc co gu kn fo sp ki pl ea to qu) im i) bf ik) H := hP
  have hix : ix (nI i) = i := ix_nI (by omega)
  refine lv_iload_n hx hb dX6_moveAll_2 rfl (lv_at hl 3 rfl) ?_
  refine lv_bipush (v := 72) hx hb dX6_moveAll_3 (by decide) ?_
  refine lv_icmp_ge (tgt := 39) hx hb dX6_moveAll_5 (by decide) (fun c_1 => ?_) (fun c_1 => ?_)
  · skip
    have c_1n := (cmp_le (a := 72) (b := i) rfl rfl (by omega) (by omega)).mp c_1
    exact W.vret hx hb hr (fun t ht hW => ⟨⟨(), rfl, (by trivial), by dsimp only; rw [ht]; exact (va_P_rep (q0 := 11) hP rfl (arr_eq (fun j hj => fa_fill_in (by omega))))⟩, hS.F ht⟩) hS.2.2 dX6_moveAll_39
  · skip
    have c_1n := mt (cmp_le (a := 72) (b := i) rfl rfl (by omega) (by omega)).mpr c_1
    refine lv_iload_n hx hb dX6_moveAll_8 rfl (lv_at hl 1 rfl) ?_
    refine lv_if_eq (tgt := 24) hx hb dX6_moveAll_9 (by decide) (fun c_2 => ?_) (fun c_2 => ?_)
    · skip
      have c_2n := (cmp_eq (a := 1) (b := 0) rfl rfl (by omega) (by omega)).mp c_2
      exact absurd c_2 (by decide)
    · skip
      have c_2n := mt (cmp_eq (a := 1) (b := 0) rfl rfl (by omega) (by omega)).mpr c_2
      refine lv_aload_n hx hb dX6_moveAll_12 rfl (lv_at hl 2 rfl) ?_
      refine lv_iload_n hx hb dX6_moveAll_13 rfl (lv_at hl 3 rfl) ?_
      refine lv_aload_n hx hb dX6_moveAll_14 rfl (lv_at hl 0 rfl) ?_
      refine va_get (ci := 4) (v := .ref (b 1)) (C := RX6) (T := TX6) (N := 20) hx hb hts inX6 hown hK hP 0 rfl rfl 0 (by decide) f7 (fun _ h9 => h9) rfl dX6_moveAll_15 ?_
      refine lv_iload_n hx hb dX6_moveAll_18 rfl (lv_at hl 3 rfl) ?_
      refine va_iald hx hb hK hP 1 0 rfl rfl (vp_in_nI (by omega) (by omega)) dX6_moveAll_19 ?_
      refine va_iast hx hb hK hP (hD _ rfl) hS 11 0 rfl rfl (vp_in_nI (by omega) (by omega)) dX6_moveAll_20 (fun H locs hP _ hS => ?_)
      have hP : va_P D vwCl (mdw cI cL b (enc co gu kn fo sp ki pl ea to qu) fd mo tr b1 tp tm so bg te wd va gd bo sz sh le (upd (fa_fill (enc co gu kn fo sp ki pl ea to qu) im i) (ix (nI i)) ((enc co gu kn fo sp ki pl ea to qu) (ix (nI i)))) bf ik) H := hP
      refine lv_goto (tgt := 33) hx hb dX6_moveAll_21 (by decide) ?_
      refine lv_iinc (v := nI (i + 1)) (lv' := [(3, .int (nI (i + 1))), (0, .ref (b 0)), (1, .int 1), (2, .ref (b 11))]) hx hb dX6_moveAll_33 hl (k := 3) rfl (nI_1 _) (by decide) rfl (fun ls hl => ?_)
      refine lv_goto (tgt := 2) hx hb dX6_moveAll_36 (by decide) ?_
      have hP : va_P D vwCl (mdw cI cL b (enc co gu kn fo sp ki pl ea to qu) fd mo tr b1 tp tm so bg te wd va gd bo sz sh le (fa_fill (enc co gu kn fo sp ki pl ea to qu) im (i + 1)) bf ik) H := by rw [← fa_fill_succ (enc co gu kn fo sp ki pl ea to qu) im i]; rw [hix] at hP; exact hP
      exact ih (n - 1) (by omega) (i + 1) H locs ls ⟨by omega, hP, hS, lv_sub hl [1, 2, 3, 0] rfl⟩

set_option maxRecDepth 100000 in
set_option maxHeartbeats 4000000 in
theorem k_X6_moveAll_im0 (l : Launch) (D : va_G) (cI cL cS : ClassId) (b : Nat → Nat) (co gu : Int32) (kn fo sp ki pl ea to qu : FI) (fd : FI) (mo : FI) (tr : FI) (b1 : FI) (tp : FI) (tm : Int32) (so : Int32) (bg : Int32) (te : Int32) (wd : Int64) (va : Int32) (gd : Int32) (bo : FI) (sz : FI) (sh : FJ) (le : FJ) (bf : FI) (ik : Int32) (co2 gu2 : Int32) (kn2 fo2 sp2 ki2 pl2 ea2 to2 qu2 : FI) (dj : va_D (fun _ => True) (dj0 b 13)) : Met l yX6_moveAll wsX6_moveAll { frames := 0, cells := 0, slots := 0, locals := 0 } (PcR D vwCl (tyG cI cL cS) [.ref (b 0), .int 0, .ref (b 11)] (mdw cI cL b (enc co gu kn fo sp ki pl ea to qu) fd mo tr b1 tp tm so bg te wd va gd bo sz sh le (enc co2 gu2 kn2 fo2 sp2 ki2 pl2 ea2 to2 qu2) bf ik)) (va_Qv (fun (_ : Unit) => True) (fun _ t => va_P D vwCl (mdw cI cL b (enc co2 gu2 kn2 fo2 sp2 ki2 pl2 ea2 to2 qu2) fd mo tr b1 tp tm so bg te wd va gd bo sz sh le (enc co2 gu2 kn2 fo2 sp2 ki2 pl2 ea2 to2 qu2) bf ik) t.heap) (Aof (mdw cI cL b (enc co gu kn fo sp ki pl ea to qu) fd mo tr b1 tp tm so bg te wd va gd bo sz sh le (enc co2 gu2 kn2 fo2 sp2 ki2 pl2 ea2 to2 qu2) bf ik))) 0 0 (Aof (mdw cI cL b (enc co gu kn fo sp ki pl ea to qu) fd mo tr b1 tp tm so bg te wd va gd bo sz sh le (enc co2 gu2 kn2 fo2 sp2 ki2 pl2 ea2 to2 qu2) bf ik)) := by
  refine Met.ofW (cc := cX6_moveAll) (maxL := 4) (ret := none) (by decide) rfl ?_
  intro p e s m args below meth c s₁ B hml hv
  obtain ⟨rfl, hP, hK⟩ := hv
  have hx := B.exec
  have hb := B.bytes
  have hr := B.returns
  have hts := atoms_spec (ws := wsX6_moveAll) B.pre
  have hown : s.vm.findClass RX6 = some m.cls := findClass_of_methodNamed B.named
  have hlocks := B.notSynchronized
  obtain ⟨A, hAe⟩ : ∃ A, A = Aof (mdw cI cL b (enc co gu kn fo sp ki pl ea to qu) fd mo tr b1 tp tm so bg te wd va gd bo sz sh le (enc co2 gu2 kn2 fo2 sp2 ki2 pl2 ea2 to2 qu2) bf ik) := ⟨_, rfl⟩
  rw [← hAe]
  have hD : ∀ ws' : va_W, ws'.map Prod.fst = (mdw cI cL b (enc co gu kn fo sp ki pl ea to qu) fd mo tr b1 tp tm so bg te wd va gd bo sz sh le (enc co2 gu2 kn2 fo2 sp2 ki2 pl2 ea2 to2 qu2) bf ik).map Prod.fst → va_D A ws' := fun ws' e => by rw [hAe]; exact va_D_adr (va_D_self (va_D_adr dj rfl)) e
  have hS : va_S A s.heap s.heap [] := va_S.rf
  have hP : va_P D vwCl (mdw cI cL b (enc co gu kn fo sp ki pl ea to qu) fd mo tr b1 tp tm so bg te wd va gd bo sz sh le (enc co2 gu2 kn2 fo2 sp2 ki2 pl2 ea2 to2 qu2) bf ik) s.heap := hP
  have hl := lv_entry ([.ref (b 0), .int 0, .ref (b 11)]) (n := 4) (Nat.le_of_ble_eq_true rfl)
  rw [lg_entry_eq]
  generalize (lg_sl ([.ref (b 0), .int 0, .ref (b 11)]) ++ List.replicate (4 - (lg_sl ([.ref (b 0), .int 0, .ref (b 11)])).length) Slot.unset).toArray = ls at hl ⊢
  have hl : lv_has ls 4 [(0, .ref (b 0)), (1, .int 0), (2, .ref (b 11))] := hl
  have f7 := hts (.fieldLink RX6 7 "KnivesLaidModel" "row" "[I") (List.mem_of_getElem? (i := 1) rfl)
  have inX6 : ∀ w ∈ u_ws RX6 TX6 20, w ∈ wsX6_moveAll := in_at 2 _ _ rfl
  skip
  have hP : va_P D vwCl (mdw cI cL b (enc co gu kn fo sp ki pl ea to qu) fd mo tr b1 tp tm so bg te wd va gd bo sz sh le (enc co2 gu2 kn2 fo2 sp2 ki2 pl2 ea2 to2 qu2) bf ik) s.heap := by exact hP
  have hP : va_P D vwCl (mdw cI cL b (fa_fill (enc co2 gu2 kn2 fo2 sp2 ki2 pl2 ea2 to2 qu2) (enc co gu kn fo sp ki pl ea to qu) 0) fd mo tr b1 tp tm so bg te wd va gd bo sz sh le (enc co2 gu2 kn2 fo2 sp2 ki2 pl2 ea2 to2 qu2) bf ik) s.heap := by rw [fa_fill_0]; exact hP
  refine lv_iconst (v := 0) hx hb dX6_moveAll_0 (by decide) ?_
  refine lv_istore_n (lv' := [(3, .int 0), (0, .ref (b 0)), (1, .int 0), (2, .ref (b 11))]) hx hb dX6_moveAll_1 rfl hl (by decide) rfl (fun ls hl => ?_)
  refine lpW (fun n (u : Nat) H locs ls => (u + n = 72) ∧ va_P D vwCl (mdw cI cL b (fa_fill (enc co2 gu2 kn2 fo2 sp2 ki2 pl2 ea2 to2 qu2) (enc co gu kn fo sp ki pl ea to qu) u) fd mo tr b1 tp tm so bg te wd va gd bo sz sh le (enc co2 gu2 kn2 fo2 sp2 ki2 pl2 ea2 to2 qu2) bf ik) H ∧ va_S A s.heap H locs ∧ lv_has ls 4 [(0, .ref (b 0)), (1, .int 0), (2, .ref (b 11)), (3, .int (nI u))]) (72) (0) ⟨by omega, hP, hS, lv_sub hl [1, 2, 3, 0] rfl⟩ (fun n ih u H locs ls hI => ?_)
  obtain ⟨i, rfl⟩ : ∃ z, z = u := ⟨_, rfl⟩
  obtain ⟨hi0, hP, hS, hl⟩ := hI
  have hi0 : i + n = 72 := hi0
  have hl : lv_has ls 4 [(0, .ref (b 0)), (1, .int 0), (2, .ref (b 11)), (3, .int (nI i))] := hl
  have hP : va_P D vwCl (mdw cI cL b (fa_fill (enc co2 gu2 kn2 fo2 sp2 ki2 pl2 ea2 to2 qu2) (enc co gu kn fo sp ki pl ea to qu) i) fd mo tr b1 tp tm so bg te wd va gd bo sz sh le (enc co2 gu2 kn2 fo2 sp2 ki2 pl2 ea2 to2 qu2) bf ik) H := hP
  have hix : ix (nI i) = i := ix_nI (by omega)
  refine lv_iload_n hx hb dX6_moveAll_2 rfl (lv_at hl 3 rfl) ?_
  refine lv_bipush (v := 72) hx hb dX6_moveAll_3 (by decide) ?_
  refine lv_icmp_ge (tgt := 39) hx hb dX6_moveAll_5 (by decide) (fun c_1 => ?_) (fun c_1 => ?_)
  · skip
    have c_1n := (cmp_le (a := 72) (b := i) rfl rfl (by omega) (by omega)).mp c_1
    exact W.vret hx hb hr (fun t ht hW => ⟨⟨(), rfl, (by trivial), by dsimp only; rw [ht]; exact (va_P_rep (q0 := 1) hP rfl (arr_eq (fun j hj => fa_fill_in (by omega))))⟩, hS.F ht⟩) hS.2.2 dX6_moveAll_39
  · skip
    have c_1n := mt (cmp_le (a := 72) (b := i) rfl rfl (by omega) (by omega)).mpr c_1
    refine lv_iload_n hx hb dX6_moveAll_8 rfl (lv_at hl 1 rfl) ?_
    refine lv_if_eq (tgt := 24) hx hb dX6_moveAll_9 (by decide) (fun c_2 => ?_) (fun c_2 => ?_)
    · skip
      have c_2n := (cmp_eq (a := 0) (b := 0) rfl rfl (by omega) (by omega)).mp c_2
      refine lv_aload_n hx hb dX6_moveAll_24 rfl (lv_at hl 0 rfl) ?_
      refine va_get (ci := 4) (v := .ref (b 1)) (C := RX6) (T := TX6) (N := 20) hx hb hts inX6 hown hK hP 0 rfl rfl 0 (by decide) f7 (fun _ h9 => h9) rfl dX6_moveAll_25 ?_
      refine lv_iload_n hx hb dX6_moveAll_28 rfl (lv_at hl 3 rfl) ?_
      refine lv_aload_n hx hb dX6_moveAll_29 rfl (lv_at hl 2 rfl) ?_
      refine lv_iload_n hx hb dX6_moveAll_30 rfl (lv_at hl 3 rfl) ?_
      refine va_iald hx hb hK hP 11 0 rfl rfl (vp_in_nI (by omega) (by omega)) dX6_moveAll_31 ?_
      refine va_iast hx hb hK hP (hD _ rfl) hS 1 0 rfl rfl (vp_in_nI (by omega) (by omega)) dX6_moveAll_32 (fun H locs hP _ hS => ?_)
      have hP : va_P D vwCl (mdw cI cL b (upd (fa_fill (enc co2 gu2 kn2 fo2 sp2 ki2 pl2 ea2 to2 qu2) (enc co gu kn fo sp ki pl ea to qu) i) (ix (nI i)) ((enc co2 gu2 kn2 fo2 sp2 ki2 pl2 ea2 to2 qu2) (ix (nI i)))) fd mo tr b1 tp tm so bg te wd va gd bo sz sh le (enc co2 gu2 kn2 fo2 sp2 ki2 pl2 ea2 to2 qu2) bf ik) H := hP
      refine lv_iinc (v := nI (i + 1)) (lv' := [(3, .int (nI (i + 1))), (0, .ref (b 0)), (1, .int 0), (2, .ref (b 11))]) hx hb dX6_moveAll_33 hl (k := 3) rfl (nI_1 _) (by decide) rfl (fun ls hl => ?_)
      refine lv_goto (tgt := 2) hx hb dX6_moveAll_36 (by decide) ?_
      have hP : va_P D vwCl (mdw cI cL b (fa_fill (enc co2 gu2 kn2 fo2 sp2 ki2 pl2 ea2 to2 qu2) (enc co gu kn fo sp ki pl ea to qu) (i + 1)) fd mo tr b1 tp tm so bg te wd va gd bo sz sh le (enc co2 gu2 kn2 fo2 sp2 ki2 pl2 ea2 to2 qu2) bf ik) H := by rw [← fa_fill_succ (enc co2 gu2 kn2 fo2 sp2 ki2 pl2 ea2 to2 qu2) (enc co gu kn fo sp ki pl ea to qu) i]; rw [hix] at hP; exact hP
      exact ih (n - 1) (by omega) (i + 1) H locs ls ⟨by omega, hP, hS, lv_sub hl [1, 2, 3, 0] rfl⟩
    · skip
      have c_2n := mt (cmp_eq (a := 0) (b := 0) rfl rfl (by omega) (by omega)).mpr c_2
      exact absurd rfl c_2

set_option maxRecDepth 100000 in
set_option maxHeartbeats 4000000 in
theorem k_X6_moveAll_bf1 (l : Launch) (D : va_G) (cI cL cS : ClassId) (b : Nat → Nat) (co gu : Int32) (kn fo sp ki pl ea to qu : FI) (fd mo tr b1 tp : FI) (tm so bg te : Int32) (wd : Int64) (va gd : Int32) (bo sz : FI) (sh le : FJ) (im bf : FI) (ik : Int32) (dj : va_D (fun _ => True) (dj0 b 13))  : Met l yX6_moveAll wsX6_moveAll { frames := 0, cells := 0, slots := 0, locals := 0 } (PcR D vwCl (tyG cI cL cS) [.ref (b 0), .int 1, .ref (b 12)] (mdw cI cL b (enc co gu kn fo sp ki pl ea to qu) fd mo tr b1 tp tm so bg te wd va gd bo sz sh le im bf ik)) (va_Qv (fun (u : Unit) => True) (fun u t => va_P D vwCl (mdw cI cL b (enc co gu kn fo sp ki pl ea to qu) fd mo tr b1 tp tm so bg te wd va gd bo sz sh le im (enc co gu kn fo sp ki pl ea to qu) ik) t.heap) (Aof (mdw cI cL b (enc co gu kn fo sp ki pl ea to qu) fd mo tr b1 tp tm so bg te wd va gd bo sz sh le im bf ik))) 0 0 (Aof (mdw cI cL b (enc co gu kn fo sp ki pl ea to qu) fd mo tr b1 tp tm so bg te wd va gd bo sz sh le im bf ik)) := by
  refine Met.ofW (cc := cX6_moveAll) (maxL := 4) (ret := none) (by decide) rfl ?_
  intro p e s m args below meth c s₁ B hml hv
  obtain ⟨rfl, hP, hK⟩ := hv
  have hx := B.exec
  have hb := B.bytes
  have hr := B.returns
  have hts := atoms_spec (ws := wsX6_moveAll) B.pre
  have hown : s.vm.findClass RX6 = some m.cls := findClass_of_methodNamed B.named
  have hlocks := B.notSynchronized
  obtain ⟨A, hAe⟩ : ∃ A, A = Aof (mdw cI cL b (enc co gu kn fo sp ki pl ea to qu) fd mo tr b1 tp tm so bg te wd va gd bo sz sh le im bf ik) := ⟨_, rfl⟩
  rw [← hAe]
  have hD : ∀ ws' : va_W, ws'.map Prod.fst = (mdw cI cL b (enc co gu kn fo sp ki pl ea to qu) fd mo tr b1 tp tm so bg te wd va gd bo sz sh le im bf ik).map Prod.fst → va_D A ws' := fun ws' e => by rw [hAe]; exact va_D_adr (va_D_self (va_D_adr dj rfl)) e
  have hS : va_S A s.heap s.heap [] := va_S.rf
  have hP : va_P D vwCl (mdw cI cL b (enc co gu kn fo sp ki pl ea to qu) fd mo tr b1 tp tm so bg te wd va gd bo sz sh le im bf ik) s.heap := hP
  have hl := lv_entry ([.ref (b 0), .int 1, .ref (b 12)]) (n := 4) (Nat.le_of_ble_eq_true rfl)
  rw [lg_entry_eq]
  generalize (lg_sl ([.ref (b 0), .int 1, .ref (b 12)]) ++ List.replicate (4 - (lg_sl ([.ref (b 0), .int 1, .ref (b 12)])).length) Slot.unset).toArray = ls at hl ⊢
  have hl : lv_has ls 4 [(0, .ref (b 0)), (1, .int 1), (2, .ref (b 12))] := hl
  have f7 := hts (.fieldLink RX6 7 "KnivesLaidModel" "row" "[I") (List.mem_of_getElem? (i := 1) rfl)
  have inX6 : ∀ w ∈ u_ws RX6 TX6 20, w ∈ wsX6_moveAll := in_at 2 _ _ rfl
  skip
  have hP : va_P D vwCl (mdw cI cL b (enc co gu kn fo sp ki pl ea to qu) fd mo tr b1 tp tm so bg te wd va gd bo sz sh le im (fa_fill (enc co gu kn fo sp ki pl ea to qu) bf 0) ik) s.heap := by rw [fa_fill_0]; exact hP
  refine lv_iconst (v := 0) hx hb dX6_moveAll_0 (by decide) ?_
  refine lv_istore_n (lv' := [(3, .int 0), (0, .ref (b 0)), (1, .int 1), (2, .ref (b 12))]) hx hb dX6_moveAll_1 rfl hl (by decide) rfl (fun ls hl => ?_)
  refine lpW (fun n (u : Nat) H locs ls => (u + n = 72) ∧ va_P D vwCl (mdw cI cL b (enc co gu kn fo sp ki pl ea to qu) fd mo tr b1 tp tm so bg te wd va gd bo sz sh le im (fa_fill (enc co gu kn fo sp ki pl ea to qu) bf u) ik) H ∧ va_S A s.heap H locs ∧ lv_has ls 4 [(0, .ref (b 0)), (1, .int 1), (2, .ref (b 12)), (3, .int (nI u))]) (72) (0) ⟨by omega, hP, hS, lv_sub hl [1, 2, 3, 0] rfl⟩ (fun n ih u H locs ls hI => ?_)
  obtain ⟨i, rfl⟩ : ∃ z, z = u := ⟨_, rfl⟩
  obtain ⟨hi0, hP, hS, hl⟩ := hI
  have hi0 : i + n = 72 := hi0
  have hl : lv_has ls 4 [(0, .ref (b 0)), (1, .int 1), (2, .ref (b 12)), (3, .int (nI i))] := hl
  have hP : va_P D vwCl (mdw cI cL b (enc co gu kn fo sp ki pl ea to qu) fd mo tr b1 tp tm so bg te wd va gd bo sz sh le im (fa_fill (enc co gu kn fo sp ki pl ea to qu) bf i) ik) H := hP
  have hix : ix (nI i) = i := ix_nI (by omega)
  refine lv_iload_n hx hb dX6_moveAll_2 rfl (lv_at hl 3 rfl) ?_
  refine lv_bipush (v := 72) hx hb dX6_moveAll_3 (by decide) ?_
  refine lv_icmp_ge (tgt := 39) hx hb dX6_moveAll_5 (by decide) (fun c_1 => ?_) (fun c_1 => ?_)
  · skip
    have c_1n := (cmp_le (a := 72) (b := i) rfl rfl (by omega) (by omega)).mp c_1
    exact W.vret hx hb hr (fun t ht hW => ⟨⟨(), rfl, (by trivial), by dsimp only; rw [ht]; exact (va_P_rep (q0 := 12) hP rfl (arr_eq (fun j hj => fa_fill_in (by omega))))⟩, hS.F ht⟩) hS.2.2 dX6_moveAll_39
  · skip
    have c_1n := mt (cmp_le (a := 72) (b := i) rfl rfl (by omega) (by omega)).mpr c_1
    refine lv_iload_n hx hb dX6_moveAll_8 rfl (lv_at hl 1 rfl) ?_
    refine lv_if_eq (tgt := 24) hx hb dX6_moveAll_9 (by decide) (fun c_2 => ?_) (fun c_2 => ?_)
    · skip
      have c_2n := (cmp_eq (a := 1) (b := 0) rfl rfl (by omega) (by omega)).mp c_2
      exact absurd c_2 (by decide)
    · skip
      have c_2n := mt (cmp_eq (a := 1) (b := 0) rfl rfl (by omega) (by omega)).mpr c_2
      refine lv_aload_n hx hb dX6_moveAll_12 rfl (lv_at hl 2 rfl) ?_
      refine lv_iload_n hx hb dX6_moveAll_13 rfl (lv_at hl 3 rfl) ?_
      refine lv_aload_n hx hb dX6_moveAll_14 rfl (lv_at hl 0 rfl) ?_
      refine va_get (ci := 4) (v := .ref (b 1)) (C := RX6) (T := TX6) (N := 20) hx hb hts inX6 hown hK hP 0 rfl rfl 0 (by decide) f7 (fun _ h9 => h9) rfl dX6_moveAll_15 ?_
      refine lv_iload_n hx hb dX6_moveAll_18 rfl (lv_at hl 3 rfl) ?_
      refine va_iald hx hb hK hP 1 0 rfl rfl (vp_in_nI (by omega) (by omega)) dX6_moveAll_19 ?_
      refine va_iast hx hb hK hP (hD _ rfl) hS 12 0 rfl rfl (vp_in_nI (by omega) (by omega)) dX6_moveAll_20 (fun H locs hP _ hS => ?_)
      have hP : va_P D vwCl (mdw cI cL b (enc co gu kn fo sp ki pl ea to qu) fd mo tr b1 tp tm so bg te wd va gd bo sz sh le im (upd (fa_fill (enc co gu kn fo sp ki pl ea to qu) bf i) (ix (nI i)) ((enc co gu kn fo sp ki pl ea to qu) (ix (nI i)))) ik) H := hP
      refine lv_goto (tgt := 33) hx hb dX6_moveAll_21 (by decide) ?_
      refine lv_iinc (v := nI (i + 1)) (lv' := [(3, .int (nI (i + 1))), (0, .ref (b 0)), (1, .int 1), (2, .ref (b 12))]) hx hb dX6_moveAll_33 hl (k := 3) rfl (nI_1 _) (by decide) rfl (fun ls hl => ?_)
      refine lv_goto (tgt := 2) hx hb dX6_moveAll_36 (by decide) ?_
      have hP : va_P D vwCl (mdw cI cL b (enc co gu kn fo sp ki pl ea to qu) fd mo tr b1 tp tm so bg te wd va gd bo sz sh le im (fa_fill (enc co gu kn fo sp ki pl ea to qu) bf (i + 1)) ik) H := by rw [← fa_fill_succ (enc co gu kn fo sp ki pl ea to qu) bf i]; rw [hix] at hP; exact hP
      exact ih (n - 1) (by omega) (i + 1) H locs ls ⟨by omega, hP, hS, lv_sub hl [1, 2, 3, 0] rfl⟩

set_option maxRecDepth 100000 in
set_option maxHeartbeats 4000000 in
theorem k_X6_moveAll_bf0 (l : Launch) (D : va_G) (cI cL cS : ClassId) (b : Nat → Nat) (co gu : Int32) (kn fo sp ki pl ea to qu : FI) (fd : FI) (mo : FI) (tr : FI) (b1 : FI) (tp : FI) (tm : Int32) (so : Int32) (bg : Int32) (te : Int32) (wd : Int64) (va : Int32) (gd : Int32) (bo : FI) (sz : FI) (sh : FJ) (le : FJ) (im : FI) (ik : Int32) (co2 gu2 : Int32) (kn2 fo2 sp2 ki2 pl2 ea2 to2 qu2 : FI) (dj : va_D (fun _ => True) (dj0 b 13)) : Met l yX6_moveAll wsX6_moveAll { frames := 0, cells := 0, slots := 0, locals := 0 } (PcR D vwCl (tyG cI cL cS) [.ref (b 0), .int 0, .ref (b 12)] (mdw cI cL b (enc co gu kn fo sp ki pl ea to qu) fd mo tr b1 tp tm so bg te wd va gd bo sz sh le im (enc co2 gu2 kn2 fo2 sp2 ki2 pl2 ea2 to2 qu2) ik)) (va_Qv (fun (_ : Unit) => True) (fun _ t => va_P D vwCl (mdw cI cL b (enc co2 gu2 kn2 fo2 sp2 ki2 pl2 ea2 to2 qu2) fd mo tr b1 tp tm so bg te wd va gd bo sz sh le im (enc co2 gu2 kn2 fo2 sp2 ki2 pl2 ea2 to2 qu2) ik) t.heap) (Aof (mdw cI cL b (enc co gu kn fo sp ki pl ea to qu) fd mo tr b1 tp tm so bg te wd va gd bo sz sh le im (enc co2 gu2 kn2 fo2 sp2 ki2 pl2 ea2 to2 qu2) ik))) 0 0 (Aof (mdw cI cL b (enc co gu kn fo sp ki pl ea to qu) fd mo tr b1 tp tm so bg te wd va gd bo sz sh le im (enc co2 gu2 kn2 fo2 sp2 ki2 pl2 ea2 to2 qu2) ik)) := by
  refine Met.ofW (cc := cX6_moveAll) (maxL := 4) (ret := none) (by decide) rfl ?_
  intro p e s m args below meth c s₁ B hml hv
  obtain ⟨rfl, hP, hK⟩ := hv
  have hx := B.exec
  have hb := B.bytes
  have hr := B.returns
  have hts := atoms_spec (ws := wsX6_moveAll) B.pre
  have hown : s.vm.findClass RX6 = some m.cls := findClass_of_methodNamed B.named
  have hlocks := B.notSynchronized
  obtain ⟨A, hAe⟩ : ∃ A, A = Aof (mdw cI cL b (enc co gu kn fo sp ki pl ea to qu) fd mo tr b1 tp tm so bg te wd va gd bo sz sh le im (enc co2 gu2 kn2 fo2 sp2 ki2 pl2 ea2 to2 qu2) ik) := ⟨_, rfl⟩
  rw [← hAe]
  have hD : ∀ ws' : va_W, ws'.map Prod.fst = (mdw cI cL b (enc co gu kn fo sp ki pl ea to qu) fd mo tr b1 tp tm so bg te wd va gd bo sz sh le im (enc co2 gu2 kn2 fo2 sp2 ki2 pl2 ea2 to2 qu2) ik).map Prod.fst → va_D A ws' := fun ws' e => by rw [hAe]; exact va_D_adr (va_D_self (va_D_adr dj rfl)) e
  have hS : va_S A s.heap s.heap [] := va_S.rf
  have hP : va_P D vwCl (mdw cI cL b (enc co gu kn fo sp ki pl ea to qu) fd mo tr b1 tp tm so bg te wd va gd bo sz sh le im (enc co2 gu2 kn2 fo2 sp2 ki2 pl2 ea2 to2 qu2) ik) s.heap := hP
  have hl := lv_entry ([.ref (b 0), .int 0, .ref (b 12)]) (n := 4) (Nat.le_of_ble_eq_true rfl)
  rw [lg_entry_eq]
  generalize (lg_sl ([.ref (b 0), .int 0, .ref (b 12)]) ++ List.replicate (4 - (lg_sl ([.ref (b 0), .int 0, .ref (b 12)])).length) Slot.unset).toArray = ls at hl ⊢
  have hl : lv_has ls 4 [(0, .ref (b 0)), (1, .int 0), (2, .ref (b 12))] := hl
  have f7 := hts (.fieldLink RX6 7 "KnivesLaidModel" "row" "[I") (List.mem_of_getElem? (i := 1) rfl)
  have inX6 : ∀ w ∈ u_ws RX6 TX6 20, w ∈ wsX6_moveAll := in_at 2 _ _ rfl
  skip
  have hP : va_P D vwCl (mdw cI cL b (enc co gu kn fo sp ki pl ea to qu) fd mo tr b1 tp tm so bg te wd va gd bo sz sh le im (enc co2 gu2 kn2 fo2 sp2 ki2 pl2 ea2 to2 qu2) ik) s.heap := by exact hP
  have hP : va_P D vwCl (mdw cI cL b (fa_fill (enc co2 gu2 kn2 fo2 sp2 ki2 pl2 ea2 to2 qu2) (enc co gu kn fo sp ki pl ea to qu) 0) fd mo tr b1 tp tm so bg te wd va gd bo sz sh le im (enc co2 gu2 kn2 fo2 sp2 ki2 pl2 ea2 to2 qu2) ik) s.heap := by rw [fa_fill_0]; exact hP
  refine lv_iconst (v := 0) hx hb dX6_moveAll_0 (by decide) ?_
  refine lv_istore_n (lv' := [(3, .int 0), (0, .ref (b 0)), (1, .int 0), (2, .ref (b 12))]) hx hb dX6_moveAll_1 rfl hl (by decide) rfl (fun ls hl => ?_)
  refine lpW (fun n (u : Nat) H locs ls => (u + n = 72) ∧ va_P D vwCl (mdw cI cL b (fa_fill (enc co2 gu2 kn2 fo2 sp2 ki2 pl2 ea2 to2 qu2) (enc co gu kn fo sp ki pl ea to qu) u) fd mo tr b1 tp tm so bg te wd va gd bo sz sh le im (enc co2 gu2 kn2 fo2 sp2 ki2 pl2 ea2 to2 qu2) ik) H ∧ va_S A s.heap H locs ∧ lv_has ls 4 [(0, .ref (b 0)), (1, .int 0), (2, .ref (b 12)), (3, .int (nI u))]) (72) (0) ⟨by omega, hP, hS, lv_sub hl [1, 2, 3, 0] rfl⟩ (fun n ih u H locs ls hI => ?_)
  obtain ⟨i, rfl⟩ : ∃ z, z = u := ⟨_, rfl⟩
  obtain ⟨hi0, hP, hS, hl⟩ := hI
  have hi0 : i + n = 72 := hi0
  have hl : lv_has ls 4 [(0, .ref (b 0)), (1, .int 0), (2, .ref (b 12)), (3, .int (nI i))] := hl
  have hP : va_P D vwCl (mdw cI cL b (fa_fill (enc co2 gu2 kn2 fo2 sp2 ki2 pl2 ea2 to2 qu2) (enc co gu kn fo sp ki pl ea to qu) i) fd mo tr b1 tp tm so bg te wd va gd bo sz sh le im (enc co2 gu2 kn2 fo2 sp2 ki2 pl2 ea2 to2 qu2) ik) H := hP
  have hix : ix (nI i) = i := ix_nI (by omega)
  refine lv_iload_n hx hb dX6_moveAll_2 rfl (lv_at hl 3 rfl) ?_
  refine lv_bipush (v := 72) hx hb dX6_moveAll_3 (by decide) ?_
  refine lv_icmp_ge (tgt := 39) hx hb dX6_moveAll_5 (by decide) (fun c_1 => ?_) (fun c_1 => ?_)
  · skip
    have c_1n := (cmp_le (a := 72) (b := i) rfl rfl (by omega) (by omega)).mp c_1
    exact W.vret hx hb hr (fun t ht hW => ⟨⟨(), rfl, (by trivial), by dsimp only; rw [ht]; exact (va_P_rep (q0 := 1) hP rfl (arr_eq (fun j hj => fa_fill_in (by omega))))⟩, hS.F ht⟩) hS.2.2 dX6_moveAll_39
  · skip
    have c_1n := mt (cmp_le (a := 72) (b := i) rfl rfl (by omega) (by omega)).mpr c_1
    refine lv_iload_n hx hb dX6_moveAll_8 rfl (lv_at hl 1 rfl) ?_
    refine lv_if_eq (tgt := 24) hx hb dX6_moveAll_9 (by decide) (fun c_2 => ?_) (fun c_2 => ?_)
    · skip
      have c_2n := (cmp_eq (a := 0) (b := 0) rfl rfl (by omega) (by omega)).mp c_2
      refine lv_aload_n hx hb dX6_moveAll_24 rfl (lv_at hl 0 rfl) ?_
      refine va_get (ci := 4) (v := .ref (b 1)) (C := RX6) (T := TX6) (N := 20) hx hb hts inX6 hown hK hP 0 rfl rfl 0 (by decide) f7 (fun _ h9 => h9) rfl dX6_moveAll_25 ?_
      refine lv_iload_n hx hb dX6_moveAll_28 rfl (lv_at hl 3 rfl) ?_
      refine lv_aload_n hx hb dX6_moveAll_29 rfl (lv_at hl 2 rfl) ?_
      refine lv_iload_n hx hb dX6_moveAll_30 rfl (lv_at hl 3 rfl) ?_
      refine va_iald hx hb hK hP 12 0 rfl rfl (vp_in_nI (by omega) (by omega)) dX6_moveAll_31 ?_
      refine va_iast hx hb hK hP (hD _ rfl) hS 1 0 rfl rfl (vp_in_nI (by omega) (by omega)) dX6_moveAll_32 (fun H locs hP _ hS => ?_)
      have hP : va_P D vwCl (mdw cI cL b (upd (fa_fill (enc co2 gu2 kn2 fo2 sp2 ki2 pl2 ea2 to2 qu2) (enc co gu kn fo sp ki pl ea to qu) i) (ix (nI i)) ((enc co2 gu2 kn2 fo2 sp2 ki2 pl2 ea2 to2 qu2) (ix (nI i)))) fd mo tr b1 tp tm so bg te wd va gd bo sz sh le im (enc co2 gu2 kn2 fo2 sp2 ki2 pl2 ea2 to2 qu2) ik) H := hP
      refine lv_iinc (v := nI (i + 1)) (lv' := [(3, .int (nI (i + 1))), (0, .ref (b 0)), (1, .int 0), (2, .ref (b 12))]) hx hb dX6_moveAll_33 hl (k := 3) rfl (nI_1 _) (by decide) rfl (fun ls hl => ?_)
      refine lv_goto (tgt := 2) hx hb dX6_moveAll_36 (by decide) ?_
      have hP : va_P D vwCl (mdw cI cL b (fa_fill (enc co2 gu2 kn2 fo2 sp2 ki2 pl2 ea2 to2 qu2) (enc co gu kn fo sp ki pl ea to qu) (i + 1)) fd mo tr b1 tp tm so bg te wd va gd bo sz sh le im (enc co2 gu2 kn2 fo2 sp2 ki2 pl2 ea2 to2 qu2) ik) H := by rw [← fa_fill_succ (enc co2 gu2 kn2 fo2 sp2 ki2 pl2 ea2 to2 qu2) (enc co gu kn fo sp ki pl ea to qu) i]; rw [hix] at hP; exact hP
      exact ih (n - 1) (by omega) (i + 1) H locs ls ⟨by omega, hP, hS, lv_sub hl [1, 2, 3, 0] rfl⟩
    · skip
      have c_2n := mt (cmp_eq (a := 0) (b := 0) rfl rfl (by omega) (by omega)).mpr c_2
      exact absurd rfl c_2
