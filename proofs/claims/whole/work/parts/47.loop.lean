set_option maxRecDepth 100000 in
set_option maxHeartbeats 8000000 in
theorem law_loop {p : Program} {l : Launch} {e : Env} {s : State} {m : MethodId} {below : List Frame} {meth : Method} {c : Code} {a L : Nat} {xs : Nat → Int32} (hL : L ≤ 3072) (C0 : lw_At p s m meth c a L xs) {D : va_G} {cI cL cS : ClassId} {b : Nat → Nat → Nat} {bm ad av : Nat → Nat} {fm : Option Nat} (hK : va_K D vwCl (tyG cI cL cS) s) (hD0 : va_D (fun q : Nat => s.heap.size ≤ q) (djk b ++ dj0 bm 13)) (hZ : SX ad av fm (fun q : Nat => s.heap.size ≤ q) s s.heap) : ∀ (n i : Nat), i ≤ L → L + 1 ≤ i + n → ∀ (H : Heap) (locs : List Loc) (ls : Array Slot), LW D cI cL cS b bm H → va_S (fun q : Nat => s.heap.size ≤ q) s.heap H locs → lv_has ls 4 [(3, .int (nI i)), (2, .ref (bm 0)), (1, .ref (b 0 0)), (0, .ref a)] → W p l e room_1 s m #[Value.ref a] below meth c H locs 62 1366 (lw_Z below #[Value.ref a] s) (F0 m 18 ls []) := by
  obtain ⟨hx, hb, hr, hml, hown, hts0, hX, hbl, hlocks, hgv⟩ := id C0
  have hbA : ¬ (fun q : Nat => s.heap.size ≤ q) a := Nat.not_le.mpr hbl
  intro n
  induction n with
  | zero =>
    intro i h1 h2
    exact absurd h2 (by omega)
  | succ n ih =>
    intro i hi0 hin H locs ls hI hS hl
    refine lv_iload_n hx hb dL_law_18 rfl (lv_at hl 0 rfl) ?_
    refine lv_aload_n hx hb dL_law_19 rfl (lv_at hl 3 rfl) ?_
    refine va_slen hx hb hX hbl hbA hS dL_law_20 ?_
    refine lv_bipush (v := 6) hx hb dL_law_21 (by decide) ?_
    refine lv_isub hx hb dL_law_23 ?_
    refine lv_icmp_gt (tgt := 1287) hx hb dL_law_24 (by decide) (fun q1 => ?_) (fun q1 => ?_)
    · refine lv_iconst (v := 1) hx hb dL_law_1287 (by decide) ?_
      refine va_forget (fun q hq => hS.2.2 q hq) ?_
      refine W.widen (k := 600000) (n := 7302250) (Nat.le_of_ble_eq_true rfl) (Nat.le_of_ble_eq_true rfl) ?_
      exact lw_ret hx hb hr hlocks dL_law_1288
    · have hi : i + 6 ≤ L := Classical.not_not.mp (fun z => q1 ((sx_go (by omega) hL).mpr z))
      have kk : ∀ (H : Heap) (locs : List Loc), LW D cI cL cS b bm H → va_S (fun q : Nat => s.heap.size ≤ q) s.heap H locs → W p l e room_1 s m #[Value.ref a] below meth c H locs 62 1366 (lw_Z below #[Value.ref a] s) (F0 m 1281 ls []) := by
        intro H locs hI hS
        refine lv_iinc (v := nI (i + 6)) (lv' := [(3, .int (nI (i + 6))), (2, .ref (bm 0)), (1, .ref (b 0 0)), (0, .ref a)]) hx hb dL_law_1281 hl (k := 0) rfl (nI_add i 6) (by decide) rfl (fun ls hl => ?_)
        refine lv_goto (tgt := 18) hx hb dL_law_1284 (by decide) ?_
        exact ih (i + 6) hi (by omega) H locs ls hI hS hl
      refine lv_aload_n hx hb dL_law_27 rfl (lv_at hl 3 rfl) ?_
      refine lv_iload_n hx hb dL_law_28 rfl (lv_at hl 0 rfl) ?_
      refine va_sld hx hb hX hbl hbA hS (vp_in_nI (by omega) (by omega)) dL_law_29 ?_
      refine lv_bipush (v := 63) hx hb dL_law_30 (by decide) ?_
      refine lv_iand hx hb dL_law_32 ?_
      generalize (xs (ix (nI i)) &&& 63) = z
      by_cases c0 : z = 0
      · refine lv_tableIn (tgt := 192) hx hb dL_law_33 (by rw [c0]; decide) (by rw [c0]; decide) (by rw [c0]; rfl) (by decide) ?_
        exact law_lay hL C0 hK hD0 hZ hI hS hi hl kk
      by_cases c1 : z = 1
      · refine lv_tableIn (tgt := 235) hx hb dL_law_33 (by rw [c1]; decide) (by rw [c1]; decide) (by rw [c1]; rfl) (by decide) ?_
        exact law_place hL C0 hK hD0 hZ hI hS hi hl kk
      by_cases c2 : z = 2
      · refine lv_tableIn (tgt := 268) hx hb dL_law_33 (by rw [c2]; decide) (by rw [c2]; decide) (by rw [c2]; rfl) (by decide) ?_
        exact law_now hL C0 hK hD0 hZ hI hS hi hl kk
      by_cases c3 : z = 3
      · refine lv_tableIn (tgt := 291) hx hb dL_law_33 (by rw [c3]; decide) (by rw [c3]; decide) (by rw [c3]; rfl) (by decide) ?_
        exact law_guest hL C0 hK hD0 hZ hI hS hi hl kk
      by_cases c4 : z = 4
      · refine lv_tableIn (tgt := 324) hx hb dL_law_33 (by rw [c4]; decide) (by rw [c4]; decide) (by rw [c4]; rfl) (by decide) ?_
        exact law_of hL C0 hK hD0 hZ hI hS hi hl kk
      by_cases c5 : z = 5
      · refine lv_tableIn (tgt := 357) hx hb dL_law_33 (by rw [c5]; decide) (by rw [c5]; decide) (by rw [c5]; rfl) (by decide) ?_
        exact law_set hL C0 hK hD0 hZ hI hS hi hl kk
      by_cases c6 : z = 6
      · refine lv_tableIn (tgt := 400) hx hb dL_law_33 (by rw [c6]; decide) (by rw [c6]; decide) (by rw [c6]; rfl) (by decide) ?_
        exact law_seat hL C0 hK hD0 hZ hI hS hi hl kk
      by_cases c7 : z = 7
      · refine lv_tableIn (tgt := 433) hx hb dL_law_33 (by rw [c7]; decide) (by rw [c7]; decide) (by rw [c7]; rfl) (by decide) ?_
        exact law_swap hL C0 hK hD0 hZ hI hS hi hl kk
      by_cases c8 : z = 8
      · refine lv_tableIn (tgt := 466) hx hb dL_law_33 (by rw [c8]; decide) (by rw [c8]; decide) (by rw [c8]; rfl) (by decide) ?_
        exact law_turn hL C0 hK hD0 hZ hI hS hi hl kk
      by_cases c9 : z = 9
      · refine lv_tableIn (tgt := 499) hx hb dL_law_33 (by rw [c9]; decide) (by rw [c9]; decide) (by rw [c9]; rfl) (by decide) ?_
        exact law_as hL C0 hK hD0 hZ hI hS hi hl kk
      by_cases c10 : z = 10
      · refine lv_tableIn (tgt := 532) hx hb dL_law_33 (by rw [c10]; decide) (by rw [c10]; decide) (by rw [c10]; rfl) (by decide) ?_
        exact law_courses hL C0 hK hD0 hZ hI hS hi hl kk
      by_cases c11 : z = 11
      · refine lv_tableIn (tgt := 555) hx hb dL_law_33 (by rw [c11]; decide) (by rw [c11]; decide) (by rw [c11]; rfl) (by decide) ?_
        exact law_on hL C0 hK hD0 hZ hI hS hi hl kk
      by_cases c12 : z = 12
      · refine lv_tableIn (tgt := 598) hx hb dL_law_33 (by rw [c12]; decide) (by rw [c12]; decide) (by rw [c12]; rfl) (by decide) ?_
        exact law_mood hL C0 hK hD0 hZ hI hS hi hl kk
      by_cases c13 : z = 13
      · refine lv_tableIn (tgt := 621) hx hb dL_law_33 (by rw [c13]; decide) (by rw [c13]; decide) (by rw [c13]; rfl) (by decide) ?_
        exact law_peace hL C0 hK hD0 hZ hI hS hi hl kk
      by_cases c14 : z = 14
      · refine lv_tableIn (tgt := 634) hx hb dL_law_33 (by rw [c14]; decide) (by rw [c14]; decide) (by rw [c14]; rfl) (by decide) ?_
        exact law_tells hL C0 hK hD0 hZ hI hS hi hl kk
      by_cases c15 : z = 15
      · refine lv_tableIn (tgt := 657) hx hb dL_law_33 (by rw [c15]; decide) (by rw [c15]; decide) (by rw [c15]; rfl) (by decide) ?_
        exact law_quarrels hL C0 hK hD0 hZ hI hS hi hl kk
      by_cases c16 : z = 16
      · refine lv_tableIn (tgt := 680) hx hb dL_law_33 (by rw [c16]; decide) (by rw [c16]; decide) (by rw [c16]; rfl) (by decide) ?_
        exact law_best hL C0 hK hD0 hZ hI hS hi hl kk
      by_cases c17 : z = 17
      · refine lv_tableIn (tgt := 713) hx hb dL_law_33 (by rw [c17]; decide) (by rw [c17]; decide) (by rw [c17]; rfl) (by decide) ?_
        exact law_laid hL C0 hK hD0 hZ hI hS hi hl kk
      by_cases c18 : z = 18
      · refine lv_tableIn (tgt := 746) hx hb dL_law_33 (by rw [c18]; decide) (by rw [c18]; decide) (by rw [c18]; rfl) (by decide) ?_
        exact law_knife hL C0 hK hD0 hZ hI hS hi hl kk
      by_cases c19 : z = 19
      · refine lv_tableIn (tgt := 769) hx hb dL_law_33 (by rw [c19]; decide) (by rw [c19]; decide) (by rw [c19]; rfl) (by decide) ?_
        exact law_kind hL C0 hK hD0 hZ hI hS hi hl kk
      by_cases c20 : z = 20
      · refine lv_tableIn (tgt := 802) hx hb dL_law_33 (by rw [c20]; decide) (by rw [c20]; decide) (by rw [c20]; rfl) (by decide) ?_
        exact law_spoon hL C0 hK hD0 hZ hI hS hi hl kk
      by_cases c21 : z = 21
      · refine lv_tableIn (tgt := 845) hx hb dL_law_33 (by rw [c21]; decide) (by rw [c21]; decide) (by rw [c21]; rfl) (by decide) ?_
        exact law_change hL C0 hK hD0 hZ hI hS hi hl kk
      by_cases c22 : z = 22
      · refine lv_tableIn (tgt := 868) hx hb dL_law_33 (by rw [c22]; decide) (by rw [c22]; decide) (by rw [c22]; rfl) (by decide) ?_
        exact law_feed hL C0 hK hD0 hZ hI hS hi hl kk
      by_cases c23 : z = 23
      · refine lv_tableIn (tgt := 901) hx hb dL_law_33 (by rw [c23]; decide) (by rw [c23]; decide) (by rw [c23]; rfl) (by decide) ?_
        exact law_wipe hL C0 hK hD0 hZ hI hS hi hl kk
      by_cases c24 : z = 24
      · refine lv_tableIn (tgt := 914) hx hb dL_law_33 (by rw [c24]; decide) (by rw [c24]; decide) (by rw [c24]; rfl) (by decide) ?_
        exact law_dinner hL C0 hK hD0 hZ hI hS hi hl kk
      by_cases c25 : z = 25
      · refine lv_tableIn (tgt := 927) hx hb dL_law_33 (by rw [c25]; decide) (by rw [c25]; decide) (by rw [c25]; rfl) (by decide) ?_
        exact law_sheet hL C0 hK hD0 hZ hI hS hi hl kk
      by_cases c26 : z = 26
      · refine lv_tableIn (tgt := 970) hx hb dL_law_33 (by rw [c26]; decide) (by rw [c26]; decide) (by rw [c26]; rfl) (by decide) ?_
        exact law_write hL C0 hK hD0 hZ hI hS hi hl kk
      by_cases c27 : z = 27
      · refine lv_tableIn (tgt := 1044) hx hb dL_law_33 (by rw [c27]; decide) (by rw [c27]; decide) (by rw [c27]; rfl) (by decide) ?_
        exact law_copy hL C0 hK hD0 hZ hI hS hi hl kk
      by_cases c28 : z = 28
      · refine lv_tableIn (tgt := 1107) hx hb dL_law_33 (by rw [c28]; decide) (by rw [c28]; decide) (by rw [c28]; rfl) (by decide) ?_
        exact law_lays hL C0 hK hD0 hZ hI hS hi hl kk
      by_cases c29 : z = 29
      · refine lv_tableIn (tgt := 1130) hx hb dL_law_33 (by rw [c29]; decide) (by rw [c29]; decide) (by rw [c29]; rfl) (by decide) ?_
        exact law_book hL C0 hK hD0 hZ hI hS hi hl kk
      by_cases c30 : z = 30
      · refine lv_tableIn (tgt := 1163) hx hb dL_law_33 (by rw [c30]; decide) (by rw [c30]; decide) (by rw [c30]; rfl) (by decide) ?_
        exact law_read hL C0 hK hD0 hZ hI hS hi hl kk
      by_cases c31 : z = 31
      · refine lv_tableIn (tgt := 1196) hx hb dL_law_33 (by rw [c31]; decide) (by rw [c31]; decide) (by rw [c31]; rfl) (by decide) ?_
        exact law_image hL C0 hK hD0 hZ hI hS hi hl kk
      by_cases c32 : z = 32
      · refine lv_tableIn (tgt := 1209) hx hb dL_law_33 (by rw [c32]; decide) (by rw [c32]; decide) (by rw [c32]; rfl) (by decide) ?_
        exact law_undo hL C0 hK hD0 hZ hI hS hi hl kk
      by_cases c33 : z = 33
      · refine lv_tableIn (tgt := 1222) hx hb dL_law_33 (by rw [c33]; decide) (by rw [c33]; decide) (by rw [c33]; rfl) (by decide) ?_
        exact law_tear hL C0 hK hD0 hZ hI hS hi hl kk
      by_cases c34 : z = 34
      · refine lv_tableIn (tgt := 1235) hx hb dL_law_33 (by rw [c34]; decide) (by rw [c34]; decide) (by rw [c34]; rfl) (by decide) ?_
        exact law_count hL C0 hK hD0 hZ hI hS hi hl kk
      by_cases c35 : z = 35
      · refine lv_tableIn (tgt := 1258) hx hb dL_law_33 (by rw [c35]; decide) (by rw [c35]; decide) (by rw [c35]; rfl) (by decide) ?_
        exact law_status hL C0 hK hD0 hZ hI hS hi hl kk
      refine lv_tableOut (tgt := 1281) hx hb dL_law_33 (by have := lv_neT c0 (a := 0) rfl; have := lv_neT c1 (a := 1) rfl; have := lv_neT c2 (a := 2) rfl; have := lv_neT c3 (a := 3) rfl; have := lv_neT c4 (a := 4) rfl; have := lv_neT c5 (a := 5) rfl; have := lv_neT c6 (a := 6) rfl; have := lv_neT c7 (a := 7) rfl; have := lv_neT c8 (a := 8) rfl; have := lv_neT c9 (a := 9) rfl; have := lv_neT c10 (a := 10) rfl; have := lv_neT c11 (a := 11) rfl; have := lv_neT c12 (a := 12) rfl; have := lv_neT c13 (a := 13) rfl; have := lv_neT c14 (a := 14) rfl; have := lv_neT c15 (a := 15) rfl; have := lv_neT c16 (a := 16) rfl; have := lv_neT c17 (a := 17) rfl; have := lv_neT c18 (a := 18) rfl; have := lv_neT c19 (a := 19) rfl; have := lv_neT c20 (a := 20) rfl; have := lv_neT c21 (a := 21) rfl; have := lv_neT c22 (a := 22) rfl; have := lv_neT c23 (a := 23) rfl; have := lv_neT c24 (a := 24) rfl; have := lv_neT c25 (a := 25) rfl; have := lv_neT c26 (a := 26) rfl; have := lv_neT c27 (a := 27) rfl; have := lv_neT c28 (a := 28) rfl; have := lv_neT c29 (a := 29) rfl; have := lv_neT c30 (a := 30) rfl; have := lv_neT c31 (a := 31) rfl; have := lv_neT c32 (a := 32) rfl; have := lv_neT c33 (a := 33) rfl; have := lv_neT c34 (a := 34) rfl; have := lv_neT c35 (a := 35) rfl; omega) (by decide) ?_
      exact kk H locs hI hS
