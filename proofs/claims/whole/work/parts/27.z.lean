section
variable {p : Program} {l : Launch} {e : Env} {R : Room} {s : State} {m : MethodId} {args : Array Value} {below : List Frame} {meth : Method} {c : Code} {H : Heap} {locs : List Loc} {cells slots : Nat} {Q : State → Prop} {pc : Nat} {ls : Array Slot} {rest : List Value}
theorem lv_toL {x y : Int64} (h : x = y) (k : W p l e R s m args below meth c H locs cells slots Q (F0 m pc ls (.long y :: rest))) : W p l e R s m args below meth c H locs cells slots Q (F0 m pc ls (.long x :: rest)) := by rw [h]; exact k
end
theorem flat_rd {num : Nat → FJ} {s i : Int32} (hs : vp_in s 4) (hi : vp_in i 40) : flat4 num (ix (40 * s + i)) = num (ix s) (ix i) := by
  rw [(ix40 hs hi).1]; exact flat_at (ix_lt (by decide) hi)
theorem flat_wr {num : Nat → FJ} {s i : Int32} {v : Int64} (hs : vp_in s 4) (hi : vp_in i 40) : vp_updL (flat4 num) (ix (40 * s + i)) v = flat4 (va_up num (ix s) (vp_updL (num (ix s)) (ix i) v)) := by
  rw [(ix40 hs hi).1]; exact flat_up (ix_lt (by decide) hi)
theorem flat_step {num : Nat → FJ} {F : FJ} {s : Int32} {i : Nat} (hs : vp_in s 4) (hi : i < 40) : vp_updL (flat4 (va_up num (ix s) (fa_fill F (num (ix s)) i))) (ix (40 * s + nI i)) (F i) = flat4 (va_up num (ix s) (fa_fill F (num (ix s)) (i + 1))) := by
  rw [flat_wr hs (vp_in_nI hi (by decide)), bx_uu, va_up_self, ix_nI (by omega), fillL_succ]
theorem flat_end {num : Nat → FJ} {F g : FJ} {s : Nat} : flat4 (va_up num s (fa_fill F g 40)) = flat4 (va_up num s F) := by
  funext k
  unfold flat4
  by_cases h : k / 40 = s
  · rw [h, va_up_self, va_up_self]; exact fa_fill_in (by omega)
  · rw [va_up_ne _ _ h, va_up_ne _ _ h]
noncomputable def sBad (bits : FI) (s : Int32) : Int32 := iF (vp_in s 4) (iF (bits (ix s) = 0) (-1000000006) 0) (-1000000001)
theorem bad_0 {bits : FI} {s : Int32} (h : sBad bits s = 0) : vp_in s 4 ∧ ¬ bits (ix s) = 0 := by
  unfold sBad at h
  by_cases h1 : vp_in s 4
  · rw [iF_t h1] at h
    by_cases h2 : bits (ix s) = 0
    · rw [iF_t h2] at h; exact absurd h (by decide)
    · exact ⟨h1, h2⟩
  · rw [iF_f h1] at h; exact absurd h (by decide)
theorem bad_in {bits : FI} {s : Int32} (h : ¬ sBad bits s = 0) : vp_in ((-1000000001) - sBad bits s) 7 := by
  unfold sBad at h ⊢
  by_cases h1 : vp_in s 4
  · rw [iF_t h1] at h ⊢
    by_cases h2 : bits (ix s) = 0
    · rw [iF_t h2]; exact vp_in_iff.mpr (by decide)
    · rw [iF_f h2] at h; exact absurd rfl h
  · rw [iF_f h1]; exact vp_in_iff.mpr (by decide)
theorem bad_lays {bits size : FI} {num : Nat → FJ} {σ : Sg} {fd : FI} {s : Int32} (h : ¬ sBad bits s = 0) : (sBad bits s, σ, bump fd (sBad bits s)) = sLays bits size num σ fd s := by
  unfold sBad at h ⊢
  unfold sLays
  by_cases h1 : vp_in s 4
  · rw [iF_t h1] at h ⊢
    by_cases h2 : bits (ix s) = 0
    · rw [iF_t h2, iF_t h1, iF_t h2]
    · rw [iF_f h2] at h; exact absurd rfl h
  · rw [iF_f h1, iF_f h1]
theorem bad_fob {bits : FI} {σ : Sg} {s g : Int32} (h : ¬ sBad bits s = 0) : sFob bits σ s g = sBad bits s ∧ ¬ sFob bits σ s g = 0 := by
  unfold sBad at h
  unfold sFob sBad
  by_cases h1 : vp_in s 4
  · rw [iF_t h1] at h
    by_cases h2 : bits (ix s) = 0
    · rw [iF_t h1, iF_t h2, iF_t h1, iF_t h2]; exact ⟨rfl, by decide⟩
    · rw [iF_f h2] at h; exact absurd rfl h
  · rw [iF_f h1, iF_f h1]; exact ⟨rfl, by decide⟩
theorem fob_one {bits : FI} {σ : Sg} {s g : Int32} (h : vp_in s 4 ∧ ¬ bits (ix s) = 0) : (sOne σ g → sFob bits σ s g = 0) ∧ (¬ sOne σ g → sFob bits σ s g = -1000000001) := by
  unfold sFob
  rw [iF_t h.1, iF_f h.2]
  exact ⟨fun q => iF_t q, fun q => iF_f q⟩
theorem cpy_0 {f g : FJ} {a c : Nat} : va_cpy f g a c 0 = g := by
  funext k; exact pk_cpy_out (by omega)
theorem cpy_s {f g : FJ} {a c i : Nat} : vp_updL (va_cpy f g a c i) (c + i) (f (a + i)) = va_cpy f g a c (i + 1) := by
  funext k
  by_cases h : k = c + i
  · subst h; rw [pk_uLs, pk_cpy_in (by omega) (by omega), show a + (c + i - c) = a + i by omega]
  · rw [pk_uLn h]
    by_cases h2 : c ≤ k ∧ k < c + i
    · rw [pk_cpy_in h2.1 h2.2, pk_cpy_in h2.1 (by omega)]
    · rw [pk_cpy_out (by omega), pk_cpy_out (by omega)]
theorem ix43 {s f i : Int32} (hs : vp_in s 4) (hf : vp_in f 41) (hi : vp_in i 41) (h : ix f + ix i < 40) : ix (40 * s + f + i) = 40 * ix s + (ix f + ix i) ∧ vp_in (40 * s + f + i) 160 := by
  obtain ⟨a, ha, rfl⟩ := vp_in_of hs (by decide)
  obtain ⟨c, hc, rfl⟩ := vp_in_of hf (by decide)
  obtain ⟨d, hd, rfl⟩ := vp_in_of hi (by decide)
  rw [ix_nI (by omega), ix_nI (by omega)] at h
  have e : (40 : Int32) * nI a + nI c + nI d = nI (40 * a + c + d) := by
    rw [show (40 : Int32) = nI 40 from rfl, pk_mul, nI_add, nI_add]
  rw [e, ix_nI (by omega), ix_nI (by omega), ix_nI (by omega), ix_nI (by omega)]
  exact ⟨by omega, vp_in_nI (by omega) (by omega)⟩
theorem flat_rd3 {num : Nat → FJ} {s f i : Int32} (hs : vp_in s 4) (hf : vp_in f 41) (hi : vp_in i 41) (h : ix f + ix i < 40) : flat4 num (ix (40 * s + f + i)) = num (ix s) (ix f + ix i) := by
  rw [(ix43 hs hf hi h).1]; exact flat_at h
theorem flat_wr3 {num : Nat → FJ} {s f i : Int32} {v : Int64} (hs : vp_in s 4) (hf : vp_in f 41) (hi : vp_in i 41) (h : ix f + ix i < 40) : vp_updL (flat4 num) (ix (40 * s + f + i)) v = flat4 (va_up num (ix s) (vp_updL (num (ix s)) (ix f + ix i) v)) := by
  rw [(ix43 hs hf hi h).1]; exact flat_up h
theorem so_step {nu : FJ} {σ : Sg} {g z : Int32} {i : Nat} (h : z = bI (∀ k, k < i → nu k = (sEa (sPass k σ) (ix g)).toInt64)) (hz : ¬ z = 0) : (if lg_cmp (nu i) (sEa (sPass i σ) (ix g)).toInt64 = 0 then 1 else 0 : Int32) = bI (∀ k, k < i + 1 → nu k = (sEa (sPass k σ) (ix g)).toInt64) := by
  rw [h] at hz
  have hb := bI_n hz
  by_cases c : nu i = (sEa (sPass i σ) (ix g)).toInt64
  · rw [if_pos ((lg_cmp_eq _ _).mpr c), bI_t (lt_s hb c)]
  · rw [if_neg (mt (lg_cmp_eq _ _).mp c), bI_f (fun q => c (q i (Nat.lt_succ_self i)))]
theorem cnt_if {P : Nat → Prop} {n : Nat} {z : Int32} (h : z = cntF P n) : z + (if bI (P n) = 0 then 0 else 1 : Int32) = cntF P (n + 1) := by
  by_cases c : P n
  · rw [bI_t c, if_neg (by decide)]; exact cnt_t h c
  · rw [bI_f c, if_pos rfl, Int32.add_zero]; exact cnt_f h c
theorem so_end {nu : FJ} {z : Int32} {i N : Nat} {F : FJ} (h : z = bI (∀ k, k < i → nu k = F k)) (hz : z = 0) (hi : i ≤ N) : z = bI (∀ k, k < N → nu k = F k) := by
  rw [h] at hz
  have := bI_0 hz
  rw [h, bI_f this, bI_f (fun q => this (fun k hk => q k (by omega)))]
