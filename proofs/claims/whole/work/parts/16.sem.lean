/-! looking ahead for the first -/
noncomputable def sSeek (P : Nat → Prop) : Nat → Nat → Int32
  | _, 0 => -1000000004
  | a, k + 1 => iF (P a) (nI a) (sSeek P (a + 1) k)
theorem seek_t {P : Nat → Prop} {a n : Nat} (hn : 0 < n) (h : P a) : sSeek P a n = nI a := by
  obtain ⟨k, rfl⟩ : ∃ k, n = k + 1 := ⟨n - 1, by omega⟩
  exact iF_t h
theorem seek_f {P : Nat → Prop} {a n : Nat} (hn : 0 < n) (h : ¬ P a) : sSeek P a n = sSeek P (a + 1) (n - 1) := by
  obtain ⟨k, rfl⟩ : ∃ k, n = k + 1 := ⟨n - 1, by omega⟩
  exact iF_f h
noncomputable def sEnd (r : Int32) (fd : FI) : Int32 × FI := (r, if r = -1000000004 then bump fd (-1000000004) else fd)
theorem end_no (fd : FI) : (((-1000000004) : Int32), bump fd (-1000000004)) = sEnd (-1000000004) fd := by
  unfold sEnd; rw [if_pos rfl]
theorem end_ok {i : Nat} (hi : i < 2 ^ 31) (fd : FI) : (nI i, fd) = sEnd (nI i) fd := by
  unfold sEnd
  rw [if_neg]
  intro e
  have h := nI_toInt hi
  rw [e] at h
  have e2 : (-1000000004 : Int32).toInt = -1000000004 := by decide
  omega
abbrev pPeace (σ : Sg) (n : Nat) : Prop := sSoreS (sPass n σ) = 0
noncomputable def sPeace (σ : Sg) (fd : FI) : Int32 × FI := sEnd (sSeek (pPeace σ) 0 101) fd
abbrev pTells (σ : Sg) (g : Int32) (n : Nat) : Prop := sTells (sSp (sPass (n - 1) σ)) (sKi (sPass (n - 1) σ)) (sPl (sPass (n - 1) σ)) (sEa (sPass (n - 1) σ)) (ix g)
noncomputable def sTellsA (σ : Sg) (fd : FI) (g : Int32) : Int32 × FI := iF (sOne σ g) (sEnd (sSeek (pTells σ g) 1 100) fd) (-1000000001, bump fd (-1000000001))
abbrev pQuar (σ : Sg) (g : Int32) (n : Nat) : Prop := ¬ sQu (sPass n σ) (ix g) = sQu σ (ix g)
noncomputable def sQuar (σ : Sg) (fd : FI) (g : Int32) : Int32 × FI := iF (sOne σ g) (sEnd (sSeek (pQuar σ g) 1 100) fd) (-1000000001, bump fd (-1000000001))
theorem quar_mono {σ : Sg} {w : FI} (h : okS σ w) {g : Nat} (hg : g < 8) : ∀ n, (sQu σ g).toInt ≤ (sQu (sPass n σ) g).toInt
  | 0 => Int.le_refl _
  | n + 1 => by
    have ih := quar_mono h hg n
    refine Int.le_trans ih ?_
    have hk := (okS_pass h n).2 g hg
    have hg9 := (okS_pass h n).1.gu
    show _ ≤ (cQu (sGu (sPass n σ)) (sKi (sPass n σ)) (sPl (sPass n σ)) _ (sQu (sPass n σ)) g).toInt
    unfold cQu
    by_cases hi : g < ix (sGu (sPass n σ))
    · rw [fa_fill_in hi]
      unfold fQu
      generalize cEa (sGu (sPass n σ)) (sKn (sPass n σ)) (sFo (sPass n σ)) (sSp (sPass n σ)) (sKi (sPass n σ)) (sPl (sPass n σ)) (sEa (sPass n σ)) = ea
      have hb : ∀ x : Int32, 0 ≤ x.toInt → x.toInt ≤ 8 → (sQu (sPass n σ) g).toInt ≤ (sHeld (sQu (sPass n σ) g + x) 0 9999).toInt := by
        intro x h0 h8
        have e := fb_addI (x := sQu (sPass n σ) g) (y := x) (by omega) (by omega)
        have a1 : (0 : Int32).toInt = 0 := by decide
        have a2 : (9999 : Int32).toInt = 9999 := by decide
        unfold sHeld
        rw [if_neg (by rw [fa_lt]; omega)]
        by_cases h9 : 9999 < sQu (sPass n σ) g + x
        · rw [if_pos h9]; omega
        · rw [if_neg h9]; omega
      by_cases hc : sSet (sSores (sKi (sPass n σ)) ea) (ix (sGu (sPass n σ))) >>> (nI g &&& 31) &&& 1 = 1
      · rw [if_pos hc]
        obtain ⟨k, hk, ek⟩ := and_small (y := sSet (sSores (sKi (sPass n σ)) ea) (ix (sGu (sPass n σ)))) (near_in hg9 (sPl (sPass n σ)) g)
        rw [ek]
        exact hb _ (pop_in k hk).1 (pop_in k hk).2
      · rw [if_neg hc]
        exact hb 0 (by decide) (by decide)
    · rw [fa_fill_out (by omega)]
      exact Int.le_refl _
theorem quar_le {σ : Sg} {w : FI} (h : okS σ w) {x : Int32} (hx : vp_in x 8) (n : Nat) : sQu (sPass n σ) (ix x) ≤ sQu σ (ix x) ↔ sQu (sPass n σ) (ix x) = sQu σ (ix x) := by
  have := quar_mono h (ix_lt (by decide) hx) n
  rw [fa_le, fa_eq]
  omega
