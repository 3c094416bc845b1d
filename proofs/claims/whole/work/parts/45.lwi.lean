/-! THE LAW: what holds at the head of its loop -/
def LW (D : va_G) (cI cL cS : ClassId) (b : Nat → Nat → Nat) (bm : Nat → Nat) (H : Heap) : Prop :=
  ∃ (s1 : Sg) (w1 m1 n1 : FI) (s2 : Sg) (w2 m2 n2 : FI) (s3 : Sg) (w3 m3 n3 : FI) (ik : Int32) (bt : FI) (ln tk sb en nm : Int32) (bits size : FI) (num : Nat → FJ) (fnd : FI) (mo tr b1 : FI) (so bg te : Int32) (wd : Int64) (va gd : Int32) (le : FJ) (im bf : FI),
    va_P D vwCl (kcw cI cL cS b s1 w1 m1 n1 s2 w2 m2 n2 s3 w3 m3 n3 ik bt ln tk sb en nm bits size num fnd ++ mdw cI cL bm (encS s1) fnd mo tr b1 bt ln so bg te wd va gd bits size (flat4 num) le im bf ik) H ∧ okS s1 w1 ∧ okS s3 w3 ∧ okH bits size ∧ vp_in ln 121 ∧ (∀ j, ¬ bt j < 0) ∧ (¬ ik = 0 → im = encS s3)
theorem b255 (x : Int32) : ¬ (x &&& 255) < 0 := by
  have h := pk_andIn x (m := 255) 8 (by decide) (by decide)
  rw [vp_in_iff] at h
  rw [fa_lt, show (0 : Int32).toInt = 0 from by decide]
  omega
theorem sFd_B {x : Int32} : ∀ {k : Nat} {bt : FI} {ln : Int32}, (∀ j, ¬ bt j < 0) → ∀ j, ¬ (sFd x k bt ln).1 j < 0
  | 0, _, _, h => h
  | k + 1, bt, ln, h => by
    refine sFd_B (k := k) (fun j => ?_)
    by_cases e : j = ix ln
    · subst e; rw [pk_us]; exact b255 _
    · rw [pk_un e]; exact h j
theorem feed_B {bt bt' : FI} {ln ln' : Int32} {fd fd' : FI} {x n r : Int32} (h : (r, bt', ln', fd') = sFeed bt ln fd x n) (hB : ∀ j, ¬ bt j < 0) : ∀ j, ¬ bt' j < 0 := by
  unfold sFeed at h
  by_cases h1 : ¬ n < 1 ∧ ¬ 4 < n
  · rw [iF_t h1] at h
    by_cases h2 : 120 < ln + n
    · rw [iF_t h2] at h; cases h; exact hB
    · rw [iF_f h2] at h
      have e : bt' = (sFd x (ix n) bt ln).1 := congrArg (fun z => z.2.1) h
      rw [e]; exact sFd_B hB
  · rw [iF_f h1] at h; cases h; exact hB
theorem sheet_H {bits size bits' size' : FI} {num num' : Nat → FJ} {fd fd' : FI} {s b n r : Int32} (h : (r, bits', size', num', fd') = sSheet bits size num fd s b n) (oh : okH bits size) : okH bits' size' := by
  unfold sSheet at h
  by_cases h1 : vp_in s 4 ∧ cBits b
  · rw [iF_t h1] at h
    by_cases h2 : n < 0
    · rw [iF_t h2] at h; cases h; exact oh
    rw [iF_f h2] at h
    by_cases h3 : 40 < n
    · rw [iF_t h3] at h; cases h; exact oh
    rw [iF_f h3] at h
    have e1 : bits' = upd bits (ix s) b := congrArg (fun z => z.2.1) h
    have e2 : size' = upd size (ix s) (if b = 0 then 0 else n) := congrArg (fun z => z.2.2.1) h
    rw [e1, e2]
    have hn : vp_in n 41 := by
      rw [fa_lt, show (0 : Int32).toInt = 0 from by decide] at h2
      rw [fa_lt, show (40 : Int32).toInt = 40 from by decide] at h3
      exact vp_in_iff.mpr (by omega)
    intro q hq
    by_cases e : q = ix s
    · subst e
      rw [pk_us, pk_us]
      refine ⟨?_, h1.2⟩
      by_cases z : b = 0
      · rw [if_pos z]; exact vp_in_iff.mpr (by decide)
      · rw [if_neg z]; exact hn
    · rw [pk_un e, pk_un e]; exact oh q hq
  · rw [iF_f h1] at h; cases h; exact oh
theorem sx_in {i k L : Nat} (h : i + 6 ≤ L) (hk : k < 6) (hL : L ≤ 3072) : vp_in (nI i + nI k) L := by
  rw [nI_add]; exact vp_in_nI (by omega) (by omega)
theorem sx_go {i L : Nat} (hi : i ≤ 3072) (hL : L ≤ 3072) : (Int32.ofNat L - 6 < nI i) ↔ ¬ i + 6 ≤ L := by
  have e1 : (Int32.ofNat L - 6).toInt = (L : Int) - 6 := by
    have := nI_toInt (n := L) (by omega)
    rw [Int32.toInt_sub, show (Int32.ofNat L).toInt = (L : Int) from this, show (6 : Int32).toInt = 6 from by decide]
    apply Int.bmod_eq_of_le <;> omega
  rw [fa_lt, e1, nI_toInt (by omega)]
  omega
