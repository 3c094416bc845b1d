/-! the tape -/
def tpw (cI : ClassId) (a q : Nat) (bt : FI) (ln tk sb en nm : Int32) : va_W := [(a, .inr (2, [.ref q, .int ln, .int tk, .int sb, .int en, .int nm])), (q, .inl (cI, 120, .inl bt))]
def sFd (x : Int32) : Nat → FI → Int32 → FI × Int32
  | 0, bt, ln => (bt, ln)
  | k + 1, bt, ln => sFd x k (upd bt (ix ln) ((x >>> ((8 * nI k) &&& 31)) &&& 255)) (ln + 1)
noncomputable def sFeed (bt : FI) (ln : Int32) (fd : FI) (x n : Int32) : Int32 × FI × Int32 × FI :=
  iF (¬ n < 1 ∧ ¬ 4 < n) (iF (120 < ln + n) (-1000000002, bt, ln, bump fd (-1000000002)) ((sFd x (ix n) bt ln).2, (sFd x (ix n) bt ln).1, (sFd x (ix n) bt ln).2, fd)) (-1000000001, bt, ln, bump fd (-1000000001))
theorem feed_n {n : Int32} (h : ¬ n < 1 ∧ ¬ 4 < n) : n = nI (ix n) ∧ ix n ≤ 4 := by
  have e1 : (1 : Int32).toInt = 1 := by decide
  have e4 : (4 : Int32).toInt = 4 := by decide
  rw [fa_lt, fa_lt] at h
  have hv : vp_in n 5 := vp_in_iff.mpr (by omega)
  exact ⟨(nI_ix (by decide) hv).symm, by have := ix_lt (by decide) hv; omega⟩
theorem feed_le {ln n : Int32} (hl : vp_in ln 121) (hn : n = nI (ix n) ∧ ix n ≤ 4) (h : ln + n ≤ 120) : ix ln + ix n ≤ 120 := by
  obtain ⟨j, hj, rfl⟩ := vp_in_of hl (by decide)
  obtain ⟨e, h4⟩ := hn
  generalize ix n = k at e h4 ⊢
  subst e
  rw [ix_nI (by omega)]
  rw [nI_add, show (120 : Int32) = nI 120 from rfl, nI_leI (by omega) (by omega)] at h
  exact h
theorem ln_s {ln : Int32} (h : vp_in ln 120) : vp_in (ln + 1) 121 ∧ ix (ln + 1) = ix ln + 1 := by
  obtain ⟨j, hj, rfl⟩ := vp_in_of h (by decide)
  rw [nI_1, ix_nI (by omega), ix_nI (by omega)]
  exact ⟨vp_in_nI (by omega) (by decide), rfl⟩
theorem ln_in {ln : Int32} (h : vp_in ln 121) (hk : ix ln < 120) : vp_in ln 120 := by
  obtain ⟨j, hj, rfl⟩ := vp_in_of h (by decide)
  rw [ix_nI (by omega)] at hk
  exact vp_in_nI hk (by decide)
theorem sub1_p1 (x : Int32) : (x - 1) + 1 = x := by
  rw [Int32.sub_eq_add_neg]; exact m1p1 x
