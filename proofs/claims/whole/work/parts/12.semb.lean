noncomputable def sUndo (σ κ : Sg) (ik : Int32) (fd : FI) : Int32 × Sg × FI := if ik = 0 then (-1000000004, σ, bump fd (-1000000004)) else (sGu κ, κ, fd)
noncomputable def sCount (σ : Sg) (ln : Int32) (fd : FI) (w : Int32) : Int32 × FI := if w = 0 then (sGu σ, fd) else if w = 1 then (ln, fd) else if w = 2 then (sSum (sQu σ) (ix (sGu σ)), fd) else if w = 3 then (sSum (sSp σ) 10, fd) else (-1000000001, bump fd (-1000000001))
noncomputable def sStatus (fd : FI) (w : Int32) : Int32 × FI := iF (¬ w < -1 ∧ ¬ 6 < w) (if w < 0 then (sSum fd 7, fd) else (fd (ix w), fd)) (-1000000001, bump fd (-1000000001))
theorem wi_in {n a h : Int32} (hw : ¬ n < a ∧ ¬ h < n) (ha : 0 ≤ a.toInt) (hh : h.toInt < 1000) : vp_in n 1000 := by
  rw [fa_lt, fa_lt] at hw
  exact vp_in_iff.mpr (by omega)
theorem st_in {n : Int32} (hw : ¬ n < -1 ∧ ¬ 6 < n) (h0 : ¬ n < 0) : vp_in n 7 := by
  rw [fa_lt, fa_lt] at hw
  rw [fa_lt] at h0
  have e1 : (6 : Int32).toInt = 6 := by decide
  have e2 : (0 : Int32).toInt = 0 := by decide
  exact vp_in_iff.mpr (by omega)
theorem bI01 (P : Prop) : bI P = 0 ∨ bI P = 1 := by
  by_cases h : P
  · exact Or.inr (bI_t h)
  · exact Or.inl (bI_f h)
theorem who_neg {gu : Int32} (hg : vp_in gu 9) {pl : FI} {p : Int32} : (¬ sWhoN pl p (ix gu) < 0) ↔ ¬ sWhoN pl p (ix gu) = -1 := by
  have h8 := (gu_of hg).2
  rcases who_cases pl p (ix gu) with q | ⟨g, hg, q, -⟩
  · rw [q]; decide
  · rw [q]
    have := bit_neg_all g (by omega)
    exact ⟨fun _ => this.2, fun _ => Int32.not_lt.mpr this.1⟩
theorem upd_in {f : FI} {k n : Nat} {v : Int32} (h : ∀ g, g < 8 → vp_in (f g) n) (hv : vp_in v n) : ∀ g, g < 8 → vp_in (upd f k v g) n := by
  intro g hg
  by_cases e : g = k
  · subst e; rw [pk_us]; exact hv
  · rw [pk_un e]; exact h g hg
theorem exch_in {f : FI} {x y : Int32} (h : ∀ g, g < 8 → vp_in (f g) 10) (hx : vp_in x 8) (hy : vp_in y 8) : ∀ g, g < 8 → vp_in (upd (upd f (ix x) (f (ix y))) (ix y) (f (ix x)) g) 10 :=
  upd_in (upd_in h (h _ (ix_lt (by decide) hy))) (h _ (ix_lt (by decide) hx))
theorem gu8_eq {gu : Int32} (h : vp_in gu 9) (h8 : ¬ gu < 8) : gu = 8 := by
  rw [vp_in_iff] at h
  rw [fa_lt, show (8 : Int32).toInt = 8 from by decide] at h8
  rw [fa_eq, show (8 : Int32).toInt = 8 from by decide]
  omega
theorem gu8_ne {gu : Int32} (h8 : gu < 8) : ¬ gu = 8 := fun e => by subst e; exact absurd h8 (by decide)
theorem gu8_in {gu : Int32} (h : vp_in gu 9) (h8 : gu < 8) : vp_in gu 8 := by
  rw [vp_in_iff] at h
  rw [fa_lt, show (8 : Int32).toInt = 8 from by decide] at h8
  exact vp_in_iff.mpr (by omega)
theorem set_no1 {w : Int32} (h : w = 2) (q : w < 2 ∨ ¬ w ≤ 4) : False := by
  subst h
  rcases q with q | q
  · exact absurd q (by decide)
  · exact q (by decide)
theorem set_no2 {w : Int32} (h : ¬ w < 3 ∧ ¬ 4 < w) (q : w < 2 ∨ ¬ w ≤ 4) : False := by
  rw [fa_lt, fa_lt, show (3 : Int32).toInt = 3 from by decide, show (4 : Int32).toInt = 4 from by decide] at h
  rw [fa_lt, fa_le, show (2 : Int32).toInt = 2 from by decide, show (4 : Int32).toInt = 4 from by decide] at q
  omega
theorem set_34 {w : Int32} (h : ¬ w < 2) (q : w ≤ 4) (n : ¬ w = 2) : ¬ w < 3 ∧ ¬ 4 < w := by
  rw [fa_lt, show (2 : Int32).toInt = 2 from by decide] at h
  rw [fa_le, show (4 : Int32).toInt = 4 from by decide] at q
  rw [fa_eq, show (2 : Int32).toInt = 2 from by decide] at n
  rw [fa_lt, fa_lt, show (3 : Int32).toInt = 3 from by decide, show (4 : Int32).toInt = 4 from by decide]
  omega
