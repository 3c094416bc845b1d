/-! what is best -/
noncomputable def sArg (ok : Nat → Prop) (f : Nat → Int32) : Nat → Int32 × Int32
  | 0 => (-1, 0)
  | p + 1 => iF (ok p ∧ ((sArg ok f p).1 < 0 ∨ (sArg ok f p).2 < f p)) (nI p, f p) (sArg ok f p)
theorem arg_step {ok : Nat → Prop} {f : Nat → Int32} {i : Nat} {b m v : Int32} (h : (b, m) = sArg ok f i) (hok : ok i) (hv : v = f i) : ((if (if b < 0 then 1 else (if v ≤ m then 0 else 1) : Int32) = 0 then b else nI i : Int32), (if (if b < 0 then 1 else (if v ≤ m then 0 else 1) : Int32) = 0 then m else v : Int32)) = sArg ok f (i + 1) := by
  have h1 : (sArg ok f i).1 = b := by rw [← h]
  have h2 : (sArg ok f i).2 = m := by rw [← h]
  show _ = iF (ok i ∧ ((sArg ok f i).1 < 0 ∨ (sArg ok f i).2 < f i)) (nI i, f i) (sArg ok f i)
  rw [h1, h2, ← h, hv]
  by_cases hb : b < 0
  · rw [if_pos hb, if_neg (by decide), if_neg (by decide), iF_t ⟨hok, Or.inl hb⟩]
  · rw [if_neg hb]
    by_cases hm : f i ≤ m
    · rw [if_pos hm, if_pos rfl, if_pos rfl, iF_f (fun q => q.2.elim hb (fun q => Int32.not_lt.mpr hm q))]
    · rw [if_neg hm, if_neg (by decide), if_neg (by decide), iF_t ⟨hok, Or.inr (Int32.not_le.mp hm)⟩]
theorem arg_skip {ok : Nat → Prop} {f : Nat → Int32} {i : Nat} {b m : Int32} (h : (b, m) = sArg ok f i) (hok : ¬ ok i) : (b, m) = sArg ok f (i + 1) := by
  rw [h]; exact (iF_f (fun q => hok q.1)).symm
theorem arg_neg {ok : Nat → Prop} {f : Nat → Int32} {j : Nat} (hok : ok j) : ∀ n, j < n → n < 2 ^ 31 → ¬ (sArg ok f n).1 < 0
  | 0, h, _ => absurd h (Nat.not_lt_zero j)
  | n + 1, h, hb => by
    show ¬ (iF (ok n ∧ ((sArg ok f n).1 < 0 ∨ (sArg ok f n).2 < f n)) (nI n, f n) (sArg ok f n)).1 < 0
    by_cases c : ok n ∧ ((sArg ok f n).1 < 0 ∨ (sArg ok f n).2 < f n)
    · rw [iF_t c]; exact nI_pos (by omega)
    · rw [iF_f c]
      by_cases e : j = n
      · subst e
        intro q
        exact c ⟨hok, Or.inl q⟩
      · exact arg_neg hok n (by omega) (by omega)
noncomputable def argC (ok : Nat → Prop) (f : Nat → Int32) (d lo : Int32) (i : Nat) : Int32 × Int32 := iF ((sArg ok f i).1 < 0) (d, lo) (sArg ok f i)
theorem argC_0 (ok : Nat → Prop) (f : Nat → Int32) (d lo : Int32) : (d, lo) = argC ok f d lo 0 := (iF_t (by show (-1 : Int32) < 0; decide)).symm
theorem argC_skip {ok : Nat → Prop} {f : Nat → Int32} {d lo b m : Int32} {i : Nat} (h : (b, m) = argC ok f d lo i) (hok : ¬ ok i) : (b, m) = argC ok f d lo (i + 1) := by
  have e : sArg ok f (i + 1) = sArg ok f i := iF_f (fun q => hok q.1)
  unfold argC at h ⊢
  rw [e]; exact h
theorem argC_le {ok : Nat → Prop} {f : Nat → Int32} {d lo b m : Int32} {i : Nat} (h : (b, m) = argC ok f d lo i) (hlo : lo < f i) (hle : f i ≤ m) : (b, m) = argC ok f d lo (i + 1) := by
  unfold argC at h ⊢
  by_cases c : (sArg ok f i).1 < 0
  · rw [iF_t c] at h
    injection h with h1 h2
    subst h2
    exact absurd hlo (Int32.not_lt.mpr hle)
  · rw [iF_f c] at h
    have e : sArg ok f (i + 1) = sArg ok f i := iF_f (fun q => q.2.elim c (fun q => by rw [← h] at q; exact Int32.not_lt.mpr hle q))
    rw [e, iF_f c]; exact h
theorem argC_gt {ok : Nat → Prop} {f : Nat → Int32} {d lo b m : Int32} {i : Nat} (h : (b, m) = argC ok f d lo i) (hok : ok i) (hi : i < 2 ^ 31) (hgt : ¬ f i ≤ m) : (nI i, f i) = argC ok f d lo (i + 1) := by
  have e : sArg ok f (i + 1) = (nI i, f i) := by
    refine iF_t ⟨hok, ?_⟩
    unfold argC at h
    by_cases c : (sArg ok f i).1 < 0
    · exact Or.inl c
    · rw [iF_f c] at h
      exact Or.inr (by rw [← h]; exact Int32.not_le.mp hgt)
  unfold argC
  rw [e, iF_f (nI_pos hi)]
theorem argC_end {ok : Nat → Prop} {f : Nat → Int32} {d lo b m : Int32} {n j : Nat} (h : (b, m) = argC ok f d lo n) (hok : ok j) (hj : j < n) (hn : n < 2 ^ 31) : b = (sArg ok f n).1 := by
  unfold argC at h
  rw [iF_f (arg_neg hok n hj hn)] at h
  rw [← h]
theorem sum_in {ea to qu : FI} (oe : okE ea to qu) : ∀ n : Nat, n ≤ 8 → -99 * (n : Int) ≤ (sSum ea n).toInt ∧ (sSum ea n).toInt ≤ 99 * (n : Int)
  | 0, _ => by simp [sSum]
  | n + 1, h => by
    have ih := sum_in oe n (by omega)
    have hn := (oe n (by omega)).1
    show -99 * ((n + 1 : Nat) : Int) ≤ (sSum ea n + ea n).toInt ∧ (sSum ea n + ea n).toInt ≤ 99 * ((n + 1 : Nat) : Int)
    rw [fb_addI (by omega) (by omega)]
    omega
theorem ease_lo {σ : Sg} {w : FI} (h : okS σ w) {x : Int32} (hx : vp_in x 8) : (-100 : Int32) < sEa σ (ix x) := by
  have := (h.2 _ (ix_lt (by decide) hx)).1
  rw [fa_lt, show (-100 : Int32).toInt = -100 from by decide]
  omega
theorem mood_lo {σ : Sg} {w : FI} (h : okS σ w) : (-1000 : Int32) < sSum (sEa σ) (ix (sGu σ)) := by
  have h8 := (gu_of h.1.gu).2
  have := sum_in h.2 (ix (sGu σ)) h8
  rw [fa_lt, show (-1000 : Int32).toInt = -1000 from by decide]
  omega
abbrev tBest (σ : Sg) (g : Int32) (p : Nat) : Sg := uPl σ (upd (sPl σ) (ix g) (nI p))
noncomputable abbrev fBest (σ : Sg) (g n : Int32) (p : Nat) : Int32 := sEa (sPass (ix n) (tBest σ g p)) (ix g)
abbrev okB (σ : Sg) (g : Int32) (p : Nat) : Prop := sWho σ (nI p) = -1 ∨ sWho σ (nI p) = g
abbrev c40 (n : Int32) : Prop := ¬ n < 1 ∧ ¬ 40 < n
noncomputable def sBest (σ : Sg) (fd : FI) (g n : Int32) : Int32 × FI := iF (sOne σ g ∧ c40 n) ((sArg (okB σ g) (fBest σ g n) 10).1, fd) (-1000000001, bump fd (-1000000001))
abbrev tLaid (σ : Sg) (p : Int32) (i : Nat) : Sg := uFo (uKn σ (upd (sKn σ) (ix p) (nI (i % 2)))) (upd (sFo σ) (ix p) (nI (i / 2)))
noncomputable abbrev fLaid (σ : Sg) (p n : Int32) (i : Nat) : Int32 := sSum (sEa (sPass (ix n) (tLaid σ p i))) (ix (sGu σ))
noncomputable def sLaid (σ : Sg) (fd : FI) (p n : Int32) : Int32 × FI := iF (vp_in p 10 ∧ c40 n) ((sArg (fun _ => True) (fLaid σ p n) 4).1, fd) (-1000000001, bump fd (-1000000001))
abbrev tKnife (σ : Sg) (i : Nat) : Sg := uKn σ (upd (sKn σ) i (1 - sKn σ i))
noncomputable abbrev fKnife (σ : Sg) (n : Int32) (i : Nat) : Int32 := sSum (sEa (sPass (ix n) (tKnife σ i))) (ix (sGu σ))
noncomputable def sKnife (σ : Sg) (fd : FI) (n : Int32) : Int32 × FI := iF (c40 n) ((sArg (fun _ => True) (fKnife σ n) 10).1, fd) (-1000000001, bump fd (-1000000001))
abbrev tKind (σ : Sg) (g : Int32) (i : Nat) : Sg := uKi σ (upd (sKi σ) (ix g) (nI i))
noncomputable abbrev fKind (σ : Sg) (g n : Int32) (i : Nat) : Int32 := sEa (sPass (ix n) (tKind σ g i)) (ix g)
noncomputable def sKind (σ : Sg) (fd : FI) (g n : Int32) : Int32 × FI := iF (sOne σ g ∧ c40 n) ((sArg (fun _ => True) (fKind σ g n) 6).1, fd) (-1000000001, bump fd (-1000000001))
noncomputable def sSeekD (P : Nat → Prop) : Nat → Int32
  | 0 => -1000000004
  | k + 1 => iF (P k) (nI k) (sSeekD P k)
abbrev tSpoon (σ : Sg) (p : Int32) (i : Nat) : Sg := uSp σ (upd (sSp σ) (ix p) (nI i))
abbrev pSpoon (σ : Sg) (p n v : Int32) (i : Nat) : Prop := ¬ sSum (sEa (sPass (ix n) (tSpoon σ p i))) (ix (sGu σ)) < v
noncomputable def sSpoon (σ : Sg) (fd : FI) (p n v : Int32) : Int32 × FI := iF (vp_in p 10 ∧ c40 n ∧ (¬ v < -999 ∧ ¬ 999 < v)) (sEnd (sSeekD (pSpoon σ p n v) 10) fd) (-1000000001, bump fd (-1000000001))
theorem way_a : ∀ i, i < 4 → nI i &&& 1 = nI (i % 2) := by decide
theorem way_b : ∀ i, i < 4 → nI i >>> (1 &&& 31) = nI (i / 2) := by decide
theorem way_c : ∀ i, i < 4 → nI i - nI i / 2 * 2 = nI (i % 2) := by decide
theorem way_d : ∀ i, i < 4 → nI i / 2 = nI (i / 2) := by decide
theorem ok_laid {σ : Sg} {w : FI} (h : okS σ w) (p : Int32) {i : Nat} (hi : i < 4) : okS (tLaid σ p i) w := ok_fo (ok_kn h (vp_in_nI (by omega) (by decide))) (vp_in_nI (by omega) (by decide))
theorem flip_in {x : Int32} (h : vp_in x 2) : vp_in (1 - x) 2 := by
  obtain ⟨j, hj, rfl⟩ := vp_in_of h (by decide)
  rcases (show j = 0 ∨ j = 1 by omega) with rfl | rfl <;> exact vp_in_iff.mpr (by decide)
theorem ok_knife {σ : Sg} {w : FI} (h : okS σ w) {i : Nat} (hi : i < 10) : okS (tKnife σ i) w := ok_kn h (flip_in (h.1.2.2.2.1 i hi).1)
theorem ok_kind {σ : Sg} {w : FI} (h : okS σ w) (g : Int32) {i : Nat} (hi : i < 6) : okS (tKind σ g i) w := ok_ki h (vp_in_nI hi (by decide))
theorem ok_spoon {σ : Sg} {w : FI} (h : okS σ w) (p : Int32) {i : Nat} (hi : i < 10) : okS (tSpoon σ p i) w := ok_sp h (vp_in_nI hi (by decide))
theorem dn_0 {h : Int32} {i : Nat} (e : h + 1 = nI i) (hi : i ≤ 10) (h0 : h < 0) : i = 0 := by
  have e2 : h = nI i - 1 := by rw [← e, add_sub1]
  subst e2
  have : ∀ i, i ≤ 10 → nI i - 1 < 0 → i = 0 := by decide
  exact this i hi h0
theorem dn_s {h : Int32} {i : Nat} (e : h + 1 = nI i) (hi : i ≤ 10) (h0 : ¬ h < 0) : ∃ k, i = k + 1 ∧ h = nI k := by
  have e2 : h = nI i - 1 := by rw [← e, add_sub1]
  subst e2
  have : ∀ i, i ≤ 10 → ¬ nI i - 1 < 0 → i ≠ 0 := by decide
  have hne := this i hi h0
  refine ⟨i - 1, by omega, ?_⟩
  obtain ⟨k, rfl⟩ : ∃ k, i = k + 1 := ⟨i - 1, by omega⟩
  rw [← nI_1, add_sub1]; rfl
/-! who had best change places -/
noncomputable def chIn (f : Nat → Nat → Int32) (g : Nat) : Nat → Int32 × Int32 → Int32 × Int32
  | 0, a => a
  | k + 1, a => if f g (g + 1 + k) < (chIn f g k a).2 then (10 * nI g + nI (g + 1 + k), f g (g + 1 + k)) else chIn f g k a
noncomputable def chOut (f : Nat → Nat → Int32) (N : Nat) : Nat → Int32 × Int32 → Int32 × Int32
  | 0, a => a
  | g + 1, a => chIn f g (N - (g + 1)) (chOut f N g a)
noncomputable abbrev fChg (σ : Sg) (n : Int32) (g o : Nat) : Int32 := sSum (sQu (sPass (ix n) (sExch σ (nI g) (nI o)))) (ix (sGu σ))
noncomputable abbrev rChg (σ : Sg) (n : Int32) : Int32 := (chOut (fChg σ n) (ix (sGu σ)) (ix (sGu σ)) (-1, sSum (sQu (sPass (ix n) σ)) (ix (sGu σ)))).1
noncomputable def sChange (σ : Sg) (fd : FI) (n : Int32) : Int32 × FI := iF (c40 n) (iF (rChg σ n < 0) (-1000000004, bump fd (-1000000004)) (rChg σ n, fd)) (-1000000001, bump fd (-1000000001))
theorem ch_step {f : Nat → Nat → Int32} {g k : Nat} {a : Int32 × Int32} {b m v : Int32} {o : Nat} (h : (b, m) = chIn f g k a) (ho : o = g + 1 + k) (hv : v = f g o) : ((if m ≤ v then b else (10 * nI g + nI o) : Int32), (if m ≤ v then m else v : Int32)) = chIn f g (k + 1) a := by
  subst ho
  have h2 : (chIn f g k a).2 = m := by rw [← h]
  show _ = if f g (g + 1 + k) < (chIn f g k a).2 then (10 * nI g + nI (g + 1 + k), f g (g + 1 + k)) else chIn f g k a
  rw [h2, ← h, hv]
  by_cases c : m ≤ f g (g + 1 + k)
  · rw [if_pos c, if_pos c, if_neg (Int32.not_lt.mpr c)]
  · rw [if_neg c, if_neg c, if_pos (Int32.not_le.mp c)]
theorem ch_pos {g o : Nat} (hg : g < 8) (ho : o < 9) : ¬ (10 * nI g + nI o) < 0 := by
  rw [show (10 : Int32) = nI 10 from rfl, pk_mul, nI_add]
  exact nI_pos (by omega)
theorem laid_lo {σ : Sg} {w : FI} (h : okS σ w) (p n : Int32) {i : Nat} (hi : i < 4) : (-1000 : Int32) < fLaid σ p n i := by
  have := mood_lo (okS_pass (ok_laid h p hi) (ix n))
  rw [(pass_st (tLaid σ p i) (ix n)).1] at this
  exact this
theorem knife_lo {σ : Sg} {w : FI} (h : okS σ w) (n : Int32) {i : Nat} (hi : i < 10) : (-1000 : Int32) < fKnife σ n i := by
  have := mood_lo (okS_pass (ok_knife h hi) (ix n))
  rw [(pass_st (tKnife σ i) (ix n)).1] at this
  exact this
theorem own_ok {σ : Sg} {w : FI} (h : okS σ w) {x : Int32} (hx : sOne σ x) : okB σ x (ix (sPl σ (ix x))) := by
  have h8 := in_8 h.1.gu hx
  have hn := (gu_of h.1.gu).2
  refine Or.inr ?_
  rw [nI_ix (by decide) (h.1.pl h8)]
  show sWhoN _ _ _ = x
  rw [who_eq h.1.2.2.2.2.1 (ix_lt (by omega) hx) rfl, nI_ix (by omega) hx]
