/-! what holds stays so -/
theorem who_none {pl : FI} {p : Int32} : ∀ {n : Nat}, (∀ g, g < n → ¬ pl g = p) → sWhoN pl p n = -1
  | 0, _ => rfl
  | n + 1, h => by
    show (if pl n = p then nI n else sWhoN pl p n) = -1
    rw [if_neg (h n (Nat.lt_succ_self n))]
    exact who_none (fun g hg => h g (by omega))
theorem who_eq {pl : FI} {p : Int32} : ∀ {n g : Nat}, (∀ a b, a < n → b < n → pl a = pl b → a = b) → g < n → pl g = p → sWhoN pl p n = nI g
  | 0, g, _, hg, _ => absurd hg (Nat.not_lt_zero g)
  | n + 1, g, hd, hg, e => by
    show (if pl n = p then nI n else sWhoN pl p n) = nI g
    by_cases h : pl n = p
    · rw [if_pos h, hd n g (Nat.lt_succ_self n) hg (h.trans e.symm)]
    · rw [if_neg h]
      have hgn : g ≠ n := fun q => h (by rw [← q]; exact e)
      exact who_eq (fun a b ha hb => hd a b (by omega) (by omega)) (by omega) e
theorem who_m1 {pl : FI} {p : Int32} {n : Nat} (hn : n ≤ 8) (hd : ∀ a b, a < n → b < n → pl a = pl b → a = b) (h : sWhoN pl p n = -1) : ∀ g, g < n → ¬ pl g = p := fun g hg e => by
  rw [who_eq hd hg e] at h
  exact (bit_neg_all g (by omega)).2 h
theorem who_is {pl : FI} {p : Int32} {n g : Nat} (hn : n ≤ 8) (hg8 : g < 8) (hd : ∀ a b, a < n → b < n → pl a = pl b → a = b) (h : sWhoN pl p n = nI g) : ∀ a, a < n → pl a = p → a = g := fun a ha e => by
  rw [who_eq hd ha e, nI_eq (by omega) (by omega)] at h
  exact h
theorem upd_p {f : FI} {k : Nat} {v : Int32} {n : Nat} {Q : Int32 → Prop} (h : ∀ p, p < n → Q (f p)) (hv : Q v) : ∀ p, p < n → Q (upd f k v p) := by
  intro p hp
  by_cases e : p = k
  · subst e; rw [pk_us]; exact hv
  · rw [pk_un e]; exact h p hp
theorem okS_mk {σ σ' : Sg} {w w' : FI} (h : okS σ w) (h1 : vp_in (sGu σ') 9) (h2 : ∀ g, g < 8 → vp_in (sPl σ' g) 10) (h3 : ∀ g, g < 8 → vp_in (sKi σ' g) 6) (h4 : ∀ p, p < 10 → vp_in (sKn σ' p) 2 ∧ vp_in (sFo σ' p) 2 ∧ vp_in (sSp σ' p) 10) (h5 : ∀ g k, g < ix (sGu σ') → k < ix (sGu σ') → sPl σ' g = sPl σ' k → g = k) (h6 : ∀ p, p < 10 → w' p = sWhoN (sPl σ') (nI p) (ix (sGu σ'))) (h7 : okE (sEa σ') (sTo σ') (sQu σ')) : okS σ' w' := ⟨⟨h1, h2, h3, h4, h5, h6⟩, h7⟩
theorem ok_kn {σ : Sg} {w : FI} (h : okS σ w) {k : Nat} {v : Int32} (hv : vp_in v 2) : okS (uKn σ (upd (sKn σ) k v)) w :=
  ⟨⟨h.1.1, h.1.2.1, h.1.2.2.1, fun p hp => ⟨upd_p (Q := fun x => vp_in x 2) (fun q hq => (h.1.2.2.2.1 q hq).1) hv p hp, (h.1.2.2.2.1 p hp).2⟩, h.1.2.2.2.2⟩, h.2⟩
theorem ok_fo {σ : Sg} {w : FI} (h : okS σ w) {k : Nat} {v : Int32} (hv : vp_in v 2) : okS (uFo σ (upd (sFo σ) k v)) w :=
  ⟨⟨h.1.1, h.1.2.1, h.1.2.2.1, fun p hp => ⟨(h.1.2.2.2.1 p hp).1, upd_p (Q := fun x => vp_in x 2) (fun q hq => (h.1.2.2.2.1 q hq).2.1) hv p hp, (h.1.2.2.2.1 p hp).2.2⟩, h.1.2.2.2.2⟩, h.2⟩
theorem ok_sp {σ : Sg} {w : FI} (h : okS σ w) {k : Nat} {v : Int32} (hv : vp_in v 10) : okS (uSp σ (upd (sSp σ) k v)) w :=
  ⟨⟨h.1.1, h.1.2.1, h.1.2.2.1, fun p hp => ⟨(h.1.2.2.2.1 p hp).1, (h.1.2.2.2.1 p hp).2.1, upd_p (Q := fun x => vp_in x 10) (fun q hq => (h.1.2.2.2.1 q hq).2.2) hv p hp⟩, h.1.2.2.2.2⟩, h.2⟩
theorem ok_ki {σ : Sg} {w : FI} (h : okS σ w) {k : Nat} {v : Int32} (hv : vp_in v 6) : okS (uKi σ (upd (sKi σ) k v)) w :=
  ⟨⟨h.1.1, h.1.2.1, upd_p (Q := fun x => vp_in x 6) h.1.2.2.1 hv, h.1.2.2.2⟩, h.2⟩
theorem ok_ea {σ : Sg} {w : FI} (h : okS σ w) {k : Nat} {v : Int32} (hv : -99 ≤ v.toInt ∧ v.toInt ≤ 99) : okS (uEa σ (upd (sEa σ) k v)) w :=
  ⟨h.1, fun g hg => ⟨upd_p (Q := fun x => -99 ≤ x.toInt ∧ x.toInt ≤ 99) (fun q hq => (h.2 q hq).1) hv g hg, (h.2 g hg).2⟩⟩
theorem ok_to {σ : Sg} {w : FI} (h : okS σ w) {k : Nat} {v : Int32} (hv : 0 ≤ v.toInt ∧ v.toInt ≤ 9999) : okS (uTo σ (upd (sTo σ) k v)) w :=
  ⟨h.1, fun g hg => ⟨(h.2 g hg).1, upd_p (Q := fun x => 0 ≤ x.toInt ∧ x.toInt ≤ 9999) (fun q hq => (h.2 q hq).2.1) hv g hg, (h.2 g hg).2.2⟩⟩
theorem ok_qu {σ : Sg} {w : FI} (h : okS σ w) {k : Nat} {v : Int32} (hv : 0 ≤ v.toInt ∧ v.toInt ≤ 9999) : okS (uQu σ (upd (sQu σ) k v)) w :=
  ⟨h.1, fun g hg => ⟨(h.2 g hg).1, (h.2 g hg).2.1, upd_p (Q := fun x => 0 ≤ x.toInt ∧ x.toInt ≤ 9999) (fun q hq => (h.2 q hq).2.2) hv g hg⟩⟩
theorem ok_moveT {gu : Int32} {kn fo sp w ki pl : FI} (h : okT gu kn fo sp w ki pl) {x p : Int32} (hx : vp_in x (ix gu)) (hp : vp_in p 10) (hf : sWhoN pl p (ix gu) = -1 ∨ sWhoN pl p (ix gu) = x) : okT gu kn fo sp (upd (upd w (ix (pl (ix x))) (-1)) (ix p) x) ki (upd pl (ix x) p) := by
  obtain ⟨h1, h2, h3, h4, h5, h6⟩ := h
  have hn8 := (gu_of h1).2
  have hx8 := in_8 h1 hx
  have hxn : ix x < ix gu := ix_lt (by omega) hx
  have ex : nI (ix x) = x := nI_ix (by omega) hx
  have ep : nI (ix p) = p := nI_ix (by decide) hp
  have hfree : ∀ a, a < ix gu → a ≠ ix x → ¬ pl a = p := by
    intro a ha hne e
    rcases hf with q | q
    · exact who_m1 hn8 h5 q a ha e
    · rw [← ex] at q
      exact hne (who_is hn8 (by omega) h5 q a ha e)
  have h5' : ∀ a b, a < ix gu → b < ix gu → upd pl (ix x) p a = upd pl (ix x) p b → a = b := by
    intro a b ha hb e
    by_cases ea : a = ix x
    · by_cases eb : b = ix x
      · omega
      · rw [ea, pk_us, pk_un eb] at e
        exact absurd e.symm (hfree b hb eb)
    · by_cases eb : b = ix x
      · rw [eb, pk_us, pk_un ea] at e
        exact absurd e (hfree a ha ea)
      · rw [pk_un ea, pk_un eb] at e
        exact h5 a b ha hb e
  refine ⟨h1, upd_in h2 hp, h3, h4, h5', fun q hq => ?_⟩
  by_cases e1 : q = ix p
  · subst e1
    rw [pk_us, ep]
    rw [who_eq h5' hxn pk_us, ex]
  · rw [pk_un e1]
    have hpq : ¬ p = nI q := fun e => e1 (by rw [e, ix_nI (by omega)])
    by_cases e2 : q = ix (pl (ix x))
    · subst e2
      rw [pk_us]
      have eo : nI (ix (pl (ix x))) = pl (ix x) := nI_ix (by decide) (h2 _ (by omega))
      rw [eo] at hpq ⊢
      refine (who_none (fun a ha e => ?_)).symm
      by_cases ea : a = ix x
      · rw [ea, pk_us] at e; exact hpq e
      · rw [pk_un ea] at e; exact ea (h5 a (ix x) ha hxn e)
    · rw [pk_un e2, h6 q hq]
      have hoq : ¬ pl (ix x) = nI q := fun e => e2 (by rw [e, ix_nI (by omega)])
      rcases who_cases pl (nI q) (ix gu) with c | ⟨g, hg, c, eg⟩
      · rw [c]
        refine (who_none (fun a ha e => ?_)).symm
        by_cases ea : a = ix x
        · rw [ea, pk_us] at e; exact hpq e
        · rw [pk_un ea] at e; exact who_m1 hn8 h5 c a ha e
      · rw [c]
        have gx : g ≠ ix x := fun e => hoq (by rw [← e]; exact eg)
        exact (who_eq h5' hg (by rw [pk_un gx]; exact eg)).symm
theorem ok_move {σ : Sg} {w : FI} (h : okS σ w) {x p : Int32} (hx : sOne σ x) (hp : vp_in p 10) (hf : sWho σ p = -1 ∨ sWho σ p = x) : okS (uPl σ (upd (sPl σ) (ix x) p)) (upd (upd w (ix (sPl σ (ix x))) (-1)) (ix p) x) := ⟨ok_moveT h.1 hx hp hf, h.2⟩
theorem ok_exchT {gu : Int32} {kn fo sp w ki pl : FI} (h : okT gu kn fo sp w ki pl) {x y : Int32} (hx : vp_in x (ix gu)) (hy : vp_in y (ix gu)) (hxy : ¬ x = y) : okT gu kn fo sp (upd (upd w (ix (upd (upd pl (ix x) (pl (ix y))) (ix y) (pl (ix x)) (ix x))) x) (ix (upd (upd pl (ix x) (pl (ix y))) (ix y) (pl (ix x)) (ix y))) y) ki (upd (upd pl (ix x) (pl (ix y))) (ix y) (pl (ix x))) := by
  obtain ⟨h1, h2, h3, h4, h5, h6⟩ := h
  have hn8 := (gu_of h1).2
  have hxn : ix x < ix gu := ix_lt (by omega) hx
  have hyn : ix y < ix gu := ix_lt (by omega) hy
  have ex : nI (ix x) = x := nI_ix (by omega) hx
  have ey : nI (ix y) = y := nI_ix (by omega) hy
  have hne : ix x ≠ ix y := fun e => hxy (by rw [← ex, ← ey, e])
  have ax : upd (upd pl (ix x) (pl (ix y))) (ix y) (pl (ix x)) (ix x) = pl (ix y) := by rw [pk_un hne, pk_us]
  have ay : upd (upd pl (ix x) (pl (ix y))) (ix y) (pl (ix x)) (ix y) = pl (ix x) := pk_us
  have ao : ∀ a, a ≠ ix x → a ≠ ix y → upd (upd pl (ix x) (pl (ix y))) (ix y) (pl (ix x)) a = pl a := fun a h1 h2 => by rw [pk_un h2, pk_un h1]
  have hplne : ¬ pl (ix x) = pl (ix y) := fun e => hne (h5 _ _ hxn hyn e)
  have h5' : ∀ a b, a < ix gu → b < ix gu → upd (upd pl (ix x) (pl (ix y))) (ix y) (pl (ix x)) a = upd (upd pl (ix x) (pl (ix y))) (ix y) (pl (ix x)) b → a = b := by
    intro a b ha hb e
    by_cases a1 : a = ix x
    · rw [a1, ax] at e
      by_cases b1 : b = ix x
      · omega
      · by_cases b2 : b = ix y
        · rw [b2, ay] at e; exact absurd e.symm hplne
        · rw [ao b b1 b2] at e; exact absurd (h5 _ _ hyn hb e).symm b2
    · by_cases a2 : a = ix y
      · rw [a2, ay] at e
        by_cases b1 : b = ix x
        · rw [b1, ax] at e; exact absurd e hplne
        · by_cases b2 : b = ix y
          · omega
          · rw [ao b b1 b2] at e; exact absurd (h5 _ _ hxn hb e).symm b1
      · rw [ao a a1 a2] at e
        by_cases b1 : b = ix x
        · rw [b1, ax] at e; exact absurd (h5 _ _ ha hyn e) a2
        · by_cases b2 : b = ix y
          · rw [b2, ay] at e; exact absurd (h5 _ _ ha hxn e) a1
          · rw [ao b b1 b2] at e; exact h5 a b ha hb e
  refine ⟨h1, upd_in (upd_in h2 (h2 _ (by omega))) (h2 _ (by omega)), h3, h4, h5', fun q hq => ?_⟩
  rw [ax, ay]
  have eox : nI (ix (pl (ix x))) = pl (ix x) := nI_ix (by decide) (h2 _ (by omega))
  have eoy : nI (ix (pl (ix y))) = pl (ix y) := nI_ix (by decide) (h2 _ (by omega))
  by_cases e1 : q = ix (pl (ix x))
  · subst e1
    rw [pk_us, eox]
    rw [who_eq h5' hyn ay, ey]
  · rw [pk_un e1]
    by_cases e2 : q = ix (pl (ix y))
    · subst e2
      rw [pk_us, eoy]
      rw [who_eq h5' hxn ax, ex]
    · rw [pk_un e2, h6 q hq]
      have n1 : ¬ pl (ix x) = nI q := fun e => e1 (by rw [e, ix_nI (by omega)])
      have n2 : ¬ pl (ix y) = nI q := fun e => e2 (by rw [e, ix_nI (by omega)])
      rcases who_cases pl (nI q) (ix gu) with c | ⟨g, hg, c, eg⟩
      · rw [c]
        refine (who_none (fun a ha e => ?_)).symm
        by_cases a1 : a = ix x
        · rw [a1, ax] at e; exact n2 e
        · by_cases a2 : a = ix y
          · rw [a2, ay] at e; exact n1 e
          · rw [ao a a1 a2] at e; exact who_m1 hn8 h5 c a ha e
      · rw [c]
        have g1 : g ≠ ix x := fun e => n1 (by rw [← e]; exact eg)
        have g2 : g ≠ ix y := fun e => n2 (by rw [← e]; exact eg)
        exact (who_eq h5' hg (by rw [ao g g1 g2]; exact eg)).symm
theorem ok_exch {σ : Sg} {w : FI} (h : okS σ w) {x y : Int32} (hx : sOne σ x) (hy : sOne σ y) (hxy : ¬ x = y) : okS (sExch σ x y) (upd (upd w (ix (upd (upd (sPl σ) (ix x) (sPl σ (ix y))) (ix y) (sPl σ (ix x)) (ix x))) x) (ix (upd (upd (sPl σ) (ix x) (sPl σ (ix y))) (ix y) (sPl σ (ix x)) (ix y))) y) := ⟨ok_exchT h.1 hx hy hxy, h.2⟩
theorem gu_succ {gu : Int32} (h8 : vp_in gu 8) : vp_in (gu + 1) 9 ∧ ix (gu + 1) = ix gu + 1 := by
  obtain ⟨j, hj, rfl⟩ := vp_in_of h8 (by decide)
  rw [nI_1, ix_nI (by omega), ix_nI (by omega)]
  exact ⟨vp_in_nI (by omega) (by decide), rfl⟩
theorem ok_welT {gu : Int32} {kn fo sp w ki pl : FI} (h : okT gu kn fo sp w ki pl) {k p : Int32} (h8 : vp_in gu 8) (hk : vp_in k 6) (hp : vp_in p 10) (hf : sWhoN pl p (ix gu) = -1) : okT (gu + 1) kn fo sp (upd w (ix p) gu) (upd ki (ix gu) k) (upd pl (ix gu) p) := by
  obtain ⟨h1, h2, h3, h4, h5, h6⟩ := h
  have hn8 := (gu_of h1).2
  obtain ⟨s1, s2⟩ := gu_succ h8
  have ep : nI (ix p) = p := nI_ix (by decide) hp
  have eg : nI (ix gu) = gu := nI_ix (by decide) h8
  have hfree := who_m1 hn8 h5 hf
  have h5' : ∀ a b, a < ix gu + 1 → b < ix gu + 1 → upd pl (ix gu) p a = upd pl (ix gu) p b → a = b := by
    intro a b ha hb e
    by_cases ea : a = ix gu
    · by_cases eb : b = ix gu
      · omega
      · rw [ea, pk_us, pk_un eb] at e
        exact absurd e.symm (hfree b (by omega))
    · by_cases eb : b = ix gu
      · rw [eb, pk_us, pk_un ea] at e
        exact absurd e (hfree a (by omega))
      · rw [pk_un ea, pk_un eb] at e
        exact h5 a b (by omega) (by omega) e
  refine ⟨s1, upd_in h2 hp, upd_in h3 hk, h4, by rw [s2]; exact h5', fun q hq => ?_⟩
  rw [s2]
  by_cases e1 : q = ix p
  · subst e1
    rw [pk_us, ep, who_eq h5' (Nat.lt_succ_self (ix gu)) pk_us, eg]
  · rw [pk_un e1, h6 q hq]
    have hpq : ¬ p = nI q := fun e => e1 (by rw [e, ix_nI (by omega)])
    show _ = if upd pl (ix gu) p (ix gu) = nI q then _ else _
    rw [pk_us, if_neg hpq]
    rcases who_cases pl (nI q) (ix gu) with c | ⟨g, hg, c, e⟩
    · rw [c]
      exact (who_none (fun a ha e => by rw [pk_un (by omega)] at e; exact who_m1 hn8 h5 c a ha e)).symm
    · rw [c]
      exact (who_eq (fun a b ha hb => h5' a b (by omega) (by omega)) hg (by rw [pk_un (by omega)]; exact e)).symm
theorem ok_wel {σ : Sg} {w : FI} (h : okS σ w) {k p : Int32} (h8 : vp_in (sGu σ) 8) (hk : vp_in k 6) (hp : vp_in p 10) (hf : sWho σ p = -1) : okS (sWelcome σ k p) (upd w (ix p) (sGu σ)) :=
  ⟨ok_welT h.1 h8 hk hp hf, fun g hg => ⟨upd_p (Q := fun x => -99 ≤ x.toInt ∧ x.toInt ≤ 99) (fun q hq => (h.2 q hq).1) (by decide) g hg, upd_p (Q := fun x => 0 ≤ x.toInt ∧ x.toInt ≤ 9999) (fun q hq => (h.2 q hq).2.1) (by decide) g hg, upd_p (Q := fun x => 0 ≤ x.toInt ∧ x.toInt ≤ 9999) (fun q hq => (h.2 q hq).2.2) (by decide) g hg⟩⟩
theorem lay_v {w v : Int32} (h : ¬ v < 0 ∧ ¬ (if w = 2 then 9 else 1 : Int32) < v) : (¬ w = 2 → vp_in v 2) ∧ (w = 2 → vp_in v 10) := by
  refine ⟨fun hw => ?_, fun hw => ?_⟩
  · rw [if_neg hw] at h
    exact (in_iff9 (n := 1) (by decide)).mp h
  · rw [if_pos hw] at h
    exact (in_iff9 (n := 9) (by decide)).mp h
theorem lay_2 {w : Int32} (h0 : ¬ w < 0) (h2 : ¬ 2 < w) (n0 : ¬ w = 0) (n1 : ¬ w = 1) : w = 2 := by
  rcases in3 ((in_iff9 (n := 2) (by decide)).mp ⟨h0, h2⟩) with q | q | q
  · exact absurd q n0
  · exact absurd q n1
  · exact q
theorem set_r99 {v : Int32} (h : ¬ v < -99 ∧ ¬ 99 < v) : -99 ≤ v.toInt ∧ v.toInt ≤ 99 := by
  have a1 : (-99 : Int32).toInt = -99 := by decide
  have a2 : (99 : Int32).toInt = 99 := by decide
  rw [fa_lt, fa_lt] at h
  omega
theorem set_r9999 {v : Int32} (h : ¬ v < 0 ∧ ¬ 9999 < v) : 0 ≤ v.toInt ∧ v.toInt ≤ 9999 := by
  have a1 : (0 : Int32).toInt = 0 := by decide
  have a2 : (9999 : Int32).toInt = 9999 := by decide
  rw [fa_lt, fa_lt] at h
  omega
