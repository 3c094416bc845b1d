/-! THE TEXT: a token's kind out of its first byte, and its run -/
noncomputable def tkO (x : Int32) : Int32 := iF (isLt x) 1 (iF (isDg x) 2 (iF (x = 59) 3 4))
theorem dg_nl {x : Int32} (h : isDg x) : ¬ isLt x := fun q => by
  obtain ⟨-, -, h2⟩ := dg_ix h
  obtain ⟨-, h3, -⟩ := lt_ix q
  omega
theorem tkO_lt {x : Int32} (h : isLt x) : tkO x = 1 := iF_t h
theorem tkO_dg {x : Int32} (h : isDg x) : tkO x = 2 := (iF_f (dg_nl h)).trans (iF_t h)
theorem tkO_34 {x : Int32} (h1 : ¬ isLt x) (h2 : ¬ isDg x) : tkO x = iF (x = 59) 3 4 := (iF_f h1).trans (iF_f h2)
theorem tkO_o {x : Int32} (h1 : ¬ isLt x) (h2 : ¬ isDg x) : tkO x = 3 ∨ tkO x = 4 := by
  rw [tkO_34 h1 h2]
  by_cases h3 : x = 59
  · exact Or.inl (iF_t h3)
  · exact Or.inr (iF_f h3)
theorem sg_12 {t : Int32} (h : t = 3 ∨ t = 4) : ¬ t = 1 ∧ ¬ t = 2 := by
  rcases h with h | h
  · rw [h]; decide
  · rw [h]; decide
theorem tkO_1 {x : Int32} (h : tkO x = 1) : isLt x := Classical.byContradiction fun h1 => by
  by_cases h2 : isDg x
  · rw [tkO_dg h2] at h; exact absurd h (by decide)
  · exact (sg_12 (tkO_o h1 h2)).1 h
theorem tkO_2 {x : Int32} (h : tkO x = 2) : isDg x := Classical.byContradiction fun h2 => by
  by_cases h1 : isLt x
  · rw [tkO_lt h1] at h; exact absurd h (by decide)
  · exact (sg_12 (tkO_o h1 h2)).2 h
theorem tKs_tkO {B : FI} {L i : Nat} (h : i < L) : tKs B L i = tkO (B i) := by
  unfold tKs tkO
  exact iF_f (Nat.not_le.mpr h)
theorem tK_v {B : FI} {ln : Int32} {i : Nat} (hln : ln = nI (ix ln)) (h1 : ix ln ≤ 120) (hi : i ≤ 120) : (if ln ≤ nI i then (0 : Int32) else tkO (B i)) = tKs B (ix ln) i := by
  have e : ln ≤ nI i ↔ ix ln ≤ i := cmp_le (a := ix ln) (b := i) hln rfl (by omega) (by omega)
  by_cases h : ix ln ≤ i
  · rw [if_pos (e.mpr h), (tKs_end h).1]
  · rw [if_neg (fun q => h (e.mp q)), tKs_tkO (by omega)]
noncomputable def eT (B : FI) (L : Nat) (t : Int32) (j : Nat) : Nat := iF (t = 1 ∨ t = 2) (rn L (fun k => tkO (B k) = t) j) j
theorem eT_y {B : FI} {L j : Nat} {t : Int32} (h : t = 1 ∨ t = 2) (hj : j < L) (hb : tkO (B j) = t) : eT B L t j = eT B L t (j + 1) := by
  unfold eT
  rw [iF_t h, iF_t h]
  exact rn_y hj hb
theorem eT_n {B : FI} {L j : Nat} {t : Int32} (h : ¬ ((t = 1 ∨ t = 2) ∧ j < L ∧ tkO (B j) = t)) : eT B L t j = j := by
  unfold eT
  by_cases q : t = 1 ∨ t = 2
  · rw [iF_t q]; exact rn_n (fun z => h ⟨q, z⟩)
  · exact iF_f q
theorem eT_1 (B : FI) (L i : Nat) : eT B L 1 i = wE B L i := by
  have e : (fun k => tkO (B k) = 1) = (fun k => isLt (B k)) := funext fun k => propext ⟨tkO_1, tkO_lt⟩
  unfold eT wE
  rw [iF_t (Or.inl rfl), e]
theorem eT_2 (B : FI) (L i : Nat) : eT B L 2 i = dE B L i := by
  have e : (fun k => tkO (B k) = 2) = (fun k => isDg (B k)) := funext fun k => propext ⟨tkO_2, tkO_dg⟩
  unfold eT dE
  rw [iF_t (Or.inr rfl), e]
theorem eNs_eT {B : FI} {L i : Nat} {t : Int32} (ht : t = tKs B L i) (h3 : ¬ t = 3) (h4 : ¬ t = 4) : eNs B L i = eT B L t i := by
  by_cases h : L ≤ i
  · rw [(tKs_end (B := B) h).2]
    exact (eT_n (fun q => Nat.not_lt.mpr h q.2.1)).symm
  have hi : i < L := Nat.not_le.mp h
  by_cases h1 : isLt (B i)
  · obtain ⟨a, b⟩ := tKs_w hi h1
    rw [b, ht, a, eT_1]
  by_cases h2 : isDg (B i)
  · obtain ⟨a, b⟩ := tKs_d hi h1 h2
    rw [b, ht, a, eT_2]
  · rw [tKs_tkO hi] at ht
    rcases tkO_o h1 h2 with q | q
    · exact absurd (ht.trans q) h3
    · exact absurd (ht.trans q) h4
theorem eNs_sg {B : FI} {L i : Nat} {t : Int32} (ht : t = tKs B L i) (h : t = 3 ∨ t = 4) : eNs B L i = i + 1 := by
  by_cases h0 : L ≤ i
  · have e : t = 0 := ht.trans (tKs_end h0).1
    rw [e] at h
    exact absurd h (by decide)
  have hi : i < L := Nat.not_le.mp h0
  by_cases h1 : isLt (B i)
  · exact absurd (ht.trans (tKs_w hi h1).1) (sg_12 h).1
  by_cases h2 : isDg (B i)
  · exact absurd (ht.trans (tKs_d hi h1 h2).1) (sg_12 h).2
  · exact (tKs_s hi h1 h2).2
theorem tok_of {B : FI} {L c i j w : Nat} {t : Int32} (hc : c ≤ L) (hL : L ≤ 120) (hs : sT B L c = i) (ht : t = tKs B L i) (h3 : ¬ t = 3) (h4 : ¬ t = 4) (he : eT B L t i = j) (hn : t = 2 → nVs B (dE B L i - i) i 0 = w) : Tok B L c t (nI i) (nI j) (nI w) := by
  subst hs
  refine ⟨ht, rfl, ?_, fun q => ?_, hc, hL⟩
  · unfold eN; rw [eNs_eT ht h3 h4, he]
  · unfold nV; rw [hn (ht.trans q)]
theorem tok_sg {B : FI} {L c i : Nat} {t nm : Int32} (hc : c ≤ L) (hL : L ≤ 120) (hs : sT B L c = i) (ht : t = tKs B L i) (h : t = 3 ∨ t = 4) : Tok B L c t (nI i) (nI i + 1) nm := by
  subst hs
  refine ⟨ht, rfl, ?_, fun q => absurd (ht.trans q) (sg_12 h).2, hc, hL⟩
  unfold eN; rw [eNs_sg ht h]; exact nI_add _ 1
