/-! THE TEXT: the reference's token -/
noncomputable def bA (B : FI) (L i : Nat) : Int32 := iF (i < L) (B i) (-1)
theorem bA_t {B : FI} {L i : Nat} (h : i < L) : bA B L i = B i := iF_t h
theorem bA_f {B : FI} {L i : Nat} (h : ¬ i < L) : bA B L i = -1 := iF_f h
theorem bA_32 {B : FI} {L i : Nat} (h : bA B L i = 32) : i < L ∧ B i = 32 := by
  by_cases q : i < L
  · rw [bA_t q] at h; exact ⟨q, h⟩
  · rw [bA_f q] at h; exact absurd h (by decide)
theorem bA_n32 {B : FI} {L i : Nat} (h : ¬ bA B L i = 32) : ¬ (i < L ∧ B i = 32) := fun q => h ((bA_t q.1).trans q.2)
theorem bA_lt {B : FI} {L i : Nat} (h : isLt (bA B L i)) : i < L ∧ isLt (B i) := by
  by_cases q : i < L
  · rw [bA_t q] at h; exact ⟨q, h⟩
  · rw [bA_f q] at h; exact absurd h (by decide)
theorem bA_dg {B : FI} {L i : Nat} (h : isDg (bA B L i)) : i < L ∧ isDg (B i) := by
  by_cases q : i < L
  · rw [bA_t q] at h; exact ⟨q, h⟩
  · rw [bA_f q] at h; exact absurd h (by decide)
theorem bA_nlt {B : FI} {L i : Nat} (h : ¬ isLt (bA B L i)) : ¬ (i < L ∧ isLt (B i)) := fun q => h (by rw [bA_t q.1]; exact q.2)
theorem bA_ndg {B : FI} {L i : Nat} (h : ¬ isDg (bA B L i)) : ¬ (i < L ∧ isDg (B i)) := fun q => h (by rw [bA_t q.1]; exact q.2)
theorem bA_ge {B : FI} {L i : Nat} (h : 0 ≤ bA B L i) : i < L := by
  by_cases q : i < L
  · exact q
  · rw [bA_f q] at h; exact absurd h (by decide)
theorem bA_lt0 {B : FI} {L i : Nat} (hB : ∀ j, j < L → ¬ B j < 0) (h : ¬ 0 ≤ bA B L i) : ¬ i < L := fun q => by
  rw [bA_t q] at h
  exact hB i q (Int32.not_le.mp h)
def MTok (B : FI) (L c : Nat) (so be te : Int32) (wd : Int64) (va : Int32) : Prop :=
  so = iF (tK B L c = 4) 3 (tK B L c) ∧ be = nI (sT B L c) ∧ te = nI (eN B L c) ∧ (tK B L c = 1 → mW B (sT B L c) (eN B L c) wd) ∧ (tK B L c = 2 → mV (nV B L c) va) ∧ (tK B L c = 3 → va = 59) ∧ (tK B L c = 4 → ¬ va = 59) ∧ c ≤ L ∧ L ≤ 120
theorem MTok.le {B : FI} {L c : Nat} {so be te : Int32} {wd : Int64} {va : Int32} (h : MTok B L c so be te wd va) : c ≤ L ∧ L ≤ 120 ∧ eN B L c ≤ L ∧ sT B L c ≤ L := ⟨h.2.2.2.2.2.2.2.1, h.2.2.2.2.2.2.2.2, eN_le B h.2.2.2.2.2.2.2.1, sT_le B h.2.2.2.2.2.2.2.1⟩
theorem tK_or (B : FI) (L c : Nat) : tK B L c = 0 ∨ tK B L c = 1 ∨ tK B L c = 2 ∨ tK B L c = 3 ∨ tK B L c = 4 := by
  unfold tK tKs
  by_cases h0 : L ≤ sT B L c
  · rw [iF_t h0]; exact Or.inl rfl
  rw [iF_f h0]
  by_cases h1 : isLt (B (sT B L c))
  · rw [iF_t h1]; exact Or.inr (Or.inl rfl)
  rw [iF_f h1]
  by_cases h2 : isDg (B (sT B L c))
  · rw [iF_t h2]; exact Or.inr (Or.inr (Or.inl rfl))
  rw [iF_f h2]
  by_cases h3 : B (sT B L c) = 59
  · rw [iF_t h3]; exact Or.inr (Or.inr (Or.inr (Or.inl rfl)))
  · rw [iF_f h3]; exact Or.inr (Or.inr (Or.inr (Or.inr rfl)))
theorem so_eq {B : FI} {L c : Nat} {so : Int32} (h : so = iF (tK B L c = 4) 3 (tK B L c)) : (so = 0 ↔ tK B L c = 0) ∧ (so = 1 ↔ tK B L c = 1) ∧ (so = 2 ↔ tK B L c = 2) ∧ (so = 3 ↔ (tK B L c = 3 ∨ tK B L c = 4)) := by
  rcases tK_or B L c with e | e | e | e | e <;> rw [e] at h ⊢
  all_goals first | rw [iF_t rfl] at h | rw [iF_f (by decide)] at h
  all_goals subst h; decide
theorem MTok.w {B : FI} {L c : Nat} {so be te : Int32} {wd : Int64} {va : Int32} (h : MTok B L c so be te wd va) {i : Nat} (hi : i < 11) : (so = 1 ∧ wd = lN (codS.getD i 0)) ↔ isW B L c i := by
  have hs := (so_eq h.1).2.1
  constructor
  · intro q
    have ht := hs.mp q.1
    exact (mW_iff hi ht (h.2.2.2.1 ht)).mp q.2
  · intro q
    exact ⟨hs.mpr q.1, (mW_iff hi q.1 (h.2.2.2.1 q.1)).mpr q⟩
theorem MTok.n {B : FI} {L c : Nat} {so be te : Int32} {wd : Int64} {va : Int32} (h : MTok B L c so be te wd va) {b : Int32} (hb : vp_in b 11) : (so = 2 ∧ ¬ va < 0 ∧ ¬ (b - 1) < va) ↔ isN B L c b := by
  have hs := (so_eq h.1).2.2.1
  obtain ⟨j, hj, rfl⟩ := vp_in_of hb (by decide)
  have hv := nV_le B L c
  constructor
  · intro q
    have ht := hs.mp q.1
    refine ⟨ht, ?_⟩
    rw [nI_ltI (by omega) (by omega)]
    by_cases h0 : j = 0
    · subst h0
      have e1 : ((nI 0 : Int32) - 1).toInt = -1 := by decide
      have e2 : (0 : Int32).toInt = 0 := by decide
      have := q.2
      rw [fa_lt, fa_lt, e1] at this
      omega
    · have e : nI j - 1 = nI (j - 1) := by
        rw [show nI j = nI (j - 1) + 1 by rw [nI_1, Nat.sub_add_cancel (by omega)], Int32.add_sub_cancel]
      have := q.2
      rw [e, mV_lt (h.2.2.2.2.1 ht) (by omega)] at this
      omega
  · intro q
    have ht := q.1
    have q2 := q.2
    rw [nI_ltI (by omega) (by omega)] at q2
    have e : nI j - 1 = nI (j - 1) := by
      rw [show nI j = nI (j - 1) + 1 by rw [nI_1, Nat.sub_add_cancel (by omega)], Int32.add_sub_cancel]
    refine ⟨hs.mpr ht, ?_⟩
    rw [e, mV_lt (h.2.2.2.2.1 ht) (by omega)]
    omega
theorem MTok.v {B : FI} {L c : Nat} {so be te : Int32} {wd : Int64} {va : Int32} (h : MTok B L c so be te wd va) {b : Int32} (hb : vp_in b 11) (q : isN B L c b) : va = nI (nV B L c) := by
  obtain ⟨j, hj, rfl⟩ := vp_in_of hb (by decide)
  have hv := nV_le B L c
  have q2 := q.2
  rw [nI_ltI (by omega) (by omega)] at q2
  exact mV_eq (h.2.2.2.2.1 q.1) (by omega)
theorem MTok.z {B : FI} {L c : Nat} {so be te : Int32} {wd : Int64} {va : Int32} (h : MTok B L c so be te wd va) : so = 0 ↔ tK B L c = 0 := (so_eq h.1).1
theorem MTok.sg {B : FI} {L c : Nat} {so be te : Int32} {wd : Int64} {va : Int32} (h : MTok B L c so be te wd va) : (so = 3 ∧ va = 59) ↔ tK B L c = 3 := by
  have hs := (so_eq h.1).2.2.2
  constructor
  · intro q
    rcases hs.mp q.1 with e | e
    · exact e
    · exact absurd q.2 (h.2.2.2.2.2.2.1 e)
  · intro q
    exact ⟨hs.mpr (Or.inl q), h.2.2.2.2.2.1 q⟩
/-- the code of one letter more -/
theorem cd_step {B : FI} {a n : Nat} (hn : n < 12) (hl : ∀ j, j < n → isLt (B (a + j))) (h : isLt (B (a + n))) : 27 * lN (cd B a n) + (B (a + n)).toInt64 - 96 = lN (cd B a (n + 1)) := by
  obtain ⟨e, h1, h2⟩ := lt_ix h
  have hx : (B (a + n)).toInt64 = lN (ix (B (a + n))) := by
    rw [← Int64.toInt_inj, Int32.toInt_toInt64, lN_toInt (by omega)]
    have := nI_toInt (n := ix (B (a + n))) (by omega)
    rw [← e] at this
    exact this
  have e2 : lN (ix (B (a + n))) = lN (ix (B (a + n)) - 96) + lN 96 := by rw [lN_add]; congr 1; omega
  rw [hx, show (27 : Int64) = lN 27 from rfl, show (96 : Int64) = lN 96 from rfl, lN_mul, e2, ← Int64.add_assoc, Int64.add_sub_cancel, lN_add]
  rfl
/-- the reference's word, letter by letter -/
theorem mW_0 (B : FI) (a : Nat) : mW B a a 0 := by unfold mW; rw [Nat.sub_self]; rfl
theorem mW_s {B : FI} {a b : Nat} {w : Int64} (hab : a ≤ b) (hb : b ≤ 120) (hl : ∀ j, a ≤ j → j < b → isLt (B j)) (h : isLt (B b)) (hw : mW B a b w) : mW B a (b + 1) (if (12 : Int32) ≤ nI b - nI a then -1 else 27 * w + (B b).toInt64 - 96) := by
  have e : nI b - nI a = nI (b - a) := by
    rw [show b = (b - a) + a by omega, ← nI_add, Int32.add_sub_cancel, Nat.add_sub_cancel]
  rw [e]
  unfold mW at hw ⊢
  by_cases q : 12 ≤ b - a
  · rw [if_pos (show (12 : Int32) ≤ nI (b - a) from (nI_leI (a := 12) (by omega) (by omega)).mpr q), if_neg (by omega)]
  · rw [if_neg (show ¬ (12 : Int32) ≤ nI (b - a) from fun z => q ((nI_leI (a := 12) (by omega) (by omega)).mp z)), if_pos (by omega)]
    rw [if_pos (by omega)] at hw
    rw [hw]
    have := cd_step (B := B) (a := a) (n := b - a) (by omega) (fun j hj => hl _ (by omega) (by omega)) (by rw [Nat.add_sub_cancel' hab]; exact h)
    rw [Nat.add_sub_cancel' hab] at this
    rw [this]; congr 2; omega
theorem mtok_0 {B : FI} {L c i : Nat} {va : Int32} (hc : c ≤ L) (hL : L ≤ 120) (hs : sT B L c = i) (h : ¬ i < L) : MTok B L c 0 (nI i) (nI i) 0 va := by
  have h2 := tKs_end (B := B) (L := L) (i := i) (by omega)
  have ek : tK B L c = 0 := by unfold tK; rw [hs, h2.1]
  have ee : eN B L c = i := by unfold eN; rw [hs, h2.2]
  refine ⟨?_, by rw [hs], by rw [ee], ?_, ?_, ?_, ?_, hc, hL⟩ <;> rw [ek]
  · rw [iF_f (by decide)]
  all_goals exact fun q => absurd q (by decide)
theorem mtok_1 {B : FI} {L c i j : Nat} {wd : Int64} {va : Int32} (hc : c ≤ L) (hL : L ≤ 120) (hs : sT B L c = i) (h : i < L) (hl : isLt (B i)) (he : wE B L i = j) (hw : mW B i j wd) : MTok B L c 1 (nI i) (nI j) wd va := by
  have h2 := tKs_w h hl
  have ek : tK B L c = 1 := by unfold tK; rw [hs, h2.1]
  have ee : eN B L c = j := by unfold eN; rw [hs, h2.2, he]
  refine ⟨?_, by rw [hs], by rw [ee], ?_, ?_, ?_, ?_, hc, hL⟩ <;> rw [ek]
  · rw [iF_f (by decide)]
  · intro _; rw [hs, ee]; exact hw
  all_goals exact fun q => absurd q (by decide)
theorem mtok_2 {B : FI} {L c i j v : Nat} {wd : Int64} {va : Int32} (hc : c ≤ L) (hL : L ≤ 120) (hs : sT B L c = i) (h : i < L) (hl : ¬ isLt (B i)) (hd : isDg (B i)) (he : dE B L i = j) (hv : nVs B (dE B L i - i) i 0 = v) (hm : mV v va) : MTok B L c 2 (nI i) (nI j) wd va := by
  have h2 := tKs_d h hl hd
  have ek : tK B L c = 2 := by unfold tK; rw [hs, h2.1]
  have ee : eN B L c = j := by unfold eN; rw [hs, h2.2, he]
  have ev : nV B L c = v := by unfold nV; rw [hs, hv]
  refine ⟨?_, by rw [hs], by rw [ee], ?_, ?_, ?_, ?_, hc, hL⟩ <;> rw [ek]
  · rw [iF_f (by decide)]
  · exact fun q => absurd q (by decide)
  · intro _; rw [ev]; exact hm
  all_goals exact fun q => absurd q (by decide)
theorem mtok_3 {B : FI} {L c i : Nat} {wd : Int64} (hc : c ≤ L) (hL : L ≤ 120) (hs : sT B L c = i) (h : i < L) (hl : ¬ isLt (B i)) (hd : ¬ isDg (B i)) : MTok B L c 3 (nI i) (nI (i + 1)) wd (B i) := by
  have h2 := tKs_s h hl hd
  have ee : eN B L c = i + 1 := by unfold eN; rw [hs, h2.2]
  have ek : tK B L c = iF (B i = 59) 3 4 := by unfold tK; rw [hs, h2.1]
  by_cases q : B i = 59
  · rw [iF_t q] at ek
    refine ⟨?_, by rw [hs], by rw [ee], ?_, ?_, ?_, ?_, hc, hL⟩ <;> rw [ek]
    · rw [iF_f (by decide)]
    · exact fun q => absurd q (by decide)
    · exact fun q => absurd q (by decide)
    · exact fun _ => q
    · exact fun q => absurd q (by decide)
  · rw [iF_f q] at ek
    refine ⟨?_, by rw [hs], by rw [ee], ?_, ?_, ?_, ?_, hc, hL⟩ <;> rw [ek]
    · rw [iF_t rfl]
    · exact fun q => absurd q (by decide)
    · exact fun q => absurd q (by decide)
    · exact fun q => absurd q (by decide)
    · exact fun _ => q
theorem mV_0 : mV 0 0 := Or.inl ⟨by decide, rfl⟩
/-- an item, as the reference has told it -/
def TMo (x : Int32 × Sg × Nat) (B : FI) (L : Nat) (gd : Int32) (σ : Sg) (so be te : Int32) (wd : Int64) (va : Int32) : Prop := gd = x.1 ∧ σ = x.2.1 ∧ MTok B L x.2.2 so be te wd va
theorem TMo_t {P : Prop} {x y : Int32 × Sg × Nat} {B : FI} {L : Nat} {gd : Int32} {σ : Sg} {so be te : Int32} {wd : Int64} {va : Int32} (h : P) (q : TMo x B L gd σ so be te wd va) : TMo (iF P x y) B L gd σ so be te wd va := by rw [iF_t h]; exact q
theorem TMo_f {P : Prop} {x y : Int32 × Sg × Nat} {B : FI} {L : Nat} {gd : Int32} {σ : Sg} {so be te : Int32} {wd : Int64} {va : Int32} (h : ¬ P) (q : TMo y B L gd σ so be te wd va) : TMo (iF P x y) B L gd σ so be te wd va := by rw [iF_f h]; exact q
theorem gu_11 {gu : Int32} (h : vp_in gu 9) : vp_in gu 11 := in_le h (by decide)
theorem tIt_1 {B : FI} {L : Nat} {σ : Sg} {c : Nat} (h : ¬ tKd B L c < 0) : tItem B L σ c = iF (8 ≤ sGu σ) (0, σ, c) (tGst B L σ (tKd B L c) (eN B L c)) := by
  unfold tItem
  rw [iF_f (fun q => h (tKd_w (by decide) (by decide) q)), iF_f (fun q => h (tKd_w (by decide) (by decide) q)), iF_f h]
theorem tKd_eq (B : FI) (L c : Nat) : tKd B L c = iF (isW B L c 0) 0 (iF (isW B L c 1) 1 (iF (isW B L c 2) 2 (iF (isW B L c 3) 3 (iF (isW B L c 4) 4 (iF (isW B L c 5) 5 (-1)))))) := rfl
def MW1 (B : FI) (L cu : Nat) (r gd so be te : Int32) (wd : Int64) (va : Int32) : Prop :=
  (isW B L cu 10 → isN B L (eN B L cu) 10 → r = nI (nV B L (eN B L cu)) ∧ gd = 1 ∧ MTok B L (eN B L (eN B L cu)) so be te wd va) ∧ (isW B L cu 10 → ¬ isN B L (eN B L cu) 10 → gd = 0 ∧ MTok B L (eN B L cu) so be te wd va) ∧ (¬ isW B L cu 10 → r = 0 ∧ gd = 1 ∧ MTok B L cu so be te wd va)
theorem mw1_n {B : FI} {L cu : Nat} {so be te : Int32} {wd : Int64} {va : Int32} (hw : ¬ isW B L cu 10) (hT : MTok B L cu so be te wd va) : MW1 B L cu 0 1 so be te wd va :=
  ⟨fun h => absurd h hw, fun h => absurd h hw, fun _ => ⟨rfl, rfl, hT⟩⟩
theorem mw1_y {B : FI} {L cu : Nat} {so be te so1 be1 te1 : Int32} {wd wd1 : Int64} {va va1 : Int32} (hw : isW B L cu 10) (hT1 : MTok B L (eN B L cu) so1 be1 te1 wd1 va1) (hT : MTok B L (iF (isN B L (eN B L cu) 10) (eN B L (eN B L cu)) (eN B L cu)) so be te wd va) : MW1 B L cu va1 (bI (isN B L (eN B L cu) 10)) so be te wd va := by
  refine ⟨fun _ h => ⟨hT1.v (vp_in_iff.mpr (by decide)) h, bI_t h, ?_⟩, fun _ h => ⟨bI_f h, ?_⟩, fun h => absurd hw h⟩
  · rw [iF_t h] at hT; exact hT
  · rw [iF_f h] at hT; exact hT
theorem if_bI (P : Prop) : (if bI P = 0 then 0 else 1 : Int32) = bI P := by
  rcases bI01 P with e | e <;> rw [e] <;> rfl
theorem iF_01 {P : Prop} {a b : Int32 × Sg × Nat} (h1 : a.1 = 0 ∨ a.1 = 1) (h2 : b.1 = 0 ∨ b.1 = 1) : (iF P a b).1 = 0 ∨ (iF P a b).1 = 1 := by
  by_cases h : P
  · rw [iF_t h]; exact h1
  · rw [iF_f h]; exact h2
theorem tItem_01 (B : FI) (L : Nat) (σ : Sg) (c : Nat) : (tItem B L σ c).1 = 0 ∨ (tItem B L σ c).1 = 1 :=
  iF_01 (iF_01 (iF_01 (iF_01 (Or.inr rfl) (Or.inl rfl)) (Or.inr rfl)) (Or.inl rfl)) (iF_01 (iF_01 (iF_01 (Or.inr rfl) (Or.inl rfl)) (Or.inl rfl)) (iF_01 (Or.inl rfl) (iF_01 (Or.inl rfl) (iF_01 (Or.inr rfl) (Or.inl rfl)))))
theorem sDin_f {B : FI} {L c d k : Nat} {σ σ' : Sg} {bg : Int32} (hk : c ≤ L ∧ L ≤ 120 ∧ d ≤ L ∧ k ≤ L) (e : tTell B L 120 1 σ 0 = (-1 - nI k, σ')) (hb : bg = nI k) : (-1 - bg, σ) = sDinner B L σ := by
  unfold sDinner
  rw [e, hb]
  have hn : (-1 - nI k : Int32) < 0 := by
    obtain ⟨j, hj⟩ : ∃ j, j = k := ⟨_, rfl⟩
    have h1 : k < 121 := by omega
    have : ∀ q, q < 121 → (-1 - nI q : Int32) < 0 := by decide
    exact this k h1
  rw [iF_t hn]
theorem sDin_t {B : FI} {L i : Nat} {σ σ' : Sg} (hi : i < 121) (e : tTell B L 120 1 σ 0 = (nI (i + 1), σ')) : (nI (i + 1), σ') = sDinner B L σ := by
  unfold sDinner
  rw [e, iF_f (show ¬ (nI (i + 1), σ').1 < 0 from nI_pos (by omega))]
