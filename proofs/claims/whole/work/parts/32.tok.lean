/-! THE TEXT: tokens over bytes -/
noncomputable def rnF (f : Nat → Prop) : Nat → Nat → Nat
  | 0, c => c
  | k + 1, c => iF (f c) (rnF f k (c + 1)) c
noncomputable def rn (L : Nat) (f : Nat → Prop) (c : Nat) : Nat := rnF (fun i => i < L ∧ f i) (L - c) c
theorem rn_y {L : Nat} {f : Nat → Prop} {c : Nat} (h : c < L) (hf : f c) : rn L f c = rn L f (c + 1) := by
  unfold rn
  obtain ⟨k, hk⟩ : ∃ k, L - c = k + 1 := ⟨L - c - 1, by omega⟩
  have hk2 : L - (c + 1) = k := by omega
  rw [hk, hk2]
  exact iF_t ⟨h, hf⟩
theorem rn_n {L : Nat} {f : Nat → Prop} {c : Nat} (h : ¬ (c < L ∧ f c)) : rn L f c = c := by
  unfold rn
  cases hk : L - c with
  | zero => rfl
  | succ k => exact iF_f h
theorem rnF_ge (f : Nat → Prop) : ∀ k c, c ≤ rnF f k c
  | 0, c => Nat.le_refl c
  | k + 1, c => by
    by_cases h : f c
    · rw [rnF, iF_t h]; have := rnF_ge f k (c + 1); omega
    · rw [rnF, iF_f h]; exact Nat.le_refl c
theorem rnF_le (f : Nat → Prop) : ∀ k c, rnF f k c ≤ c + k
  | 0, c => Nat.le_refl c
  | k + 1, c => by
    by_cases h : f c
    · rw [rnF, iF_t h]; have := rnF_le f k (c + 1); omega
    · rw [rnF, iF_f h]; omega
theorem rnF_in (f : Nat → Prop) : ∀ k c j, c ≤ j → j < rnF f k c → f j
  | 0, c, j, h1, h2 => by rw [rnF] at h2; omega
  | k + 1, c, j, h1, h2 => by
    by_cases h : f c
    · rw [rnF, iF_t h] at h2
      by_cases e : j = c
      · rw [e]; exact h
      · exact rnF_in f k (c + 1) j (by omega) h2
    · rw [rnF, iF_f h] at h2; omega
theorem rn_ge (L : Nat) (f : Nat → Prop) (c : Nat) : c ≤ rn L f c := rnF_ge _ _ _
theorem rn_le {L : Nat} {f : Nat → Prop} {c : Nat} (h : c ≤ L) : rn L f c ≤ L := by
  have := rnF_le (fun i => i < L ∧ f i) (L - c) c
  unfold rn; omega
theorem rn_in {L : Nat} {f : Nat → Prop} {c j : Nat} (h1 : c ≤ j) (h2 : j < rn L f c) : f j := (rnF_in _ _ _ _ h1 h2).2
abbrev isLt (x : Int32) : Prop := ¬ x < 97 ∧ ¬ 122 < x
abbrev isDg (x : Int32) : Prop := ¬ x < 48 ∧ ¬ 57 < x
noncomputable def sT (B : FI) (L c : Nat) : Nat := rn L (fun i => B i = 32) c
noncomputable def wE (B : FI) (L i : Nat) : Nat := rn L (fun i => isLt (B i)) i
noncomputable def dE (B : FI) (L i : Nat) : Nat := rn L (fun i => isDg (B i)) i
noncomputable def tKs (B : FI) (L i : Nat) : Int32 := iF (L ≤ i) 0 (iF (isLt (B i)) 1 (iF (isDg (B i)) 2 (iF (B i = 59) 3 4)))
noncomputable def eNs (B : FI) (L i : Nat) : Nat := iF (L ≤ i) i (iF (isLt (B i)) (wE B L i) (iF (isDg (B i)) (dE B L i) (i + 1)))
noncomputable def tK (B : FI) (L c : Nat) : Int32 := tKs B L (sT B L c)
noncomputable def eN (B : FI) (L c : Nat) : Nat := eNs B L (sT B L c)
def nVs (B : FI) : Nat → Nat → Nat → Nat
  | 0, _, v => v
  | k + 1, i, v => nVs B k (i + 1) (min 1000 (10 * v + (ix (B i) - 48)))
noncomputable def nV (B : FI) (L c : Nat) : Nat := nVs B (dE B L (sT B L c) - sT B L c) (sT B L c) 0
theorem sT_y {B : FI} {L c : Nat} (h : c < L) (hf : B c = 32) : sT B L c = sT B L (c + 1) := rn_y h hf
theorem sT_n {B : FI} {L c : Nat} (h : ¬ (c < L ∧ B c = 32)) : sT B L c = c := rn_n h
theorem sT_ge (B : FI) (L c : Nat) : c ≤ sT B L c := rn_ge _ _ _
theorem sT_le (B : FI) {L c : Nat} (h : c ≤ L) : sT B L c ≤ L := rn_le h
theorem eNs_ge (B : FI) (L i : Nat) : i ≤ eNs B L i := by
  unfold eNs
  by_cases h : L ≤ i
  · rw [iF_t h]; exact Nat.le_refl i
  rw [iF_f h]
  by_cases h1 : isLt (B i)
  · rw [iF_t h1]; exact rn_ge _ _ _
  rw [iF_f h1]
  by_cases h2 : isDg (B i)
  · rw [iF_t h2]; exact rn_ge _ _ _
  · rw [iF_f h2]; omega
theorem eNs_gt (B : FI) {L i : Nat} (h : i < L) : i < eNs B L i := by
  unfold eNs
  rw [iF_f (by omega)]
  by_cases h1 : isLt (B i)
  · rw [iF_t h1]; unfold wE; rw [rn_y h h1]; exact rn_ge _ _ _
  rw [iF_f h1]
  by_cases h2 : isDg (B i)
  · rw [iF_t h2]; unfold dE; rw [rn_y h h2]; exact rn_ge _ _ _
  · rw [iF_f h2]; omega
theorem eNs_le (B : FI) {L i : Nat} (h : i ≤ L) : eNs B L i ≤ L := by
  unfold eNs
  by_cases h0 : L ≤ i
  · rw [iF_t h0]; exact h
  rw [iF_f h0]
  by_cases h1 : isLt (B i)
  · rw [iF_t h1]; exact rn_le h
  rw [iF_f h1]
  by_cases h2 : isDg (B i)
  · rw [iF_t h2]; exact rn_le h
  · rw [iF_f h2]; omega
theorem tKs_0 {B : FI} {L i : Nat} (h : ¬ tKs B L i = 0) : i < L := by
  by_cases h0 : L ≤ i
  · exact absurd (by unfold tKs; rw [iF_t h0]) h
  · omega
theorem eN_le (B : FI) {L c : Nat} (h : c ≤ L) : eN B L c ≤ L := eNs_le B (sT_le B h)
theorem eN_ge (B : FI) (L c : Nat) : c ≤ eN B L c := Nat.le_trans (sT_ge B L c) (eNs_ge B L _)
theorem eN_gt {B : FI} {L c : Nat} (h : ¬ tK B L c = 0) : c < eN B L c := Nat.lt_of_le_of_lt (sT_ge B L c) (eNs_gt B (tKs_0 h))
theorem tKs_end {B : FI} {L i : Nat} (h : L ≤ i) : tKs B L i = 0 ∧ eNs B L i = i := ⟨by unfold tKs; rw [iF_t h], by unfold eNs; rw [iF_t h]⟩
theorem tKs_w {B : FI} {L i : Nat} (h : i < L) (h1 : isLt (B i)) : tKs B L i = 1 ∧ eNs B L i = wE B L i := ⟨by unfold tKs; rw [iF_f (by omega), iF_t h1], by unfold eNs; rw [iF_f (by omega), iF_t h1]⟩
theorem tKs_d {B : FI} {L i : Nat} (h : i < L) (h1 : ¬ isLt (B i)) (h2 : isDg (B i)) : tKs B L i = 2 ∧ eNs B L i = dE B L i := ⟨by unfold tKs; rw [iF_f (by omega), iF_f h1, iF_t h2], by unfold eNs; rw [iF_f (by omega), iF_f h1, iF_t h2]⟩
theorem tKs_s {B : FI} {L i : Nat} (h : i < L) (h1 : ¬ isLt (B i)) (h2 : ¬ isDg (B i)) : tKs B L i = iF (B i = 59) 3 4 ∧ eNs B L i = i + 1 := ⟨by unfold tKs; rw [iF_f (by omega), iF_f h1, iF_f h2], by unfold eNs; rw [iF_f (by omega), iF_f h1, iF_f h2]⟩
theorem dg_ix {x : Int32} (h : isDg x) : x = nI (ix x) ∧ 48 ≤ ix x ∧ ix x ≤ 57 := by
  have e1 : (48 : Int32).toInt = 48 := by decide
  have e2 : (57 : Int32).toInt = 57 := by decide
  obtain ⟨h1, h2⟩ := h
  rw [fa_lt] at h1 h2
  have hv : vp_in x 58 := vp_in_iff.mpr (by omega)
  refine ⟨(nI_ix (by decide) hv).symm, ?_, by have := ix_lt (by decide) hv; omega⟩
  show 48 ≤ x.toInt.toNat
  omega
theorem lt_ix {x : Int32} (h : isLt x) : x = nI (ix x) ∧ 97 ≤ ix x ∧ ix x ≤ 122 := by
  have e1 : (97 : Int32).toInt = 97 := by decide
  have e2 : (122 : Int32).toInt = 122 := by decide
  obtain ⟨h1, h2⟩ := h
  rw [fa_lt] at h1 h2
  have hv : vp_in x 123 := vp_in_iff.mpr (by omega)
  refine ⟨(nI_ix (by decide) hv).symm, ?_, by have := ix_lt (by decide) hv; omega⟩
  show 97 ≤ x.toInt.toNat
  omega
/-- one digit more -/
theorem nVs_s {B : FI} {L i v : Nat} (h : i < L) (hd : isDg (B i)) : nVs B (dE B L i - i) i v = nVs B (dE B L (i + 1) - (i + 1)) (i + 1) (min 1000 (10 * v + (ix (B i) - 48))) := by
  have e : dE B L i = dE B L (i + 1) := rn_y h hd
  have g : i + 1 ≤ dE B L (i + 1) := rn_ge _ _ _
  obtain ⟨k, hk⟩ : ∃ k, dE B L (i + 1) - i = k + 1 := ⟨dE B L (i + 1) - (i + 1), by omega⟩
  have hk2 : dE B L (i + 1) - (i + 1) = k := by omega
  rw [e, hk, hk2]; rfl
theorem nVs_e {B : FI} {L i v : Nat} (h : ¬ (i < L ∧ isDg (B i))) : nVs B (dE B L i - i) i v = v := by
  have e : dE B L i = i := rn_n h
  rw [e, Nat.sub_self]; rfl
theorem nVs_le {B : FI} : ∀ {k i v : Nat}, v ≤ 1000 → nVs B k i v ≤ 1000
  | 0, _, _, h => h
  | k + 1, i, v, _ => nVs_le (k := k) (Nat.min_le_left 1000 _)
theorem nV_le (B : FI) (L c : Nat) : nV B L c ≤ 1000 := nVs_le (Nat.zero_le _)
theorem dg_step {x : Int32} {v : Nat} (hv : v ≤ 1000) (h : isDg x) : 10 * nI v + x - 48 = nI (10 * v + (ix x - 48)) := by
  obtain ⟨e, h1, h2⟩ := dg_ix h
  generalize ix x = k at e h1 h2 ⊢
  subst e
  have h3 : 10 * nI v + nI k = nI ((10 * v + (k - 48)) + 48) := by
    rw [show (10 : Int32) * nI v = nI (10 * v) from (Int32.ofNat_mul 10 v).symm, nI_add]; congr 1; omega
  rw [h3, ← nI_add]
  exact Int32.add_sub_cancel _ _
theorem dg_min {x : Int32} {v : Nat} (hv : v ≤ 1000) (h : isDg x) : (if 10 * nI v + x - 48 < 1000 then 10 * nI v + x - 48 else 1000) = nI (min 1000 (10 * v + (ix x - 48))) := by
  obtain ⟨-, h1, h2⟩ := dg_ix h
  rw [dg_step hv h]
  by_cases hc : 10 * v + (ix x - 48) < 1000
  · rw [if_pos (show nI _ < (1000 : Int32) from (nI_ltI (b := 1000) (by omega) (by omega)).mpr hc), show min 1000 (10 * v + (ix x - 48)) = 10 * v + (ix x - 48) by omega]
  · rw [if_neg (show ¬ nI _ < (1000 : Int32) from fun q => hc ((nI_ltI (b := 1000) (by omega) (by omega)).mp q)), show min 1000 (10 * v + (ix x - 48)) = 1000 by omega]; rfl
/-- the reference's number against the class's -/
def mV (v : Nat) (w : Int32) : Prop := (v < 1000 ∧ w = nI v) ∨ (v = 1000 ∧ ¬ w ≤ 999)
theorem mV_s {x w : Int32} {v : Nat} (hm : mV v w) (h : isDg x) : mV (min 1000 (10 * v + (ix x - 48))) (if w ≤ 999 then 10 * w + x - 48 else 10000) := by
  obtain ⟨-, h1, h2⟩ := dg_ix h
  rcases hm with ⟨h3, rfl⟩ | ⟨rfl, h3⟩
  · rw [if_pos (show nI v ≤ (999 : Int32) from (nI_leI (b := 999) (by omega) (by omega)).mpr (by omega)), dg_step (by omega) h]
    by_cases hc : 10 * v + (ix x - 48) < 1000
    · exact Or.inl ⟨by omega, by congr 1; omega⟩
    · exact Or.inr ⟨by omega, fun q => by have := (nI_leI (b := 999) (by omega) (by omega)).mp q; omega⟩
  · rw [if_neg h3]
    exact Or.inr ⟨by omega, by decide⟩
theorem mV_lt {v k : Nat} {w : Int32} (hm : mV v w) (hk : k < 1000) : (¬ w < 0 ∧ ¬ nI k < w) ↔ v ≤ k := by
  rcases hm with ⟨h3, rfl⟩ | ⟨rfl, h3⟩
  · rw [nI_ltI (by omega) (by omega)]
    exact ⟨fun h => by omega, fun h => ⟨nI_pos (by omega), by omega⟩⟩
  · refine ⟨fun h => ?_, fun h => by omega⟩
    refine absurd ?_ h3
    have e1 : (999 : Int32).toInt = 999 := by decide
    have e2 := nI_toInt (n := k) (by omega)
    have := h.2
    rw [fa_lt, e2] at this
    rw [fa_le, e1]
    omega
theorem mV_eq {v : Nat} {w : Int32} (hm : mV v w) (hk : v < 1000) : w = nI v := by
  rcases hm with ⟨_, h⟩ | ⟨h, _⟩
  · exact h
  · omega
