/-! THE TEXT: words -/
def bytS : List (List Int32) := [[103, 117, 101, 115, 116], [98, 105, 115, 104, 111, 112], [108, 97, 100, 121], [101, 110, 118, 111, 121], [99, 97, 114, 100, 105, 110, 97, 108], [98, 114, 105, 100, 101], [108, 97, 121], [99, 104, 97, 110, 103, 101], [104, 101, 97, 114, 116], [99, 114, 111, 115, 115], [115, 112, 111, 111, 110]]
def lenS : List Nat := [5, 6, 4, 5, 8, 5, 3, 6, 5, 5, 5]
abbrev wL (i : Nat) : Nat := lenS.getD i 0
abbrev wB (i j : Nat) : Int32 := (bytS.getD i []).getD j 0
theorem wL_8 : ∀ i, i < 11 → wL i ≤ 8 ∧ 3 ≤ wL i := by decide
theorem wB_lt : ∀ i, i < 11 → ∀ j, j < wL i → isLt (wB i j) := by decide
theorem wB_and : ∀ i, i < 11 → ∀ j, j < wL i → wB i j &&& 255 = wB i j := by decide
/-- the token at c is the word i -/
def isW (B : FI) (L c i : Nat) : Prop := tK B L c = 1 ∧ eN B L c = sT B L c + wL i ∧ ∀ j, j < wL i → B (sT B L c + j) = wB i j
/-- a number below -/
def isN (B : FI) (L c : Nat) (b : Int32) : Prop := tK B L c = 2 ∧ nI (nV B L c) < b
/-- two words are not the same -/
theorem wd_ne : ∀ i, i < 11 → ∀ k, k < 11 → i ≠ k → wL i ≠ wL k ∨ ∃ j, j < 8 ∧ j < wL i ∧ wB i j ≠ wB k j := by decide
theorem isW_ne {B : FI} {L c i k : Nat} (hi : i < 11) (hk : k < 11) (h : isW B L c i) (hik : i ≠ k) : ¬ isW B L c k := fun h2 => by
  have e : wL i = wL k := by have := h.2.1; have := h2.2.1; omega
  rcases wd_ne i hi k hk hik with h3 | ⟨j, -, h4, h5⟩
  · exact h3 e
  · exact h5 ((h.2.2 j h4).symm.trans (h2.2.2 j (by omega)))
/-- the code of n letters -/
def cd (B : FI) (st : Nat) : Nat → Nat
  | 0 => 0
  | n + 1 => 27 * cd B st n + (ix (B (st + n)) - 96)
theorem cd_lt {B : FI} {st : Nat} : ∀ {n : Nat}, (∀ j, j < n → isLt (B (st + j))) → cd B st n < 27 ^ n
  | 0, _ => Nat.one_pos
  | n + 1, h => by
    have := cd_lt (n := n) (fun j hj => h j (by omega))
    have h1 := lt_ix (h n (by omega))
    rw [cd, Nat.pow_succ]; omega
theorem cd_inj {B W : FI} {a b : Nat} : ∀ {n m : Nat}, (∀ j, j < n → isLt (B (a + j))) → (∀ j, j < m → isLt (W (b + j))) → cd B a n = cd W b m → n = m ∧ ∀ j, j < n → B (a + j) = W (b + j)
  | 0, 0, _, _, _ => ⟨rfl, fun j h => absurd h (Nat.not_lt_zero j)⟩
  | 0, m + 1, _, h2, e => by
    have h1 := lt_ix (h2 m (by omega))
    rw [cd, cd] at e; omega
  | n + 1, 0, h1, _, e => by
    have h1 := lt_ix (h1 n (by omega))
    rw [cd, cd] at e; omega
  | n + 1, m + 1, h1, h2, e => by
    have g1 := lt_ix (h1 n (by omega))
    have g2 := lt_ix (h2 m (by omega))
    rw [cd, cd] at e
    obtain ⟨e1, e2⟩ := cd_inj (n := n) (m := m) (fun j hj => h1 j (by omega)) (fun j hj => h2 j (by omega)) (by omega)
    subst e1
    refine ⟨rfl, fun j hj => ?_⟩
    by_cases q : j = n
    · subst q
      rw [g1.1, g2.1]
      congr 1
      omega
    · exact e2 j (by omega)
def codS : List Nat := [4137608, 33861013, 237058, 2949235, 32029073580, 1423850, 8800, 47328332, 4351178, 1960084, 10423661]
theorem codS_ok : ∀ i, i < 11 → cd (wB i) 0 (wL i) = codS.getD i 0 := by decide +kernel
theorem codS_lt : ∀ i, i < 11 → codS.getD i 0 < 2 ^ 62 := by decide +kernel
/-- the reference's word at the token from a to b -/
def mW (B : FI) (a b : Nat) (w : Int64) : Prop := w = if b - a ≤ 12 then lN (cd B a (b - a)) else -1
theorem lN_m1 {n : Nat} (h : n < 2 ^ 62) : ¬ (-1 : Int64) = lN n := fun e => by
  have h1 : (lN n).toInt = (n : Int) := lg_ofNat_toInt (by omega)
  have h2 : (-1 : Int64).toInt = -1 := by decide
  rw [← e, h2] at h1
  omega
theorem mW_iff {B : FI} {L c i : Nat} {w : Int64} (hi : i < 11) (ht : tK B L c = 1) (hw : mW B (sT B L c) (eN B L c) w) : w = lN (codS.getD i 0) ↔ isW B L c i := by
  have hge : sT B L c ≤ eN B L c := eNs_ge B L _
  have hlt : sT B L c < L := tKs_0 (by rw [show tKs B L (sT B L c) = 1 from ht]; decide)
  have hL : isLt (B (sT B L c)) := Classical.byContradiction fun hn => by
    have h0 : tKs B L (sT B L c) = 1 := ht
    unfold tKs at h0
    rw [iF_f (by omega), iF_f hn] at h0
    by_cases h2 : isDg (B (sT B L c))
    · rw [iF_t h2] at h0; exact absurd h0 (by decide)
    · rw [iF_f h2] at h0
      by_cases h3 : B (sT B L c) = 59
      · rw [iF_t h3] at h0; exact absurd h0 (by decide)
      · rw [iF_f h3] at h0; exact absurd h0 (by decide)
  have hE : eN B L c = wE B L (sT B L c) := (tKs_w hlt hL).2
  have hall : ∀ j, j < eN B L c - sT B L c → isLt (B (sT B L c + j)) := fun j hj => rn_in (L := L) (f := fun i => isLt (B i)) (c := sT B L c) (by omega) (by show _ < wE B L (sT B L c); omega)
  have h8 := wL_8 i hi
  unfold mW at hw
  by_cases h12 : eN B L c - sT B L c ≤ 12
  · rw [if_pos h12] at hw
    subst hw
    have hc1 := cd_lt hall
    have hc2 : (27 : Nat) ^ (eN B L c - sT B L c) ≤ 27 ^ 12 := Nat.pow_le_pow_right (by decide) h12
    have hc3 : (27 : Nat) ^ 12 < 2 ^ 62 := by decide
    rw [fb_lN_inj (by omega) (by have := codS_lt i hi; omega), ← codS_ok i hi]
    constructor
    · intro e
      obtain ⟨e1, e2⟩ := cd_inj (W := wB i) (b := 0) hall (fun j hj => by rw [Nat.zero_add]; exact wB_lt i hi j hj) e
      exact ⟨ht, by omega, fun j hj => by have := e2 j (by omega); rw [Nat.zero_add] at this; exact this⟩
    · intro h
      rw [show eN B L c - sT B L c = wL i by have := h.2.1; omega]
      have : ∀ n, n ≤ wL i → cd B (sT B L c) n = cd (wB i) 0 n := by
        intro n
        induction n with
        | zero => intro _; rfl
        | succ n ih => intro hn; rw [cd, cd, ih (by omega), h.2.2 n (by omega), Nat.zero_add]
      exact this _ (Nat.le_refl _)
  · rw [if_neg h12] at hw
    subst hw
    exact ⟨fun e => absurd e (lN_m1 (codS_lt i hi)), fun h => by have := h.2.1; omega⟩
