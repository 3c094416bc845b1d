/-! sheets -/
def shw (cL : ClassId) (a q : Nat) (bi si : Int32) (nu : FJ) : va_W := [(a, .inr (0, [.int bi, .int si, .ref q])), (q, .inl (cL, 40, .inr (.inl nu)))]
def arl (cL : ClassId) (a k : Nat) (f : FJ) : va_W := [(a, .inl (cL, k, .inr (.inl f)))]
def sNar (b : Int32) (v : Int64) : Int64 := if b = 8 then v.toInt32.toInt8.toInt32.toInt64 else (if b = 16 then v.toInt32.toInt16.toInt32.toInt64 else v)
theorem fillL_succ {f g : FJ} {i : Nat} : vp_updL (fa_fill f g i) i (f i) = fa_fill f g (i + 1) := by
  funext k
  unfold vp_updL fa_fill
  by_cases h : k = i
  · subst h; rw [if_pos rfl, if_pos (by omega)]
  · rw [if_neg h]
    by_cases h2 : k < i
    · rw [if_pos h2, if_pos (by omega)]
    · rw [if_neg h2, if_neg (by omega)]
theorem nar8 (v : Int64) : (v <<< ((56 : Int32).toInt64 &&& 63)) >>> ((56 : Int32).toInt64 &&& 63) = v.toInt32.toInt8.toInt32.toInt64 := by
  apply Int64.toBitVec_inj.mp
  have e : ((56 : Int32).toInt64 &&& 63) = 56 := by decide
  rw [e]
  simp only [Int64.toBitVec_shiftRight, Int64.toBitVec_shiftLeft]
  have e2 : ((56 : Int64).toBitVec.smod 64) = 56#64 := by decide
  rw [e2]
  apply BitVec.eq_of_getLsbD_eq
  intro i hi
  simp [BitVec.getLsbD_sshiftRight, BitVec.getLsbD_signExtend, BitVec.getLsbD_shiftLeft, BitVec.getLsbD_setWidth]
  by_cases h8 : i < 8
  · simp [h8, hi, show 56 + i < 64 by omega, show ¬ 64 ≤ i by omega, show ¬ 56 + i < 56 by omega]
  · simp [h8, hi, show ¬ 56 + i < 64 by omega, show ¬ 64 ≤ i by omega, BitVec.msb_eq_getLsbD_last, BitVec.getLsbD_signExtend, BitVec.getMsbD_eq_getLsbD, BitVec.getElem_signExtend]
theorem nar16 (v : Int64) : (v <<< ((48 : Int32).toInt64 &&& 63)) >>> ((48 : Int32).toInt64 &&& 63) = v.toInt32.toInt16.toInt32.toInt64 := by
  apply Int64.toBitVec_inj.mp
  have e : ((48 : Int32).toInt64 &&& 63) = 48 := by decide
  rw [e]
  simp only [Int64.toBitVec_shiftRight, Int64.toBitVec_shiftLeft]
  have e2 : ((48 : Int64).toBitVec.smod 64) = 48#64 := by decide
  rw [e2]
  apply BitVec.eq_of_getLsbD_eq
  intro i hi
  simp [BitVec.getLsbD_sshiftRight, BitVec.getLsbD_signExtend, BitVec.getLsbD_shiftLeft, BitVec.getLsbD_setWidth]
  by_cases h8 : i < 16
  · simp [h8, hi, show 48 + i < 64 by omega, show ¬ 64 ≤ i by omega, show ¬ 48 + i < 48 by omega]
  · simp [h8, hi, show ¬ 48 + i < 64 by omega, show ¬ 64 ≤ i by omega, BitVec.msb_eq_getLsbD_last, BitVec.getLsbD_signExtend, BitVec.getMsbD_eq_getLsbD, BitVec.getElem_signExtend]
theorem nar_eq (b : Int32) (v : Int64) : (if b = 8 then ((v <<< ((56 : Int32).toInt64 &&& 63)) >>> ((56 : Int32).toInt64 &&& 63)) else (if b = 16 then ((v <<< ((48 : Int32).toInt64 &&& 63)) >>> ((48 : Int32).toInt64 &&& 63)) else v)) = sNar b v := by
  rw [nar8, nar16]; rfl
def flat4 (num : Nat → FJ) : FJ := fun k => num (k / 40) (k % 40)
abbrev cBits (b : Int32) : Prop := b = 0 ∨ b = 8 ∨ b = 16 ∨ b = 64
def okH (bits size : FI) : Prop := ∀ s, s < 4 → vp_in (size s) 41 ∧ cBits (bits s)
noncomputable def sSheet (bits size : FI) (num : Nat → FJ) (fd : FI) (s b n : Int32) : Int32 × FI × FI × (Nat → FJ) × FI :=
  iF (vp_in s 4 ∧ cBits b) (iF (n < 0) (-1000000007, bits, size, num, bump fd (-1000000007)) (iF (40 < n) (-1000000001, bits, size, num, bump fd (-1000000001)) ((if b = 0 then 0 else n), upd bits (ix s) b, upd size (ix s) (if b = 0 then 0 else n), va_up num (ix s) (fun _ => 0), fd))) (-1000000001, bits, size, num, bump fd (-1000000001))
noncomputable def sWrite (bits size : FI) (num : Nat → FJ) (fd : FI) (s i : Int32) (v : Int64) : Int64 × (Nat → FJ) × FI :=
  iF (vp_in s 4) (iF (bits (ix s) = 0) ((-1000000006 : Int32).toInt64, num, bump fd (-1000000006)) (iF (¬ i < 0 ∧ ¬ size (ix s) ≤ i) (num (ix s) (ix i), va_up num (ix s) (vp_updL (num (ix s)) (ix i) (sNar (bits (ix s)) v)), fd) ((-1000000001 : Int32).toInt64, num, bump fd (-1000000001)))) ((-1000000001 : Int32).toInt64, num, bump fd (-1000000001))
theorem in4 {x : Int32} (h : vp_in x 4) : x = 0 ∨ x = 1 ∨ x = 2 ∨ x = 3 := by
  obtain ⟨j, hj, rfl⟩ := vp_in_of h (by decide)
  rcases (show j = 0 ∨ j = 1 ∨ j = 2 ∨ j = 3 by omega) with rfl | rfl | rfl | rfl
  · exact Or.inl rfl
  · exact Or.inr (Or.inl rfl)
  · exact Or.inr (Or.inr (Or.inl rfl))
  · exact Or.inr (Or.inr (Or.inr rfl))
theorem h_in {z i : Int32} (hz : vp_in z 41) (h : ¬ i < 0 ∧ ¬ z ≤ i) : vp_in i 40 := by
  obtain ⟨j, hj, rfl⟩ := vp_in_of hz (by decide)
  exact in_le (in_of (by omega) h.1 h.2) (by omega)
theorem h_iff {z i : Int32} (hz : vp_in z 41) : (¬ i < 0 ∧ ¬ (z - 1) < i) ↔ (¬ i < 0 ∧ ¬ z ≤ i) := by
  obtain ⟨j, hj, rfl⟩ := vp_in_of hz (by decide)
  have e : (nI j - 1).toInt = (j : Int) - 1 := by
    rw [fb_subI (by rw [nI_toInt (by omega)]; simp; omega) (by rw [nI_toInt (by omega)]; simp; omega), nI_toInt (by omega)]; rfl
  rw [fa_lt, fa_lt, fa_le, e, nI_toInt (by omega)]
  omega
theorem ix40 {s i : Int32} (hs : vp_in s 4) (hi : vp_in i 40) : ix (40 * s + i) = 40 * ix s + ix i ∧ vp_in (40 * s + i) 160 := by
  obtain ⟨a, ha, rfl⟩ := vp_in_of hs (by decide)
  obtain ⟨c, hc, rfl⟩ := vp_in_of hi (by decide)
  have e : (40 : Int32) * nI a + nI c = nI (40 * a + c) := by
    rw [show (40 : Int32) = nI 40 from rfl, pk_mul, nI_add]
  rw [e, ix_nI (by omega), ix_nI (by omega), ix_nI (by omega)]
  exact ⟨rfl, vp_in_nI (by omega) (by omega)⟩
theorem flat_at {num : Nat → FJ} {s i : Nat} (hi : i < 40) : flat4 num (40 * s + i) = num s i := by
  unfold flat4
  rw [show (40 * s + i) / 40 = s by omega, show (40 * s + i) % 40 = i by omega]
theorem flat_up {num : Nat → FJ} {s i : Nat} {v : Int64} (hi : i < 40) : vp_updL (flat4 num) (40 * s + i) v = flat4 (va_up num s (vp_updL (num s) i v)) := by
  funext k
  unfold flat4
  by_cases h : k = 40 * s + i
  · subst h
    rw [pk_uLs, show (40 * s + i) / 40 = s by omega, show (40 * s + i) % 40 = i by omega, va_up_self, pk_uLs]
  · rw [pk_uLn h]
    by_cases hs : k / 40 = s
    · rw [hs, va_up_self, pk_uLn (by omega)]
    · rw [va_up_ne _ _ hs]
theorem va_up_id {α : Type} (f : Nat → α) (k : Nat) : va_up f k (f k) = f := by
  funext j
  unfold va_up
  by_cases h : j = k
  · subst h; rw [if_pos rfl]
  · rw [if_neg h]
