section
variable {co gu : Int32} {kn fo sp ki pl ea to qu : FI} {x0 v : Int32}
theorem lay0_in (h0 : vp_in x0 10) : vp_in (2 + 3 * x0) 72 := by
  rw [add0 (2 + 3 * x0)]; exact (ixp h0 (vp_in_iff.mpr (by decide))).2
theorem enc_q0z (h0 : vp_in x0 10) : upd (enc co gu kn fo sp ki pl ea to qu) (ix (2 + 3 * x0)) v = enc co gu (upd kn (ix x0) v) fo sp ki pl ea to qu := by
  rw [add0 (2 + 3 * x0)]; exact enc_q0 h0
end
theorem sp_step {P : Nat → Prop} {k : Nat} {z V v S : Int32} (h : (z = 0 ∧ S = sSeekD P (k + 1)) ∨ (z = 1 ∧ S = nI (k + 1))) (hz : z = 0) (hp : P k ↔ ¬ V < v) : ((if V < v then 0 else 1 : Int32) = 0 ∧ S = sSeekD P k) ∨ ((if V < v then 0 else 1 : Int32) = 1 ∧ S = nI k) := by
  rcases h with h | h
  · by_cases c : V < v
    · exact Or.inl ⟨if_pos c, by rw [h.2]; exact iF_f (fun q => hp.mp q c)⟩
    · exact Or.inr ⟨if_neg c, by rw [h.2]; exact iF_t (hp.mpr c)⟩
  · rw [hz] at h; exact absurd h.1 (by decide)
theorem sp_no {P : Nat → Prop} {i : Nat} {z : Int32} {fd : FI} (h : (z = 0 ∧ sSeekD P 10 = sSeekD P i) ∨ (z = 1 ∧ sSeekD P 10 = nI i)) (hi : i = 0) (hz : z = 0) : (((-1000000004) : Int32), bump fd (-1000000004)) = sEnd (sSeekD P 10) fd := by
  rcases h with h | h
  · rw [h.2, hi]; exact end_no fd
  · rw [hz] at h; exact absurd h.1 (by decide)
theorem sp_yes {P : Nat → Prop} {i : Nat} {z : Int32} {fd : FI} (h : (z = 0 ∧ sSeekD P 10 = sSeekD P i) ∨ (z = 1 ∧ sSeekD P 10 = nI i)) (hi : i < 2 ^ 31) (hz : ¬ z = 0) : (nI i, fd) = sEnd (sSeekD P 10) fd := by
  rcases h with h | h
  · exact absurd h.1 hz
  · rw [h.2]; exact end_ok hi fd
