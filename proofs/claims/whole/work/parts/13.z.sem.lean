section
variable {co gu : Int32} {kn fo sp ki pl ea to qu fd : FI} {x0 x1 x2 : Int32}
theorem in_cases5 {x : Int32} (h : vp_in x 5) : x = 0 ∨ x = 1 ∨ x = 2 ∨ x = 3 ∨ x = 4 := by
  obtain ⟨j, hj, rfl⟩ := vp_in_of h (by decide)
  rcases (show j = 0 ∨ j = 1 ∨ j = 2 ∨ j = 3 ∨ j = 4 by omega) with rfl | rfl | rfl | rfl | rfl
  · exact Or.inl rfl
  · exact Or.inr (Or.inl rfl)
  · exact Or.inr (Or.inr (Or.inl rfl))
  · exact Or.inr (Or.inr (Or.inr (Or.inl rfl)))
  · exact Or.inr (Or.inr (Or.inr (Or.inr rfl)))
theorem of_no {a0 a1 a2 a3 a4 a5 a6 a7 a8 : Int32 × FI} {e : Int32 × FI} (h : ¬ (¬ x1 < 0 ∧ ¬ 8 < x1)) : e = (if x1 = 0 then a0 else if x1 = 1 then a1 else if x1 = 2 then a2 else if x1 = 3 then a3 else if x1 = 4 then a4 else if x1 = 5 then a5 else if x1 = 6 then a6 else if x1 = 7 then a7 else if x1 = 8 then a8 else e) := by
  rw [if_neg (fun e => h (by subst e; decide)), if_neg (fun e => h (by subst e; decide)), if_neg (fun e => h (by subst e; decide)), if_neg (fun e => h (by subst e; decide)), if_neg (fun e => h (by subst e; decide)), if_neg (fun e => h (by subst e; decide)), if_neg (fun e => h (by subst e; decide)), if_neg (fun e => h (by subst e; decide)), if_neg (fun e => h (by subst e; decide))]
theorem of_in (h : ¬ x1 < 0 ∧ ¬ 8 < x1) (h2 : ¬ x1 = 2) (h5 : ¬ x1 = 5) (h6 : ¬ x1 = 6) (h7 : ¬ x1 = 7) (h8 : ¬ x1 = 8) : vp_in x1 5 := by
  obtain ⟨h0, h9⟩ := h
  rw [fa_lt, show (0 : Int32).toInt = 0 from by decide] at h0
  rw [fa_lt, show (8 : Int32).toInt = 8 from by decide] at h9
  rw [fa_eq, show (5 : Int32).toInt = 5 from by decide] at h5
  rw [fa_eq, show (6 : Int32).toInt = 6 from by decide] at h6
  rw [fa_eq, show (7 : Int32).toInt = 7 from by decide] at h7
  rw [fa_eq, show (8 : Int32).toInt = 8 from by decide] at h8
  exact vp_in_iff.mpr (by omega)
theorem of_its {a5 a6 a7 a8 e : Int32 × FI} (h : ¬ x1 < 0 ∧ ¬ 8 < x1) (h2 : ¬ x1 = 2) (h5 : ¬ x1 = 5) (h6 : ¬ x1 = 6) (h7 : ¬ x1 = 7) (h8 : ¬ x1 = 8) : (enc co gu kn fo sp ki pl ea to qu (32 + 5 * ix x0 + ix x1), fd) = (if x1 = 0 then (ki (ix x0), fd) else if x1 = 1 then (pl (ix x0), fd) else if x1 = 2 then (100 + ea (ix x0), fd) else if x1 = 3 then (to (ix x0), fd) else if x1 = 4 then (qu (ix x0), fd) else if x1 = 5 then a5 else if x1 = 6 then a6 else if x1 = 7 then a7 else if x1 = 8 then a8 else e) := by
  have hv := of_in h h2 h5 h6 h7 h8
  rw [enc_g co gu kn fo sp ki pl ea to qu (g := ix x0) (w := ix x1) (ix_lt (by decide) hv)]
  rcases in_cases5 hv with rfl | rfl | rfl | rfl | rfl
  · rfl
  · rfl
  · exact absurd rfl h2
  · rfl
  · rfl
theorem part_w (h : cPart x1 x2) : x1 = 2 ∨ x1 = 3 ∨ x1 = 4 := by
  rcases h with h | h
  · exact Or.inl h.1
  · obtain ⟨-, ⟨h3, h4⟩, -⟩ := h
    rw [fa_lt, show (3 : Int32).toInt = 3 from by decide] at h3
    rw [fa_lt, show (4 : Int32).toInt = 4 from by decide] at h4
    rw [fa_eq, fa_eq, fa_eq, show (3 : Int32).toInt = 3 from by decide, show (4 : Int32).toInt = 4 from by decide]
    omega
theorem part_in (h : x1 = 2 ∨ x1 = 3 ∨ x1 = 4) : vp_in x1 5 := by
  rcases h with rfl | rfl | rfl <;> exact vp_in_iff.mpr (by decide)
theorem set_row (h8 : vp_in x0 8) (hw : x1 = 2 ∨ x1 = 3 ∨ x1 = 4) : upd (enc co gu kn fo sp ki pl ea to qu) (ix (32 + 5 * x0 + x1)) x2 = enc co gu kn fo sp ki pl (if x1 = 2 then upd ea (ix x0) x2 else ea) (if x1 = 3 then upd to (ix x0) x2 else to) (if x1 = 4 then upd qu (ix x0) x2 else qu) := by
  rcases hw with rfl | rfl | rfl
  · exact enc_w2 h8
  · exact enc_w3 h8
  · exact enc_w4 h8
theorem enc_at {w : Int32} (h8 : vp_in x0 8) (hw : vp_in w 5) : enc co gu kn fo sp ki pl ea to qu (ix (32 + 5 * x0 + w)) = if ix w = 0 then ki (ix x0) else if ix w = 1 then pl (ix x0) else if ix w = 2 then ea (ix x0) else if ix w = 3 then to (ix x0) else qu (ix x0) := by
  rw [(ixg h8 hw).1, enc_g co gu kn fo sp ki pl ea to qu (g := ix x0) (w := ix w) (ix_lt (by decide) hw)]
theorem set_ans (h8 : vp_in x0 8) (hw : x1 = 2 ∨ x1 = 3 ∨ x1 = 4) : (enc co gu kn fo sp ki pl ea to qu (ix (32 + 5 * x0 + x1)), (co, gu, kn, fo, sp, ki, pl, (if x1 = 2 then upd ea (ix x0) x2 else ea), (if x1 = 3 then upd to (ix x0) x2 else to), (if x1 = 4 then upd qu (ix x0) x2 else qu)), fd) = (if x1 = 2 then (sEa (co, gu, kn, fo, sp, ki, pl, ea, to, qu) (ix x0), uEa (co, gu, kn, fo, sp, ki, pl, ea, to, qu) (upd (sEa (co, gu, kn, fo, sp, ki, pl, ea, to, qu)) (ix x0) x2), fd) else if x1 = 3 then (sTo (co, gu, kn, fo, sp, ki, pl, ea, to, qu) (ix x0), uTo (co, gu, kn, fo, sp, ki, pl, ea, to, qu) (upd (sTo (co, gu, kn, fo, sp, ki, pl, ea, to, qu)) (ix x0) x2), fd) else (sQu (co, gu, kn, fo, sp, ki, pl, ea, to, qu) (ix x0), uQu (co, gu, kn, fo, sp, ki, pl, ea, to, qu) (upd (sQu (co, gu, kn, fo, sp, ki, pl, ea, to, qu)) (ix x0) x2), fd)) := by
  rw [enc_at h8 (part_in hw)]
  rcases hw with rfl | rfl | rfl <;> rfl
theorem seat_ans (h8 : vp_in x0 8) : (enc co gu kn fo sp ki pl ea to qu (ix (32 + 5 * x0 + 1)), (co, gu, kn, fo, sp, ki, upd pl (ix x0) x1, ea, to, qu), fd) = (sPl (co, gu, kn, fo, sp, ki, pl, ea, to, qu) (ix x0), uPl (co, gu, kn, fo, sp, ki, pl, ea, to, qu) (upd (sPl (co, gu, kn, fo, sp, ki, pl, ea, to, qu)) (ix x0) x1), fd) := by
  rw [enc_at h8 (vp_in_iff.mpr (by decide))]; rfl
theorem add0 (x : Int32) : x = x + 0 := (Int32.add_zero x).symm
theorem turn_in (h8 : vp_in x0 8) : vp_in (32 + 5 * x0) 72 := by
  rw [add0 (32 + 5 * x0)]; exact (ixg h8 (vp_in_iff.mpr (by decide))).2
theorem turn_row (h8 : vp_in x0 8) : upd (enc co gu kn fo sp ki pl ea to qu) (ix (32 + 5 * x0)) x1 = enc co gu kn fo sp (upd ki (ix x0) x1) pl ea to qu := by
  rw [add0 (32 + 5 * x0)]; exact enc_w0 h8
theorem turn_ans (h8 : vp_in x0 8) : (enc co gu kn fo sp ki pl ea to qu (ix (32 + 5 * x0)), (co, gu, kn, fo, sp, upd ki (ix x0) x1, pl, ea, to, qu), fd) = (sKi (co, gu, kn, fo, sp, ki, pl, ea, to, qu) (ix x0), uKi (co, gu, kn, fo, sp, ki, pl, ea, to, qu) (upd (sKi (co, gu, kn, fo, sp, ki, pl, ea, to, qu)) (ix x0) x1), fd) := by
  rw [add0 (32 + 5 * x0), enc_at h8 (vp_in_iff.mpr (by decide))]; rfl
end
theorem as_bI {k o : Int32} : (if k = 0 then 1 else (if k = o then 1 else (if k = 1 then (if o = 4 then 1 else (if k = 2 then (if o = 5 then 1 else 0) else 0)) else (if k = 2 then (if o = 5 then 1 else 0) else 0))) : Int32) = bI (k = 0 ∨ k = o ∨ (k = 1 ∧ o = 4) ∨ (k = 2 ∧ o = 5)) := by
  by_cases h0 : k = 0
  · rw [if_pos h0, bI_t (Or.inl h0)]
  · rw [if_neg h0]
    by_cases h1 : k = o
    · rw [if_pos h1, bI_t (Or.inr (Or.inl h1))]
    · rw [if_neg h1]
      by_cases h2 : k = 1
      · rw [if_pos h2]
        by_cases h3 : o = 4
        · rw [if_pos h3, bI_t (Or.inr (Or.inr (Or.inl ⟨h2, h3⟩)))]
        · rw [if_neg h3, if_neg (by subst h2; decide), bI_f]
          rintro (q | q | q | q)
          · exact h0 q
          · exact h1 q
          · exact h3 q.2
          · subst h2; exact absurd q.1 (by decide)
      · rw [if_neg h2]
        by_cases h3 : k = 2
        · rw [if_pos h3]
          by_cases h4 : o = 5
          · rw [if_pos h4, bI_t (Or.inr (Or.inr (Or.inr ⟨h3, h4⟩)))]
          · rw [if_neg h4, bI_f]
            rintro (q | q | q | q)
            · exact h0 q
            · exact h1 q
            · exact h2 q.1
            · exact h4 q.2
        · rw [if_neg h3, bI_f]
          rintro (q | q | q | q)
          · exact h0 q
          · exact h1 q
          · exact h2 q.1
          · exact h3 q.1
theorem up_dec : ∀ a, a < 6 → ∀ b, b < 6 → (sUp 6 (nI a) (nI b) ↔ (nI b = 0 ∨ nI b = nI a ∨ (nI b = 1 ∧ nI a = 4) ∨ (nI b = 2 ∧ nI a = 5))) := by
  intro a ha b hb
  rcases (show a = 0 ∨ a = 1 ∨ a = 2 ∨ a = 3 ∨ a = 4 ∨ a = 5 by omega) with rfl | rfl | rfl | rfl | rfl | rfl <;> rcases (show b = 0 ∨ b = 1 ∨ b = 2 ∨ b = 3 ∨ b = 4 ∨ b = 5 by omega) with rfl | rfl | rfl | rfl | rfl | rfl <;> simp [sUp, sAbove, nI] <;> decide
theorem as_up {a b : Int32} (ha : vp_in a 6) (hb : vp_in b 6) : sUp 6 a b ↔ (b = 0 ∨ b = a ∨ (b = 1 ∧ a = 4) ∨ (b = 2 ∧ a = 5)) := by
  obtain ⟨i, hi, rfl⟩ := vp_in_of ha (by decide)
  obtain ⟨j, hj, rfl⟩ := vp_in_of hb (by decide)
  exact up_dec i hi j hj
