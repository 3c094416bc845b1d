theorem lay_in {x0 x1 : Int32} (hp : vp_in x0 10) (hw : vp_in x1 3) : vp_in (2 + 3 * x0 + x1) 72 := (ixp hp hw).2
theorem in3 {x : Int32} (h : vp_in x 3) : x = 0 ∨ x = 1 ∨ x = 2 := by
  obtain ⟨j, hj, rfl⟩ := vp_in_of h (by decide)
  rcases (show j = 0 ∨ j = 1 ∨ j = 2 by omega) with rfl | rfl | rfl
  · exact Or.inl rfl
  · exact Or.inr (Or.inl rfl)
  · exact Or.inr (Or.inr rfl)
section
variable {co gu : Int32} {kn fo sp ki pl ea to qu : FI} {x0 x1 x2 : Int32}
theorem lay_row (hp : vp_in x0 10) (hw : vp_in x1 3) : upd (enc co gu kn fo sp ki pl ea to qu) (ix (2 + 3 * x0 + x1)) x2 = enc co gu (if x1 = 0 then upd kn (ix x0) x2 else kn) (if x1 = 1 then upd fo (ix x0) x2 else fo) (if x1 = 2 then upd sp (ix x0) x2 else sp) ki pl ea to qu := by
  rcases in3 hw with rfl | rfl | rfl
  · exact enc_q0 hp
  · exact enc_q1 hp
  · exact enc_q2 hp
theorem lay_ans {fd : FI} (hp : vp_in x0 10) (hw : vp_in x1 3) : (enc co gu kn fo sp ki pl ea to qu (ix (2 + 3 * x0 + x1)), (co, gu, (if x1 = 0 then upd kn (ix x0) x2 else kn), (if x1 = 1 then upd fo (ix x0) x2 else fo), (if x1 = 2 then upd sp (ix x0) x2 else sp), ki, pl, ea, to, qu), fd) = (if x1 = 0 then (sKn (co, gu, kn, fo, sp, ki, pl, ea, to, qu) (ix x0), uKn (co, gu, kn, fo, sp, ki, pl, ea, to, qu) (upd (sKn (co, gu, kn, fo, sp, ki, pl, ea, to, qu)) (ix x0) x2), fd) else if x1 = 1 then (sFo (co, gu, kn, fo, sp, ki, pl, ea, to, qu) (ix x0), uFo (co, gu, kn, fo, sp, ki, pl, ea, to, qu) (upd (sFo (co, gu, kn, fo, sp, ki, pl, ea, to, qu)) (ix x0) x2), fd) else (sSp (co, gu, kn, fo, sp, ki, pl, ea, to, qu) (ix x0), uSp (co, gu, kn, fo, sp, ki, pl, ea, to, qu) (upd (sSp (co, gu, kn, fo, sp, ki, pl, ea, to, qu)) (ix x0) x2), fd)) := by
  rw [(ixp hp hw).1]
  have h10 := ix_lt (by decide) hp
  rcases in3 hw with rfl | rfl | rfl
  · rw [enc_p co gu kn fo sp ki pl ea to qu (p := ix x0) (w := ix 0) h10 (by decide)]; rfl
  · rw [enc_p co gu kn fo sp ki pl ea to qu (p := ix x0) (w := ix 1) h10 (by decide)]; rfl
  · rw [enc_p co gu kn fo sp ki pl ea to qu (p := ix x0) (w := ix 2) h10 (by decide)]; rfl
theorem place_w (h : ¬ x1 < 0 ∧ ¬ 3 < x1) (h2 : ¬ 3 ≤ x1) : vp_in x1 3 := in_of (by decide) h.1 h2
theorem place_no {fd : FI} {a b c d : Int32 × FI} (h : ¬ (¬ x1 < 0 ∧ ¬ 3 < x1)) : ((-1000000001, bump fd (-1000000001)) : Int32 × FI) = (if x1 = 0 then a else if x1 = 1 then b else if x1 = 2 then c else if x1 = 3 then d else (-1000000001, bump fd (-1000000001))) := by
  rw [if_neg (fun e => h (by subst e; decide)), if_neg (fun e => h (by subst e; decide)), if_neg (fun e => h (by subst e; decide)), if_neg (fun e => h (by subst e; decide))]
theorem place_3 {a b c d e : Int32 × FI} (h : ¬ x1 < 0 ∧ ¬ 3 < x1) (h3 : 3 ≤ x1) : d = (if x1 = 0 then a else if x1 = 1 then b else if x1 = 2 then c else if x1 = 3 then d else e) := by
  have e3 : x1 = 3 := by
    have h2 := h.2
    rw [fa_lt, show (3 : Int32).toInt = 3 from by decide] at h2
    rw [fa_le, show (3 : Int32).toInt = 3 from by decide] at h3
    rw [fa_eq, show (3 : Int32).toInt = 3 from by decide]
    omega
  subst e3
  rw [if_neg (by decide), if_neg (by decide), if_neg (by decide), if_pos rfl]
theorem place_012 {fd : FI} {d e : Int32 × FI} (hp : vp_in x0 10) (h : ¬ x1 < 0 ∧ ¬ 3 < x1) (h3 : ¬ 3 ≤ x1) : (enc co gu kn fo sp ki pl ea to qu (2 + 3 * ix x0 + ix x1), fd) = (if x1 = 0 then (kn (ix x0), fd) else if x1 = 1 then (fo (ix x0), fd) else if x1 = 2 then (sp (ix x0), fd) else if x1 = 3 then d else e) := by
  have hw := place_w h h3
  have h10 := ix_lt (by decide) hp
  rcases in3 hw with rfl | rfl | rfl
  · rw [enc_p co gu kn fo sp ki pl ea to qu (p := ix x0) (w := ix 0) h10 (by decide)]; rfl
  · rw [enc_p co gu kn fo sp ki pl ea to qu (p := ix x0) (w := ix 1) h10 (by decide)]; rfl
  · rw [enc_p co gu kn fo sp ki pl ea to qu (p := ix x0) (w := ix 2) h10 (by decide)]; rfl
end
theorem add_sub1 (x : Int32) : (x + 1) - 1 = x := by
  rw [Int32.sub_eq_add_neg, Int32.add_assoc]
  exact Int32.add_zero x
theorem gu8_in2 {gu : Int32} (h : vp_in gu 9) (h8 : ¬ gu = 8) : vp_in gu 8 := by
  rw [vp_in_iff] at h
  rw [fa_eq, show (8 : Int32).toInt = 8 from by decide] at h8
  exact vp_in_iff.mpr (by omega)
