theorem on_in {w : Int32} (h : vp_in w 3) : vp_in (2 + w) 5 := by
  rcases in3 h with rfl | rfl | rfl <;> exact vp_in_iff.mpr (by decide)
theorem on_ans {co gu : Int32} {kn fo sp ki pl ea to qu fd : FI} {x0 w : Int32} (h : vp_in w 3) : (enc co gu kn fo sp ki pl ea to qu (32 + 5 * ix x0 + ix (2 + w)), fd) = (if w = 0 then (ea (ix x0), fd) else if w = 1 then (to (ix x0), fd) else (qu (ix x0), fd)) := by
  rw [enc_g co gu kn fo sp ki pl ea to qu (g := ix x0) (w := ix (2 + w)) (ix_lt (by decide) (on_in h))]
  rcases in3 h with rfl | rfl | rfl <;> rfl
theorem st_in2 {n : Int32} (hw : ¬ n < -1 ∧ ¬ 6 < n) (h : 0 ≤ n) : vp_in (if 0 ≤ n then n else 0 : Int32) 7 := by
  rw [if_pos h]; exact st_in hw (Int32.not_lt.mpr h)
