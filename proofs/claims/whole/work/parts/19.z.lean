theorem m1p1 (x : Int32) : x + (-1) + 1 = x := by
  rw [Int32.add_assoc]; exact Int32.add_zero x
theorem ch_none {b c : Int32} (h : c = (if b < 0 then (-1000000004) else b : Int32)) (e : c = -1000000004) : b < 0 := by
  apply Classical.byContradiction
  intro q
  rw [if_neg q, e] at h
  rw [← h] at q
  exact q (by decide)
theorem ch_some {b c : Int32} (h : c = (if b < 0 then (-1000000004) else b : Int32)) (e : ¬ c = -1000000004) : ¬ b < 0 ∧ c = b := by
  by_cases q : b < 0
  · rw [if_pos q] at h; exact absurd h e
  · rw [if_neg q] at h; exact ⟨q, h⟩
