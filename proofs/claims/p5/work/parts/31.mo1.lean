/-! numbers for the reference -/
theorem nz_n {v : Int32} (h : v = 0 ∨ v = 1) : narrow .boolean (.int v) = .int v := by
  rcases h with rfl | rfl <;> decide
theorem nz_f {v : Int32} (h : v = 0 ∨ v = 1) : fits .boolean (.int v) = true := by
  rcases h with rfl | rfl <;> decide
theorem cm_ge {x : Int32} {a b : Int64} (e : x = if b < a then 1 else if a = b then 0 else -1) (c : ¬ x < 0) : b ≤ a := by
  rw [Int64.le_iff_toInt_le]
  subst e
  by_cases h : b < a
  · exact Int.le_of_lt (Int64.lt_iff_toInt_lt.mp h)
  · rw [if_neg h] at c
    by_cases h2 : a = b
    · rw [h2]
      exact Int.le_refl _
    · rw [if_neg h2] at c
      exact absurd (by decide) c
theorem cm_lt {x : Int32} {a b : Int64} (e : x = if b < a then 1 else if a = b then 0 else -1) (c : x < 0) : ¬ b ≤ a := by
  rw [Int64.le_iff_toInt_le]
  subst e
  by_cases h : b < a
  · rw [if_pos h] at c
    exact absurd c (by decide)
  · rw [if_neg h] at c
    by_cases h2 : a = b
    · rw [if_pos h2] at c
      exact absurd c (by decide)
    · intro h3
      have h4 : ¬ b.toInt < a.toInt := fun q => h (Int64.lt_iff_toInt_lt.mpr q)
      exact h2 (Int64.toInt_inj.mp (by omega))
theorem cm_le {x : Int32} {a b : Int64} (e : x = if b < a then 1 else if a = b then 0 else -1) (c : ¬ 0 < x) : a ≤ b := by
  rw [Int64.le_iff_toInt_le]
  subst e
  by_cases h : b < a
  · rw [if_pos h] at c
    exact absurd (by decide) c
  · have h4 : ¬ b.toInt < a.toInt := fun q => h (Int64.lt_iff_toInt_lt.mpr q)
    omega
theorem cm_gt {x : Int32} {a b : Int64} (e : x = if b < a then 1 else if a = b then 0 else -1) (c : 0 < x) : ¬ a ≤ b := by
  rw [Int64.le_iff_toInt_le]
  subst e
  by_cases h : b < a
  · have := Int64.lt_iff_toInt_lt.mp h
    omega
  · rw [if_neg h] at c
    by_cases h2 : a = b
    · rw [if_pos h2] at c
      exact absurd c (by decide)
    · rw [if_neg h2] at c
      exact absurd c (by decide)
