/-! numbers for the reference -/
theorem nz_n {v : Int32} (h : v = 0 ∨ v = 1) : narrow .boolean (.int v) = .int v := by
  rcases h with rfl | rfl <;> decide
theorem nz_f {v : Int32} (h : v = 0 ∨ v = 1) : fits .boolean (.int v) = true := by
  rcases h with rfl | rfl <;> decide
theorem cm_ge {x : Int32} {a b : Int64} (e : x = if b < a then 1 else if a = b then 0 else -1) (c : ¬ x < 0) : b ≤ a := by
  rw [Int64.le_iff_toInt_le]
  subst e
  by_cases h : b < a
  · exact Int.le_of_lt (Int64.lt_iff_toInt_lt.mp h)
  · rw [if_neg h] at c
    by_cases h2 : a = b
    · rw [h2]
      exact Int.le_refl _
    · rw [if_neg h2] at c
      exact absurd (by decide) c
theorem cm_lt {x : Int32} {a b : Int64} (e : x = if b < a then 1 else if a = b then 0 else -1) (c : x < 0) : ¬ b ≤ a := by
  rw [Int64.le_iff_toInt_le]
  subst e
  by_cases h : b < a
  · rw [if_pos h] at c
    exact absurd c (by decide)
  · rw [if_neg h] at c
    by_cases h2 : a = b
    · rw [if_pos h2] at c
      exact absurd c (by decide)
    · intro h3
      have h4 : ¬ b.toInt < a.toInt := fun q => h (Int64.lt_iff_toInt_lt.mpr q)
      exact h2 (Int64.toInt_inj.mp (by omega))
theorem cm_le {x : Int32} {a b : Int64} (e : x = if b < a then 1 else if a = b then 0 else -1) (c : ¬ 0 < x) : a ≤ b := by
  rw [Int64.le_iff_toInt_le]
  subst e
  by_cases h : b < a
  · rw [if_pos h] at c
    exact absurd (by decide) c
  · have h4 : ¬ b.toInt < a.toInt := fun q => h (Int64.lt_iff_toInt_lt.mpr q)
    omega
theorem cm_gt {x : Int32} {a b : Int64} (e : x = if b < a then 1 else if a = b then 0 else -1) (c : 0 < x) : ¬ a ≤ b := by
  rw [Int64.le_iff_toInt_le]
  subst e
  by_cases h : b < a
  · have := Int64.lt_iff_toInt_lt.mp h
    omega
  · rw [if_neg h] at c
    by_cases h2 : a = b
    · rw [if_pos h2] at c
      exact absurd c (by decide)
    · rw [if_neg h2] at c
      exact absurd c (by decide)
/-- a size that the serial line has of its own -/
def mq_fz (σ : mq_S) (k : Nat) (x : Int32) (d : Nat) : Nat := if x = 3 then (σ.1 k).toNatClampNeg else d
theorem mq_fz0 {σ : mq_S} {k d : Nat} {x : Int32} (c : ¬ x = 3) : d = mq_fz σ k x d := by
  unfold mq_fz
  rw [if_neg c]
theorem mq_fz1 {σ : mq_S} {k d n : Nat} {x : Int32} (c : x = 3) (e : σ.1 k = nI n) (hn : n ≤ 10) : n = mq_fz σ k x d := by
  unfold mq_fz
  rw [if_pos c, e, nI_clamp (by omega)]
theorem mq_le {σ : mq_S} (h : ∀ k : Nat, mq_ok (mq_li k) (σ.1 k)) (k : Nat) {lo hi n : Nat} (hl : mq_li k = some (lo, hi)) (e : σ.1 k = nI n) (hn : n < 2 ^ 31 := by omega) (hh : hi < 2 ^ 31 := by decide) : n ≤ hi := by
  have h1 := h k
  rw [hl] at h1
  obtain ⟨m, -, h3, h4⟩ := h1
  rw [e] at h4
  have := (nI_eq hn (by omega)).mp h4
  omega
theorem dy_1 {k a b x : Int32} {d t N : Nat} (c : ¬ k < nI t) (h1 : 365 ≤ t) (h2 : t ≤ 400) (e1 : a = k - 365) (e2 : b = a - nI d) (e3 : x = b + 28) (h3 : 28 ≤ d) (h4 : d ≤ 31) (hN : k.toInt.toNat + 1 ≤ N + 1) : x.toInt.toNat + 1 ≤ N := by
  rw [Int32.lt_iff_toInt_lt, nI_toInt (by omega)] at c
  have hk := Int32.toInt_lt k
  have h5 : a.toInt = k.toInt - 365 := by
    rw [e1, Int32.toInt_sub, show (365 : Int32).toInt = 365 by decide, Int.bmod_eq_of_le] <;> omega
  have h6 : b.toInt = k.toInt - 365 - d := by
    rw [e2, Int32.toInt_sub, nI_toInt (by omega), h5, Int.bmod_eq_of_le] <;> omega
  have h7 : x.toInt = k.toInt - 365 - d + 28 := by
    rw [e3, Int32.toInt_add, h6, show (28 : Int32).toInt = 28 by decide, Int.bmod_eq_of_le] <;> omega
  omega
theorem dy_2 {k x : Int32} {d t N : Nat} (c : ¬ k < nI t) (h1 : 28 ≤ t) (h2 : t ≤ 31) (e : x = k - nI d) (h3 : 28 ≤ d) (h4 : d ≤ 31) (hN : k.toInt.toNat + 1 ≤ N + 1) : x.toInt.toNat + 1 ≤ N := by
  rw [Int32.lt_iff_toInt_lt, nI_toInt (by omega)] at c
  have hk := Int32.toInt_lt k
  have h5 : x.toInt = k.toInt - d := by
    rw [e, Int32.toInt_sub, nI_toInt (by omega), Int.bmod_eq_of_le] <;> omega
  omega
theorem nz_le {n : Nat} (c : nI n ≤ 0) (h : n < 2 ^ 31) : n = 0 := by
  rw [Int32.le_iff_toInt_le, nI_toInt h, show (0 : Int32).toInt = 0 by decide] at c
  omega
theorem nz_ng {x : Int32} (c : ¬ 0 < x) : x ≤ 0 := by
  rw [Int32.le_iff_toInt_le]
  rw [Int32.lt_iff_toInt_lt] at c
  omega
theorem nz_eq {n : Nat} (c : nI n = 0) (h : n < 2 ^ 31) : n = 0 := (nI_eq h (by decide)).mp (c.trans rfl)
theorem px_ix {x : Int32} (h : x = -1 ∨ ∃ n : Nat, x = nI n ∧ n ≤ 31) (c : ¬ x < 0) : ∃ j : Nat, j < 32 ∧ x = nI j := by
  rcases h with rfl | ⟨n, rfl, h⟩
  · exact absurd (by decide) c
  · exact ⟨n, by omega, rfl⟩
theorem cf_k {a b x : Int32} {n o : Nat} (e1 : a = nI n - nI o) (e2 : b = a + 32768) (e3 : x = b - b / 32768 * 32768) (hn : n ≤ 32767) (ho : o ≤ 32767) : x = nI ((n + 32768 - o) % 32768) := by
  have h1 : a.toInt = (n : Int) - o := by
    rw [e1, Int32.toInt_sub, nI_toInt (by omega), nI_toInt (by omega), Int.bmod_eq_of_le] <;> omega
  have h2 : b = nI (n + 32768 - o) := by
    apply Int32.toInt_inj.mp
    rw [e2, Int32.toInt_add, h1, show (32768 : Int32).toInt = 32768 by decide, nI_toInt (by omega), Int.bmod_eq_of_le] <;> omega
  rw [e3, h2]
  exact pk_rem (a := n + 32768 - o) (d := 32768) (by omega) (by omega) (by omega)
