/-! numbers within bounds, as comparisons tell them -/
theorem nb_of {x : Int32} {b : Nat} (h0 : 0 ≤ x.toInt) (h1 : x.toInt ≤ b) (hb : b < 2 ^ 31) : ∃ n : Nat, n ≤ b ∧ x = nI n := by
  refine ⟨x.toInt.toNat, by omega, Int32.toInt_inj.mp ?_⟩
  rw [nI_toInt (by omega)]
  omega
theorem nb_lt {x : Int32} (h0 : ¬ x < 0) (h1 : x < 3) : ∃ n : Nat, n ≤ 2 ∧ x = nI n := by
  have a0 : ¬ x.toInt < 0 := fun h => h0 (Int32.lt_iff_toInt_lt.mpr h)
  have a1 : x.toInt < 3 := Int32.lt_iff_toInt_lt.mp h1
  exact nb_of (by omega) (by omega) (by decide)
theorem nb_1le {x y : Int32} {b : Nat} (h0 : ¬ x < 1) (h1 : x ≤ y) (hy : y.toInt = b := by decide) (hb : b < 2 ^ 31 := by decide) : ∃ n : Nat, n ≤ b ∧ x = nI n := by
  have a0 : ¬ x.toInt < 1 := fun h => h0 (Int32.lt_iff_toInt_lt.mpr h)
  have a1 : x.toInt ≤ y.toInt := Int32.le_iff_toInt_le.mp h1
  exact nb_of (by omega) (by omega) hb
theorem nb_1gt {x y : Int32} {b : Nat} (h0 : ¬ x < 1) (h1 : ¬ y < x) (hy : y.toInt = b := by decide) (hb : b < 2 ^ 31 := by decide) : ∃ n : Nat, n ≤ b ∧ x = nI n := by
  have a0 : ¬ x.toInt < 1 := fun h => h0 (Int32.lt_iff_toInt_lt.mpr h)
  have a1 : ¬ y.toInt < x.toInt := fun h => h1 (Int32.lt_iff_toInt_lt.mpr h)
  exact nb_of (by omega) (by omega) hb
theorem nb_gt {x : Int32} (h0 : ¬ x < 0) (h1 : ¬ (3 : Int32) < x) : ∃ n : Nat, n ≤ 3 ∧ x = nI n := by
  have a0 : ¬ x.toInt < 0 := fun h => h0 (Int32.lt_iff_toInt_lt.mpr h)
  have a1 : ¬ (3 : Int) < x.toInt := fun h => h1 (Int32.lt_iff_toInt_lt.mpr h)
  exact nb_of (by omega) (by omega) (by decide)
theorem nb_ne {x : Int32} (h0 : ¬ x < 0) (h1 : ¬ (3 : Int32) < x) (h2 : x ≠ 3) : ∃ n : Nat, n ≤ 2 ∧ x = nI n := by
  obtain ⟨n, hn, rfl⟩ := nb_gt h0 h1
  refine ⟨n, ?_, rfl⟩
  have : n ≠ 3 := fun h => h2 (by rw [h]; decide)
  omega
theorem nb_3 {x : Int32} {j : Nat} (h : j ≤ 3) (e : x = nI j) (h2 : x ≠ 3) : ∃ n : Nat, n < 3 ∧ x = nI n := by
  subst e
  refine ⟨j, ?_, rfl⟩
  have : j ≠ 3 := fun h => h2 (by rw [h]; decide)
  omega
theorem nb_ge {x : Int32} {n : Nat} (hg : n ≤ 32) (h0 : ¬ x < 0) (h1 : ¬ nI n ≤ x) : ∃ j : Nat, j < n ∧ x = nI j := ix_of h0 h1 (by omega)
theorem rc_lt {k : Nat} {x : Int32} (h : ¬ x ≤ nI k) (h1 : x ≤ 8) (hk : k ≤ 8) : k < 8 := by
  have a0 : ¬ x.toInt ≤ (nI k).toInt := fun z => h (Int32.le_iff_toInt_le.mpr z)
  have a1 : x.toInt ≤ 8 := Int32.le_iff_toInt_le.mp h1
  rw [nI_toInt (by omega)] at a0
  omega
theorem clk_t1 {x : Int64} {z : Int32} (e : z = lg_cmp x 0) (h : z < 0) : ¬ (0 ≤ x ∧ x ≤ 3155759999999) := by
  subst e
  have := (lg_cmp_lt _ _).mp h
  intro q
  exact Int64.lt_irrefl (Int64.lt_of_lt_of_le this q.1)
theorem clk_t2 {x : Int64} {z : Int32} (e : z = lg_cmp x 3155759999999) (h : ¬ z ≤ 0) : ¬ (0 ≤ x ∧ x ≤ 3155759999999) := by
  subst e
  exact fun q => h ((lg_cmp_le _ _).mpr q.2)
theorem clk_v {x : Int64} {z y : Int32} (e : z = lg_cmp x 0) (h : ¬ z < 0) (e2 : y = lg_cmp x 3155759999999) (h2 : y ≤ 0) : 0 ≤ x ∧ x ≤ 3155759999999 := by
  subst e; subst e2
  refine ⟨?_, (lg_cmp_le _ _).mp h2⟩
  exact Int64.not_lt.mp (fun q => h ((lg_cmp_lt _ _).mpr q))
