/-! numbers -/
theorem vp_lt {x : Int32} {a n : Nat} (h0 : ¬ x < 0) (h1 : ¬ nI a ≤ x) (h : a ≤ n) (hn : n ≤ 1000) : vp_in x n := by
  rw [vp_in_iff]
  rw [Int32.lt_iff_toInt_lt, Int32.toInt_zero] at h0
  rw [Int32.le_iff_toInt_le, nI_toInt (by omega)] at h1
  omega
theorem mn_nat {a b : Nat} (ha : a < 2 ^ 31) (hb : b < 2 ^ 31) : (if nI b < nI a then nI b else nI a) = nI (min a b) := by
  by_cases h : b < a
  · rw [if_pos ((nI_ltI hb ha).mpr h), Nat.min_eq_right (by omega)]
  · rw [if_neg (fun q => h ((nI_ltI hb ha).mp q)), Nat.min_eq_left (by omega)]
theorem dc_1 (a : Nat) : nI a + Int32.ofInt (-1) = nI a - 1 := by
  rw [Int32.sub_eq_add_neg]
  rfl
theorem dc_ne {k : Nat} (h : ¬ nI k - 1 < 0) : ∃ z : Nat, k = z + 1 := by
  cases k with
  | zero => exact absurd (by decide) h
  | succ z => exact ⟨z, rfl⟩
theorem up_m {t i j : Int32} (h : ¬ t ≤ i) (hj : j = i + Int32.ofInt 1) : (t.toInt - j.toInt).toNat + 1 ≤ (t.toInt - i.toInt).toNat := by
  rw [Int32.le_iff_toInt_le] at h
  have h1 := Int32.toInt_lt t
  have h2 := Int32.le_toInt i
  have e : j.toInt = i.toInt + 1 := by
    rw [hj, Int32.toInt_add]
    show (i.toInt + 1).bmod (2 ^ 32) = _
    rw [Int.bmod_eq_of_le] <;> omega
  omega
/-- the queue at a holds n events -/
def es_m (f : Nat → va_E) (a n : Nat) : Prop := ∃ (v0 : Nat) (v2 : Int32), f a = .inr (5, [.ref v0, .int (nI n), .int v2])
theorem es_mk {f : Nat → va_E} {a n k v0 : Nat} {v2 : Int32} (e0 : f a = .inr (5, [.ref v0, .int (nI n), .int v2])) (h : n = k) : es_m f a k := by
  subst h
  exact ⟨_, _, e0⟩
theorem es_un {f : Nat → va_E} {a n k : Nat} (h : es_m f a n) (h2 : es_m f a k) (hn : n ≤ 48) (hk : k ≤ 48) : n = k := by
  obtain ⟨v0, v2, e⟩ := h
  obtain ⟨w0, w2, e2⟩ := h2
  rw [e] at e2
  simp only [Sum.inr.injEq, Prod.mk.injEq, List.cons.injEq, Value.ref.injEq, Value.int.injEq, true_and, and_true] at e2
  exact (nI_eq (by omega) (by omega)).mp e2.2.1
theorem es_of {ca : Nat → ClassId} {T : ty_e} {L : List Nat} {f : Nat → va_E} {a : Nat} (hT : ok_T ca T L f) (ha : T a = some ty_es) : ∃ n, n ≤ 48 ∧ es_m f a n := by
  obtain ⟨-, v0, v1, v2, e, -, w⟩ := ok_es_at hT ha
  exact ⟨v1, w, v0, v2, e⟩
theorem ix_of {x : Int32} {n : Nat} (h0 : ¬ x < 0) (h1 : ¬ nI n ≤ x) (hn : n < 2 ^ 31) : ∃ j : Nat, j < n ∧ x = nI j := by
  rcases pk_ix x hn with h | h | h
  · exact absurd h h0
  · exact absurd h h1
  · exact h
theorem ix_le {x : Int32} {n : Nat} (h0 : 0 ≤ x.toInt) (h1 : x.toInt < n) (hn : n < 2 ^ 31) : ∃ j : Nat, j < n ∧ x = nI j := by
  refine ix_of (n := n) ?_ ?_ hn
  · rw [Int32.lt_iff_toInt_lt, Int32.toInt_zero]; omega
  · rw [Int32.le_iff_toInt_le, nI_toInt hn]; omega
theorem kd_lt {x : Int32} (h : x < 7) : x.toInt ≤ 6 := by
  rw [Int32.lt_iff_toInt_lt] at h
  have : (7 : Int32).toInt = 7 := by decide
  omega
theorem kd_6 {x : Int32} (h : x = 6) : x.toInt ≤ 6 := by
  subst h
  decide
theorem kd_ge {x : Int32} (h : ¬ 6 ≤ x) : x.toInt ≤ 6 := by
  rw [Int32.le_iff_toInt_le] at h
  have : (6 : Int32).toInt = 6 := by decide
  omega
theorem nl_of {x y : Int32} (h : x < y) : ¬ y ≤ x := by
  rw [Int32.lt_iff_toInt_lt] at h
  rw [Int32.le_iff_toInt_le]
  omega
theorem cp_sz {x : Int32} {A B l : Nat} (e : x = nI A - nI B) (hA : A ≤ l) (hl : l ≤ 1000) (hB : B ≤ 1000) : x.toInt + B ≤ l := by
  rw [e, pk_sub_toInt (by omega) (by omega)]
  omega
theorem cp_le {x : Int32} {B l n : Nat} (h : x.toInt + B ≤ l) (hl : l ≤ n) (hn : n ≤ 1000) : x ≤ nI n := by
  rw [Int32.le_iff_toInt_le, nI_toInt (by omega)]
  omega
theorem cp_ix {y : Int32} {k j l n : Nat} (c : ¬ y ≤ nI k) (hs : y.toInt + j ≤ l) (h : l ≤ n) (hk : k ≤ 1000) : j + k < n := by
  rw [Int32.le_iff_toInt_le, nI_toInt (by omega)] at c
  omega
