/-! the reference's invariants of what was heard, and numbers of bytes -/
theorem mq_nI (x : Int32) : x = nI x.toBitVec.toNat := Int32.toBitVec_inj.mp (by
  show x.toBitVec = BitVec.ofNat 32 x.toBitVec.toNat
  simp)
theorem or_b {x y : Int32} {a b : Nat} (e1 : y = nI b <<< (8 &&& 31)) (e2 : x = nI a ||| y) (ha : a ≤ 255) (hb : b ≤ 255) : ∃ n : Nat, n ≤ 65535 ∧ x = nI n := by
  refine ⟨x.toBitVec.toNat, ?_, mq_nI x⟩
  have h1 : y = nI (b * 2 ^ 8) := by
    rw [e1]
    exact pk_shlN _ 8 (by decide) (by omega)
  have h2 : x.toBitVec.toNat = a ||| b * 2 ^ 8 := by
    rw [e2, Int32.toBitVec_or, BitVec.toNat_or, h1, pk_tn (by omega), pk_tn (by omega)]
  have h3 : a ||| b * 2 ^ 8 < 2 ^ 16 := Nat.or_lt_two_pow (by omega) (by omega)
  omega
theorem dv_2 {x : Int32} {n : Nat} (e : x = nI n / 2) (hn : n ≤ 65535) : ∃ m : Nat, m ≤ 32767 ∧ x = nI m := ⟨n / 2, by omega, e.trans (pk_div (d := 2) (by omega) (by decide) (by decide))⟩
theorem lb_255 {x y : Int64} {z : Int32} (e1 : y = x &&& 255) (e2 : z = y.toInt32) : ∃ n : Nat, n ≤ 255 ∧ z = nI n := by
  have hn : y.toBitVec.toNat ≤ 255 := by
    rw [e1, Int64.toBitVec_and, BitVec.toNat_and]
    exact Nat.and_le_right
  have ht : y.toInt = (y.toBitVec.toNat : Int) := BitVec.toInt_eq_toNat_of_lt (by omega)
  refine ⟨y.toBitVec.toNat, hn, Int32.toInt_inj.mp ?_⟩
  rw [e2, Int64.toInt_toInt32, ht, nI_toInt (by omega), Int.bmod_eq_of_le] <;> omega
theorem mq_ri {X : List Nat} {σ σ1 : mq_S} {i n : Nat} (h : mq_fr X σ σ1) (hx : X.elem 118 = false) (o : σ.2.2.1 18 i = nI n) : ∃ m : Nat, (m = n ∨ m = 0) ∧ σ1.2.2.1 18 i = nI m := by
  rcases h.2 hx i with q | q
  · exact ⟨n, Or.inl rfl, q.trans o⟩
  · exact ⟨0, Or.inr rfl, q⟩
/-- what a connection has heard -/
def BIx (σ : mq_S) (j : Nat) : Prop := ∃ n : Nat, σ.2.2.1 18 j = nI n ∧ n ≤ 269 ∧ (n ≤ 1 ∨ ∃ m : Nat, σ.2.2.1 17 (j * 270 + 1) = nI m ∧ 4 ≤ m ∧ m ≤ 253 ∧ n < 2 + m)
def BIa (σ : mq_S) : Prop := ∀ j : Nat, j ≤ 2 → BIx σ j
def BIe (σ : mq_S) (j : Nat) : Prop := ∀ i : Nat, i ≤ 2 → i ≠ j → BIx σ i
theorem BIx_fr {X : List Nat} {σ σ1 : mq_S} {j : Nat} (h : mq_fr X σ σ1) (hx : ([17, 118] : List Nat).all (fun k => !X.elem k) = true) (q : BIx σ j) : BIx σ1 j := by
  have g : ∀ k, k ∈ ([17, 118] : List Nat) → X.elem k = false := fun k hk => by
    have := List.all_eq_true.mp hx k hk
    simpa using this
  obtain ⟨n, h1, h2, h3⟩ := q
  obtain ⟨m, h4, h5⟩ := mq_ri h (g 118 (by decide)) h1
  refine ⟨m, h5, by omega, ?_⟩
  rcases h4 with rfl | rfl
  · rw [(h.1 17 (g 17 (by decide))).2.2.1]
    exact h3
  · exact Or.inl (by decide)
theorem BIa_fr {X : List Nat} {σ σ1 : mq_S} (h : mq_fr X σ σ1) (hx : ([17, 118] : List Nat).all (fun k => !X.elem k) = true) (q : BIa σ) : BIa σ1 := fun j hj => BIx_fr h hx (q j hj)
theorem BIe_fr {X : List Nat} {σ σ1 : mq_S} {j : Nat} (h : mq_fr X σ σ1) (hx : ([17, 118] : List Nat).all (fun k => !X.elem k) = true) (q : BIe σ j) : BIe σ1 j := fun i hi hj => BIx_fr h hx (q i hi hj)
theorem BIe_w {σ σ1 : mq_S} {j t : Nat} {x : Int32} (e : σ1 = mq_ug σ 17 t x) (h1 : j * 270 ≤ t) (h2 : t < j * 270 + 270) (q : BIe σ j) : BIe σ1 j := fun i hi hj => by
  obtain ⟨n, a1, a2, a3⟩ := q i hi hj
  refine ⟨n, ?_, a2, ?_⟩
  · rw [e]
    exact a1
  · rw [mq_ugn e (show i * 270 + 1 ≠ t by omega) rfl]
    exact a3
theorem BIe_n {σ σ1 : mq_S} {j : Nat} {x : Int32} (e : σ1 = mq_ug σ 18 j x) (q : BIe σ j) : BIe σ1 j := fun i hi hj => by
  obtain ⟨n, a1, a2, a3⟩ := q i hi hj
  refine ⟨n, mq_ugn e hj a1, a2, ?_⟩
  rw [show σ1.2.2.1 17 = σ.2.2.1 17 by rw [e]; rfl]
  exact a3
theorem BI_e {σ : mq_S} {j : Nat} (q : BIa σ) : BIe σ j := fun i hi _ => q i hi
theorem BI_fin {σ : mq_S} {j n : Nat} (q : BIe σ j) (o : σ.2.2.1 18 j = nI n) (hn : n ≤ 269) (h : n ≤ 1 ∨ ∃ m : Nat, σ.2.2.1 17 (j * 270 + 1) = nI m ∧ 4 ≤ m ∧ m ≤ 253 ∧ n < 2 + m) : BIa σ := fun i hi => by
  by_cases z : i = j
  · subst z
    exact ⟨n, o, hn, h⟩
  · exact q i hi z
theorem BI_z {σ : mq_S} {j n : Nat} (hj : j ≤ 2) (q : BIa σ) (o : σ.2.2.1 18 j = nI n) (hn : n ≤ 269) : n ≤ 1 ∨ ∃ m : Nat, σ.2.2.1 17 (j * 270 + 1) = nI m ∧ 4 ≤ m ∧ m ≤ 253 ∧ n < 2 + m := by
  obtain ⟨k, a1, a2, a3⟩ := q j hj
  have := (nI_eq (by omega) (by omega)).mp (o.symm.trans a1)
  subst this
  exact a3
/-- what the serial line has heard -/
def SI (σ : mq_S) : Prop := ∃ n : Nat, σ.2.2.1 18 3 = nI n ∧ (n = 0 ∨ (σ.2.2.1 17 810 = 16 ∧ n ≤ 4) ∨ (σ.2.2.1 17 810 = 104 ∧ (n = 1 ∨ ∃ m : Nat, σ.2.2.1 17 811 = nI m ∧ 3 ≤ m ∧ m ≤ 253 ∧ n ≤ m + 5)))
theorem SI_fr {X : List Nat} {σ σ1 : mq_S} (h : mq_fr X σ σ1) (hx : ([17, 118] : List Nat).all (fun k => !X.elem k) = true) (q : SI σ) : SI σ1 := by
  have g : ∀ k, k ∈ ([17, 118] : List Nat) → X.elem k = false := fun k hk => by
    have := List.all_eq_true.mp hx k hk
    simpa using this
  obtain ⟨n, h1, h3⟩ := q
  obtain ⟨m, h4, h5⟩ := mq_ri h (g 118 (by decide)) h1
  refine ⟨m, h5, ?_⟩
  rcases h4 with rfl | rfl
  · rw [(h.1 17 (g 17 (by decide))).2.2.1]
    exact h3
  · exact Or.inl rfl
theorem SI_w {σ σ1 : mq_S} {t : Nat} {x : Int32} (e : σ1 = mq_ug σ 17 t x) (ht : t < 810) (q : SI σ) : SI σ1 := by
  obtain ⟨n, a1, a3⟩ := q
  refine ⟨n, ?_, ?_⟩
  · rw [e]
    exact a1
  · rw [mq_ugn e (show 810 ≠ t by omega) rfl, mq_ugn e (show 811 ≠ t by omega) rfl]
    exact a3
theorem SI_n {σ σ1 : mq_S} {j : Nat} {x : Int32} (e : σ1 = mq_ug σ 18 j x) (hj : j ≤ 2) (q : SI σ) : SI σ1 := by
  obtain ⟨n, a1, a3⟩ := q
  refine ⟨n, mq_ugn e (show 3 ≠ j by omega) a1, ?_⟩
  rw [show σ1.2.2.1 17 = σ.2.2.1 17 by rw [e]; rfl]
  exact a3
theorem SI_z {σ : mq_S} {n : Nat} (q : SI σ) (o : σ.2.2.1 18 3 = nI n) (hn : n ≤ 269) : n = 0 ∨ (σ.2.2.1 17 810 = 16 ∧ n ≤ 4) ∨ (σ.2.2.1 17 810 = 104 ∧ (n = 1 ∨ ∃ m : Nat, σ.2.2.1 17 811 = nI m ∧ 3 ≤ m ∧ m ≤ 253 ∧ n ≤ m + 5)) := by
  obtain ⟨k, a1, a3⟩ := q
  have hk : k ≤ 258 := by
    rcases a3 with h | ⟨-, h⟩ | ⟨-, h | ⟨m, -, -, h1, h2⟩⟩ <;> omega
  have := (nI_eq (by omega) (by omega)).mp (o.symm.trans a1)
  subst this
  exact a3
theorem SI_le {σ : mq_S} {n : Nat} (q : SI σ) (o : σ.2.2.1 18 3 = nI n) (hn : n ≤ 269) : n ≤ 258 := by
  rcases SI_z q o hn with h | ⟨-, h⟩ | ⟨-, h | ⟨m, -, -, h1, h2⟩⟩ <;> omega
theorem BIa_w {σ σ1 : mq_S} {t : Nat} {x : Int32} (e : σ1 = mq_ug σ 17 t x) (ht : 810 ≤ t) (q : BIa σ) : BIa σ1 := fun i hi => by
  obtain ⟨n, a1, a2, a3⟩ := q i hi
  refine ⟨n, ?_, a2, ?_⟩
  · rw [e]
    exact a1
  · rw [mq_ugn e (show i * 270 + 1 ≠ t by omega) rfl]
    exact a3
theorem BIa_n {σ σ1 : mq_S} {x : Int32} (e : σ1 = mq_ug σ 18 3 x) (q : BIa σ) : BIa σ1 := fun i hi => by
  obtain ⟨n, a1, a2, a3⟩ := q i hi
  refine ⟨n, mq_ugn e (by omega) a1, a2, ?_⟩
  rw [show σ1.2.2.1 17 = σ.2.2.1 17 by rw [e]; rfl]
  exact a3
theorem in_nat {r : Int32} {x1 x2 x3 : Int64} {n lo hi : Nat} (h : (r = 0 ∨ r = 1) ∧ (r = 1 ↔ (x2 ≤ x1 ∧ x1 ≤ x3))) (e1 : x1 = (nI n).toInt64) (e2 : x2.toInt = lo) (e3 : x3.toInt = hi) (hn : n < 2 ^ 31) : (r = 1 ∧ lo ≤ n ∧ n ≤ hi) ∨ (r = 0 ∧ (n < lo ∨ hi < n)) := by
  obtain ⟨h1, h2⟩ := h
  rw [Int64.le_iff_toInt_le, Int64.le_iff_toInt_le, e2, e3, e1, Int32.toInt_toInt64, nI_toInt hn] at h2
  rcases h1 with h1 | h1
  · refine Or.inr ⟨h1, ?_⟩
    have : ¬ ((lo : Int) ≤ n ∧ (n : Int) ≤ hi) := fun q => absurd (h1.symm.trans (h2.mpr q)) (by decide)
    omega
  · refine Or.inl ⟨h1, ?_⟩
    have := h2.mp h1
    omega
theorem in_int {r x : Int32} {x1 x2 x3 : Int64} {lo hi : Nat} (h : (r = 0 ∨ r = 1) ∧ (r = 1 ↔ (x2 ≤ x1 ∧ x1 ≤ x3))) (e1 : x1 = x.toInt64) (e2 : x2.toInt = lo) (e3 : x3.toInt = hi) : (r = 1 ∧ (lo : Int) ≤ x.toInt ∧ x.toInt ≤ hi) ∨ (r = 0 ∧ ¬ ((lo : Int) ≤ x.toInt ∧ x.toInt ≤ hi)) := by
  obtain ⟨h1, h2⟩ := h
  rw [Int64.le_iff_toInt_le, Int64.le_iff_toInt_le, e2, e3, e1, Int32.toInt_toInt64] at h2
  rcases h1 with h1 | h1
  · exact Or.inr ⟨h1, fun q => absurd (h1.symm.trans (h2.mpr q)) (by decide)⟩
  · exact Or.inl ⟨h1, h2.mp h1⟩
theorem bo_0 {σ σ1 σ2 : mq_S} {j z b n3 : Nat} {x : Int32} (q : BIa σ) (hj : j ≤ 2) (o : σ.2.2.1 18 j = nI z) (hz : z ≤ 269) (hb : b ≤ 255) (hn : n3 ≤ 255) (e1 : σ1 = mq_ug σ 17 (j * 270 + z) (nI b)) (e2 : σ2 = mq_ug σ1 18 j x) (h3 : σ2.2.2.1 17 (j * 270 + 1) = nI n3) : z = 0 ∨ (z = 1 ∧ n3 = b) ∨ (2 ≤ z ∧ 4 ≤ n3 ∧ n3 ≤ 253 ∧ z < 2 + n3) := by
  rw [show σ2.2.2.1 17 = σ1.2.2.1 17 by rw [e2]; rfl] at h3
  have h4 := BI_z hj q o hz
  rcases Nat.lt_or_ge z 2 with h | h
  · by_cases h5 : z = 1
    · subst h5
      rw [mq_ugj e1] at h3
      have := (nI_eq (by omega) (by omega)).mp h3
      omega
    · omega
  · rcases h4 with h4 | ⟨m, h5, h6, h7, h8⟩
    · omega
    · rw [mq_ugn e1 (show j * 270 + 1 ≠ j * 270 + z by omega) h5] at h3
      have := (nI_eq (by omega) (by omega)).mp h3
      omega
theorem sb_0 {σ σ1 : mq_S} {z b n1 n2 : Nat} (q : SI σ) (o : σ.2.2.1 18 3 = nI z) (hz : z ≤ 269) (hb : b ≤ 255) (e : σ1 = mq_ug σ 17 (810 + z) (nI b)) (h1 : σ1.2.2.1 17 (3 * 270 + 0) = nI n1) (h2 : σ1.2.2.1 17 (3 * 270 + 1) = nI n2) (hn1 : n1 ≤ 255) (hn2 : n2 ≤ 255) : (z = 0 ∧ n1 = b) ∨ (1 ≤ z ∧ ((n1 = 16 ∧ z ≤ 4) ∨ (n1 = 104 ∧ ((z = 1 ∧ n2 = b) ∨ (2 ≤ z ∧ 3 ≤ n2 ∧ n2 ≤ 253 ∧ z ≤ n2 + 5))))) := by
  have h3 := SI_z q o hz
  rcases Nat.eq_zero_or_pos z with h | h
  · subst h
    have h4 : σ1.2.2.1 17 (3 * 270 + 0) = nI b := mq_ugj e
    have := (nI_eq (by omega) (by omega)).mp (h1.symm.trans h4)
    omega
  · have h4 : σ1.2.2.1 17 (3 * 270 + 0) = σ.2.2.1 17 810 := mq_ugn e (by omega) rfl
    have h5 : ∀ v : Nat, v ≤ 255 → σ.2.2.1 17 810 = nI v → n1 = v := fun v hv h => (nI_eq (by omega) (by omega)).mp (h1.symm.trans (h4.trans h))
    rcases h3 with h3 | ⟨h3, h6⟩ | ⟨h3, h6⟩
    · omega
    · have := h5 16 (by decide) h3
      omega
    · have h7 := h5 104 (by decide) h3
      by_cases h8 : z = 1
      · subst h8
        have h9 : σ1.2.2.1 17 (3 * 270 + 1) = nI b := mq_ugj e
        have := (nI_eq (by omega) (by omega)).mp (h2.symm.trans h9)
        omega
      · rcases h6 with h6 | ⟨m, a1, a2, a3, a4⟩
        · omega
        · have h9 : σ1.2.2.1 17 (3 * 270 + 1) = nI m := mq_ugn e (by omega) a1
          have := (nI_eq (by omega) (by omega)).mp (h2.symm.trans h9)
          omega
theorem SI_mk {σ : mq_S} {n n1 n2 : Nat} (o : σ.2.2.1 18 3 = nI n) (h1 : σ.2.2.1 17 (3 * 270 + 0) = nI n1) (h2 : σ.2.2.1 17 (3 * 270 + 1) = nI n2) (hc : n = 0 ∨ (n1 = 16 ∧ n ≤ 4) ∨ (n1 = 104 ∧ (n = 1 ∨ (3 ≤ n2 ∧ n2 ≤ 253 ∧ n ≤ n2 + 5)))) : SI σ := by
  refine ⟨n, o, ?_⟩
  rcases hc with h | ⟨h, h3⟩ | ⟨h, h3⟩
  · exact Or.inl h
  · subst h
    exact Or.inr (Or.inl ⟨h1, h3⟩)
  · subst h
    refine Or.inr (Or.inr ⟨h1, ?_⟩)
    rcases h3 with h3 | ⟨h4, h5, h6⟩
    · exact Or.inl h3
    · exact Or.inr ⟨n2, h2, h4, h5, h6⟩
