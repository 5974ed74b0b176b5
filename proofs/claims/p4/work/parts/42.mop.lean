/-! the reference's public methods: numbers, and how the points keep the invariant of answers -/
theorem jn_nat {r : Int32} {x1 x2 x3 : Int64} {n : Nat} {lo hi : Int} (h : (r = 0 ∨ r = 1) ∧ (r = 1 ↔ (x2 ≤ x1 ∧ x1 ≤ x3))) (e1 : x1 = (nI n).toInt64) (e2 : x2.toInt = lo) (e3 : x3.toInt = hi) (hn : n < 2 ^ 31) : (r = 1 ∧ lo ≤ (n : Int) ∧ (n : Int) ≤ hi) ∨ (r = 0 ∧ ((n : Int) < lo ∨ hi < (n : Int))) := by
  obtain ⟨h1, h2⟩ := h
  rw [Int64.le_iff_toInt_le, Int64.le_iff_toInt_le, e2, e3, e1, Int32.toInt_toInt64, nI_toInt hn] at h2
  rcases h1 with h1 | h1
  · refine Or.inr ⟨h1, ?_⟩
    have : ¬ (lo ≤ (n : Int) ∧ (n : Int) ≤ hi) := fun q => absurd (h1.symm.trans (h2.mpr q)) (by decide)
    omega
  · exact Or.inl ⟨h1, h2.mp h1⟩
theorem jn_int {r x : Int32} {x1 x2 x3 : Int64} {lo hi : Int} (h : (r = 0 ∨ r = 1) ∧ (r = 1 ↔ (x2 ≤ x1 ∧ x1 ≤ x3))) (e1 : x1 = x.toInt64) (e2 : x2.toInt = lo) (e3 : x3.toInt = hi) (h0 : 0 ≤ lo) : (r = 1 ∧ ∃ j : Nat, lo ≤ (j : Int) ∧ (j : Int) ≤ hi ∧ x = nI j) ∨ (r = 0 ∧ ¬ (lo ≤ x.toInt ∧ x.toInt ≤ hi)) := by
  obtain ⟨h1, h2⟩ := h
  rw [Int64.le_iff_toInt_le, Int64.le_iff_toInt_le, e2, e3, e1, Int32.toInt_toInt64] at h2
  rcases h1 with h1 | h1
  · exact Or.inr ⟨h1, fun q => absurd (h1.symm.trans (h2.mpr q)) (by decide)⟩
  · have h3 := h2.mp h1
    have h4 := Int32.toInt_lt x
    refine Or.inl ⟨h1, x.toInt.toNat, by omega, by omega, Int32.toInt_inj.mp ?_⟩
    rw [nI_toInt (by omega)]
    omega
theorem nI_p1 {n : Nat} (h : n ≤ 1000) : (nI n - 1).toInt = (n : Int) - 1 := by
  rw [Int32.toInt_sub, nI_toInt (by omega), show (1 : Int32).toInt = 1 by decide, Int.bmod_eq_of_le] <;> omega
theorem clk {r : Int32} {P : Prop} [Decidable P] (h : (r = 0 ∨ r = 1) ∧ (r = 1 ↔ P)) : (if r = 0 then 1 else 0 : Int32) = if P then 0 else 1 := by
  rcases h.1 with q | q
  · rw [if_pos q, if_neg (fun z => absurd (q.symm.trans (h.2.mpr z)) (by decide))]
  · rw [if_pos (h.2.mp q), if_neg (by rw [q]; decide)]
/-- a point more: what there was to tell is there still -/
theorem np_S_mono {σ σ1 : mq_S} {l n : Nat} {a : Int32} (o : σ.1 2 = nI n) (hn : n ≤ 32) (e1 : ∃ n1 : Nat, σ1.1 2 = nI n1 ∧ n ≤ n1 ∧ n1 ≤ 33) (e3 : ∀ p, p < n → σ1.2.2.1 3 p = σ.2.2.1 3 p) (e4 : ∀ p, p < n → σ1.2.2.1 4 p = σ.2.2.1 4 p) (e5 : ∀ p, p < n → σ1.2.2.1 5 p = σ.2.2.1 5 p) (e6 : σ1.2.2.1 31 = σ.2.2.1 31) (e7 : mq_h σ1 (nI l) = mq_h σ (nI l)) (h : np_S σ l a) : np_S σ1 l a := by
  obtain ⟨p, hp, hq⟩ := h
  rw [o, nI_clamp (by omega)] at hp
  obtain ⟨n1, g1, g2, g3⟩ := e1
  refine ⟨p, by rw [g1, nI_clamp (by omega)]; omega, ?_⟩
  unfold np_q at hq ⊢
  rw [e3 p hp, e4 p hp, e5 p hp, e6, e7]
  exact hq
theorem IH_mono {σ σ1 : mq_S} {n : Nat} (o : σ.1 2 = nI n) (hn : n ≤ 32) (e1 : ∃ n1 : Nat, σ1.1 2 = nI n1 ∧ n ≤ n1 ∧ n1 ≤ 33) (e3 : ∀ p, p < n → σ1.2.2.1 3 p = σ.2.2.1 3 p) (e4 : ∀ p, p < n → σ1.2.2.1 4 p = σ.2.2.1 4 p) (e5 : ∀ p, p < n → σ1.2.2.1 5 p = σ.2.2.1 5 p) (e6 : σ1.2.2.1 31 = σ.2.2.1 31) (e7 : ∀ l, mq_h σ1 (nI l) = mq_h σ (nI l)) (e8 : σ1.2.2.1 30 = σ.2.2.1 30) (e9 : σ1.2.2.1 33 = σ.2.2.1 33) (e10 : σ1.2.2.1 34 = σ.2.2.1 34) (h : IH σ) : IH σ1 := fun l hl => by
  intro k hk hp
  unfold ih_n at hk
  rw [e8] at hk
  rw [e9] at hp
  rw [e10]
  exact ⟨(h l hl k hk hp).1, np_S_mono o hn e1 e3 e4 e5 e6 (e7 l) (h l hl k hk hp).2⟩
theorem IH_p3 {σ σ1 : mq_S} {n k : Nat} {x : Int32} (e : σ1 = mq_ug σ k n x) (hk : k = 3 ∨ k = 4 ∨ k = 5) (o : σ.1 2 = nI n) (hn : n ≤ 32) (h : IH σ) : IH σ1 := by
  have g : ∀ i p, p < n → σ1.2.2.1 i p = σ.2.2.1 i p := fun i p hp => by
    by_cases q : i = k
    · subst q
      exact mq_ugn e (by omega) rfl
    · rw [e]
      show (bif Nat.beq i k then upd (σ.2.2.1 k) n x else σ.2.2.1 i) p = _
      rw [mq_be q]
      rfl
  have g2 : ∀ i, i ≠ k → σ1.2.2.1 i = σ.2.2.1 i := fun i hi => by
    rw [e]
    show (bif Nat.beq i k then upd (σ.2.2.1 k) n x else σ.2.2.1 i) = _
    rw [mq_be hi]
    rfl
  exact IH_mono o hn ⟨n, by rw [e]; exact o, Nat.le_refl _, by omega⟩ (g 3) (g 4) (g 5) (g2 31 (by omega)) (fun l => by rw [e]; rfl) (g2 30 (by omega)) (g2 33 (by omega)) (g2 34 (by omega)) h
theorem IH_pp {σ σ1 : mq_S} {n : Nat} (e : σ1 = mq_ui σ 2 (nI (n + 1))) (o : σ.1 2 = nI n) (hn : n ≤ 31) (h : IH σ) : IH σ1 := by
  subst e
  exact IH_mono (n := n) o (by omega) ⟨n + 1, rfl, by omega, by omega⟩ (fun _ _ => rfl) (fun _ _ => rfl) (fun _ _ => rfl) rfl (fun _ => rfl) rfl rfl rfl h
/-- sizes change while no answer of the serial line waits -/
theorem IH_fz {σ σ1 : mq_S} {k : Nat} {v : Int32} (e : σ1 = mq_ui σ k v) (hk : k = 36 ∨ k = 37 ∨ k = 38) (o : σ.2.2.1 30 3 = nI 0) (h : IH σ) : IH σ1 := fun l hl => by
  have e8 : σ1.2.2.1 = σ.2.2.1 := by rw [e]; rfl
  have e2 : σ1.1 2 = σ.1 2 := by
    rw [e]
    show (bif Nat.beq 2 k then v else σ.1 2) = _
    rw [mq_be (by omega)]
    rfl
  intro i hi hp
  unfold ih_n at hi
  rw [e8] at hi hp
  by_cases q : l = 3
  · subst q
    rw [o, nI_clamp (by decide)] at hi
    omega
  · have h3 : ¬ nI l = 3 := fun z => q ((nI_eq (by omega) (by decide)).mp (z.trans rfl))
    have e7 : mq_h σ1 (nI l) = mq_h σ (nI l) := by
      unfold mq_h mq_fz
      simp only [if_neg h3]
    have h4 := h l hl i hi hp
    refine ⟨h4.1, ?_⟩
    have h5 := h4.2
    unfold np_S at h5 ⊢
    rw [e2, e7, e8]
    exact h5
theorem mq_leg {σ : mq_S} (h : ∀ k i : Nat, mq_ok (mq_lg k) (σ.2.2.1 k i)) (k i : Nat) {lo hi n : Nat} (hl : mq_lg k = some (lo, hi)) (e : σ.2.2.1 k i = nI n) (hn : n < 2 ^ 31) (hh : hi < 2 ^ 31) : n ≤ hi := by
  have h1 := h k i
  rw [hl] at h1
  obtain ⟨m, -, h3, h4⟩ := h1
  rw [e] at h4
  have := (nI_eq hn (by omega)).mp h4
  omega
