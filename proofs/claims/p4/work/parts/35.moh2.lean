/-! the invariant of answers: how writes keep it -/
theorem ih_of {σ : mq_S} {j n : Nat} (o : σ.2.2.1 30 j = nI n) (hn : n ≤ 16) : ih_n σ j = n := by
  unfold ih_n
  rw [o, nI_clamp (by omega)]
theorem ih_16 {σ : mq_S} (hM : mq_in σ) (l : Nat) : ih_n σ l ≤ 16 := by
  obtain ⟨n, -, n2, n3⟩ := hM.2 30 l
  unfold ih_n
  rw [n3, nI_clamp (by omega)]
  exact n2
theorem IH_fin {σ : mq_S} {j : Nat} (hs : IHs σ j) (h0 : 0 < ih_n σ j → σ.2.2.1 33 (j * 16 + 0) = 2 → np_S σ j (σ.2.2.1 34 (j * 16 + 0))) : IH σ := fun l hl => by
  by_cases q : l = j
  · subst q
    intro k hk hp
    rcases Nat.eq_zero_or_pos k with z | z
    · subst z
      exact ⟨rfl, h0 hk hp⟩
    · exact absurd hp (hs.2 k z hk)
  · exact hs.1 l hl q
theorem IHs_p0 {σ σ1 : mq_S} {j : Nat} {x : Int32} (e : σ1 = mq_ug σ 33 (j * 16 + 0) x) (hM : mq_in σ) (h : IHs σ j) : IHs σ1 j := by
  refine ⟨IHe_ph e (by decide) hM h.1, fun k h1 h2 => ?_⟩
  have e4 : ih_n σ1 j = ih_n σ j := by rw [e]; rfl
  rw [e4] at h2
  rw [mq_ugn e (show j * 16 + k ≠ j * 16 + 0 by omega) rfl]
  exact h.2 k h1 h2
theorem IHs_td {σ σ1 : mq_S} {j : Nat} {x : Int32} (e : σ1 = mq_ug σ 34 (j * 16 + 0) x) (h : IHs σ j) : IHs σ1 j := by
  refine ⟨IHe_td e (by decide) h.1, fun k h1 h2 => ?_⟩
  have e4 : ih_n σ1 j = ih_n σ j := by rw [e]; rfl
  have e1 : ∀ k, σ1.2.2.1 33 k = σ.2.2.1 33 k := fun k => by rw [e]; rfl
  rw [e4] at h2
  rw [e1]
  exact h.2 k h1 h2
theorem np_first {σ : mq_S} {j z : Nat} {x : Int32} (u : IH σ) (hj : j ≤ 3) (o : σ.2.2.1 30 j = nI z) (hz : 0 < z) (hz2 : z ≤ 16) (hp : σ.2.2.1 33 (j * 16 + 0) = 2) (e : σ.2.2.1 34 (j * 16 + 0) = x) : np_S σ j x := by
  have h := (u j hj 0 (by rw [ih_of o hz2]; exact hz) hp).2
  rw [← e]
  exact h
/-- while the first answer goes: k have been moved of z -/
def FG (σ : mq_S) (j z k : Nat) : Prop := IHe σ j ∧ (∀ i : Nat, 1 ≤ i → i < z → ¬ σ.2.2.1 33 (j * 16 + i) = 2) ∧ (0 < k → ¬ σ.2.2.1 33 (j * 16 + 0) = 2)
theorem FG_fr {X : List Nat} {σ σ1 : mq_S} {j z k : Nat} (h : mq_fr X σ σ1) (hx : ih_X.all (fun k => !X.elem k) = true) (q : FG σ j z k) : FG σ1 j z k := by
  have g : X.elem 33 = false := by
    have := List.all_eq_true.mp hx 33 (by decide)
    simpa using this
  refine ⟨IHe_fr h hx q.1, ?_, ?_⟩
  · rw [(h.1 33 g).2.2.1]
    exact q.2.1
  · rw [(h.1 33 g).2.2.1]
    exact q.2.2
theorem FG_0 {σ σ1 : mq_S} {j z : Nat} {x : Int32} (e : σ1 = mq_ug σ 30 j x) (u : IH σ) (o : σ.2.2.1 30 j = nI z) (hz : z ≤ 16) (hj : j ≤ 3) : FG σ1 j z 0 := by
  have e1 : ∀ k, σ1.2.2.1 33 k = σ.2.2.1 33 k := fun k => by rw [e]; rfl
  refine ⟨IHe_cnt e (IH_e u), fun i h1 h2 q => ?_, fun h => absurd h (by decide)⟩
  rw [e1] at q
  have := (u j hj i (by rw [ih_of o hz]; exact h2) q).1
  omega
theorem FG_ph {σ σ1 : mq_S} {j z k : Nat} {x : Int32} (e : σ1 = mq_ug σ 33 (j * 16 + k) x) (hx : σ.2.2.1 33 (j * 16 + (k + 1)) = x) (hk : k + 1 < z) (hz : z ≤ 16) (hM : mq_in σ) (h : FG σ j z k) : FG σ1 j z (k + 1) := by
  have h2 : ¬ x = 2 := by
    rw [← hx]
    exact h.2.1 (k + 1) (by omega) hk
  refine ⟨IHe_ph e (by omega) hM h.1, fun i a1 a2 => ?_, fun _ => ?_⟩
  · by_cases q : i = k
    · subst q
      rw [mq_ugj e]
      exact h2
    · rw [mq_ugn e (show j * 16 + i ≠ j * 16 + k by omega) rfl]
      exact h.2.1 i a1 a2
  · by_cases q : k = 0
    · subst q
      rw [mq_ugj e]
      exact h2
    · rw [mq_ugn e (show j * 16 + 0 ≠ j * 16 + k by omega) rfl]
      exact h.2.2 (by omega)
theorem FG_td {σ σ1 : mq_S} {j z k i : Nat} {x : Int32} (e : σ1 = mq_ug σ 34 (j * 16 + i) x) (hi : i < 16) (h : FG σ j z k) : FG σ1 j z k := by
  have e1 : σ1.2.2.1 33 = σ.2.2.1 33 := by rw [e]; rfl
  exact ⟨IHe_td e hi h.1, by rw [e1]; exact h.2.1, by rw [e1]; exact h.2.2⟩
theorem FG_an {σ σ1 : mq_S} {j z k i t : Nat} {x : Int32} (e : σ1 = mq_ug σ 31 t x) (h1 : (j * 16 + i) * 260 ≤ t) (h2 : t < (j * 16 + i) * 260 + 260) (hi : i < 16) (hM : mq_in σ) (h : FG σ j z k) : FG σ1 j z k := by
  have e1 : σ1.2.2.1 33 = σ.2.2.1 33 := by rw [e]; rfl
  exact ⟨IHe_an e (i := i) (by omega) (by omega) hi hM h.1, by rw [e1]; exact h.2.1, by rw [e1]; exact h.2.2⟩
theorem FG_end {σ : mq_S} {j z k : Nat} (h : FG σ j z k) (o : σ.2.2.1 30 j = nI (z - 1)) (hk : z - 1 ≤ k) (h0 : 0 < z) (hz : z ≤ 16) : IH σ := by
  have hn := ih_of o (by omega)
  refine IH_fin ⟨h.1, fun i a1 a2 => h.2.1 i a1 (by omega)⟩ (fun a1 a2 => absurd a2 (h.2.2 (by omega)))
/-- an answer is written behind the last -/
theorem IH_an {σ σ1 : mq_S} {j w t : Nat} {x : Int32} (e : σ1 = mq_ug σ 31 t x) (h1 : (j * 16 + w) * 260 ≤ t) (h2 : t < (j * 16 + w) * 260 + 260) (o : σ.2.2.1 30 j = nI w) (hw : w ≤ 15) (hM : mq_in σ) (u : IH σ) : IH σ1 := fun l hl => by
  have e1 : ∀ k, σ1.2.2.1 33 k = σ.2.2.1 33 k := fun k => by rw [e]; rfl
  have e2 : σ1.2.2.1 34 = σ.2.2.1 34 := by rw [e]; rfl
  have e4 : ih_n σ1 l = ih_n σ l := by rw [e]; rfl
  have hn := ih_16 hM l
  intro k hk hp
  rw [e4] at hk
  rw [e1] at hp
  have e3 : ∀ a, np_S σ1 l a = np_S σ l a := fun a => by
    refine np_S_an e ?_ (mq_h9 hM _)
    by_cases q : l = j
    · subst q
      have := ih_of o (by omega)
      omega
    · omega
  rw [e2, e3]
  exact u l hl k hk hp
theorem IH_ph {σ σ1 : mq_S} {j w : Nat} {x : Int32} (e : σ1 = mq_ug σ 33 (j * 16 + w) x) (o : σ.2.2.1 30 j = nI w) (hw : w ≤ 15) (hM : mq_in σ) (u : IH σ) : IH σ1 := fun l hl => by
  have e2 : σ1.2.2.1 34 = σ.2.2.1 34 := by rw [e]; rfl
  have e3 : ∀ a, np_S σ1 l a = np_S σ l a := fun a => by rw [e]; rfl
  have e4 : ih_n σ1 l = ih_n σ l := by rw [e]; rfl
  have hn := ih_16 hM l
  intro k hk hp
  rw [e4] at hk
  have hne : l * 16 + k ≠ j * 16 + w := by
    by_cases q : l = j
    · subst q
      have := ih_of o (by omega)
      omega
    · omega
  rw [mq_ugn e hne rfl] at hp
  rw [e2, e3]
  exact u l hl k hk hp
theorem IH_td {σ σ1 : mq_S} {j w : Nat} {x : Int32} (e : σ1 = mq_ug σ 34 (j * 16 + w) x) (o : σ.2.2.1 30 j = nI w) (hw : w ≤ 15) (u : IH σ) : IH σ1 := fun l hl => by
  have e1 : ∀ k, σ1.2.2.1 33 k = σ.2.2.1 33 k := fun k => by rw [e]; rfl
  have e3 : ∀ a, np_S σ1 l a = np_S σ l a := fun a => by rw [e]; rfl
  have e4 : ih_n σ1 l = ih_n σ l := by rw [e]; rfl
  intro k hk hp
  rw [e4] at hk
  rw [e1] at hp
  have hne : l * 16 ≠ j * 16 + w := by
    by_cases q : l = j
    · subst q
      have := ih_of o (by omega)
      omega
    · omega
  rw [mq_ugn e hne rfl, e3]
  exact u l hl k hk hp
theorem IH_inc {σ σ1 : mq_S} {j w : Nat} {x : Int32} (e : σ1 = mq_ug σ 30 j (nI (w + 1))) (o : σ.2.2.1 30 j = nI w) (hw : w ≤ 15) (hp : σ.2.2.1 33 (j * 16 + w) = x) (hx : ¬ x = 2) (u : IH σ) : IH σ1 := fun l hl => by
  have e1 : ∀ k, σ1.2.2.1 33 k = σ.2.2.1 33 k := fun k => by rw [e]; rfl
  have e2 : σ1.2.2.1 34 = σ.2.2.1 34 := by rw [e]; rfl
  have e3 : ∀ a, np_S σ1 l a = np_S σ l a := fun a => by rw [e]; rfl
  intro k hk hq
  rw [e1] at hq
  rw [e2, e3]
  by_cases q : l = j
  · subst q
    rw [ih_of (mq_ugj e) (by omega)] at hk
    by_cases q2 : k = w
    · subst q2
      exact absurd (hp.symm.trans hq) hx
    · exact u l hl k (by rw [ih_of o (by omega)]; omega) hq
  · have e4 : ih_n σ1 l = ih_n σ l := congrArg Int32.toNatClampNeg (mq_ugn e q rfl)
    rw [e4] at hk
    exact u l hl k hk hq
/-- the walk through the points -/
theorem nq_A {ar kd gr an : Nat → Int32} {l h p : Nat} {after y6 K : Int32} (t : (y6 = 1 ∧ an (l * 4160) = 101) ∨ (y6 = 0 ∧ ¬ an (l * 4160) = 101)) (c6 : ¬ y6 = 0) (e : kd p = K) (ck : ¬ K = 6) : ¬ np_q ar kd gr an l h after p := by
  rintro ⟨⟨h1, h2⟩ | ⟨h1, h2⟩, -⟩
  · exact ck (e.symm.trans h2)
  · rcases t with ⟨-, q⟩ | ⟨q, -⟩
    · exact h1 q
    · exact c6 q
theorem nq_B {ar kd gr an : Nat → Int32} {l h p : Nat} {after y6 K : Int32} (t : (y6 = 1 ∧ an (l * 4160) = 101) ∨ (y6 = 0 ∧ ¬ an (l * 4160) = 101)) (c6 : y6 = 0) (e : kd p = K) (ck : 6 ≤ K) : ¬ np_q ar kd gr an l h after p := by
  rintro ⟨⟨h1, h2⟩ | ⟨h1, h2⟩, -⟩
  · rcases t with ⟨q, -⟩ | ⟨-, q⟩
    · rw [c6] at q
      exact absurd q (by decide)
    · exact q h1
  · rw [e] at h2
    exact h2 ck
theorem nq_C {ar kd gr an : Nat → Int32} {l h p : Nat} {after y7 K : Int32} (t : y7 = np_g an l h) (c7 : ¬ y7 = 0) (e : gr p = K) (ck : ¬ K = y7) : ¬ np_q ar kd gr an l h after p := by
  rintro ⟨-, h1 | h1, -⟩
  · exact c7 (t.trans h1)
  · exact ck (e.symm.trans (h1.trans t.symm))
theorem nq_D {ar kd gr an : Nat → Int32} {l h p : Nat} {after K : Int32} (e : ar p = K) (ck : K ≤ after) : ¬ np_q ar kd gr an l h after p := by
  rintro ⟨-, -, h1⟩
  rw [e] at h1
  exact h1 ck
theorem nq_k1 {kd an : Nat → Int32} {l p : Nat} {y6 K : Int32} (t : (y6 = 1 ∧ an (l * 4160) = 101) ∨ (y6 = 0 ∧ ¬ an (l * 4160) = 101)) (c6 : ¬ y6 = 0) (e : kd p = K) (ck : K = 6) : (an (l * 4160) = 101 ∧ kd p = 6) ∨ (¬ an (l * 4160) = 101 ∧ ¬ 6 ≤ kd p) := by
  rcases t with ⟨-, q⟩ | ⟨q, -⟩
  · exact Or.inl ⟨q, e.trans ck⟩
  · exact absurd q c6
theorem nq_k2 {kd an : Nat → Int32} {l p : Nat} {y6 K : Int32} (t : (y6 = 1 ∧ an (l * 4160) = 101) ∨ (y6 = 0 ∧ ¬ an (l * 4160) = 101)) (c6 : y6 = 0) (e : kd p = K) (ck : ¬ 6 ≤ K) : (an (l * 4160) = 101 ∧ kd p = 6) ∨ (¬ an (l * 4160) = 101 ∧ ¬ 6 ≤ kd p) := by
  rcases t with ⟨q, -⟩ | ⟨-, q⟩
  · rw [c6] at q
    exact absurd q (by decide)
  · exact Or.inr ⟨q, by rw [e]; exact ck⟩
/-- what the walk knows after k points: none yet, or one -/
def np_I (pts : Nat) (ar kd gr an : Nat → Int32) (l h : Nat) (after : Int32) (k : Nat) (y : Int32) : Prop := (y = -1 ∧ ∀ p : Nat, p < k → ¬ np_q ar kd gr an l h after p) ∨ ∃ n : Nat, y = nI n ∧ n ≤ 31 ∧ np_E pts ar kd gr an l h after
theorem np_no {pts : Nat} {ar kd gr an : Nat → Int32} {l h k : Nat} {after y : Int32} (t : np_I pts ar kd gr an l h after k y) (q : ¬ np_q ar kd gr an l h after k) : np_I pts ar kd gr an l h after (k + 1) y := by
  rcases t with ⟨t1, t2⟩ | t
  · refine Or.inl ⟨t1, fun p hp => ?_⟩
    by_cases z : p = k
    · subst z
      exact q
    · exact t2 p (by omega)
  · exact Or.inr t
theorem np_yes {pts : Nat} {ar kd gr an : Nat → Int32} {l h k j : Nat} {after : Int32} (hk : k < pts) (hp : k ≤ 31) (q : np_q ar kd gr an l h after k) : np_I pts ar kd gr an l h after j (nI k) := Or.inr ⟨k, rfl, hp, k, hk, q⟩
theorem np_more {pts : Nat} {ar kd gr an : Nat → Int32} {l h k j : Nat} {after y : Int32} (t : np_I pts ar kd gr an l h after k y) (c : ¬ y < 0) : np_I pts ar kd gr an l h after j y := by
  rcases t with ⟨rfl, -⟩ | t
  · exact absurd (by decide) c
  · exact Or.inr t
theorem np_in {pts : Nat} {ar kd gr an : Nat → Int32} {l h k : Nat} {after y : Int32} (t : np_I pts ar kd gr an l h after k y) (c : ¬ y < 0) : ∃ j : Nat, j < 32 ∧ y = nI j := by
  rcases t with ⟨rfl, -⟩ | ⟨n, rfl, h2, -⟩
  · exact absurd (by decide) c
  · exact ⟨n, by omega, rfl⟩
theorem np_end {pts : Nat} {ar kd gr an : Nat → Int32} {l h k : Nat} {after y : Int32} (t : np_I pts ar kd gr an l h after k y) (hk : pts ≤ k) : (y = -1 ∧ ¬ np_E pts ar kd gr an l h after) ∨ ∃ n : Nat, y = nI n ∧ n ≤ 31 ∧ np_E pts ar kd gr an l h after := by
  rcases t with ⟨t1, t2⟩ | t
  · exact Or.inl ⟨t1, fun ⟨p, h1, h2⟩ => t2 p (by omega) h2⟩
  · exact Or.inr t
theorem np_g1 {an : Nat → Int32} {l h : Nat} {w : Int32} (h1 : an (l * 4160) = 101) (hw : np_w an l h = w) (c : w = 5) : 0 = np_g an l h := by
  unfold np_g
  rw [if_pos h1, if_pos (hw.trans c)]
theorem np_g2 {an : Nat → Int32} {l h : Nat} {w : Int32} (h1 : an (l * 4160) = 101) (hw : np_w an l h = w) (c : ¬ w = 5) : w = np_g an l h := by
  unfold np_g
  rw [if_pos h1, hw, if_neg c]
theorem np_g3 {an : Nat → Int32} {l h : Nat} {w y : Int32} (h1 : ¬ an (l * 4160) = 101) (hw : np_w an l h = w) (e : y = w - 20) : y = np_g an l h := by
  unfold np_g
  rw [if_neg h1, hw]
  exact e
