/-! the reference's invariant of answers: an interrogation that tells has a point to tell -/
def np_w (an : Nat → Int32) (l h : Nat) : Int32 := an (l * 4160 + h)
def np_g (an : Nat → Int32) (l h : Nat) : Int32 := if an (l * 4160) = 101 then (if np_w an l h = 5 then 0 else np_w an l h) else np_w an l h - 20
def np_q (ar kd gr an : Nat → Int32) (l h : Nat) (after : Int32) (p : Nat) : Prop := ((an (l * 4160) = 101 ∧ kd p = 6) ∨ (¬ an (l * 4160) = 101 ∧ ¬ 6 ≤ kd p)) ∧ (np_g an l h = 0 ∨ gr p = np_g an l h) ∧ ¬ ar p ≤ after
/-- there is a point to tell -/
def np_E (pts : Nat) (ar kd gr an : Nat → Int32) (l h : Nat) (after : Int32) : Prop := ∃ p : Nat, p < pts ∧ np_q ar kd gr an l h after p
def mq_h (σ : mq_S) (x : Int32) : Nat := 2 + mq_fz σ 36 x 2 + mq_fz σ 37 x 2 + mq_fz σ 38 x 3
def np_S (σ : mq_S) (l : Nat) (after : Int32) : Prop := np_E (σ.1 2).toNatClampNeg (σ.2.2.1 3) (σ.2.2.1 4) (σ.2.2.1 5) (σ.2.2.1 31) l (mq_h σ (nI l)) after
/-- of line l the first k answers are as they may be -/
def ih_l (σ : mq_S) (l n : Nat) : Prop := ∀ k : Nat, k < n → σ.2.2.1 33 (l * 16 + k) = 2 → k = 0 ∧ np_S σ l (σ.2.2.1 34 (l * 16))
def ih_n (σ : mq_S) (l : Nat) : Nat := (σ.2.2.1 30 l).toNatClampNeg
def IH (σ : mq_S) : Prop := ∀ l : Nat, l ≤ 3 → ih_l σ l (ih_n σ l)
/-- of all lines but j -/
def IHe (σ : mq_S) (j : Nat) : Prop := ∀ l : Nat, l ≤ 3 → l ≠ j → ih_l σ l (ih_n σ l)
/-- of line j, but for its first answer -/
def IHs (σ : mq_S) (j : Nat) : Prop := IHe σ j ∧ ∀ k : Nat, 0 < k → k < ih_n σ j → ¬ σ.2.2.1 33 (j * 16 + k) = 2
abbrev ih_X : List Nat := [2, 3, 4, 5, 30, 31, 33, 34, 36, 37, 38]
theorem np_S_fr {X : List Nat} {σ σ1 : mq_S} {l : Nat} {after : Int32} (h : mq_fr X σ σ1) (hx : ([2, 3, 4, 5, 31, 36, 37, 38] : List Nat).all (fun k => !X.elem k) = true) : np_S σ1 l after = np_S σ l after := by
  have g : ∀ k, k ∈ ([2, 3, 4, 5, 31, 36, 37, 38] : List Nat) → X.elem k = false := fun k hk => by
    have := List.all_eq_true.mp hx k hk
    simpa using this
  unfold np_S mq_h mq_fz
  rw [(h.1 2 (g 2 (by decide))).1, (h.1 36 (g 36 (by decide))).1, (h.1 37 (g 37 (by decide))).1, (h.1 38 (g 38 (by decide))).1, (h.1 3 (g 3 (by decide))).2.2.1, (h.1 4 (g 4 (by decide))).2.2.1, (h.1 5 (g 5 (by decide))).2.2.1, (h.1 31 (g 31 (by decide))).2.2.1]
theorem ih_l_fr {X : List Nat} {σ σ1 : mq_S} {l : Nat} (h : mq_fr X σ σ1) (hx : ih_X.all (fun k => !X.elem k) = true) : ih_l σ1 l (ih_n σ1 l) = ih_l σ l (ih_n σ l) := by
  have g : ∀ k, k ∈ ih_X → X.elem k = false := fun k hk => by
    have := List.all_eq_true.mp hx k hk
    simpa using this
  have hx2 : ([2, 3, 4, 5, 31, 36, 37, 38] : List Nat).all (fun k => !X.elem k) = true := by
    rw [List.all_eq_true]
    intro k hk
    have : k ∈ ih_X := by
      simp only [List.mem_cons, List.not_mem_nil, or_false] at hk ⊢
      omega
    rw [g k this]
    rfl
  unfold ih_l ih_n
  rw [(h.1 33 (g 33 (by decide))).2.2.1, (h.1 34 (g 34 (by decide))).2.2.1, (h.1 30 (g 30 (by decide))).2.2.1]
  simp only [np_S_fr h hx2]
theorem IH_fr {X : List Nat} {σ σ1 : mq_S} (h : mq_fr X σ σ1) (hx : ih_X.all (fun k => !X.elem k) = true) (q : IH σ) : IH σ1 := fun l hl => by
  rw [ih_l_fr h hx]
  exact q l hl
theorem IHe_fr {X : List Nat} {σ σ1 : mq_S} {j : Nat} (h : mq_fr X σ σ1) (hx : ih_X.all (fun k => !X.elem k) = true) (q : IHe σ j) : IHe σ1 j := fun l hl hj => by
  rw [ih_l_fr h hx]
  exact q l hl hj
theorem IHs_fr {X : List Nat} {σ σ1 : mq_S} {j : Nat} (h : mq_fr X σ σ1) (hx : ih_X.all (fun k => !X.elem k) = true) (q : IHs σ j) : IHs σ1 j := by
  have g : ∀ k, k ∈ ih_X → X.elem k = false := fun k hk => by
    have := List.all_eq_true.mp hx k hk
    simpa using this
  refine ⟨IHe_fr h hx q.1, fun k h1 h2 => ?_⟩
  unfold ih_n at h2
  rw [(h.1 30 (g 30 (by decide))).2.2.1] at h2
  rw [(h.1 33 (g 33 (by decide))).2.2.1]
  exact q.2 k h1 h2
theorem IH_e {σ : mq_S} {j : Nat} (h : IH σ) : IHe σ j := fun l hl _ => h l hl
theorem IH_s {σ : mq_S} {j : Nat} (hj : j ≤ 3) (h : IH σ) : IHs σ j := ⟨IH_e h, fun k h1 h2 q => by have := (h j hj k h2 q).1; omega⟩
/-- a write into a row that holds answers keeps the rest of line l where it is not of line l -/
theorem np_S_an {σ σ1 : mq_S} {l i : Nat} {x after : Int32} (e : σ1 = mq_ug σ 31 i x) (h : i < l * 4160 ∨ l * 4160 + 9 < i) (hh : mq_h σ (nI l) ≤ 9) : np_S σ1 l after = np_S σ l after := by
  have e2 : ∀ t, t ≤ 9 → σ1.2.2.1 31 (l * 4160 + t) = σ.2.2.1 31 (l * 4160 + t) := fun t ht => mq_ugn e (by omega) rfl
  have e3 : np_S σ1 l after = np_E (σ.1 2).toNatClampNeg (σ.2.2.1 3) (σ.2.2.1 4) (σ.2.2.1 5) (σ1.2.2.1 31) l (mq_h σ (nI l)) after := by
    rw [e]
    rfl
  rw [e3]
  unfold np_S np_E np_q np_g np_w
  have e4 : σ1.2.2.1 31 (l * 4160) = σ.2.2.1 31 (l * 4160) := mq_ugn e (by omega) rfl
  rw [e2 _ hh, e4]
theorem mq_h9 {σ : mq_S} (h : mq_in σ) (x : Int32) : mq_h σ x ≤ 9 := by
  obtain ⟨a, a1, a2, a3⟩ := h.1 36
  obtain ⟨b, b1, b2, b3⟩ := h.1 37
  obtain ⟨c, c1, c2, c3⟩ := h.1 38
  unfold mq_h mq_fz
  rw [a3, b3, c3, nI_clamp (by omega), nI_clamp (by omega), nI_clamp (by omega)]
  split <;> omega
/-- the answers of line j are fewer -/
theorem ih_less {σ σ1 : mq_S} {l j n z : Nat} (e : σ1 = mq_ug σ 30 j (nI n)) (o : σ.2.2.1 30 j = nI z) (hz : z ≤ 16) (hn : n ≤ z) (h : ih_l σ l (ih_n σ l)) : ih_l σ1 l (ih_n σ1 l) := by
  have e1 : ∀ k, σ1.2.2.1 33 k = σ.2.2.1 33 k := fun k => by rw [e]; rfl
  have e2 : σ1.2.2.1 34 = σ.2.2.1 34 := by rw [e]; rfl
  have e3 : ∀ a, np_S σ1 l a = np_S σ l a := fun a => by rw [e]; rfl
  have e4 : ih_n σ1 l ≤ ih_n σ l := by
    unfold ih_n
    by_cases q : l = j
    · subst q
      rw [mq_ugj e, o, nI_clamp (by omega), nI_clamp (by omega)]
      exact hn
    · rw [mq_ugn e q rfl]
      exact Nat.le_refl _
  intro k hk hp
  rw [e1] at hp
  rw [e2, e3]
  exact h k (by omega) hp
theorem IH_less {σ σ1 : mq_S} {j n z : Nat} (e : σ1 = mq_ug σ 30 j (nI n)) (o : σ.2.2.1 30 j = nI z) (hz : z ≤ 16) (hn : n ≤ z) (h : IH σ) : IH σ1 := fun l hl => ih_less e o hz hn (h l hl)
theorem IHe_cnt {σ σ1 : mq_S} {j : Nat} {x : Int32} (e : σ1 = mq_ug σ 30 j x) (h : IHe σ j) : IHe σ1 j := fun l hl hj => by
  have e1 : ∀ k, σ1.2.2.1 33 k = σ.2.2.1 33 k := fun k => by rw [e]; rfl
  have e2 : σ1.2.2.1 34 = σ.2.2.1 34 := by rw [e]; rfl
  have e3 : ∀ a, np_S σ1 l a = np_S σ l a := fun a => by rw [e]; rfl
  have e4 : ih_n σ1 l = ih_n σ l := congrArg Int32.toNatClampNeg (mq_ugn e hj rfl)
  intro k hk hp
  rw [e1] at hp
  rw [e4] at hk
  rw [e2, e3]
  exact h l hl hj k hk hp
theorem IHe_ph {σ σ1 : mq_S} {j i : Nat} {x : Int32} (e : σ1 = mq_ug σ 33 (j * 16 + i) x) (hi : i < 16) (hM : mq_in σ) (h : IHe σ j) : IHe σ1 j := fun l hl hj => by
  have e2 : σ1.2.2.1 34 = σ.2.2.1 34 := by rw [e]; rfl
  have e3 : ∀ a, np_S σ1 l a = np_S σ l a := fun a => by rw [e]; rfl
  have e4 : ih_n σ1 l = ih_n σ l := by rw [e]; rfl
  obtain ⟨n, -, n2, n3⟩ := hM.2 30 l
  have h16 : ih_n σ l ≤ 16 := by unfold ih_n; rw [n3, nI_clamp (by omega)]; exact n2
  intro k hk hp
  rw [e4] at hk
  rw [mq_ugn e (show l * 16 + k ≠ j * 16 + i by omega) rfl] at hp
  rw [e2, e3]
  exact h l hl hj k hk hp
theorem IHe_td {σ σ1 : mq_S} {j i : Nat} {x : Int32} (e : σ1 = mq_ug σ 34 (j * 16 + i) x) (hi : i < 16) (h : IHe σ j) : IHe σ1 j := fun l hl hj => by
  have e1 : ∀ k, σ1.2.2.1 33 k = σ.2.2.1 33 k := fun k => by rw [e]; rfl
  have e3 : ∀ a, np_S σ1 l a = np_S σ l a := fun a => by rw [e]; rfl
  have e4 : ih_n σ1 l = ih_n σ l := by rw [e]; rfl
  intro k hk hp
  rw [e4] at hk
  rw [e1] at hp
  rw [mq_ugn e (show l * 16 ≠ j * 16 + i by omega) rfl, e3]
  exact h l hl hj k hk hp
theorem IHe_an {σ σ1 : mq_S} {j i t : Nat} {x : Int32} (e : σ1 = mq_ug σ 31 t x) (ht : t = (j * 16 + i) * 260 + (t - (j * 16 + i) * 260)) (ht2 : t - (j * 16 + i) * 260 < 260) (hi : i < 16) (hM : mq_in σ) (h : IHe σ j) : IHe σ1 j := fun l hl hj => by
  have e1 : ∀ k, σ1.2.2.1 33 k = σ.2.2.1 33 k := fun k => by rw [e]; rfl
  have e2 : σ1.2.2.1 34 = σ.2.2.1 34 := by rw [e]; rfl
  have e3 : ∀ a, np_S σ1 l a = np_S σ l a := fun a => np_S_an e (by omega) (mq_h9 hM _)
  have e4 : ih_n σ1 l = ih_n σ l := by rw [e]; rfl
  intro k hk hp
  rw [e4] at hk
  rw [e1] at hp
  rw [e2, e3]
  exact h l hl hj k hk hp
