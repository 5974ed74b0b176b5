/-! when a point may be changed: the class's answer and the reference's -/
def qb (k : Int32) : Int32 := if 1 < k ∧ k < 6 then 241 else 240
def mval (k v : Int32) : Prop := if k = 0 then (0 ≤ v.toInt ∧ v.toInt ≤ 1) else if k = 1 then (0 ≤ v.toInt ∧ v.toInt ≤ 3) else if k = 2 then (-64 ≤ v.toInt ∧ v.toInt ≤ 63) else (4 < k ∨ (-32768 ≤ v.toInt ∧ v.toInt ≤ 32767))
def mb_ok (k v q : Int32) : Prop := k.toInt ≤ 6 ∧ mval k v ∧ q &&& (qb k ^^^ -1) = 0
def ch_ok (g : List (Int32 × Int32)) (x1 x2 x3 : Int32) : Prop := ∃ (j : Nat) (q : Int32 × Int32), x1 = nI j ∧ g[j]? = some q ∧ mb_ok q.2 x2 x3
def ch_is (g : List (Int32 × Int32)) (x1 x2 x3 r : Int32) : Prop := (ch_ok g x1 x2 x3 ∧ r = 0) ∨ (¬ ch_ok g x1 x2 x3 ∧ r = 1)
def ch_res (g : List (Int32 × Int32)) (x1 x2 x3 : Int32) (σ : mq_S) : Prop := (ch_ok g x1 x2 x3 ∧ σ.1 0 = 0) ∨ (¬ ch_ok g x1 x2 x3 ∧ σ.1 0 = 1)
theorem ch_join {g : List (Int32 × Int32)} {x1 x2 x3 r : Int32} {σ : mq_S} (h1 : ch_is g x1 x2 x3 r) (h2 : ch_res g x1 x2 x3 σ) : σ.1 0 = r := by
  rcases h1 with ⟨a, b⟩ | ⟨a, b⟩
  · rcases h2 with ⟨p, q⟩ | ⟨p, q⟩
    · rw [q, b]
    · exact absurd a p
  · rcases h2 with ⟨p, q⟩ | ⟨p, q⟩
    · exact absurd p a
    · rw [q, b]
section QB
variable {k : Int32}
theorem qb_n (h : ¬ (1 < k ∧ k < 6)) : qb k = 240 := if_neg h
theorem qb_1 (c : k ≤ 1) : qb k = 240 := qb_n (fun h => by
  have a := Int32.le_iff_toInt_le.mp c
  have b := Int32.lt_iff_toInt_lt.mp h.1
  omega)
theorem qb_6 (c : 6 ≤ k) : qb k = 240 := qb_n (fun h => by
  have a := Int32.le_iff_toInt_le.mp c
  have b := Int32.lt_iff_toInt_lt.mp h.2
  omega)
theorem qb_m (c1 : ¬ k ≤ 1) (c2 : ¬ 6 ≤ k) : qb k = 241 := if_pos ⟨Int32.lt_iff_toInt_lt.mpr (by
  have a : ¬ k.toInt ≤ (1 : Int32).toInt := fun z => c1 (Int32.le_iff_toInt_le.mpr z)
  omega), Int32.lt_iff_toInt_lt.mpr (by
  have a : ¬ (6 : Int32).toInt ≤ k.toInt := fun z => c2 (Int32.le_iff_toInt_le.mpr z)
  omega)⟩
theorem qb_c1 (c : k < 2) : qb k = 240 := qb_n (fun h => by
  have a := Int32.lt_iff_toInt_lt.mp c
  have b := Int32.lt_iff_toInt_lt.mp h.1
  have e1 : (2 : Int32).toInt = 2 := rfl
  have e2 : (1 : Int32).toInt = 1 := rfl
  omega)
theorem qb_c5 (c : 5 < k) : qb k = 240 := qb_n (fun h => by
  have a := Int32.lt_iff_toInt_lt.mp c
  have b := Int32.lt_iff_toInt_lt.mp h.2
  have e1 : (5 : Int32).toInt = 5 := rfl
  have e2 : (6 : Int32).toInt = 6 := rfl
  omega)
theorem qb_cm (c1 : ¬ k < 2) (c2 : ¬ 5 < k) : qb k = 241 := if_pos ⟨Int32.lt_iff_toInt_lt.mpr (by
  have a : ¬ k.toInt < (2 : Int32).toInt := fun z => c1 (Int32.lt_iff_toInt_lt.mpr z)
  have e1 : (2 : Int32).toInt = 2 := rfl
  have e2 : (1 : Int32).toInt = 1 := rfl
  omega), Int32.lt_iff_toInt_lt.mpr (by
  have a : ¬ (5 : Int32).toInt < k.toInt := fun z => c2 (Int32.lt_iff_toInt_lt.mpr z)
  have e1 : (5 : Int32).toInt = 5 := rfl
  have e2 : (6 : Int32).toInt = 6 := rfl
  omega)⟩
end QB
section MB
variable {k k0 v q r b y z w : Int32}
theorem mb_nq (hb : qb k = b) (e1 : y = b ^^^ -1) (e2 : z = q &&& y) (c : ¬ z = 0) : ¬ mb_ok k v q := fun h => c (by
  rw [e2, e1, ← hb]
  exact h.2.2)
theorem mb_n7 (c : 7 ≤ k) : ¬ mb_ok k v q := fun h => by
  have a := Int32.le_iff_toInt_le.mp c
  have e1 : (7 : Int32).toInt = 7 := rfl
  have := h.1
  omega
theorem mb_nv (p : (r = 0 ∨ r = 1) ∧ (r = 1 ↔ mval k v)) (c : r = 0) : ¬ mb_ok k v q := fun h => by
  have := p.2.mpr h.2.1
  rw [c] at this
  exact absurd this (by decide)
theorem mb_y (e0 : w = k0) (e : w = k) (c7 : ¬ 7 ≤ k0) (p : (r = 0 ∨ r = 1) ∧ (r = 1 ↔ mval k v)) (c : ¬ r = 0) (hb : qb k = b) (e1 : y = b ^^^ -1) (e2 : z = q &&& y) (c2 : z = 0) : mb_ok k v q := by
  refine ⟨?_, p.2.mp (p.1.resolve_left c), ?_⟩
  · have a : ¬ (7 : Int32).toInt ≤ k0.toInt := fun z => c7 (Int32.le_iff_toInt_le.mpr z)
    have e1 : (7 : Int32).toInt = 7 := rfl
    rw [← e0, e] at a
    omega
  · rw [hb, ← e1, ← e2]
    exact c2
end MB
/-! the reference's isValue -/
section IV
variable {k v : Int32}
theorem in_i {x a b : Int64} {lo hi : Int} (e : x = v.toInt64) (ha : a.toInt = lo) (hb : b.toInt = hi) : (a ≤ x ∧ x ≤ b) ↔ (lo ≤ v.toInt ∧ v.toInt ≤ hi) := by
  rw [Int64.le_iff_toInt_le, Int64.le_iff_toInt_le, ha, hb, e, Int32.toInt_toInt64]
theorem iv_t (c1 : ¬ k = 0) (c2 : ¬ k = 1) (c3 : ¬ k = 2) (c4 : 4 < k) : mval k v := by
  unfold mval
  rw [if_neg c1, if_neg c2, if_neg c3]
  exact Or.inl c4
theorem iv_3 (c1 : ¬ k = 0) (c2 : ¬ k = 1) (c3 : ¬ k = 2) (c4 : ¬ 4 < k) : (-32768 ≤ v.toInt ∧ v.toInt ≤ 32767) ↔ mval k v := by
  unfold mval
  rw [if_neg c1, if_neg c2, if_neg c3]
  exact ⟨fun h => Or.inr h, fun h => h.resolve_left c4⟩
theorem iv_2 (c1 : ¬ k = 0) (c2 : ¬ k = 1) (c3 : k = 2) : (-64 ≤ v.toInt ∧ v.toInt ≤ 63) ↔ mval k v := by
  unfold mval
  rw [if_neg c1, if_neg c2, if_pos c3]
theorem iv_1 (c1 : ¬ k = 0) (c2 : k = 1) : (0 ≤ v.toInt ∧ v.toInt ≤ 3) ↔ mval k v := by
  unfold mval
  rw [if_neg c1, if_pos c2]
theorem iv_0 (c1 : k = 0) : (0 ≤ v.toInt ∧ v.toInt ≤ 1) ↔ mval k v := by
  unfold mval
  rw [if_pos c1]
end IV
/-! the class's tables -/
section TB
variable {k v x y : Int32} {j i : Nat}
theorem lo_i (hj : j < 7) : ((st_v 2).getD j 0).toInt = ([0, 0, -64, -32768, -32768, -2147483648, -2147483648] : List Int).getD j 0 := by
  have h : j = 0 ∨ j = 1 ∨ j = 2 ∨ j = 3 ∨ j = 4 ∨ j = 5 ∨ j = 6 := by omega
  rcases h with rfl | rfl | rfl | rfl | rfl | rfl | rfl <;> first | decide | rfl
theorem hi_i (hj : j < 7) : ((st_v 3).getD j 0).toInt = ([1, 3, 63, 32767, 32767, 2147483647, 2147483647] : List Int).getD j 0 := by
  have h : j = 0 ∨ j = 1 ∨ j = 2 ∨ j = 3 ∨ j = 4 ∨ j = 5 ∨ j = 6 := by omega
  rcases h with rfl | rfl | rfl | rfl | rfl | rfl | rfl <;> first | decide | rfl
theorem tb_iff (hj : j < 7) : mval (nI j) v ↔ (([0, 0, -64, -32768, -32768, -2147483648, -2147483648] : List Int).getD j 0 ≤ v.toInt ∧ v.toInt ≤ ([1, 3, 63, 32767, 32767, 2147483647, 2147483647] : List Int).getD j 0) := by
  have h : j = 0 ∨ j = 1 ∨ j = 2 ∨ j = 3 ∨ j = 4 ∨ j = 5 ∨ j = 6 := by omega
  have a := Int32.toInt_lt v
  have b := Int32.le_toInt v
  rcases h with rfl | rfl | rfl | rfl | rfl | rfl | rfl
  · exact (iv_0 (by decide)).symm
  · exact (iv_1 (by decide) (by decide)).symm
  · exact (iv_2 (by decide) (by decide) (by decide)).symm
  · exact (iv_3 (by decide) (by decide) (by decide) (by decide)).symm
  · exact (iv_3 (by decide) (by decide) (by decide) (by decide)).symm
  · exact iff_of_true (iv_t (by decide) (by decide) (by decide) (by decide)) ⟨by show (-2147483648 : Int) ≤ v.toInt; omega, by show v.toInt ≤ (2147483647 : Int); omega⟩
  · exact iff_of_true (iv_t (by decide) (by decide) (by decide) (by decide)) ⟨by show (-2147483648 : Int) ≤ v.toInt; omega, by show v.toInt ≤ (2147483647 : Int); omega⟩
theorem tb_lo (hj : j < 7) (e : nI j = k) (ex : x = (st_v 2).getD j 0) (c : v < x) : ¬ mval k v := fun h => by
  rw [← e] at h
  have h1 := ((tb_iff hj).mp h).1
  have h2 := Int32.lt_iff_toInt_lt.mp c
  rw [ex, lo_i hj] at h2
  omega
theorem tb_hi (hj : j < 7) (e : nI j = k) (ex : x = (st_v 3).getD j 0) (c : x < v) : ¬ mval k v := fun h => by
  rw [← e] at h
  have h1 := ((tb_iff hj).mp h).2
  have h2 := Int32.lt_iff_toInt_lt.mp c
  rw [ex, hi_i hj] at h2
  omega
theorem tb_ok (hj : j < 7) (e : nI j = k) (ex : x = (st_v 2).getD j 0) (c : ¬ v < x) (hi : i < 7) (ei : nI i = k) (ey : y = (st_v 3).getD i 0) (c2 : ¬ y < v) : mval k v := by
  have hij : i = j := (nI_eq (a := i) (b := j) (by omega) (by omega)).mp (ei.trans e.symm)
  subst hij
  rw [← e]
  refine (tb_iff hj).mpr ⟨?_, ?_⟩
  · have h2 : ¬ v.toInt < x.toInt := fun z => c (Int32.lt_iff_toInt_lt.mpr z)
    rw [ex, lo_i hj] at h2
    omega
  · have h2 : ¬ y.toInt < v.toInt := fun z => c2 (Int32.lt_iff_toInt_lt.mpr z)
    rw [ey, hi_i hj] at h2
    omega
end TB
/-! which point -/
section CH
variable {g : List (Int32 × Int32)} {σ0 : mq_S} {x1 x2 x3 k : Int32} {j n : Nat} {q : Int32 × Int32}
theorem ch_ix (hg : g.length ≤ 32) (h : ch_ok g x1 x2 x3) : ∃ (i : Nat) (q : Int32 × Int32), x1 = nI i ∧ i < g.length ∧ g[i]? = some q ∧ mb_ok q.2 x2 x3 ∧ x1.toInt = (i : Int) := by
  obtain ⟨i, q, e, hq, hb⟩ := h
  have hi : i < g.length := (List.getElem?_eq_some_iff.mp hq).1
  exact ⟨i, q, e, hi, hq, hb, by rw [e]; exact nI_toInt (by omega)⟩
theorem ch_len (hR : RR g σ0) (e : σ0.1 2 = nI n) (hn : n ≤ 32) : g.length = n := (nI_eq (a := g.length) (b := n) (by have := hR.2.1; omega) (by omega)).mp (hR.1.symm.trans e)
theorem ch_a (hR : RR g σ0) (e : σ0.1 2 = nI n) (hn : n ≤ 32) (h : ¬ ((0 : Int) ≤ x1.toInt ∧ x1.toInt ≤ ((n : Nat) : Int) - 1)) : ¬ ch_ok g x1 x2 x3 := fun q => by
  obtain ⟨i, -, -, hi, -, -, et⟩ := ch_ix hR.2.1 q
  have := ch_len hR e hn
  omega
theorem ch_k (hR : RR g σ0) (ex : x1 = nI j) (hj : j ≤ 32) (e : σ0.2.2.1 4 j = k) (h : ¬ mb_ok k x2 x3) : ¬ ch_ok g x1 x2 x3 := fun z => by
  obtain ⟨i, q, ei, hi, hq, hb, -⟩ := ch_ix hR.2.1 z
  have := hR.2.1
  have hij : i = j := (nI_eq (a := i) (b := j) (by omega) (by omega)).mp (ei.symm.trans ex)
  subst hij
  refine h ?_
  rw [← e, (hR.2.2 i q hq).2]
  exact hb
theorem ch_p (hR : RR g σ0) (e2 : σ0.1 2 = nI n) (hn : n ≤ 32) (ex : x1 = nI j) (hj : j < n) (e : σ0.2.2.1 4 j = k) (h : mb_ok k x2 x3) : ch_ok g x1 x2 x3 := by
  have hl := ch_len hR e2 hn
  have hq : g[j]? = some g[j] := List.getElem?_eq_getElem (by omega)
  refine ⟨j, g[j], ex, hq, ?_⟩
  rw [← (hR.2.2 j _ hq).2, e]
  exact h
theorem cg_1 (hg : g.length ≤ 32) (c : x1 < 0) : ¬ ch_ok g x1 x2 x3 := fun z => by
  obtain ⟨i, -, -, hi, -, -, et⟩ := ch_ix hg z
  have := Int32.lt_iff_toInt_lt.mp c
  have e0 : (0 : Int32).toInt = 0 := rfl
  omega
theorem cg_2 (hg : g.length ≤ 32) (c : nI g.length ≤ x1) : ¬ ch_ok g x1 x2 x3 := fun z => by
  obtain ⟨i, -, -, hi, -, -, et⟩ := ch_ix hg z
  have := Int32.le_iff_toInt_le.mp c
  rw [nI_toInt (by omega)] at this
  omega
theorem cg_k (hg : g.length ≤ 32) (hn : n < g.length) (hq : g[n]? = some q) (h : ¬ mb_ok q.2 x2 x3) : ¬ ch_ok g (nI n) x2 x3 := fun z => by
  obtain ⟨i, q2, ei, hi, hq2, hb, -⟩ := ch_ix hg z
  have hij : n = i := (nI_eq (a := n) (b := i) (by omega) (by omega)).mp ei
  subst hij
  obtain rfl := Option.some.inj (hq.symm.trans hq2)
  exact h hb
end CH
