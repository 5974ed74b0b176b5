/-! numbers -/
theorem vp_lt {x : Int32} {a n : Nat} (h0 : ¬ x < 0) (h1 : ¬ nI a ≤ x) (h : a ≤ n) (hn : n ≤ 1000) : vp_in x n := by
  rw [vp_in_iff]
  rw [Int32.lt_iff_toInt_lt, Int32.toInt_zero] at h0
  rw [Int32.le_iff_toInt_le, nI_toInt (by omega)] at h1
  omega
theorem mn_nat {a b : Nat} (ha : a < 2 ^ 31) (hb : b < 2 ^ 31) : (if nI b < nI a then nI b else nI a) = nI (min a b) := by
  by_cases h : b < a
  · rw [if_pos ((nI_ltI hb ha).mpr h), Nat.min_eq_right (by omega)]
  · rw [if_neg (fun q => h ((nI_ltI hb ha).mp q)), Nat.min_eq_left (by omega)]
theorem dc_1 (a : Nat) : nI a + Int32.ofInt (-1) = nI a - 1 := by
  rw [Int32.sub_eq_add_neg]
  rfl
theorem dc_ne {k : Nat} (h : ¬ nI k - 1 < 0) : ∃ z : Nat, k = z + 1 := by
  cases k with
  | zero => exact absurd (by decide) h
  | succ z => exact ⟨z, rfl⟩
theorem up_m {t i j : Int32} (h : ¬ t ≤ i) (hj : j = i + Int32.ofInt 1) : (t.toInt - j.toInt).toNat + 1 ≤ (t.toInt - i.toInt).toNat := by
  rw [Int32.le_iff_toInt_le] at h
  have h1 := Int32.toInt_lt t
  have h2 := Int32.le_toInt i
  have e : j.toInt = i.toInt + 1 := by
    rw [hj, Int32.toInt_add]
    show (i.toInt + 1).bmod (2 ^ 32) = _
    rw [Int.bmod_eq_of_le] <;> omega
  omega
/-- the queue at a holds n events -/
def es_m (f : Nat → va_E) (a n : Nat) : Prop := ∃ (v0 : Nat) (v2 : Int32), f a = .inr (5, [.ref v0, .int (nI n), .int v2])
theorem es_mk {f : Nat → va_E} {a n k v0 : Nat} {v2 : Int32} (e0 : f a = .inr (5, [.ref v0, .int (nI n), .int v2])) (h : n = k) : es_m f a k := by
  subst h
  exact ⟨_, _, e0⟩
theorem es_un {f : Nat → va_E} {a n k : Nat} (h : es_m f a n) (h2 : es_m f a k) (hn : n ≤ 48) (hk : k ≤ 48) : n = k := by
  obtain ⟨v0, v2, e⟩ := h
  obtain ⟨w0, w2, e2⟩ := h2
  rw [e] at e2
  simp only [Sum.inr.injEq, Prod.mk.injEq, List.cons.injEq, Value.ref.injEq, Value.int.injEq, true_and, and_true] at e2
  exact (nI_eq (by omega) (by omega)).mp e2.2.1
theorem es_of {ca : Nat → ClassId} {T : ty_e} {L : List Nat} {f : Nat → va_E} {a : Nat} (hT : ok_T ca T L f) (ha : T a = some ty_es) : ∃ n, n ≤ 48 ∧ es_m f a n := by
  obtain ⟨-, v0, v1, v2, e, -, w⟩ := ok_es_at hT ha
  exact ⟨v1, w, v0, v2, e⟩
theorem ix_of {x : Int32} {n : Nat} (h0 : ¬ x < 0) (h1 : ¬ nI n ≤ x) (hn : n < 2 ^ 31) : ∃ j : Nat, j < n ∧ x = nI j := by
  rcases pk_ix x hn with h | h | h
  · exact absurd h h0
  · exact absurd h h1
  · exact h
theorem ix_le {x : Int32} {n : Nat} (h0 : 0 ≤ x.toInt) (h1 : x.toInt < n) (hn : n < 2 ^ 31) : ∃ j : Nat, j < n ∧ x = nI j := by
  refine ix_of (n := n) ?_ ?_ hn
  · rw [Int32.lt_iff_toInt_lt, Int32.toInt_zero]; omega
  · rw [Int32.le_iff_toInt_le, nI_toInt hn]; omega
theorem kd_lt {x : Int32} (h : x < 7) : x.toInt ≤ 6 := by
  rw [Int32.lt_iff_toInt_lt] at h
  have : (7 : Int32).toInt = 7 := by decide
  omega
theorem kd_6 {x : Int32} (h : x = 6) : x.toInt ≤ 6 := by
  subst h
  decide
theorem kd_ge {x : Int32} (h : ¬ 6 ≤ x) : x.toInt ≤ 6 := by
  rw [Int32.le_iff_toInt_le] at h
  have : (6 : Int32).toInt = 6 := by decide
  omega
theorem nl_of {x y : Int32} (h : x < y) : ¬ y ≤ x := by
  rw [Int32.lt_iff_toInt_lt] at h
  rw [Int32.le_iff_toInt_le]
  omega
theorem cp_sz {x : Int32} {A B l : Nat} (e : x = nI A - nI B) (hA : A ≤ l) (hl : l ≤ 1000) (hB : B ≤ 1000) : x.toInt + B ≤ l := by
  rw [e, pk_sub_toInt (by omega) (by omega)]
  omega
theorem cp_le {x : Int32} {B l n : Nat} (h : x.toInt + B ≤ l) (hl : l ≤ n) (hn : n ≤ 1000) : x ≤ nI n := by
  rw [Int32.le_iff_toInt_le, nI_toInt (by omega)]
  omega
theorem cp_ix {y : Int32} {k j l n : Nat} (c : ¬ y ≤ nI k) (hs : y.toInt + j ≤ l) (h : l ≤ n) (hk : k ≤ 1000) : j + k < n := by
  rw [Int32.le_iff_toInt_le, nI_toInt (by omega)] at c
  omega
/-- what a row answers at a place, and for a number of several bytes -/
def rw_at (f : Nat → va_E) (a : Nat) (i : Int32) : Int32 := match f a with
  | .inr (_, [.ref b, .int n]) => (match f b with
    | .inl (_, _, .inl g) => if i < 0 ∨ n ≤ i then 0 else g i.toNatClampNeg
    | _ => 0)
  | _ => 0
def rw_nm (f : Nat → va_E) (a : Nat) (x : Int32) : Nat → Int32 → Int32
  | 0, y => y
  | k + 1, y => rw_nm f a x k (y <<< ((8 : Int32) &&& 31) ||| rw_at f a (x + nI k))
theorem rw_g {ca : Nat → ClassId} {T : ty_e} {L : List Nat} {f : Nat → va_E} {a k b n len : Nat} (hT : ok_T ca T L f) (hw : rw_is T f a k b n len) : ∃ g : Nat → Int32, f b = .inl (ca 0, n, .inl g) := (hT b _ hw.2.1).2
theorem ra_0 {ca : Nat → ClassId} {T : ty_e} {f : Nat → va_E} {a k b n len : Nat} {g : Nat → Int32} {i : Int32} (hw : rw_is T f a k b n len) (hg : f b = .inl (ca 0, n, .inl g)) (h : i < 0 ∨ nI len ≤ i) : 0 = rw_at f a i := by
  unfold rw_at
  rw [hw.1]
  dsimp only
  rw [hg]
  dsimp only
  rw [if_pos h]
theorem ra_1 {ca : Nat → ClassId} {T : ty_e} {f : Nat → va_E} {a k b n len : Nat} {g : Nat → Int32} {i : Int32} (hw : rw_is T f a k b n len) (hg : f b = .inl (ca 0, n, .inl g)) (h : ¬ i < 0) (h2 : ¬ nI len ≤ i) : g i.toNatClampNeg = rw_at f a i := by
  unfold rw_at
  rw [hw.1]
  dsimp only
  rw [hg]
  dsimp only
  rw [if_neg (fun z => z.elim h h2)]
theorem rn_0 {f : Nat → va_E} {a : Nat} {x y : Int32} {k : Nat} {z : Int32} (c : nI k - 1 < 0) (hk : k ≤ 4) (h : rw_nm f a x k y = z) : y = z := by
  have : k = 0 := by
    rcases Nat.eq_zero_or_pos k with q | q
    · exact q
    · obtain ⟨j, rfl⟩ : ∃ j, k = j + 1 := ⟨k - 1, by omega⟩
      rw [nI_pred] at c
      exact absurd c (nI_pos (by omega))
  subst this
  exact h
/-- the first point of an address -/
def fp_of (g : List (Int32 × Int32)) (x : Int32) : Int32 := match g.findIdx? (fun q => q.1 == x) with
  | none => -1
  | some i => nI i
theorem fp_cases (g : List (Int32 × Int32)) (x : Int32) : fp_of g x = -1 ∨ ∃ j : Nat, fp_of g x = nI j ∧ j < g.length := by
  unfold fp_of
  cases h : g.findIdx? (fun q => q.1 == x) with
  | none => exact Or.inl rfl
  | some i => exact Or.inr ⟨i, rfl, (List.findIdx?_eq_some_iff_getElem.mp h).1⟩
theorem fp_none {g : List (Int32 × Int32)} {x : Int32} (h : ∀ (i : Nat) (q : Int32 × Int32), g[i]? = some q → ¬ q.1 = x) : -1 = fp_of g x := by
  unfold fp_of
  have : g.findIdx? (fun q => q.1 == x) = none := by
    rw [List.findIdx?_eq_none_iff]
    intro q hq
    obtain ⟨i, hi⟩ := List.getElem?_of_mem hq
    simpa using h i q hi
  rw [this]
theorem fp_some {g : List (Int32 × Int32)} {x : Int32} {k : Nat} {q : Int32 × Int32} (hv : ∀ (i : Nat) (r : Int32 × Int32), i < k → g[i]? = some r → ¬ r.1 = x) (hq : g[k]? = some q) (h : q.1 = x) : nI k = fp_of g x := by
  unfold fp_of
  have : g.findIdx? (fun q => q.1 == x) = some k := by
    rw [List.findIdx?_eq_some_iff_getElem]
    obtain ⟨h1, h2⟩ := List.getElem?_eq_some_iff.mp hq
    refine ⟨h1, by rw [h2]; simpa using h, fun j hj => ?_⟩
    have := hv j _ hj (List.getElem?_eq_getElem (by omega))
    simpa using this
  rw [this]
theorem fp_step {g : List (Int32 × Int32)} {x : Int32} {k : Nat} {q : Int32 × Int32} (hv : ∀ (i : Nat) (r : Int32 × Int32), i < k → g[i]? = some r → ¬ r.1 = x) (hq : g[k]? = some q) (h : ¬ q.1 = x) : ∀ (i : Nat) (r : Int32 × Int32), i < k + 1 → g[i]? = some r → ¬ r.1 = x := by
  intro i r hi hr
  rcases Nat.lt_or_ge i k with z | z
  · exact hv i r z hr
  · have z2 : i = k := by omega
    subst z2
    rw [hq] at hr
    cases hr
    exact h
theorem lo_nI {n : Nat} (h : n ≤ 1000) : -1000 ≤ (nI n).toInt := by
  rw [nI_toInt (by omega)]
  omega
theorem cp_szI {x y : Int32} {B l : Nat} (e : x = y - nI B) (hy : ¬ nI l ≤ y) (hlo : -1000 ≤ y.toInt) (hB : B ≤ 1000) (hl : l ≤ 1000) : x.toInt + B ≤ l := by
  rw [Int32.le_iff_toInt_le, nI_toInt (by omega)] at hy
  have e2 : x.toInt = y.toInt - B := by
    rw [e, Int32.toInt_sub, nI_toInt (by omega), Int.bmod_eq_of_le] <;> omega
  omega
