/-! numbers for ask -/
theorem po_len {ca : Nat → ClassId} {T : ty_e} {L : List Nat} {f : Nat → va_E} {a : Nat} {g : List (Int32 × Int32)} (h : ok_T ca T L f) (ha : T a = some (ty_po g)) : g.length ≤ 32 := by
  obtain ⟨hL, v0, v1, v3, v4, v5, v6, v7, v8, v9, v10, v11, v12, v13, v14, e1, w1, w3, w4, w5, w6, w10, w12, w13, w14, wx⟩ := ok_po_at h ha
  exact wx
theorem fp_m1 {g : List (Int32 × Int32)} {j : Nat} {q : Int32 × Int32} (hq : g[j]? = some q) (hg : g.length ≤ 32) (h : (-1 : Int32) = nI j) : False := by
  have h1 := (List.getElem?_eq_some_iff.mp hq).1
  have h2 := congrArg Int32.toInt h
  rw [nI_toInt (by omega)] at h2
  have h3 : (-1 : Int32).toInt = -1 := by decide
  omega
theorem fp_kk {g : List (Int32 × Int32)} {j k : Nat} {q r : Int32 × Int32} (hq : g[j]? = some q) (hr : g[k]? = some r) (hg : g.length ≤ 32) (h : nI k = nI j) (hk : q.2.toInt ≤ 6) : r.2.toInt ≤ 6 := by
  have h1 := (List.getElem?_eq_some_iff.mp hq).1
  have h2 := (List.getElem?_eq_some_iff.mp hr).1
  have h3 : k = j := (nI_eq (by omega) (by omega)).mp h
  subst h3
  rw [hq] at hr
  cases hr
  exact hk
theorem lo_sub {n : Nat} {x : Int32} (h : n ≤ 1000) (e : x = nI n - 2) : -1000 ≤ x.toInt := by
  have e2 : x.toInt = (n : Int) - 2 := by
    rw [e, Int32.toInt_sub, nI_toInt (by omega), show (2 : Int32).toInt = 2 by decide, Int.bmod_eq_of_le] <;> omega
  omega
