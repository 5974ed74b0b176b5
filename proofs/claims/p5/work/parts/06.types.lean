/-! types of cells: code, length, points told of; what a cell of a type holds -/
abbrev ty_c : Type := Nat × Nat × List (Int32 × Int32)
abbrev ty_e : Type := Nat → Option ty_c
abbrev ty_I (n : Nat) : ty_c := (0, n, [])
abbrev ty_J (n : Nat) : ty_c := (1, n, [])
abbrev ty_row (m : Nat) : ty_c := (10, m, [])
/-- the classes of arrays -/
abbrev ty_s (ca : Nat → ClassId) : List (ClassId × FieldType) := [(ca 0, .int), (ca 1, .long), (ca 2, .boolean), (ca 3, .object R_Pt), (ca 4, .object R_Cn), (ca 5, .object R_Op), (ca 6, .object R_Ev), (ca 7, .object R_An)]
def ok_I (ca : Nat → ClassId) (n : Nat) (e : va_E) : Prop := ∃ g : Nat → Int32, e = .inl (ca 0, n, .inl g)
def ok_J (ca : Nat → ClassId) (n : Nat) (e : va_E) : Prop := ∃ g : Nat → Int64, e = .inl (ca 1, n, .inr (.inl g))
/-- a row of bytes: an array of n ints, len of them in use; room m, where 18 may have become 259 -/
def ok_row (T : ty_e) (m : Nat) (e : va_E) : Prop := ∃ b n len : Nat, e = .inr (1, [.ref b, .int (nI len)]) ∧ T b = some (ty_I n) ∧ len ≤ n ∧ (n = m ∨ (m = 18 ∧ n = 259)) ∧ n ≤ 1000
def ok_C (ca : Nat → ClassId) (T : ty_e) (ty : ty_c) (e : va_E) : Prop := match ty.1 with
  | 0 => ok_I ca ty.2.1 e
  | 1 => ok_J ca ty.2.1 e
  | 10 => ok_row T ty.2.1 e
  | _ => False
def ok_T (ca : Nat → ClassId) (T : ty_e) (L : List Nat) (f : Nat → va_E) : Prop := ∀ (b : Nat) (ty : ty_c), T b = some ty → b ∈ L ∧ ok_C ca T ty (f b)
theorem ok_up {ca : Nat → ClassId} {T : ty_e} {L : List Nat} {f : Nat → va_E} {a : Nat} {ty : ty_c} {e : va_E} (h : ok_T ca T L f) (ha : T a = some ty) (he : ok_C ca T ty e) : ok_T ca T L (va_up f a e) := by
  intro b tb hb
  refine ⟨(h b tb hb).1, ?_⟩
  by_cases q : b = a
  · subst q
    rw [va_up_self]
    cases Option.some.inj (ha.symm.trans hb)
    exact he
  · rw [va_up_ne _ _ q]
    exact (h b tb hb).2
theorem ok_row_at {ca : Nat → ClassId} {T : ty_e} {L : List Nat} {f : Nat → va_E} {a m : Nat} (h : ok_T ca T L f) (ha : T a = some (ty_row m)) : ∃ (b n len : Nat) (g : Nat → Int32), a ∈ L ∧ f a = .inr (1, [.ref b, .int (nI len)]) ∧ T b = some (ty_I n) ∧ b ∈ L ∧ f b = .inl (ca 0, n, .inl g) ∧ len ≤ n ∧ (n = m ∨ (m = 18 ∧ n = 259)) ∧ n ≤ 1000 := by
  obtain ⟨h1, b, n, len, e1, hb, h2, h3, h4⟩ := h a _ ha
  obtain ⟨h5, g, e2⟩ := h b _ hb
  exact ⟨b, n, len, g, h1, e1, hb, h5, e2, h2, h3, h4⟩
