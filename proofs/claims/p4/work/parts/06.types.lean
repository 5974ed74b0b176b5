/-! types of cells: code, length, points told of; what a cell of a type holds (written by wip/tools/types.py) -/
abbrev ty_c : Type := Nat × Nat × List (Int32 × Int32)
abbrev ty_e : Type := Nat → Option ty_c
abbrev ty_I (n : Nat) : ty_c := (0, n, [])
abbrev ty_J (n : Nat) : ty_c := (1, n, [])
abbrev ty_Z (n : Nat) : ty_c := (2, n, [])
abbrev ty_row (m : Nat) : ty_c := (10, m, [])
abbrev ty_pts (g : List (Int32 × Int32)) : ty_c := (3, 32, g)
abbrev ty_cns  : ty_c := (4, 3, [])
abbrev ty_ops  : ty_c := (5, 24, [])
abbrev ty_evs  : ty_c := (6, 48, [])
abbrev ty_ans  : ty_c := (7, 16, [])
abbrev ty_pt (q : Int32 × Int32) : ty_c := (11, 0, [q])
abbrev ty_ev  : ty_c := (12, 0, [])
abbrev ty_es  : ty_c := (13, 0, [])
abbrev ty_an  : ty_c := (14, 0, [])
abbrev ty_as  : ty_c := (15, 0, [])
abbrev ty_se  : ty_c := (16, 0, [])
abbrev ty_op  : ty_c := (17, 0, [])
abbrev ty_cn (k : Nat) : ty_c := (20, k, [])
abbrev ty_sr  : ty_c := (21, 0, [])
abbrev ty_po (g : List (Int32 × Int32)) : ty_c := (18, 0, g)
/-- the classes of arrays -/
abbrev ty_s (ca : Nat → ClassId) : List (ClassId × FieldType) := [(ca 0, .int), (ca 1, .long), (ca 2, .boolean), (ca 3, .object R_Pt), (ca 4, .object R_Cn), (ca 5, .object R_Op), (ca 6, .object R_Ev), (ca 7, .object R_An)]
def ok_I (ca : Nat → ClassId) (n : Nat) (e : va_E) : Prop := ∃ g : Nat → Int32, e = .inl (ca 0, n, .inl g)
def ok_J (ca : Nat → ClassId) (n : Nat) (e : va_E) : Prop := ∃ g : Nat → Int64, e = .inl (ca 1, n, .inr (.inl g))
def ok_Z (ca : Nat → ClassId) (n : Nat) (e : va_E) : Prop := ∃ g : Nat → Int32, e = .inl (ca 2, n, .inl g) ∧ ∀ j : Nat, g j = 0 ∨ g j = 1
/-- a row of bytes: an array of n ints, len of them in use; room m, where 18 may have become 259 -/
def ok_row (T : ty_e) (m : Nat) (e : va_E) : Prop := ∃ b n len : Nat, e = .inr (1, [.ref b, .int (nI len)]) ∧ T b = some (ty_I n) ∧ len ≤ n ∧ (n = m / 16 ∨ (m / 16 = 18 ∧ n = 259)) ∧ n ≤ 1000
def ok_pts (ca : Nat → ClassId) (T : ty_e) (g : List (Int32 × Int32)) (e : va_E) : Prop := ∃ q : Nat → Option Nat, e = .inl (ca 3, 32, .inr (.inr (.inr (.inr q)))) ∧ ∀ (j : Nat) (x : Int32 × Int32), g[j]? = some x → ∃ b : Nat, q j = some b ∧ T b = some (ty_pt x)
def ok_cns (ca : Nat → ClassId) (T : ty_e) (e : va_E) : Prop := ∃ q : Nat → Option Nat, e = .inl (ca 4, 3, .inr (.inr (.inr (.inr q)))) ∧ ∀ j : Nat, j < 3 → ∃ b : Nat, q j = some b ∧ T b = some (ty_cn j)
def ok_ops (ca : Nat → ClassId) (T : ty_e) (e : va_E) : Prop := ∃ q : Nat → Option Nat, e = .inl (ca 5, 24, .inr (.inr (.inr (.inr q)))) ∧ ∀ j : Nat, j < 24 → ∃ b : Nat, q j = some b ∧ T b = some ty_op
def ok_evs (ca : Nat → ClassId) (T : ty_e) (e : va_E) : Prop := ∃ q : Nat → Option Nat, e = .inl (ca 6, 48, .inr (.inr (.inr (.inr q)))) ∧ ∀ j : Nat, j < 48 → ∃ b : Nat, q j = some b ∧ T b = some ty_ev
def ok_ans (ca : Nat → ClassId) (T : ty_e) (e : va_E) : Prop := ∃ q : Nat → Option Nat, e = .inl (ca 7, 16, .inr (.inr (.inr (.inr q)))) ∧ ∀ j : Nat, j < 16 → ∃ b : Nat, q j = some b ∧ T b = some ty_an
def ok_pt (T : ty_e) (q : Int32 × Int32) (e : va_E) : Prop := ∃ (v2 : Int32) (v3 : Int32) (v4 : Int32) (v5 : Int32), e = .inr (10, [.int (q.1), .int (q.2), .int v2, .int v3, .int v4, .int v5]) ∧ (v3 = 0 ∨ v3 = 1) ∧ 0 ≤ q.2.toInt ∧ q.2.toInt ≤ 9
def ok_ev (T : ty_e)  (e : va_E) : Prop := ∃ (v0 : Int32) (v1 : Int32) (v2 : Nat) (v3 : Int32) (v4 : Int32), e = .inr (4, [.int v0, .int v1, .ref v2, .int v3, .int v4]) ∧ T v2 = some (ty_row 192)
def ok_es (T : ty_e)  (e : va_E) : Prop := ∃ (v0 : Nat) (v1 : Nat) (v2 : Int32), e = .inr (5, [.ref v0, .int (nI v1), .int v2]) ∧ T v0 = some (ty_evs) ∧ v1 ≤ 48
def ok_an (T : ty_e)  (e : va_E) : Prop := ∃ (v0 : Nat) (v1 : Int32) (v2 : Int32) (v3 : Int32) (v4 : Int32) (v5 : Int32), e = .inr (2, [.ref v0, .int v1, .int v2, .int v3, .int v4, .int v5]) ∧ T v0 = some (ty_row 288) ∧ (v1 = 0 ∨ v1 = 1) ∧ (v2 = 0 ∨ v2 = 1) ∧ (v3 = 0 ∨ v3 = 1)
def ok_as (T : ty_e)  (e : va_E) : Prop := ∃ (v0 : Nat) (v1 : Nat) (v2 : Nat), e = .inr (3, [.ref v0, .int (nI v1), .int (nI v2)]) ∧ T v0 = some (ty_ans) ∧ v1 ≤ 15 ∧ v2 ≤ 16
def ok_se (T : ty_e)  (e : va_E) : Prop := ∃ (v0 : Int32) (v1 : Int32) (v2 : Int64) (v3 : Int32) (v4 : Int32), e = .inr (8, [.int v0, .int v1, .long v2, .int v3, .int v4]) ∧ True
def ok_op (T : ty_e)  (e : va_E) : Prop := ∃ (v0 : Int32) (v1 : Int32) (v2 : Int32) (v3 : Int32) (v4 : Int32) (v5 : Int32) (v6 : Int32) (v7 : Nat), e = .inr (9, [.int v0, .int v1, .int v2, .int v3, .int v4, .int v5, .int v6, .ref v7]) ∧ (v6 = 0 ∨ v6 = 1) ∧ T v7 = some (ty_row 289)
def ok_cn (T : ty_e) (k : Nat) (e : va_E) : Prop := ∃ (v0 : Int32) (v1 : Int32) (v2 : Nat) (v3 : Int32) (v4 : Int32) (v5 : Int64) (v6 : Int32) (v7 : Int64) (v9 : Nat) (v10 : Nat) (v11 : Nat) (v12 : Int32) (v13 : Nat) (v14 : Nat) (v15 : Nat) (v16 : Int64) (v17 : Int32) (v18 : Int32), e = .inr (6, [.int v0, .int v1, .ref v2, .int v3, .int v4, .long v5, .int v6, .long v7, .int (nI k), .ref v9, .ref v10, .ref v11, .int v12, .int (nI v13), .int (nI v14), .int (nI v15), .long v16, .int v17, .int v18]) ∧ T v2 = some (ty_J 16) ∧ (v6 = 0 ∨ v6 = 1) ∧ T v9 = some (ty_row 16000) ∧ T v10 = some (ty_row 4145) ∧ T v11 = some (ty_as) ∧ v13 ≤ 2 ∧ v14 ≤ 2 ∧ v15 ≤ 3 ∧ (v18 = 0 ∨ v18 = 1) ∧ k < 3
def ok_sr (T : ty_e)  (e : va_E) : Prop := ∃ (v0 : Int32) (v1 : Int32) (v2 : Nat) (v3 : Nat) (v5 : Nat) (v6 : Nat) (v7 : Nat) (v8 : Int32) (v9 : Nat) (v10 : Nat) (v11 : Nat) (v12 : Int64) (v13 : Int32) (v14 : Int32), e = .inr (7, [.int v0, .int v1, .ref v2, .ref v3, .int (3), .ref v5, .ref v6, .ref v7, .int v8, .int (nI v9), .int (nI v10), .int (nI v11), .long v12, .int v13, .int v14]) ∧ T v2 = some (ty_row 4147) ∧ T v3 = some (ty_row 80) ∧ T v5 = some (ty_row 4146) ∧ T v6 = some (ty_row 4145) ∧ T v7 = some (ty_as) ∧ v9 ≤ 2 ∧ v10 ≤ 2 ∧ v11 ≤ 3 ∧ (v14 = 0 ∨ v14 = 1)
def ok_po (T : ty_e) (g : List (Int32 × Int32)) (e : va_E) : Prop := ∃ (v0 : Int32) (v1 : Nat) (v3 : Nat) (v4 : Nat) (v5 : Nat) (v6 : Nat) (v7 : Int32) (v8 : Int32) (v9 : Int64) (v10 : Int32) (v11 : Int64) (v12 : Nat) (v13 : Nat) (v14 : Nat), e = .inr (0, [.int v0, .ref v1, .int (nI g.length), .ref v3, .ref v4, .ref v5, .ref v6, .int v7, .int v8, .long v9, .int v10, .long v11, .ref v12, .ref v13, .ref v14]) ∧ T v1 = some (ty_pts g) ∧ T v3 = some (ty_cns) ∧ T v4 = some (ty_sr) ∧ T v5 = some (ty_es) ∧ T v6 = some (ty_ops) ∧ (v10 = 0 ∨ v10 = 1) ∧ T v12 = some (ty_se) ∧ T v13 = some (ty_row 4148) ∧ T v14 = some (ty_row 4149) ∧ g.length ≤ 32
def ok_C (ca : Nat → ClassId) (T : ty_e) (ty : ty_c) (e : va_E) : Prop := match ty.1 with
  | 0 => ok_I ca ty.2.1 e
  | 1 => ok_J ca ty.2.1 e
  | 2 => ok_Z ca ty.2.1 e
  | 3 => ok_pts ca T ty.2.2 e
  | 4 => ok_cns ca T e
  | 5 => ok_ops ca T e
  | 6 => ok_evs ca T e
  | 7 => ok_ans ca T e
  | 10 => ok_row T ty.2.1 e
  | 11 => ∃ q : Int32 × Int32, ty.2.2 = [q] ∧ ok_pt T q e
  | 12 => ok_ev T e
  | 13 => ok_es T e
  | 14 => ok_an T e
  | 15 => ok_as T e
  | 16 => ok_se T e
  | 17 => ok_op T e
  | 20 => ok_cn T ty.2.1 e
  | 21 => ok_sr T e
  | 18 => ok_po T ty.2.2 e
  | _ => False
def ok_T (ca : Nat → ClassId) (T : ty_e) (L : List Nat) (f : Nat → va_E) : Prop := ∀ (b : Nat) (ty : ty_c), T b = some ty → b ∈ L ∧ ok_C ca T ty (f b)
theorem ok_up {ca : Nat → ClassId} {T : ty_e} {L : List Nat} {f : Nat → va_E} {a : Nat} {ty : ty_c} {e : va_E} (h : ok_T ca T L f) (ha : T a = some ty) (he : ok_C ca T ty e) : ok_T ca T L (va_up f a e) := by
  intro b tb hb
  refine ⟨(h b tb hb).1, ?_⟩
  by_cases q : b = a
  · subst q
    rw [va_up_self]
    cases Option.some.inj (ha.symm.trans hb)
    exact he
  · rw [va_up_ne _ _ q]
    exact (h b tb hb).2
theorem ok_row_at {ca : Nat → ClassId} {T : ty_e} {L : List Nat} {f : Nat → va_E} {a m : Nat} (h : ok_T ca T L f) (ha : T a = some (ty_row m)) : ∃ (b n len : Nat) (g : Nat → Int32), a ∈ L ∧ f a = .inr (1, [.ref b, .int (nI len)]) ∧ T b = some (ty_I n) ∧ b ∈ L ∧ f b = .inl (ca 0, n, .inl g) ∧ len ≤ n ∧ (n = m / 16 ∨ (m / 16 = 18 ∧ n = 259)) ∧ n ≤ 1000 := by
  obtain ⟨h1, b, n, len, e1, hb, h2, h3, h4⟩ := h a _ ha
  obtain ⟨h5, g, e2⟩ := h b _ hb
  exact ⟨b, n, len, g, h1, e1, hb, h5, e2, h2, h3, h4⟩
theorem ok_pt_at {ca : Nat → ClassId} {T : ty_e} {L : List Nat} {f : Nat → va_E} {a : Nat} {q : Int32 × Int32} (h : ok_T ca T L f) (ha : T a = some (ty_pt q)) : a ∈ L ∧ ok_pt T q (f a) := by
  obtain ⟨h1, q2, e, h2⟩ := h a _ ha
  cases e
  exact ⟨h1, h2⟩
theorem ok_ev_at {ca : Nat → ClassId} {T : ty_e} {L : List Nat} {f : Nat → va_E} {a : Nat}  (h : ok_T ca T L f) (ha : T a = some (ty_ev )) : a ∈ L ∧ ok_ev T  (f a) := h a _ ha
theorem ok_es_at {ca : Nat → ClassId} {T : ty_e} {L : List Nat} {f : Nat → va_E} {a : Nat}  (h : ok_T ca T L f) (ha : T a = some (ty_es )) : a ∈ L ∧ ok_es T  (f a) := h a _ ha
theorem ok_an_at {ca : Nat → ClassId} {T : ty_e} {L : List Nat} {f : Nat → va_E} {a : Nat}  (h : ok_T ca T L f) (ha : T a = some (ty_an )) : a ∈ L ∧ ok_an T  (f a) := h a _ ha
theorem ok_as_at {ca : Nat → ClassId} {T : ty_e} {L : List Nat} {f : Nat → va_E} {a : Nat}  (h : ok_T ca T L f) (ha : T a = some (ty_as )) : a ∈ L ∧ ok_as T  (f a) := h a _ ha
theorem ok_se_at {ca : Nat → ClassId} {T : ty_e} {L : List Nat} {f : Nat → va_E} {a : Nat}  (h : ok_T ca T L f) (ha : T a = some (ty_se )) : a ∈ L ∧ ok_se T  (f a) := h a _ ha
theorem ok_op_at {ca : Nat → ClassId} {T : ty_e} {L : List Nat} {f : Nat → va_E} {a : Nat}  (h : ok_T ca T L f) (ha : T a = some (ty_op )) : a ∈ L ∧ ok_op T  (f a) := h a _ ha
theorem ok_cn_at {ca : Nat → ClassId} {T : ty_e} {L : List Nat} {f : Nat → va_E} {a : Nat} {k : Nat} (h : ok_T ca T L f) (ha : T a = some (ty_cn k)) : a ∈ L ∧ ok_cn T k (f a) := h a _ ha
theorem ok_sr_at {ca : Nat → ClassId} {T : ty_e} {L : List Nat} {f : Nat → va_E} {a : Nat}  (h : ok_T ca T L f) (ha : T a = some (ty_sr )) : a ∈ L ∧ ok_sr T  (f a) := h a _ ha
theorem ok_po_at {ca : Nat → ClassId} {T : ty_e} {L : List Nat} {f : Nat → va_E} {a : Nat} {g : List (Int32 × Int32)} (h : ok_T ca T L f) (ha : T a = some (ty_po g)) : a ∈ L ∧ ok_po T g (f a) := h a _ ha
