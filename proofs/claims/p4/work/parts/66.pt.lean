/-! a point is added: types of all but the post and its points stay (a family like that of 22) -/
def ty_q (ty : ty_c) : Bool := !(ty.1 == 18 || ty.1 == 3)
def ty_pp (T T1 : ty_e) : Prop := ∀ (b : Nat) (ty : ty_c), T b = some ty → ty_q ty = true → T1 b = some ty
section PARTS
variable {ca : Nat → ClassId} {T T1 : ty_e} {e : va_E}
theorem mp_row {m : Nat} (h : ty_pp T T1) (hc : ok_row T m e) : ok_row T1 m e := by
  obtain ⟨b, n, len, e1, t, r⟩ := hc
  exact ⟨b, n, len, e1, h _ _ t rfl, r⟩
theorem mp_pts {g : List (Int32 × Int32)} (h : ty_pp T T1) (hc : ok_pts ca T g e) : ok_pts ca T1 g e := by
  obtain ⟨q, e1, r⟩ := hc
  refine ⟨q, e1, fun j x hj => ?_⟩
  obtain ⟨b, hb, t⟩ := r j x hj
  exact ⟨b, hb, h _ _ t rfl⟩
theorem mp_cns (h : ty_pp T T1) (hc : ok_cns ca T e) : ok_cns ca T1 e := by
  obtain ⟨q, e1, r⟩ := hc
  refine ⟨q, e1, fun j hj => ?_⟩
  obtain ⟨b, hb, t⟩ := r j hj
  exact ⟨b, hb, h _ _ t rfl⟩
theorem mp_ops (h : ty_pp T T1) (hc : ok_ops ca T e) : ok_ops ca T1 e := by
  obtain ⟨q, e1, r⟩ := hc
  refine ⟨q, e1, fun j hj => ?_⟩
  obtain ⟨b, hb, t⟩ := r j hj
  exact ⟨b, hb, h _ _ t rfl⟩
theorem mp_evs (h : ty_pp T T1) (hc : ok_evs ca T e) : ok_evs ca T1 e := by
  obtain ⟨q, e1, r⟩ := hc
  refine ⟨q, e1, fun j hj => ?_⟩
  obtain ⟨b, hb, t⟩ := r j hj
  exact ⟨b, hb, h _ _ t rfl⟩
theorem mp_ans (h : ty_pp T T1) (hc : ok_ans ca T e) : ok_ans ca T1 e := by
  obtain ⟨q, e1, r⟩ := hc
  refine ⟨q, e1, fun j hj => ?_⟩
  obtain ⟨b, hb, t⟩ := r j hj
  exact ⟨b, hb, h _ _ t rfl⟩
theorem mp_pt {q : Int32 × Int32} (h : ty_pp T T1) (hc : ok_pt T q e) : ok_pt T1 q e := by
  obtain ⟨v2, v3, v4, v5, e1, w3, wx⟩ := hc
  exact ⟨v2, v3, v4, v5, e1, w3, wx⟩
theorem mp_ev  (h : ty_pp T T1) (hc : ok_ev T  e) : ok_ev T1  e := by
  obtain ⟨v0, v1, v2, v3, v4, e1, w2⟩ := hc
  exact ⟨v0, v1, v2, v3, v4, e1, h _ _ w2 rfl⟩
theorem mp_es  (h : ty_pp T T1) (hc : ok_es T  e) : ok_es T1  e := by
  obtain ⟨v0, v1, v2, e1, w0, w1⟩ := hc
  exact ⟨v0, v1, v2, e1, h _ _ w0 rfl, w1⟩
theorem mp_an  (h : ty_pp T T1) (hc : ok_an T  e) : ok_an T1  e := by
  obtain ⟨v0, v1, v2, v3, v4, v5, e1, w0, w1, w2, w3⟩ := hc
  exact ⟨v0, v1, v2, v3, v4, v5, e1, h _ _ w0 rfl, w1, w2, w3⟩
theorem mp_as  (h : ty_pp T T1) (hc : ok_as T  e) : ok_as T1  e := by
  obtain ⟨v0, v1, v2, e1, w0, w1, w2⟩ := hc
  exact ⟨v0, v1, v2, e1, h _ _ w0 rfl, w1, w2⟩
theorem mp_se  (h : ty_pp T T1) (hc : ok_se T  e) : ok_se T1  e := by
  obtain ⟨v0, v1, v2, v3, v4, e1, _⟩ := hc
  exact ⟨v0, v1, v2, v3, v4, e1, trivial⟩
theorem mp_op  (h : ty_pp T T1) (hc : ok_op T  e) : ok_op T1  e := by
  obtain ⟨v0, v1, v2, v3, v4, v5, v6, v7, e1, w6, w7⟩ := hc
  exact ⟨v0, v1, v2, v3, v4, v5, v6, v7, e1, w6, h _ _ w7 rfl⟩
theorem mp_cn {k : Nat} (h : ty_pp T T1) (hc : ok_cn T k e) : ok_cn T1 k e := by
  obtain ⟨v0, v1, v2, v3, v4, v5, v6, v7, v9, v10, v11, v12, v13, v14, v15, v16, v17, v18, e1, w2, w6, w9, w10, w11, w13, w14, w15, w18, wx⟩ := hc
  exact ⟨v0, v1, v2, v3, v4, v5, v6, v7, v9, v10, v11, v12, v13, v14, v15, v16, v17, v18, e1, h _ _ w2 rfl, w6, h _ _ w9 rfl, h _ _ w10 rfl, h _ _ w11 rfl, w13, w14, w15, w18, wx⟩
theorem mp_sr  (h : ty_pp T T1) (hc : ok_sr T  e) : ok_sr T1  e := by
  obtain ⟨v0, v1, v2, v3, v5, v6, v7, v8, v9, v10, v11, v12, v13, v14, e1, w2, w3, w5, w6, w7, w9, w10, w11, w14⟩ := hc
  exact ⟨v0, v1, v2, v3, v5, v6, v7, v8, v9, v10, v11, v12, v13, v14, e1, h _ _ w2 rfl, h _ _ w3 rfl, h _ _ w5 rfl, h _ _ w6 rfl, h _ _ w7 rfl, w9, w10, w11, w14⟩
theorem ok_parts (h : ty_pp T T1) : ∀ (ty : ty_c) (e : va_E), ty.1 ≠ 18 → ok_C ca T ty e → ok_C ca T1 ty e
  | (0, _, _), _, hn, hc => hc
  | (1, _, _), _, hn, hc => hc
  | (2, _, _), _, hn, hc => hc
  | (3, _, _), _, hn, hc => mp_pts h hc
  | (4, _, _), _, hn, hc => mp_cns h hc
  | (5, _, _), _, hn, hc => mp_ops h hc
  | (6, _, _), _, hn, hc => mp_evs h hc
  | (7, _, _), _, hn, hc => mp_ans h hc
  | (8, _, _), _, hn, hc => hc
  | (9, _, _), _, hn, hc => hc
  | (10, _, _), _, hn, hc => mp_row h hc
  | (11, _, _), _, hn, hc => ⟨hc.choose, hc.choose_spec.1, mp_pt h hc.choose_spec.2⟩
  | (12, _, _), _, hn, hc => mp_ev h hc
  | (13, _, _), _, hn, hc => mp_es h hc
  | (14, _, _), _, hn, hc => mp_an h hc
  | (15, _, _), _, hn, hc => mp_as h hc
  | (16, _, _), _, hn, hc => mp_se h hc
  | (17, _, _), _, hn, hc => mp_op h hc
  | (18, _, _), _, hn, hc => absurd rfl hn
  | (19, _, _), _, hn, hc => hc
  | (20, _, _), _, hn, hc => mp_cn h hc
  | (21, _, _), _, hn, hc => mp_sr h hc
  | (_ + 22, _, _), _, hn, hc => hc
end PARTS
theorem pt_ok {ca : Nat → ClassId} {T : ty_e} {L : List Nat} {f f1 : Nat → va_E} {g : List (Int32 × Int32)} {h0 b : Nat} {x : Int32 × Int32} {v0 : Int32} {v1 v3 v4 v5 v6 : Nat} {v7 v8 : Int32} {v9 : Int64} {v10 : Int32} {v11 : Int64} {v12 v13 v14 : Nat} {qa : Nat → Option Nat} (hT : ok_T ca T L f) (t0 : T h0 = some (ty_po g)) (tb : T b = some (ty_pt x)) (hlen : g.length < 32)
    (hea : ∀ (j : Nat) (y : Int32 × Int32), g[j]? = some y → ∃ b : Nat, qa j = some b ∧ T b = some (ty_pt y))
    (w1 : T v1 = some (ty_pts g)) (w3 : T v3 = some (ty_cns)) (w4 : T v4 = some (ty_sr)) (w5 : T v5 = some (ty_es)) (w6 : T v6 = some (ty_ops)) (w10 : v10 = 0 ∨ v10 = 1) (w12 : T v12 = some (ty_se)) (w13 : T v13 = some (ty_row 4148)) (w14 : T v14 = some (ty_row 4149))
    (e0 : f1 h0 = .inr (0, [.int v0, .ref v1, .int (nI (g.length + 1)), .ref v3, .ref v4, .ref v5, .ref v6, .int v7, .int v8, .long v9, .int v10, .long v11, .ref v12, .ref v13, .ref v14]))
    (e1 : f1 v1 = .inl (ca 3, 32, .inr (.inr (.inr (.inr (va_up qa g.length (some b))))))) (hk : ∀ q, q ≠ h0 → q ≠ v1 → f1 q = f q) : ∃ T1 : ty_e, ok_T ca T1 L f1 ∧ T1 h0 = some (ty_po (g ++ [x])) := by
  have hne : v1 ≠ h0 := fun z => by rw [z, t0] at w1; cases w1
  obtain ⟨T1, hd⟩ : ∃ T1 : ty_e, T1 = fun q => if q = h0 then some (ty_po (g ++ [x])) else if q = v1 then some (ty_pts (g ++ [x])) else match T q with | some ty => if ty.1 = 18 then none else some ty | none => none := ⟨_, rfl⟩
  have k0 : T1 h0 = some (ty_po (g ++ [x])) := by rw [hd]; simp
  have k1 : T1 v1 = some (ty_pts (g ++ [x])) := by rw [hd]; simp [hne]
  have k2 : ∀ q ty, q ≠ h0 → q ≠ v1 → T1 q = some ty → T q = some ty ∧ ty.1 ≠ 18 := fun q ty a1 a2 h => by
    rw [hd] at h
    simp only [a1, a2, if_false] at h
    cases hq : T q with
    | none => rw [hq] at h; cases h
    | some t2 =>
      rw [hq] at h
      by_cases z : t2.1 = 18
      · simp [z] at h
      · simp only [z, if_false, Option.some.injEq] at h
        exact ⟨by rw [h], by rw [← h]; exact z⟩
  have hpp : ty_pp T T1 := fun q ty hq hy => by
    have a1 : q ≠ h0 := fun z => by rw [z, t0] at hq; cases hq; exact absurd (show false = true from hy) (by decide)
    have a2 : q ≠ v1 := fun z => by rw [z, w1] at hq; cases hq; exact absurd (show false = true from hy) (by decide)
    have a3 : ty.1 ≠ 18 := fun z => by simp [ty_q, z] at hy
    rw [hd]
    simp [a1, a2, hq, a3]
  refine ⟨T1, fun q ty hq => ?_, k0⟩
  by_cases a1 : q = h0
  · subst a1
    rw [k0] at hq
    cases hq
    refine ⟨(hT _ _ t0).1, v0, v1, v3, v4, v5, v6, v7, v8, v9, v10, v11, v12, v13, v14, ?_, k1, hpp _ _ w3 rfl, hpp _ _ w4 rfl, hpp _ _ w5 rfl, hpp _ _ w6 rfl, w10, hpp _ _ w12 rfl, hpp _ _ w13 rfl, hpp _ _ w14 rfl, ?_⟩
    · rw [e0]; simp
    · simp; omega
  · by_cases a2 : q = v1
    · subst a2
      rw [k1] at hq
      cases hq
      refine ⟨(hT _ _ w1).1, _, e1, fun j y hj => ?_⟩
      by_cases z : j = g.length
      · subst z
        have : y = x := by simpa using hj.symm
        subst this
        exact ⟨b, va_up_self _ _ _, hpp _ _ tb rfl⟩
      · have hj2 : g[j]? = some y := by
          have hl : j < (g ++ [x]).length := (List.getElem?_eq_some_iff.mp hj).1
          simp only [List.length_append, List.length_singleton] at hl
          rwa [List.getElem?_append_left (by omega)] at hj
        obtain ⟨c, c1, c2⟩ := hea j y hj2
        exact ⟨c, by rw [va_up_ne _ _ z]; exact c1, hpp _ _ c2 rfl⟩
    · obtain ⟨r1, r2⟩ := k2 q ty a1 a2 hq
      refine ⟨(hT _ _ r1).1, ?_⟩
      rw [hk q a1 a2]
      exact ok_parts hpp _ _ r2 (hT _ _ r1).2
theorem kd_9 {x : Int32} (h0 : ¬ x < 0) (h1 : x ≤ 9) : 0 ≤ x.toInt ∧ x.toInt ≤ 9 := by
  have a0 : ¬ x.toInt < 0 := fun h => h0 (Int32.lt_iff_toInt_lt.mpr h)
  have a1 : x.toInt ≤ 9 := Int32.le_iff_toInt_le.mp h1
  omega
