/-! when a point may be added: the class's answer and the reference's -/
def pt_good (x1 x2 x3 x4 : Int32) : Prop := ¬ x1 < 1 ∧ ¬ 65535 < x1 ∧ ¬ x2 < 0 ∧ x2 ≤ 9 ∧ ¬ x3 < 0 ∧ ¬ 16 < x3 ∧ (x4 = 0 ∨ 7 ≤ x2)
def pt_there (g : List (Int32 × Int32)) (x1 : Int32) : Prop := g.length = 32 ∨ ¬ fp_of g x1 = -1
def pt_is (g : List (Int32 × Int32)) (x1 x2 x3 x4 r : Int32) : Prop := (¬ pt_good x1 x2 x3 x4 ∧ r = 1) ∨ (pt_good x1 x2 x3 x4 ∧ pt_there g x1 ∧ r = 2) ∨ (pt_good x1 x2 x3 x4 ∧ ¬ pt_there g x1 ∧ r = 0)
/-- the reference's points are the class's -/
def RR (g : List (Int32 × Int32)) (σ : mq_S) : Prop := σ.1 2 = nI g.length ∧ g.length ≤ 32 ∧ ∀ (j : Nat) (q : Int32 × Int32), g[j]? = some q → σ.2.2.1 3 j = q.1 ∧ σ.2.2.1 4 j = q.2
def pt_res (g : List (Int32 × Int32)) (x1 x2 x3 x4 r : Int32) (σ : mq_S) : Prop := (¬ pt_good x1 x2 x3 x4 ∧ σ.1 0 = 1 ∧ RR g σ) ∨ (pt_good x1 x2 x3 x4 ∧ pt_there g x1 ∧ σ.1 0 = 2 ∧ RR g σ) ∨ (pt_good x1 x2 x3 x4 ∧ ¬ pt_there g x1 ∧ σ.1 0 = 0 ∧ r = nI g.length ∧ RR (g ++ [(x1, x2)]) σ)
theorem RR_fr {X : List Nat} {g : List (Int32 × Int32)} {σ σ1 : mq_S} (h : mq_fr X σ σ1) (hx : ([2, 3, 4] : List Nat).all (fun k => !X.elem k) = true) (q : RR g σ) : RR g σ1 := by
  have gk : ∀ k, k ∈ ([2, 3, 4] : List Nat) → X.elem k = false := fun k hk => by
    have := List.all_eq_true.mp hx k hk
    simpa using this
  obtain ⟨q1, q2, q3⟩ := q
  refine ⟨by rw [(h.1 2 (gk 2 (by simp))).1]; exact q1, q2, fun j y hj => ?_⟩
  rw [(h.1 3 (gk 3 (by simp))).2.2.1, (h.1 4 (gk 4 (by simp))).2.2.1]
  exact q3 j y hj
theorem RR_0 {σ : mq_S} (h : σ.1 2 = nI 0) : RR [] σ := ⟨h, by simp, fun j q hj => by simp at hj⟩
theorem fp_ex {g : List (Int32 × Int32)} {x : Int32} {i : Nat} {q : Int32 × Int32} (hl : g.length ≤ 32) (hq : g[i]? = some q) (h : q.1 = x) : ¬ fp_of g x = -1 := fun e => by
  rcases fp_cases g x with z | ⟨j, z, hj⟩
  · unfold fp_of at z
    cases hf : g.findIdx? (fun q => q.1 == x) with
    | none =>
      have := List.findIdx?_eq_none_iff.mp hf q (List.mem_of_getElem? hq)
      simp [h] at this
    | some j =>
      rw [hf] at z
      have hj : j < g.length := (List.findIdx?_eq_some_iff_getElem.mp hf).1
      have z2 : (nI j).toInt = (-1 : Int32).toInt := congrArg Int32.toInt z
      rw [nI_toInt (by omega)] at z2
      have : (-1 : Int32).toInt = -1 := rfl
      omega
  · have z2 : (nI j).toInt = (-1 : Int32).toInt := congrArg Int32.toInt (z.symm.trans e)
    rw [nI_toInt (by omega)] at z2
    have : (-1 : Int32).toInt = -1 := rfl
    omega
theorem pt_nt {g : List (Int32 × Int32)} {x1 : Int32} (hg : g.length ≤ 32) (c : ¬ nI g.length = 32) (z : fp_of g x1 = -1) : ¬ pt_there g x1 := fun h => h.elim (fun q => c (by rw [q]; decide)) (fun q => q z)
theorem pt_t1 {g : List (Int32 × Int32)} {x1 : Int32} (hg : g.length ≤ 32) (c : nI g.length = 32) : pt_there g x1 := Or.inl ((nI_eq (a := g.length) (b := 32) (by omega) (by omega)).mp c)
theorem pt_t2 {g : List (Int32 × Int32)} {x1 : Int32} {j : Nat} (hg : g.length ≤ 32) (z : fp_of g x1 = nI j) (hj : j < g.length) : pt_there g x1 := Or.inr (fun e => by
  have z2 : (nI j).toInt = (-1 : Int32).toInt := congrArg Int32.toInt (z.symm.trans e)
  rw [nI_toInt (by omega)] at z2
  have : (-1 : Int32).toInt = -1 := rfl
  omega)
/-! the reference's search -/
def py (σ0 : mq_S) (x1 : Int32) (w k : Nat) (y : Int32) : Prop := (y = 0 → ¬ w = 32 ∧ ∀ p : Nat, p < k → ¬ σ0.2.2.1 3 p = x1) ∧ (¬ y = 0 → w = 32 ∨ ∃ p : Nat, p < k ∧ p < w ∧ σ0.2.2.1 3 p = x1)
section PY
variable {σ0 σ : mq_S} {x1 y v : Int32} {w k : Nat}
theorem py_0 (n : ¬ w = 32) : py σ0 x1 w 0 0 := ⟨fun _ => ⟨n, fun p hp => by omega⟩, fun h => absurd rfl h⟩
theorem py_1 (n : w = 32) : py σ0 x1 w 0 1 := ⟨fun h => absurd h (by decide), fun _ => Or.inl n⟩
theorem py_a (h : py σ0 x1 w k y) (c : ¬ y = 0) : py σ0 x1 w (k + 1) 1 := ⟨fun h => absurd h (by decide), fun _ => (h.2 c).imp id (fun ⟨p, a, b, d⟩ => ⟨p, by omega, b, d⟩)⟩
theorem py_b (h : py σ0 x1 w k y) (c : y = 0) (hs : σ = σ0) (e : σ.2.2.1 3 k = v) (n : ¬ v = x1) : py σ0 x1 w (k + 1) 0 := by
  subst hs
  refine ⟨fun _ => ⟨(h.1 c).1, fun p hp => ?_⟩, fun h => absurd rfl h⟩
  by_cases z : p = k
  · rw [z, e]; exact n
  · exact (h.1 c).2 p (by omega)
theorem py_c (hk : k < w) (hs : σ = σ0) (e : σ.2.2.1 3 k = v) (n : v = x1) : py σ0 x1 w (k + 1) 1 := by
  subst hs
  exact ⟨fun h => absurd h (by decide), fun _ => Or.inr ⟨k, by omega, hk, by rw [e]; exact n⟩⟩
end PY
section PR
variable {g : List (Int32 × Int32)} {σ0 σ σ1 : mq_S} {x1 x2 x3 x4 y r : Int32} {w k : Nat}
theorem pr_there (hR : RR g σ0) (hs : σ = σ0) (o : σ.1 2 = nI w) (hw : w ≤ 32) (h : py σ0 x1 w k y) (c : ¬ y = 0) : pt_there g x1 := by
  subst hs
  obtain ⟨r1, r2, r3⟩ := hR
  have hgw : g.length = w := (nI_eq (a := g.length) (b := w) (by omega) (by omega)).mp (r1.symm.trans o)
  rcases h.2 c with z | ⟨p, a, b, d⟩
  · exact Or.inl (by omega)
  · have hq : g[p]? = some g[p] := List.getElem?_eq_getElem (by omega)
    exact Or.inr (fp_ex r2 hq ((r3 p _ hq).1.symm.trans d))
theorem pr_free (hR : RR g σ0) (hs : σ = σ0) (o : σ.1 2 = nI w) (hw : w ≤ 32) (h : py σ0 x1 w k y) (c : y = 0) (hk : w ≤ k) : ¬ pt_there g x1 ∧ g.length = w := by
  subst hs
  obtain ⟨r1, r2, r3⟩ := hR
  have hgw : g.length = w := (nI_eq (a := g.length) (b := w) (by omega) (by omega)).mp (r1.symm.trans o)
  obtain ⟨a, b⟩ := h.1 c
  refine ⟨fun t => ?_, hgw⟩
  rcases t with t | t
  · exact a (by omega)
  · refine t (fp_none (fun i q hq e => ?_)).symm
    have hi : i < g.length := (List.getElem?_eq_some_iff.mp hq).1
    exact b i (by omega) ((r3 i q hq).1.trans e)
theorem RR_t (hR : RR g σ0) (hs : σ = σ0) {v : Int32} (e : σ1 = mq_ui σ 0 v) : RR g σ1 ∧ σ1.1 0 = v := by
  subst hs
  subst e
  exact ⟨hR, rfl⟩
theorem pr_1 (hR : RR g σ0) (hs : σ = σ0) (hn : ¬ pt_good x1 x2 x3 x4) (e : σ1 = mq_ui σ 0 1) : pt_res g x1 x2 x3 x4 r σ1 := Or.inl ⟨hn, (RR_t hR hs e).2, (RR_t hR hs e).1⟩
theorem pr_2 (hR : RR g σ0) (hs : σ = σ0) (o : σ.1 2 = nI w) (hw : w ≤ 32) (h : py σ0 x1 w k y) (c : ¬ y = 0) (hg : pt_good x1 x2 x3 x4) (e : σ1 = mq_ui σ 0 2) : pt_res g x1 x2 x3 x4 r σ1 := Or.inr (Or.inl ⟨hg, pr_there hR hs o hw h c, (RR_t hR hs e).2, (RR_t hR hs e).1⟩)
theorem upd_ne {h : Nat → Int32} {i j : Nat} {v : Int32} (n : j ≠ i) : upd h i v j = h j := by simp [upd, n]
theorem upd_eq {h : Nat → Int32} {i : Nat} {v : Int32} : upd h i v i = v := by simp [upd]
theorem pr_ok {σ2 σ3 σ4 σ5 σ6 : mq_S} {a1 a2 a5 a6 : Int32} (hR : RR g σ0) (hs : σ = σ0) (o : σ.1 2 = nI w) (hw : w ≤ 31) (h : py σ0 x1 w k y) (c : y = 0) (hk : w ≤ k) (hg : pt_good x1 x2 x3 x4) (e1 : σ1 = mq_ui σ 0 0) (e2 : σ2 = mq_ug σ1 3 w a1) (x1e : x1 = a1) (e3 : σ3 = mq_ug σ2 4 w a2) (x2e : x2 = a2) (e4 : σ4 = mq_ug σ3 5 w a5) (e5 : σ5 = mq_ug σ4 6 w a6) (e6 : σ6 = mq_ui σ5 2 (nI (w + 1))) (er : r = nI (w + 1) - 1) : pt_res g x1 x2 x3 x4 r σ6 := by
  obtain ⟨hn, hgw⟩ := pr_free hR hs o (by omega) h c hk
  subst hs
  obtain ⟨r1, r2, r3⟩ := hR
  have f3 : σ6.2.2.1 3 = upd (σ.2.2.1 3) w x1 := by rw [e6, e5, e4, e3, e2, e1, x1e]; rfl
  have f4 : σ6.2.2.1 4 = upd (σ.2.2.1 4) w x2 := by rw [e6, e5, e4, e3, e2, e1, x2e]; rfl
  have f2 : σ6.1 2 = nI (w + 1) := by rw [e6]; rfl
  have f0 : σ6.1 0 = 0 := by rw [e6, e5, e4, e3, e2, e1]; rfl
  refine Or.inr (Or.inr ⟨hg, hn, f0, by rw [er, nI_pred, hgw], ?_⟩)
  refine ⟨by rw [f2]; simp [hgw], by simp; omega, fun j q hj => ?_⟩
  rw [f3, f4]
  by_cases z : j = g.length
  · have : q = (x1, x2) := by
      rw [z] at hj
      simpa using hj.symm
    subst this
    rw [z, hgw, upd_eq, upd_eq]
    exact ⟨rfl, rfl⟩
  · have hl : j < (g ++ [(x1, x2)]).length := (List.getElem?_eq_some_iff.mp hj).1
    simp only [List.length_append, List.length_singleton] at hl
    have hj2 : g[j]? = some q := by rwa [List.getElem?_append_left (by omega)] at hj
    rw [upd_ne (by omega), upd_ne (by omega)]
    exact r3 j q hj2
end PR
/-! a good point, as the reference asks it -/
section PG
variable {x1 x2 x3 x4 : Int32} {a b d : Nat}
theorem pg_of (e1 : x1 = nI a) (l1 : (1 : Int) ≤ a) (u1 : (a : Int) ≤ 65535) (e2 : x2 = nI b) (u2 : (b : Int) ≤ 9) (e3 : x3 = nI d) (u3 : (d : Int) ≤ 16) (h4 : x4 = 0 ∨ 6 < b) : pt_good x1 x2 x3 x4 := by
  subst e1; subst e2; subst e3
  have t1 := nI_toInt (n := a) (by omega)
  have t2 := nI_toInt (n := b) (by omega)
  have t3 := nI_toInt (n := d) (by omega)
  refine ⟨fun h => ?_, fun h => ?_, fun h => ?_, ?_, fun h => ?_, fun h => ?_, h4.imp id (fun h => ?_)⟩
  · have := Int32.lt_iff_toInt_lt.mp h; rw [t1] at this; have : (1 : Int32).toInt = 1 := rfl; omega
  · have := Int32.lt_iff_toInt_lt.mp h; rw [t1] at this; have : (65535 : Int32).toInt = 65535 := rfl; omega
  · have := Int32.lt_iff_toInt_lt.mp h; rw [t2] at this; have : (0 : Int32).toInt = 0 := rfl; omega
  · refine Int32.le_iff_toInt_le.mpr ?_; rw [t2]; have : (9 : Int32).toInt = 9 := rfl; omega
  · have := Int32.lt_iff_toInt_lt.mp h; rw [t3] at this; have : (0 : Int32).toInt = 0 := rfl; omega
  · have := Int32.lt_iff_toInt_lt.mp h; rw [t3] at this; have : (16 : Int32).toInt = 16 := rfl; omega
  · refine Int32.le_iff_toInt_le.mpr ?_; rw [t2]; have : (7 : Int32).toInt = 7 := rfl; omega
theorem pg_n1 (h : ¬ ((1 : Int) ≤ x1.toInt ∧ x1.toInt ≤ 65535)) : ¬ pt_good x1 x2 x3 x4 := fun q => h ⟨by
  have : ¬ x1.toInt < 1 := fun z => q.1 (Int32.lt_iff_toInt_lt.mpr z)
  omega, by
  have : ¬ (65535 : Int) < x1.toInt := fun z => q.2.1 (Int32.lt_iff_toInt_lt.mpr z)
  omega⟩
theorem pg_n2 (h : ¬ ((0 : Int) ≤ x2.toInt ∧ x2.toInt ≤ 9)) : ¬ pt_good x1 x2 x3 x4 := fun q => h ⟨by
  have : ¬ x2.toInt < 0 := fun z => q.2.2.1 (Int32.lt_iff_toInt_lt.mpr z)
  omega, Int32.le_iff_toInt_le.mp q.2.2.2.1⟩
theorem pg_n3 (h : ¬ ((0 : Int) ≤ x3.toInt ∧ x3.toInt ≤ 16)) : ¬ pt_good x1 x2 x3 x4 := fun q => h ⟨by
  have : ¬ x3.toInt < 0 := fun z => q.2.2.2.2.1 (Int32.lt_iff_toInt_lt.mpr z)
  omega, by
  have : ¬ (16 : Int) < x3.toInt := fun z => q.2.2.2.2.2.1 (Int32.lt_iff_toInt_lt.mpr z)
  omega⟩
theorem pg_n4 (e2 : x2 = nI b) (h : b ≤ 6) (h4 : ¬ x4 = 0) : ¬ pt_good x1 x2 x3 x4 := fun q => by
  subst e2
  rcases q.2.2.2.2.2.2 with z | z
  · exact h4 z
  · have := Int32.le_iff_toInt_le.mp z
    rw [nI_toInt (by omega)] at this
    have : (7 : Int32).toInt = 7 := rfl
    omega
end PG
/-- both have answered: they say the same, and their points are the same again -/
theorem pt_join {g g1 : List (Int32 × Int32)} {x1 x2 x3 x4 rr r2 : Int32} {σ : mq_S} (h1 : pt_is g x1 x2 x3 x4 rr) (hG : (rr = 0 → g1 = g ++ [(x1, x2)]) ∧ (¬ rr = 0 → g1 = g)) (h2 : pt_res g x1 x2 x3 x4 r2 σ) : RR g1 σ ∧ σ.1 0 = rr ∧ (rr = 0 → r2 = nI g.length) := by
  rcases h1 with ⟨a, b⟩ | ⟨a, b, d⟩ | ⟨a, b, d⟩
  · rcases h2 with ⟨p, q, t⟩ | ⟨p, q, t⟩ | ⟨p, q, t⟩
    · rw [hG.2 (by rw [b]; decide)]
      exact ⟨t, by rw [q, b], fun z => absurd (b.symm.trans z) (by decide)⟩
    · exact absurd p a
    · exact absurd p a
  · rcases h2 with ⟨p, q, t⟩ | ⟨p, q, t⟩ | ⟨p, q, t⟩
    · exact absurd a p
    · rw [hG.2 (by rw [d]; decide)]
      exact ⟨t.2, by rw [t.1, d], fun z => absurd (d.symm.trans z) (by decide)⟩
    · exact absurd b q
  · rcases h2 with ⟨p, q, t⟩ | ⟨p, q, t⟩ | ⟨p, q, t⟩
    · exact absurd a p
    · exact absurd q b
    · rw [hG.1 d]
      exact ⟨t.2.2, by rw [t.1, d], fun _ => t.2.1⟩
