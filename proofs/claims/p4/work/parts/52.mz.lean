/-! the reference's constructor: arrays of zeros -/
def mz_c (ca : Nat → ClassId) (k : Nat) : va_E := mq_c ca (fun _ => 0, fun _ => 0, fun _ _ => 0, fun _ _ => 0) k
/-- the arrays that have been made: number and address -/
def mz_ok (ca : Nat → ClassId) (L : List Nat) (f : Nat → va_E) (h : Nat) (ps : List (Nat × Nat)) : Prop := h ∈ L ∧ (∀ p ∈ ps, p.2 ∈ L ∧ p.2 ≠ h ∧ f p.2 = mz_c ca p.1) ∧ ∀ p ∈ ps, ∀ r ∈ ps, p.2 = r.2 → p.1 = r.1
section MZ
variable {ca : Nat → ClassId} {L : List Nat} {f f1 : Nat → va_E} {h q k : Nat} {ps : List (Nat × Nat)}
theorem mz_new (hz : mz_ok ca L f h ps) (hq : q ∉ L) (hk : ∀ a, a ≠ q → f1 a = f a) (e : f1 q = mz_c ca k) : mz_ok ca (L ++ [q]) f1 h ((k, q) :: ps) := by
  obtain ⟨h1, h2, h3⟩ := hz
  have hn : ∀ p ∈ ps, p.2 ≠ q := fun p hp z => hq (z ▸ (h2 p hp).1)
  refine ⟨List.mem_append_left _ h1, fun p hp => ?_, fun p hp r hr hpr => ?_⟩
  · rcases List.mem_cons.mp hp with rfl | hp
    · exact ⟨List.mem_append_right _ List.mem_cons_self, fun z => by have z2 : q = h := z; exact hq (z2 ▸ h1), e⟩
    · obtain ⟨g1, g2, g3⟩ := h2 p hp
      exact ⟨List.mem_append_left _ g1, g2, (hk _ (hn p hp)).trans g3⟩
  · rcases List.mem_cons.mp hp with rfl | hp <;> rcases List.mem_cons.mp hr with rfl | hr
    · rfl
    · exact absurd hpr.symm (hn r hr)
    · exact absurd hpr (hn p hp)
    · exact h3 p hp r hr hpr
theorem mz_put (hz : mz_ok ca L f h ps) (hk : ∀ a, a ≠ h → f1 a = f a) : mz_ok ca L f1 h ps :=
  ⟨hz.1, fun p hp => ⟨(hz.2.1 p hp).1, (hz.2.1 p hp).2.1, (hk _ (hz.2.1 p hp).2.1).trans (hz.2.1 p hp).2.2⟩, hz.2.2⟩
theorem mz_keep (hz : mz_ok ca L f h ps) (hq : q ∉ L) (hk : ∀ a, a ≠ q → f1 a = f a) {v : va_E} (e : f h = v) : f1 h = v := (hk _ (fun z => hq (z ▸ hz.1))).trans e
end MZ
/-- the address of an array by its number -/
def mz_ad (h : Nat) (ps : List (Nat × Nat)) : Nat → Nat := fun k => bif Nat.beq k 71 then h else (ps.lookup k).getD 0
theorem mz_look : ∀ (ps : List (Nat × Nat)) (k : Nat), k ∈ ps.map Prod.fst → (k, (ps.lookup k).getD 0) ∈ ps
  | [], k, hk => by cases hk
  | (a, b) :: ps, k, hk => by
    by_cases z : k = a
    · subst z
      rw [List.lookup_cons_self]
      exact List.mem_cons_self
    · have h1 : k ∈ ps.map Prod.fst := by
        rcases List.mem_cons.mp hk with h | h
        · exact absurd h z
        · exact h
      have h2 := mz_look ps k h1
      have h3 : List.lookup k ((a, b) :: ps) = List.lookup k ps := by
        rw [List.lookup_cons]
        have : (k == a) = false := by simpa using z
        rw [this]
      rw [h3]
      exact List.mem_cons_of_mem _ h2
theorem mz_B {ca : Nat → ClassId} {L : List Nat} {f : Nat → va_E} {h : Nat} {ps : List (Nat × Nat)} {σ : mq_S} (hz : mz_ok ca L f h ps) (e : f h = .inr (11, mq_fs (mz_ad h ps) σ)) (hks : ∀ k ∈ mq_ar, k ∈ ps.map Prod.fst) (hs : σ.2.2 = (fun _ _ => 0, fun _ _ => 0)) (hi : mq_in σ) : mq_B ca (mz_ad h ps) σ L f := by
  obtain ⟨h1, h2, h3⟩ := hz
  have hne : ∀ k ∈ mq_ar, k ≠ 71 := fun k hk z => by subst z; exact absurd hk (by decide)
  have had : ∀ k ∈ mq_ar, mz_ad h ps k = (ps.lookup k).getD 0 := fun k hk => by
    unfold mz_ad
    rw [mq_be (hne k hk)]
    rfl
  have h71 : mz_ad h ps 71 = h := rfl
  refine ⟨fun i hi1 j hj1 hij => ?_, fun k hk => ?_, ?_, fun k hk => ?_, hi⟩
  · rcases List.mem_cons.mp hi1 with rfl | hi1 <;> rcases List.mem_cons.mp hj1 with rfl | hj1
    · exact absurd rfl hij
    · rw [h71, had j hj1]
      exact (h2 _ (mz_look ps j (hks j hj1))).2.1.symm
    · rw [h71, had i hi1]
      exact (h2 _ (mz_look ps i (hks i hi1))).2.1
    · rw [had i hi1, had j hj1]
      exact fun z => hij (h3 _ (mz_look ps i (hks i hi1)) _ (mz_look ps j (hks j hj1)) z)
  · rcases List.mem_cons.mp hk with rfl | hk
    · rw [h71]
      exact h1
    · rw [had k hk]
      exact (h2 _ (mz_look ps k (hks k hk))).1
  · rw [h71]
    exact e
  · rw [had k hk, (h2 _ (mz_look ps k (hks k hk))).2.2]
    unfold mz_c mq_c
    rw [hs]
def mz_i (st : Int32) : Nat → Int32 := fun k => match k with
  | 1 => st
  | 36 => 1
  | 37 => 1
  | 38 => 1
  | 42 => -1
  | 54 => -1
  | 55 => -1
  | 65 => -1
  | _ => 0
abbrev mz_σ (st : Int32) : mq_S := (mz_i st, fun _ => 0, fun _ _ => 0, fun _ _ => 0)
theorem mz_in (st : Int32) : mq_in (mz_σ st) := by
  refine ⟨fun k => ?_, fun k i => ?_⟩
  · unfold mq_li
    split <;> first | trivial | exact ⟨1, by decide, by decide, rfl⟩ | exact ⟨0, by decide, by decide, rfl⟩
  · unfold mq_lg
    split <;> first | trivial | exact ⟨0, by decide, by decide, rfl⟩
theorem mz_IH (st : Int32) : IH (mz_σ st) := fun l hl k hk hp => absurd hk (by
  show ¬ k < (0 : Int32).toNatClampNeg
  rw [show (0 : Int32).toNatClampNeg = 0 by decide]
  omega)
theorem mz_BI (st : Int32) : BIa (mz_σ st) := fun j hj => ⟨0, rfl, by decide, Or.inl (by decide)⟩
theorem mz_SI (st : Int32) : SI (mz_σ st) := ⟨0, rfl, Or.inl rfl⟩
