/-! the post's store beside the law's array of answers -/
theorem ok_cg {ca : Nat → ClassId} {T : ty_e} {L : List Nat} {f f1 : Nat → va_E} (hT : ok_T ca T L f) (h : ∀ a, a ∈ L → f1 a = f a) : ok_T ca T L f1 := fun b ty hb => ⟨(hT b ty hb).1, by rw [h b (hT b ty hb).1]; exact (hT b ty hb).2⟩
def pw (ca : Nat → ClassId) (o h0 : Nat) (L1 : List Nat) (f : Nat → va_E) (G : List (Int32 × Int32) → Prop) : Prop := o ∉ L1 ∧ (∃ gg : Nat → Int64, f o = .inl (ca 1, 1, .inr (.inl gg))) ∧ ∃ (T1 : ty_e) (g1 : List (Int32 × Int32)), ok_T ca T1 L1 f ∧ T1 h0 = some (ty_po g1) ∧ G g1
section PW
variable {ca : Nat → ClassId} {T T1 : ty_e} {L L1 : List Nat} {f : Nat → va_E} {o h0 : Nat} {g0 g1 : List (Int32 × Int32)} {u : sm_S} {gg : Nat → Int64} {G : List (Int32 × Int32) → Prop}
theorem pw_x (ho : f o = .inl (ca 1, 1, .inr (.inl gg))) (hd : ∀ a, a ∈ u.1 → a ∉ [o]) (h1 : ok_T ca T1 u.1 u.2) (h2 : T1 h0 = some (ty_po g1)) (hG : G g1) : pw ca o h0 u.1 (sd_f [o] f u.2) G :=
  ⟨fun h => hd o h List.mem_cons_self, ⟨gg, by rw [sd_l List.mem_cons_self]; exact ho⟩, T1, g1, ok_cg h1 (fun a ha => sd_r (hd a ha)), h2, hG⟩
theorem pw_m (ho : f o = .inl (ca 1, 1, .inr (.inl gg))) (hd : ∀ a, a ∈ u.1 → a ∉ [o]) (hp : po_m ca T L u) (t0 : T h0 = some (ty_po g0)) : pw ca o h0 u.1 (sd_f [o] f u.2) (fun g => g = g0) :=
  pw_x ho hd (by rw [hp.1]; exact hp.2) t0 rfl
theorem pw_p {f0 : Nat → va_E} (ho : f o = .inl (ca 1, 1, .inr (.inl gg))) (hd : ∀ a, a ∈ u.1 → a ∉ [o]) (hp : u = (L, f0)) (hT : ok_T ca T L f0) (t0 : T h0 = some (ty_po g0)) : pw ca o h0 u.1 (sd_f [o] f u.2) (fun g => g = g0) := by
  subst hp
  exact pw_x ho hd hT t0 rfl
theorem pw_a {P : Prop} (ho : f o = .inl (ca 1, 1, .inr (.inl gg))) (hd : ∀ a, a ∈ u.1 → a ∉ [o]) (hp : po_a ca T (fun _ => P) u) (t0 : T h0 = some (ty_po g0)) : pw ca o h0 u.1 (sd_f [o] f u.2) (fun g => g = g0) := by
  obtain ⟨T1, hle, h1, -⟩ := hp
  exact pw_x ho hd h1 (hle _ _ t0) rfl
theorem pw_st {gg2 : Nat → Int64} (h : pw ca o h0 L1 f G) : pw ca o h0 L1 (va_up f o (.inl (ca 1, 1, .inr (.inl gg2)))) G := by
  obtain ⟨h1, -, T1, g1, h3, h4⟩ := h
  exact ⟨h1, ⟨gg2, va_up_self _ _ _⟩, T1, g1, ok_cg h3 (fun a ha => va_up_ne _ _ (fun z => h1 (z ▸ ha))), h4⟩
theorem pw_imp {G2 : List (Int32 × Int32) → Prop} (h : pw ca o h0 L1 f G) (hi : ∀ g, G g → G2 g) : pw ca o h0 L1 f G2 := by
  obtain ⟨h1, h2, T1, g1, h3, h4, h5⟩ := h
  exact ⟨h1, h2, T1, g1, h3, h4, hi _ h5⟩
end PW
section QR
variable {D : va_G} {tys : List (ClassId × FieldType)} {L : List Nat} {f : Nat → va_E} {sz : Nat} {a : Array Value} {st t : State} {v : Option Value}
theorem qv_R {post : sm_S → Prop} (h : sm_Qv D tys L f sz post a st (.returned v) t) : (∃ u : sm_S, (v = none ∧ post u) ∧ sm_B D cl_all tys L f sz u t) ∧ va_F (va_A (va_pl L f) sz) st t := by
  obtain ⟨⟨u, hv, hp, hB⟩, hF⟩ := h
  cases hv
  exact ⟨⟨u, ⟨rfl, hp⟩, hB⟩, hF⟩
theorem qi_R {post : Int32 → sm_S → Prop} (h : sm_Qi D tys L f sz post a st (.returned v) t) : (∃ u : sm_S, (∃ r : Int32, v = some (.int r) ∧ post r u) ∧ sm_B D cl_all tys L f sz u t) ∧ va_F (va_A (va_pl L f) sz) st t := by
  obtain ⟨⟨r, u, hv, hp, hB⟩, hF⟩ := h
  cases hv
  exact ⟨⟨u, ⟨r, rfl, hp⟩, hB⟩, hF⟩
theorem ql_R {post : Int64 → sm_S → Prop} (h : sm_Ql D tys L f sz post a st (.returned v) t) : (∃ u : sm_S, (∃ r : Int64, v = some (.long r) ∧ post r u) ∧ sm_B D cl_all tys L f sz u t) ∧ va_F (va_A (va_pl L f) sz) st t := by
  obtain ⟨⟨r, u, hv, hp, hB⟩, hF⟩ := h
  cases hv
  exact ⟨⟨u, ⟨r, rfl, hp⟩, hB⟩, hF⟩
end QR
