/-! reads that tell which value the store has: two of them give one value -/
def po_as (f : Nat → va_E) (a x : Nat) : Prop := ∃ fs : List Value, f a = .inr (0, fs) ∧ fs[13]? = some (.ref x)
theorem po_as_un {f : Nat → va_E} {a x y : Nat} (h : po_as f a x) (h2 : po_as f a y) : x = y := by
  obtain ⟨fs, e, v⟩ := h
  obtain ⟨fs2, e2, v2⟩ := h2
  rw [e] at e2
  cases e2
  rw [v] at v2
  cases v2
  rfl
def li_os (f : Nat → va_E) (a x : Nat) : Prop := (∃ fs : List Value, f a = .inr (6, fs) ∧ fs[15]? = some (.int (nI x))) ∨ ∃ fs : List Value, f a = .inr (7, fs) ∧ fs[11]? = some (.int (nI x))
theorem li_os_un {f : Nat → va_E} {a x y : Nat} (h : li_os f a x) (h2 : li_os f a y) (hx : x ≤ 3) (hy : y ≤ 3) : x = y := by
  rcases h with ⟨fs, e, v⟩ | ⟨fs, e, v⟩ <;> rcases h2 with ⟨fs2, e2, v2⟩ | ⟨fs2, e2, v2⟩ <;> rw [e] at e2 <;> cases e2
  · rw [v] at v2
    simp only [Option.some.injEq, Value.int.injEq] at v2
    exact (nI_eq (by omega) (by omega)).mp v2
  · rw [v] at v2
    simp only [Option.some.injEq, Value.int.injEq] at v2
    exact (nI_eq (by omega) (by omega)).mp v2
section DETROWS
variable {p : Program} {l : Launch} {e : Env} {R : Room} {s : State} {m : MethodId} {args : Array Value} {below : List Frame} {meth : Method} {c : Code} {H : Heap} {locs : List Loc} {cells slots : Nat} {Q : State → Prop}
variable {cc : ByteArray} {pc : Nat} {ls : Array Slot} {rest : List Value} {D : va_G} {A : Nat → Prop} {a : Nat} {L : List Nat} {f : Nat → va_E} {ca : Nat → ClassId} {T : ty_e} {own ref : String} {index : Nat}
theorem fd_Po_asked (hx : p.tables.exec = Jvm.exec) (hb : c.code = cc) (hts : ∀ w ∈ wg, w.before args s = true) (hown : s.vm.findClass own = some m.cls) (hI : sw_I D cl_all (ty_s ca) A s H locs L f) (hT : ok_T ca T L f) {g : List (Int32 × Int32)} (ha : T a = some (ty_po g)) (hlink : (Cond.fieldLink own index ref "asked" "LTelecontrolPost$ByteRow;").before args s = true) (hsame : ∀ x, s.fieldFound? "TelecontrolPost" "asked" "LTelecontrolPost$ByteRow;" = some x → s.fieldFound? ref "asked" "LTelecontrolPost$ByteRow;" = some x) (hdg : decode cc pc = .ok (.getfield index, 3))
    (kk : ∀ x : Nat, T x = some (ty_row 4148) → po_as f a x → W p l e R s m args below meth c H locs cells slots Q (F0 m (pc + 3) ls (.ref x :: rest))) : W p l e R s m args below meth c H locs cells slots Q (F0 m pc ls (.ref a :: rest)) := by
  obtain ⟨hL, v0, v1, v3, v4, v5, v6, v7, v8, v9, v10, v11, v12, v13, v14, e1, w1, w3, w4, w5, w6, w10, w12, w13, w14, wx⟩ := ok_po_at hT ha
  exact sw_get (ci := 0) (C := R_Po) (T := F_Po) (N := 15) hx hb hts in_Po hown hI hL e1 rfl 13 (by decide) hlink hsame rfl hdg (kk _ w13 ⟨_, e1, rfl⟩)
theorem fd_Li_objectSize (hx : p.tables.exec = Jvm.exec) (hb : c.code = cc) (hts : ∀ w ∈ wg, w.before args s = true) (hown : s.vm.findClass own = some m.cls) (hI : sw_I D cl_all (ty_s ca) A s H locs L f) (hT : ok_T ca T L f) (ha : is_li T a) (hlink : (Cond.fieldLink own index ref "objectSize" "I").before args s = true) (hsame : ∀ x, s.fieldFound? "TelecontrolPost$Line" "objectSize" "I" = some x → s.fieldFound? ref "objectSize" "I" = some x) (hdg : decode cc pc = .ok (.getfield index, 3))
    (kk : ∀ x : Nat, x ≤ 3 → li_os f a x → W p l e R s m args below meth c H locs cells slots Q (F0 m (pc + 3) ls (.int (nI x) :: rest))) : W p l e R s m args below meth c H locs cells slots Q (F0 m pc ls (.ref a :: rest)) := by
  rcases ha with ⟨k, ha⟩ | ha
  · obtain ⟨hL, v0, v1, v2, v3, v4, v5, v6, v7, v9, v10, v11, v12, v13, v14, v15, v16, v17, v18, e1, w2, w6, w9, w10, w11, w13, w14, w15, w18, wx⟩ := ok_cn_at hT ha
    exact sw_get (ci := 6) (C := R_Cn) (T := F_Cn) (N := 19) hx hb hts in_Cn hown hI hL e1 rfl 15 (by decide) hlink hsame rfl hdg (kk _ w15 (Or.inl ⟨_, e1, rfl⟩))
  · obtain ⟨hL, v0, v1, v2, v3, v5, v6, v7, v8, v9, v10, v11, v12, v13, v14, e1, w2, w3, w5, w6, w7, w9, w10, w11, w14⟩ := ok_sr_at hT ha
    exact sw_get (ci := 7) (C := R_Sr) (T := F_Sr) (N := 15) hx hb hts in_Sr hown hI hL e1 rfl 11 (by decide) hlink hsame rfl hdg (kk _ w11 (Or.inr ⟨_, e1, rfl⟩))
end DETROWS
