/-! ByteRow: its rows -/
section BRROWS
variable {p : Program} {l : Launch} {e : Env} {R : Room} {s : State} {m : MethodId} {args : Array Value} {below : List Frame} {meth : Method} {c : Code} {H : Heap} {locs : List Loc} {cells slots : Nat} {Q : State → Prop}
variable {cc : ByteArray} {pc : Nat} {ls : Array Slot} {rest : List Value} {D : va_G} {A : Nat → Prop} {a : Nat} {L : List Nat} {f : Nat → va_E} {ca : Nat → ClassId} {T : ty_e} {own ref host : String} {index : Nat}
/-- the row at a: its array, the array's length, how many are in use -/
def rw_is (T : ty_e) (f : Nat → va_E) (a k b n len : Nat) : Prop := f a = .inr (1, [.ref b, .int (nI len)]) ∧ T b = some (ty_I n) ∧ len ≤ n ∧ (n = k / 16 ∨ (k / 16 = 18 ∧ n = 259)) ∧ n ≤ 1000
theorem rw_of {k : Nat} (hT : ok_T ca T L f) (ha : T a = some (ty_row k)) : ∃ b n len : Nat, rw_is T f a k b n len := (hT a _ ha).2
theorem fgr_length {k b n len : Nat} (hx : p.tables.exec = Jvm.exec) (hb : c.code = cc) (hts : ∀ w ∈ wg, w.before args s = true) (hown : s.vm.findClass own = some m.cls) (hI : sw_I D cl_all (ty_s ca) A s H locs L f) (hT : ok_T ca T L f) (ha : T a = some (ty_row k)) (hw : rw_is T f a k b n len) (hlink : (Cond.fieldLink own index R_Br "length" "I").before args s = true) (hdg : decode cc pc = .ok (.getfield index, 3)) (kk : W p l e R s m args below meth c H locs cells slots Q (F0 m (pc + 3) ls (.int (nI len) :: rest))) : W p l e R s m args below meth c H locs cells slots Q (F0 m pc ls (.ref a :: rest)) :=
  sw_get (ci := 1) (C := R_Br) (T := F_Br) (N := 2) hx hb hts in_Br hown hI (hT a _ ha).1 hw.1 rfl 1 (by decide) hlink (fun _ h9 => h9) rfl hdg kk
theorem fgr_bytes {k b n len : Nat} (hx : p.tables.exec = Jvm.exec) (hb : c.code = cc) (hts : ∀ w ∈ wg, w.before args s = true) (hown : s.vm.findClass own = some m.cls) (hI : sw_I D cl_all (ty_s ca) A s H locs L f) (hT : ok_T ca T L f) (ha : T a = some (ty_row k)) (hw : rw_is T f a k b n len) (hlink : (Cond.fieldLink own index R_Br "bytes" "[I").before args s = true) (hdg : decode cc pc = .ok (.getfield index, 3)) (kk : W p l e R s m args below meth c H locs cells slots Q (F0 m (pc + 3) ls (.ref b :: rest))) : W p l e R s m args below meth c H locs cells slots Q (F0 m pc ls (.ref a :: rest)) :=
  sw_get (ci := 1) (C := R_Br) (T := F_Br) (N := 2) hx hb hts in_Br hown hI (hT a _ ha).1 hw.1 rfl 0 (by decide) hlink (fun _ h9 => h9) rfl hdg kk
theorem fpr_length {k b n len v : Nat} (hx : p.tables.exec = Jvm.exec) (hb : c.code = cc) (hts : ∀ w ∈ wg, w.before args s = true) (hown : s.vm.findClass own = some m.cls) (hI : sw_I D cl_all (ty_s ca) A s H locs L f) (hT : ok_T ca T L f) (ha : T a = some (ty_row k)) (hw : rw_is T f a k b n len) (hlink : (Cond.fieldLink own index R_Br "length" "I").before args s = true) (hv : v ≤ n) (hdg : decode cc pc = .ok (.putfield index, 3))
    (kk : ∀ (H1 : Heap) (locs1 : List Loc) (f1 : Nat → va_E), sw_I D cl_all (ty_s ca) A s H1 locs1 L f1 → ok_T ca T L f1 → rw_is T f1 a k b n v → (∀ q, q ≠ a → f1 q = f q) → W p l e R s m args below meth c H1 locs1 cells slots Q (F0 m (pc + 3) ls rest)) : W p l e R s m args below meth c H locs cells slots Q (F0 m pc ls (.int (nI v) :: .ref a :: rest)) :=
  sw_put (ci := 1) (ty := .int) (C := R_Br) (T := F_Br) (N := 2) hx hb hts in_Br t_Br t_Br_ok n_Br hown hI (hT a _ ha).1 hw.1 rfl 1 (by decide) hlink (fun _ h9 => h9) rfl (by decide +kernel) rfl rfl (Nat.le_of_ble_eq_true rfl) hdg (fun H1 locs1 hI1 => kk H1 locs1 _ hI1 (ok_up hT ha ⟨b, n, v, rfl, hw.2.1, hv, hw.2.2.2⟩) ⟨va_up_self _ _ _, hw.2.1, hv, hw.2.2.2⟩ (fun q h => va_up_ne _ _ h))
theorem rw_ne {k b n len : Nat} (hT : ok_T ca T L f) (hw : rw_is T f a k b n len) : a ≠ b := by
  intro q
  subst q
  obtain ⟨-, g, e⟩ := hT a _ hw.2.1
  rw [hw.1] at e
  cases e
theorem rw_nI {k b n len b2 n2 : Nat} (hT : ok_T ca T L f) (hw : rw_is T f a k b n len) (h2 : T b2 = some (ty_I n2)) : a ≠ b2 := by
  intro q
  subst q
  obtain ⟨-, g, e⟩ := hT a _ h2
  rw [hw.1] at e
  cases e
theorem rw_keep {k b n len x : Nat} {f1 : Nat → va_E} (hw : rw_is T f a k b n len) (hne : a ≠ x) (hk : ∀ q, q ≠ x → f1 q = f q) : rw_is T f1 a k b n len := ⟨by rw [hk a hne]; exact hw.1, hw.2⟩
theorem rw_uniq {k b n len b2 n2 len2 : Nat} (h : rw_is T f a k b n len) (h2 : rw_is T f a k b2 n2 len2) : b = b2 ∧ n = n2 ∧ len = len2 := by
  obtain ⟨e, t, h3, -, h4⟩ := h
  obtain ⟨e2, t2, h5, -, h6⟩ := h2
  rw [e] at e2
  simp only [Sum.inr.injEq, Prod.mk.injEq, List.cons.injEq, Value.ref.injEq, Value.int.injEq, true_and, and_true] at e2
  obtain ⟨rfl, e3⟩ := e2
  rw [t] at t2
  simp only [Option.some.injEq, Prod.mk.injEq, true_and, and_true] at t2
  exact ⟨rfl, t2, (nI_eq (by omega) (by omega)).mp e3⟩
theorem fg_Br_length {k : Nat} (hx : p.tables.exec = Jvm.exec) (hb : c.code = cc) (hts : ∀ w ∈ wg, w.before args s = true) (hown : s.vm.findClass own = some m.cls) (hI : sw_I D cl_all (ty_s ca) A s H locs L f) (hT : ok_T ca T L f) (ha : T a = some (ty_row k)) (hlink : (Cond.fieldLink own index ref "length" "I").before args s = true) (hsame : ∀ x, s.fieldFound? "TelecontrolPost$ByteRow" "length" "I" = some x → s.fieldFound? ref "length" "I" = some x) (hdg : decode cc pc = .ok (.getfield index, 3)) (kk : ∀ x : Nat, x ≤ 1000 → W p l e R s m args below meth c H locs cells slots Q (F0 m (pc + 3) ls (.int (nI x) :: rest))) : W p l e R s m args below meth c H locs cells slots Q (F0 m pc ls (.ref a :: rest)) := by
  obtain ⟨b, n, len, hw⟩ := rw_of hT ha
  exact sw_get (ci := 1) (C := R_Br) (T := F_Br) (N := 2) hx hb hts in_Br hown hI (hT a _ ha).1 hw.1 rfl 1 (by decide) hlink hsame rfl hdg (kk len (Nat.le_trans hw.2.2.1 hw.2.2.2.2))
theorem fgN_Br_length {k : Nat} (hx : p.tables.exec = Jvm.exec) (hb : c.code = cc) (hts : ∀ w ∈ wg, w.before args s = true) (hown : s.vm.findClass own = some m.cls) (hI : sw_I D cl_all (ty_s ca) A s H locs L f) (hT : ok_T ca T L f) (ha : T a = some (ty_row k)) (hlink : (Cond.fieldLinkNest own index ref "length" "I" host).before args s = true) (hsame : ∀ x, s.fieldFound? "TelecontrolPost$ByteRow" "length" "I" = some x → s.fieldFound? ref "length" "I" = some x) (hdg : decode cc pc = .ok (.getfield index, 3)) (kk : ∀ x : Nat, x ≤ 1000 → W p l e R s m args below meth c H locs cells slots Q (F0 m (pc + 3) ls (.int (nI x) :: rest))) : W p l e R s m args below meth c H locs cells slots Q (F0 m pc ls (.ref a :: rest)) := by
  obtain ⟨b, n, len, hw⟩ := rw_of hT ha
  exact sw_getN (ci := 1) (C := R_Br) (T := F_Br) (N := 2) hx hb hts in_Br hown hI (hT a _ ha).1 hw.1 rfl 1 (by decide) hlink hsame rfl hdg (kk len (Nat.le_trans hw.2.2.1 hw.2.2.2.2))
theorem ar_ne {b ci : Nat} {fs : List Value} (hT : ok_T ca T L f) (hb : T b = some ty_evs) (e0 : f a = .inr (ci, fs)) : a ≠ b := by
  intro q
  subst q
  obtain ⟨-, g, e, -⟩ := hT a _ hb
  rw [e0] at e
  cases e
end BRROWS
