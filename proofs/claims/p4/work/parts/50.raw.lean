/-! cells that are being made: they lie in the store and have no type yet -/
section RAWT
variable {ca : Nat → ClassId} {T : ty_e} {L : List Nat} {f f1 : Nat → va_E} {a q : Nat}
theorem ok_rawk (hT : ok_T ca T L f) (tn : T a = none) (hk : ∀ q, q ≠ a → f1 q = f q) : ok_T ca T L f1 := fun b ty hb => by
  have hne : b ≠ a := fun z => by rw [z, tn] at hb; cases hb
  obtain ⟨h1, h2⟩ := hT b ty hb
  exact ⟨h1, by rw [hk b hne]; exact h2⟩
theorem ok_psh (hT : ok_T ca T L f) (hq : q ∉ L) (hk : ∀ a, a ≠ q → f1 a = f a) : T q = none ∧ q ∈ L ++ [q] ∧ ok_T ca T (L ++ [q]) f1 := by
  have hn : T q = none := by
    cases h : T q with
    | none => rfl
    | some ty => exact absurd (hT q ty h).1 hq
  refine ⟨hn, List.mem_append_right _ List.mem_cons_self, fun b ty hb => ?_⟩
  have hne : b ≠ q := fun z => by rw [z, hn] at hb; cases hb
  obtain ⟨h1, h2⟩ := hT b ty hb
  exact ⟨List.mem_append_left _ h1, by rw [hk b hne]; exact h2⟩
theorem ty_up1 (T : ty_e) (q : Nat) (ty : ty_c) : ty_up T q ty q = some ty := by simp [ty_up]
theorem ty_upn {T : ty_e} {q b : Nat} {ty : ty_c} (h : b ≠ q) : ty_up T q ty b = T b := by simp [ty_up, h]
theorem ty_upl {T : ty_e} {q : Nat} {ty : ty_c} (hn : T q = none) : ty_le T (ty_up T q ty) := fun b t hb => by
  rw [ty_upn (fun z => by rw [z, hn] at hb; cases hb)]
  exact hb
theorem ok_fin {ty : ty_c} (hT : ok_T ca T L f) (ha : a ∈ L) (hn : T a = none) (he : ok_C ca (ty_up T a ty) ty (f a)) : ok_T ca (ty_up T a ty) L f := fun b t hb => by
  by_cases z : b = a
  · subst z
    rw [ty_up1] at hb
    cases hb
    exact ⟨ha, he⟩
  · rw [ty_upn z] at hb
    obtain ⟨h1, h2⟩ := hT b t hb
    exact ⟨h1, ok_mono (ty_upl hn) _ _ h2⟩
theorem ok_typ {ty : ty_c} (hT : ok_T ca T L f) (ha : a ∈ L) (hn : T a = none) (he : ∀ T2 : ty_e, ty_le T T2 → ok_C ca T2 ty (f a)) : ∃ T2 : ty_e, ty_le T T2 ∧ ok_T ca T2 L f ∧ T2 a = some ty ∧ ∀ b, b ≠ a → T2 b = T b := ⟨ty_up T a ty, ty_upl hn, ok_fin hT ha hn (he _ (ty_upl hn)), ty_up1 T a ty, fun _ h => ty_upn h⟩
end RAWT
section RAWROWS
variable {p : Program} {l : Launch} {e : Env} {R : Room} {s : State} {m : MethodId} {args : Array Value} {below : List Frame} {meth : Method} {c : Code} {H : Heap} {locs : List Loc} {cells slots : Nat} {Q : State → Prop}
variable {cc : ByteArray} {pc : Nat} {ls : Array Slot} {rest : List Value} {D : va_G} {A : Nat → Prop} {a : Nat} {L : List Nat} {f : Nat → va_E} {ca : Nat → ClassId} {own ref C : String} {T : u_T} {N ci index : Nat}
theorem ra_put (hx : p.tables.exec = Jvm.exec) (hb : c.code = cc) (hts : ∀ w ∈ wg, w.before args s = true) (hin : ∀ w ∈ u_ws C T N, w ∈ wg) (ty0 : Nat → FieldType) (hty : ∀ k, k < N → parseFieldDescriptor (T k).2.2.1 = some (ty0 k)) (hnm : ∀ a, a < N → ∀ b, b < N → a ≠ b → (T a).2.1 ≠ (T b).2.1) (hown : s.vm.findClass own = some m.cls) (hI : sw_I D cl_all (ty_s ca) A s H locs L f) (ha : a ∈ L) {fs : List Value} (hf : f a = .inr (ci, fs)) (hc : cl_all[ci]? = some (C, T, N)) (k : Nat) (hk : k < N) (hlink : (Cond.fieldLink own index ref (T k).2.1 (T k).2.2.1).before args s = true) (hsame : ∀ x, s.fieldFound? (T k).1 (T k).2.1 (T k).2.2.1 = some x → s.fieldFound? ref (T k).2.1 (T k).2.2.1 = some x) (hfin : (T k).2.2.2 = false) {ty : FieldType} {v : Value} (hd : parseFieldDescriptor (T k).2.2.1 = some ty) (hn : narrow ty v = v) (hfit : fits ty v = true) (hl : k < fs.length) (hdg : decode cc pc = .ok (.putfield index, 3))
    (kk : ∀ (H1 : Heap) (locs1 : List Loc) (f1 : Nat → va_E), sw_I D cl_all (ty_s ca) A s H1 locs1 L f1 → f1 a = .inr (ci, fs.set k v) → (∀ q, q ≠ a → f1 q = f q) → W p l e R s m args below meth c H1 locs1 cells slots Q (F0 m (pc + 3) ls rest)) : W p l e R s m args below meth c H locs cells slots Q (F0 m pc ls (v :: .ref a :: rest)) :=
  sw_put hx hb hts hin ty0 hty hnm hown hI ha hf hc k hk hlink hsame hfin hd hn hfit hl hdg (fun H1 locs1 hI1 => kk H1 locs1 _ hI1 (va_up_self _ _ _) (fun q h => va_up_ne _ _ h))
theorem ra_putF (hx : p.tables.exec = Jvm.exec) (hb : c.code = cc) (hts : ∀ w ∈ wg, w.before args s = true) (hin : ∀ w ∈ u_ws C T N, w ∈ wg) (ty0 : Nat → FieldType) (hty : ∀ k, k < N → parseFieldDescriptor (T k).2.2.1 = some (ty0 k)) (hnm : ∀ a, a < N → ∀ b, b < N → a ≠ b → (T a).2.1 ≠ (T b).2.1) (hown : s.vm.findClass own = some m.cls) (hI : sw_I D cl_all (ty_s ca) A s H locs L f) (ha : a ∈ L) {fs : List Value} (hf : f a = .inr (ci, fs)) (hc : cl_all[ci]? = some (C, T, N)) (k : Nat) (hk : k < N) (hlink : (Cond.fieldLink own index ref (T k).2.1 (T k).2.2.1).before args s = true) (hsame : ∀ x, s.fieldFound? (T k).1 (T k).2.1 (T k).2.2.1 = some x → s.fieldFound? ref (T k).2.1 (T k).2.2.1 = some x) (hfin : (T k).2.2.2 = true) (hin2 : meth.name = "<init>") (hdecl : (T k).1 = own) {ty : FieldType} {v : Value} (hd : parseFieldDescriptor (T k).2.2.1 = some ty) (hn : narrow ty v = v) (hfit : fits ty v = true) (hl : k < fs.length) (hdg : decode cc pc = .ok (.putfield index, 3))
    (kk : ∀ (H1 : Heap) (locs1 : List Loc) (f1 : Nat → va_E), sw_I D cl_all (ty_s ca) A s H1 locs1 L f1 → f1 a = .inr (ci, fs.set k v) → (∀ q, q ≠ a → f1 q = f q) → W p l e R s m args below meth c H1 locs1 cells slots Q (F0 m (pc + 3) ls rest)) : W p l e R s m args below meth c H locs cells slots Q (F0 m pc ls (v :: .ref a :: rest)) :=
  sw_putF hx hb hts hin ty0 hty hnm hown hI ha hf hc k hk hlink hsame hfin hin2 hdecl hd hn hfit hl hdg (fun H1 locs1 hI1 => kk H1 locs1 _ hI1 (va_up_self _ _ _) (fun q h => va_up_ne _ _ h))
theorem ra_new (hx : p.tables.exec = Jvm.exec) (hb : c.code = cc) (hts : ∀ w ∈ wg, w.before args s = true) (hin : ∀ w ∈ u_ws C T N, w ∈ wg) (ty : Nat → FieldType) (hty : ∀ k, k < N → parseFieldDescriptor (T k).2.2.1 = some (ty k)) (hown : s.vm.findClass own = some m.cls) (hcl : (Cond.classLink own index C).before args s = true) (hinst : (Cond.instantiable C N).before args s = true) (hini : (Cond.initialized C).before args s = true) (hI : sw_I D cl_all (ty_s ca) A s H locs L f) (hc : cl_all[ci]? = some (C, T, N)) {fs : List Value} (hfs : ∀ j, j < N → defaultValue (ty j) = vp_V fs j) (hcells : cells + 1 ≤ R.cells) (hslots : slots + N ≤ R.slots) (hdg : decode cc pc = .ok (.new index, 3))
    (kk : ∀ (q : Nat) (H1 : Heap) (f1 : Nat → va_E), q ∉ L → sw_I D cl_all (ty_s ca) A s H1 locs (L ++ [q]) f1 → f1 q = .inr (ci, fs) → (∀ a, a ≠ q → f1 a = f a) → W p l e R s m args below meth c H1 locs (cells + 1) (slots + N) Q (F0 m (pc + 3) ls (.ref q :: rest))) : W p l e R s m args below meth c H locs cells slots Q (F0 m pc ls rest) :=
  sw_new hx hb hts hin ty hty hown hcl hinst hini hI hc hfs hcells hslots hdg (fun q H1 hq hI1 => kk q H1 _ hq hI1 (va_up_self _ _ _) (fun a h => va_up_ne _ _ h))
theorem ra_newa {atype : ArrayType} (hx : p.tables.exec = Jvm.exec) (hb : c.code = cc) (harr : (Cond.arrayClass (newarray.typeOf atype)).before args s = true) {ty : FieldType} (hty : newarray.typeOf atype = ty) (hI : sw_I D cl_all (ty_s ca) A s H locs L f) (t0 : Nat) {cI : ClassId} (ht : (ty_s ca)[t0]? = some (cI, ty)) {n : Int32} {N' : Nat} {a0 : vp_A} (ha : ∀ cA : ClassId, vp_cell cA a0 = arrV cA N' (fun _ => defaultValue ty)) (hn : ¬ n < 0) (hN : n.toNatClampNeg = N') (hbytes : N' * componentBytes ty ≤ 536870912) (hcells : cells + 1 ≤ R.cells) (hslots : slots + N' ≤ R.slots) (hdg : decode cc pc = .ok (.newarray atype, 2))
    (kk : ∀ (q : Nat) (H1 : Heap) (f1 : Nat → va_E), q ∉ L → sw_I D cl_all (ty_s ca) A s H1 locs (L ++ [q]) f1 → f1 q = .inl (cI, a0) → (∀ a, a ≠ q → f1 a = f a) → W p l e R s m args below meth c H1 locs (cells + 1) (slots + N') Q (F0 m (pc + 2) ls (.ref q :: rest))) : W p l e R s m args below meth c H locs cells slots Q (F0 m pc ls (.int n :: rest)) :=
  sw_newa hx hb harr hty hI t0 ht ha hn hN hbytes hcells hslots hdg (fun q H1 hq hI1 => kk q H1 _ hq hI1 (va_up_self _ _ _) (fun a h => va_up_ne _ _ h))
theorem ra_newq (hx : p.tables.exec = Jvm.exec) (hb : c.code = cc) (hown : s.vm.findClass own = some m.cls) (hclink : (Cond.classLink own index C).before args s = true) (hover : va_AO C s) (hI : sw_I D cl_all (ty_s ca) A s H locs L f) (t0 : Nat) {cI : ClassId} (ht : (ty_s ca)[t0]? = some (cI, .object C)) {n : Int32} {N' : Nat} (hn : ¬ n < 0) (hN : n.toNatClampNeg = N') (hbytes : N' * 4 ≤ 536870912) (hcells : cells + 1 ≤ R.cells) (hslots : slots + N' ≤ R.slots) (hdg : decode cc pc = .ok (.anewarray index, 3))
    (kk : ∀ (q : Nat) (H1 : Heap) (f1 : Nat → va_E), q ∉ L → sw_I D cl_all (ty_s ca) A s H1 locs (L ++ [q]) f1 → f1 q = .inl (cI, N', .inr (.inr (.inr (.inr (fun _ => none))))) → (∀ a, a ≠ q → f1 a = f a) → W p l e R s m args below meth c H1 locs (cells + 1) (slots + N') Q (F0 m (pc + 3) ls (.ref q :: rest))) : W p l e R s m args below meth c H locs cells slots Q (F0 m pc ls (.int n :: rest)) :=
  sw_newq hx hb hown hclink hover hI t0 ht hn hN hbytes hcells hslots hdg (fun q H1 hq hI1 => kk q H1 _ hq hI1 (va_up_self _ _ _) (fun a h => va_up_ne _ _ h))
theorem ra_ast (hx : p.tables.exec = Jvm.exec) (hb : c.code = cc) (hI : sw_I D cl_all (ty_s ca) A s H locs L f) (ha : a ∈ L) (t0 cj : Nat) {cA : ClassId} {r : vw_C} {n v j : Nat} {vs : List Value} {g : Nat → Option Nat} (hf : f a = .inl (cA, n, .inr (.inr (.inr (.inr g))))) (ht : (ty_s ca)[t0]? = some (cA, .object r.1)) (hva : v ∈ L) (hv : f v = .inr (cj, vs)) (hc : cl_all[cj]? = some r) (hj : j < n) (hn : n < 2 ^ 31) (hdg : decode cc pc = .ok (.aastore, 1))
    (kk : ∀ (H1 : Heap) (locs1 : List Loc) (f1 : Nat → va_E), sw_I D cl_all (ty_s ca) A s H1 locs1 L f1 → f1 a = .inl (cA, n, .inr (.inr (.inr (.inr (va_up g j (some v)))))) → (∀ q, q ≠ a → f1 q = f q) → W p l e R s m args below meth c H1 locs1 cells slots Q (F0 m (pc + 1) ls rest)) : W p l e R s m args below meth c H locs cells slots Q (F0 m pc ls (.ref v :: .int (nI j) :: .ref a :: rest)) := by
  refine sw_astq hx hb hI ha t0 cj hf ht hva hv hc (vp_in_nI hj hn) hdg (fun H1 locs1 hI1 => ?_)
  rw [nI_clamp (by omega)] at hI1
  exact kk H1 locs1 _ hI1 (va_up_self _ _ _) (fun q h => va_up_ne _ _ h)
end RAWROWS
theorem ok_psl {ca : Nat → ClassId} {T : ty_e} {L : List Nat} {f f1 : Nat → va_E} {q : Nat} (hT : ok_T ca T L f) (hq : q ∉ L) (hk : ∀ a, a ≠ q → f1 a = f a) : ok_T ca T L f1 := fun b ty hb => by
  obtain ⟨h1, h2⟩ := hT b ty hb
  exact ⟨h1, by rw [hk b (fun z => hq (z ▸ h1))]; exact h2⟩
theorem el_le {T T1 : ty_e} {g : Nat → Option Nat} {n : Nat} {ty : Nat → ty_c} (h : ty_le T T1) (e : ∀ j, j < n → ∃ b : Nat, g j = some b ∧ T b = some (ty j)) : ∀ j, j < n → ∃ b : Nat, g j = some b ∧ T1 b = some (ty j) := fun j hj => by
  obtain ⟨b, h1, h2⟩ := e j hj
  exact ⟨b, h1, h _ _ h2⟩
theorem el_up {T : ty_e} {g : Nat → Option Nat} {n v : Nat} {ty : Nat → ty_c} (e : ∀ j, j < n → ∃ b : Nat, g j = some b ∧ T b = some (ty j)) (hv : T v = some (ty n)) : ∀ j, j < n + 1 → ∃ b : Nat, va_up (α := Option Nat) g n (some v) j = some b ∧ T b = some (ty j) := fun j hj => by
  by_cases z : j = n
  · subst z
    exact ⟨v, va_up_self _ _ _, hv⟩
  · obtain ⟨b, h1, h2⟩ := e j (by omega)
    exact ⟨b, by rw [va_up_ne _ _ z]; exact h1, h2⟩
theorem ob_init {p : Program} {l : Launch} {e : Env} {R : Room} {s : State} {m : MethodId} {args : Array Value} {below : List Frame} {meth : Method} {c : Code} {H : Heap} {locs : List Loc} {cells slots : Nat} {Q : State → Prop} {cc : ByteArray} {own : String} {idx pc a : Nat} {ls : Array Slot} {rest : List Value} (hexec : p.tables.exec = Jvm.exec) (hb : c.code = cc) (hown : s.vm.findClass own = some m.cls) (hlink : (Cond.methodLink own idx Lib.objectInit).before args s = true) (hinst : (Cond.instanceMethod Lib.objectInit).before args s = true) (hcode : (Cond.code Lib.objectInit ⟨#[0xb1]⟩ 1 none).before args s = true) (hsize : ls.size = c.maxLocals) (hd : decode cc pc = .ok (.invokespecial idx, 3)) (hframes : 1 ≤ R.frames) (hlocals : 2 * (F0 m pc ls (.ref a :: rest)).monitorRoom + (rest.map fun v => v.category).sum + 12 ≤ R.locals)
    (kk : W p l e R s m args below meth c H locs cells slots Q (F0 m (pc + 3) ls rest)) : W p l e R s m args below meth c H locs cells slots Q (F0 m pc ls (.ref a :: rest)) := W.objInit hexec hb hown hlink hinst hcode rfl hsize rfl hd hframes hlocals kk
