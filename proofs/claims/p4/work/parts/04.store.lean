/-! the store: the cells at the addresses L, each with what f says; every row of the machine over it -/
def sw_I (D : va_G) (cl : List vw_C) (tys : List (ClassId × FieldType)) (A : Nat → Prop) (s : State) (H : Heap) (locs : List Loc) (L : List Nat) (f : Nat → va_E) : Prop :=
  va_P D cl ([] ++ va_pl L f) H ∧ va_D A ([] ++ va_pl L f) ∧ va_S A s.heap H locs ∧ va_K D cl tys s ∧ ∀ q : Nat, s.heap.size ≤ q → A q
section SWROWS
variable {p : Program} {l : Launch} {e : Env} {R : Room} {s : State} {m : MethodId} {args : Array Value} {below : List Frame} {meth : Method} {c : Code} {H : Heap} {locs : List Loc} {cells slots : Nat} {Q : State → Prop}
variable {cc : ByteArray} {pc : Nat} {ls : Array Slot} {rest : List Value} {D : va_G} {cl : List vw_C} {A : Nat → Prop} {a : Nat} {tys : List (ClassId × FieldType)} {L : List Nat} {f : Nat → va_E}
theorem sw_at (ha : a ∈ L) {e0 : va_E} (hf : f a = e0) : ∃ k : Nat, ([] ++ va_pl L f)[k]? = some (a, e0) := by
  obtain ⟨k, hk⟩ := va_pl_get (X := []) (f := f) ha
  exact ⟨k, by rw [hk, hf]⟩
theorem sw_up (hI : sw_I D cl tys A s H locs L f) (ha : a ∈ L) {e0 e1 : va_E} (hf : f a = e0) {k : Nat} (hk : ([] ++ va_pl L f)[k]? = some (a, e0)) {H1 : Heap} {locs1 : List Loc}
    (hP : va_P D cl (([] ++ va_pl L f).set k (a, e1)) H1) (hD : va_D A (([] ++ va_pl L f).set k (a, e1))) (hS : va_S A s.heap H1 locs1) : sw_I D cl tys A s H1 locs1 L (va_up f a e1) := by
  have e : ([] ++ va_pl L f).set k (a, e1) = [] ++ va_pl L (va_up f a e1) := va_pl_set hI.2.1 ha (by rw [hk, hf])
  exact ⟨e ▸ hP, e ▸ hD, hS, hI.2.2.2.1, hI.2.2.2.2⟩
theorem sw_get (hexec : p.tables.exec = Jvm.exec) (hb : c.code = cc) {own ref C : String} {T : u_T} {N ci index : Nat} {Ts : List Cond} (hts : ∀ w ∈ Ts, w.before args s = true) (hin : ∀ w ∈ u_ws C T N, w ∈ Ts) (hown : s.vm.findClass own = some m.cls) (hI : sw_I D cl tys A s H locs L f) (ha : a ∈ L) {fs : List Value} (hf : f a = .inr (ci, fs)) (hc : cl[ci]? = some (C, T, N)) (k : Nat) (hk : k < N) (hlink : (Cond.fieldLink own index ref (T k).2.1 (T k).2.2.1).before args s = true) (hsame : ∀ x, s.fieldFound? (T k).1 (T k).2.1 (T k).2.2.1 = some x → s.fieldFound? ref (T k).2.1 (T k).2.2.1 = some x) {v : Value} (hv : fs[k]? = some v) (hdg : decode cc pc = .ok (.getfield index, 3))
    (kk : W p l e R s m args below meth c H locs cells slots Q (F0 m (pc + 3) ls (v :: rest))) : W p l e R s m args below meth c H locs cells slots Q (F0 m pc ls (.ref a :: rest)) := by
  obtain ⟨i, hi⟩ := sw_at ha hf
  exact va_get hexec hb hts hin hown hI.2.2.2.1 hI.1 i hi hc k hk hlink hsame hv hdg kk
theorem sw_getN (hexec : p.tables.exec = Jvm.exec) (hb : c.code = cc) {own ref C host : String} {T : u_T} {N ci index : Nat} {Ts : List Cond} (hts : ∀ w ∈ Ts, w.before args s = true) (hin : ∀ w ∈ u_ws C T N, w ∈ Ts) (hown : s.vm.findClass own = some m.cls) (hI : sw_I D cl tys A s H locs L f) (ha : a ∈ L) {fs : List Value} (hf : f a = .inr (ci, fs)) (hc : cl[ci]? = some (C, T, N)) (k : Nat) (hk : k < N) (hlink : (Cond.fieldLinkNest own index ref (T k).2.1 (T k).2.2.1 host).before args s = true) (hsame : ∀ x, s.fieldFound? (T k).1 (T k).2.1 (T k).2.2.1 = some x → s.fieldFound? ref (T k).2.1 (T k).2.2.1 = some x) {v : Value} (hv : fs[k]? = some v) (hdg : decode cc pc = .ok (.getfield index, 3))
    (kk : W p l e R s m args below meth c H locs cells slots Q (F0 m (pc + 3) ls (v :: rest))) : W p l e R s m args below meth c H locs cells slots Q (F0 m pc ls (.ref a :: rest)) := by
  obtain ⟨i, hi⟩ := sw_at ha hf
  exact va_getN hexec hb hts hin hown hI.2.2.2.1 hI.1 i hi hc k hk hlink hsame hv hdg kk
theorem sw_put (hexec : p.tables.exec = Jvm.exec) (hb : c.code = cc) {own ref C : String} {T : u_T} {N ci index : Nat} {Ts : List Cond} (hts : ∀ w ∈ Ts, w.before args s = true) (hin : ∀ w ∈ u_ws C T N, w ∈ Ts) (ty0 : Nat → FieldType) (hty : ∀ k, k < N → parseFieldDescriptor (T k).2.2.1 = some (ty0 k)) (hnm : ∀ a, a < N → ∀ b, b < N → a ≠ b → (T a).2.1 ≠ (T b).2.1) (hown : s.vm.findClass own = some m.cls) (hI : sw_I D cl tys A s H locs L f) (ha : a ∈ L) {fs : List Value} (hf : f a = .inr (ci, fs)) (hc : cl[ci]? = some (C, T, N)) (k : Nat) (hk : k < N) (hlink : (Cond.fieldLink own index ref (T k).2.1 (T k).2.2.1).before args s = true) (hsame : ∀ x, s.fieldFound? (T k).1 (T k).2.1 (T k).2.2.1 = some x → s.fieldFound? ref (T k).2.1 (T k).2.2.1 = some x) (hfin : (T k).2.2.2 = false) {ty : FieldType} {v : Value} (hd : parseFieldDescriptor (T k).2.2.1 = some ty) (hn : narrow ty v = v) (hfit : fits ty v = true) (hl : k < fs.length)
    (hdg : decode cc pc = .ok (.putfield index, 3)) (kk : ∀ (H1 : Heap) (locs1 : List Loc), sw_I D cl tys A s H1 locs1 L (va_up f a (.inr (ci, fs.set k v))) → W p l e R s m args below meth c H1 locs1 cells slots Q (F0 m (pc + 3) ls rest)) : W p l e R s m args below meth c H locs cells slots Q (F0 m pc ls (v :: .ref a :: rest)) := by
  obtain ⟨i, hi⟩ := sw_at ha hf
  exact va_put hexec hb hts hin ty0 hty hnm hown hI.2.2.2.1 hI.1 hI.2.1 hI.2.2.1 i hi hc k hk hlink hsame hfin hd hn hfit hl hdg fun H1 locs1 hP hD hS => kk H1 locs1 (sw_up hI ha hf hi hP hD hS)
theorem sw_putN (hexec : p.tables.exec = Jvm.exec) (hb : c.code = cc) {own ref C host : String} {T : u_T} {N ci index : Nat} {Ts : List Cond} (hts : ∀ w ∈ Ts, w.before args s = true) (hin : ∀ w ∈ u_ws C T N, w ∈ Ts) (ty0 : Nat → FieldType) (hty : ∀ k, k < N → parseFieldDescriptor (T k).2.2.1 = some (ty0 k)) (hnm : ∀ a, a < N → ∀ b, b < N → a ≠ b → (T a).2.1 ≠ (T b).2.1) (hown : s.vm.findClass own = some m.cls) (hI : sw_I D cl tys A s H locs L f) (ha : a ∈ L) {fs : List Value} (hf : f a = .inr (ci, fs)) (hc : cl[ci]? = some (C, T, N)) (k : Nat) (hk : k < N) (hlink : (Cond.fieldLinkNest own index ref (T k).2.1 (T k).2.2.1 host).before args s = true) (hsame : ∀ x, s.fieldFound? (T k).1 (T k).2.1 (T k).2.2.1 = some x → s.fieldFound? ref (T k).2.1 (T k).2.2.1 = some x) (hfin : (T k).2.2.2 = false) {ty : FieldType} {v : Value} (hd : parseFieldDescriptor (T k).2.2.1 = some ty) (hn : narrow ty v = v) (hfit : fits ty v = true) (hl : k < fs.length)
    (hdg : decode cc pc = .ok (.putfield index, 3)) (kk : ∀ (H1 : Heap) (locs1 : List Loc), sw_I D cl tys A s H1 locs1 L (va_up f a (.inr (ci, fs.set k v))) → W p l e R s m args below meth c H1 locs1 cells slots Q (F0 m (pc + 3) ls rest)) : W p l e R s m args below meth c H locs cells slots Q (F0 m pc ls (v :: .ref a :: rest)) := by
  obtain ⟨i, hi⟩ := sw_at ha hf
  exact va_putN hexec hb hts hin ty0 hty hnm hown hI.2.2.2.1 hI.1 hI.2.1 hI.2.2.1 i hi hc k hk hlink hsame hfin hd hn hfit hl hdg fun H1 locs1 hP hD hS => kk H1 locs1 (sw_up hI ha hf hi hP hD hS)
theorem sw_putF (hexec : p.tables.exec = Jvm.exec) (hb : c.code = cc) {own ref C : String} {T : u_T} {N ci index : Nat} {Ts : List Cond} (hts : ∀ w ∈ Ts, w.before args s = true) (hin : ∀ w ∈ u_ws C T N, w ∈ Ts) (ty0 : Nat → FieldType) (hty : ∀ k, k < N → parseFieldDescriptor (T k).2.2.1 = some (ty0 k)) (hnm : ∀ a, a < N → ∀ b, b < N → a ≠ b → (T a).2.1 ≠ (T b).2.1) (hown : s.vm.findClass own = some m.cls) (hI : sw_I D cl tys A s H locs L f) (ha : a ∈ L) {fs : List Value} (hf : f a = .inr (ci, fs)) (hc : cl[ci]? = some (C, T, N)) (k : Nat) (hk : k < N) (hlink : (Cond.fieldLink own index ref (T k).2.1 (T k).2.2.1).before args s = true) (hsame : ∀ x, s.fieldFound? (T k).1 (T k).2.1 (T k).2.2.1 = some x → s.fieldFound? ref (T k).2.1 (T k).2.2.1 = some x) (hfin : (T k).2.2.2 = true) (hin2 : meth.name = "<init>") (hdecl : (T k).1 = own) {ty : FieldType} {v : Value} (hd : parseFieldDescriptor (T k).2.2.1 = some ty) (hn : narrow ty v = v) (hfit : fits ty v = true) (hl : k < fs.length)
    (hdg : decode cc pc = .ok (.putfield index, 3)) (kk : ∀ (H1 : Heap) (locs1 : List Loc), sw_I D cl tys A s H1 locs1 L (va_up f a (.inr (ci, fs.set k v))) → W p l e R s m args below meth c H1 locs1 cells slots Q (F0 m (pc + 3) ls rest)) : W p l e R s m args below meth c H locs cells slots Q (F0 m pc ls (v :: .ref a :: rest)) := by
  obtain ⟨i, hi⟩ := sw_at ha hf
  exact va_putF hexec hb hts hin ty0 hty hnm hown hI.2.2.2.1 hI.1 hI.2.1 hI.2.2.1 i hi hc k hk hlink hsame hfin hin2 hdecl hd hn hfit hl hdg fun H1 locs1 hP hD hS => kk H1 locs1 (sw_up hI ha hf hi hP hD hS)
theorem sw_iald (hexec : p.tables.exec = Jvm.exec) (hb : c.code = cc) (hI : sw_I D cl tys A s H locs L f) (ha : a ∈ L) (t0 : Nat) {cA : ClassId} {n : Nat} {g : Nat → Int32} (hf : f a = .inl (cA, n, .inl g)) (ht : tys[t0]? = some (cA, .int)) {i : Int32} (hin : vp_in i n) (hdg : decode cc pc = .ok (.iaload, 1))
    (kk : W p l e R s m args below meth c H locs cells slots Q (F0 m (pc + 1) ls (.int (g i.toNatClampNeg) :: rest))) : W p l e R s m args below meth c H locs cells slots Q (F0 m pc ls (.int i :: .ref a :: rest)) := by
  obtain ⟨j, hj⟩ := sw_at ha hf
  exact va_iald hexec hb hI.2.2.2.1 hI.1 j t0 hj ht hin hdg kk
theorem sw_iast (hexec : p.tables.exec = Jvm.exec) (hb : c.code = cc) (hI : sw_I D cl tys A s H locs L f) (ha : a ∈ L) (t0 : Nat) {cA : ClassId} {n : Nat} {g : Nat → Int32} (hf : f a = .inl (cA, n, .inl g)) (ht : tys[t0]? = some (cA, .int)) {i x : Int32} (hin : vp_in i n) (hdg : decode cc pc = .ok (.iastore, 1))
    (kk : ∀ (H1 : Heap) (locs1 : List Loc), sw_I D cl tys A s H1 locs1 L (va_up f a (.inl (cA, n, .inl (upd g i.toNatClampNeg x)))) → W p l e R s m args below meth c H1 locs1 cells slots Q (F0 m (pc + 1) ls rest)) : W p l e R s m args below meth c H locs cells slots Q (F0 m pc ls (.int x :: .int i :: .ref a :: rest)) := by
  obtain ⟨j, hj⟩ := sw_at ha hf
  exact va_iast hexec hb hI.2.2.2.1 hI.1 hI.2.1 hI.2.2.1 j t0 hj ht hin hdg fun H1 locs1 hP hD hS => kk H1 locs1 (sw_up hI ha hf hj hP hD hS)
theorem sw_lald (hexec : p.tables.exec = Jvm.exec) (hb : c.code = cc) (hI : sw_I D cl tys A s H locs L f) (ha : a ∈ L) (t0 : Nat) {cA : ClassId} {n : Nat} {g : Nat → Int64} (hf : f a = .inl (cA, n, .inr (.inl g))) (ht : tys[t0]? = some (cA, .long)) {i : Int32} (hin : vp_in i n) (hdg : decode cc pc = .ok (.laload, 1))
    (kk : W p l e R s m args below meth c H locs cells slots Q (F0 m (pc + 1) ls (.long (g i.toNatClampNeg) :: rest))) : W p l e R s m args below meth c H locs cells slots Q (F0 m pc ls (.int i :: .ref a :: rest)) := by
  obtain ⟨j, hj⟩ := sw_at ha hf
  exact va_lald hexec hb hI.2.2.2.1 hI.1 j t0 hj ht hin hdg kk
theorem sw_aldq (hexec : p.tables.exec = Jvm.exec) (hb : c.code = cc) (hI : sw_I D cl tys A s H locs L f) (ha : a ∈ L) (t0 : Nat) {cA : ClassId} {C : String} {n : Nat} {g : Nat → Option Nat} (hf : f a = .inl (cA, n, .inr (.inr (.inr (.inr g))))) (ht : tys[t0]? = some (cA, .object C)) {i : Int32} (hin : vp_in i n) (hdg : decode cc pc = .ok (.aaload, 1))
    (kk : W p l e R s m args below meth c H locs cells slots Q (F0 m (pc + 1) ls (va_rf (g i.toNatClampNeg) :: rest))) : W p l e R s m args below meth c H locs cells slots Q (F0 m pc ls (.int i :: .ref a :: rest)) := by
  obtain ⟨j, hj⟩ := sw_at ha hf
  exact va_aldq hexec hb hI.2.2.2.1 hI.1 j t0 hj ht hin hdg kk
theorem sw_astq (hexec : p.tables.exec = Jvm.exec) (hb : c.code = cc) (hI : sw_I D cl tys A s H locs L f) (ha : a ∈ L) (t0 ci : Nat) {cA : ClassId} {r : vw_C} {n v : Nat} {vs : List Value} {g : Nat → Option Nat} (hf : f a = .inl (cA, n, .inr (.inr (.inr (.inr g))))) (ht : tys[t0]? = some (cA, .object r.1)) (hva : v ∈ L) (hv : f v = .inr (ci, vs)) (hc : cl[ci]? = some r) {i : Int32} (hin : vp_in i n) (hdg : decode cc pc = .ok (.aastore, 1))
    (kk : ∀ (H1 : Heap) (locs1 : List Loc), sw_I D cl tys A s H1 locs1 L (va_up f a (.inl (cA, n, .inr (.inr (.inr (.inr (va_up g i.toNatClampNeg (some v)))))))) → W p l e R s m args below meth c H1 locs1 cells slots Q (F0 m (pc + 1) ls rest)) : W p l e R s m args below meth c H locs cells slots Q (F0 m pc ls (.ref v :: .int i :: .ref a :: rest)) := by
  obtain ⟨j, hj⟩ := sw_at ha hf
  obtain ⟨j2, hj2⟩ := sw_at hva hv
  exact va_astq hexec hb hI.2.2.2.1 hI.1 hI.2.1 hI.2.2.1 j t0 j2 ci hj ht hj2 hc hin hdg fun H1 locs1 hP hD hS => kk H1 locs1 (sw_up hI ha hf hj hP hD hS)
end SWROWS
section SWMORE
variable {p : Program} {l : Launch} {e : Env} {R : Room} {s : State} {m : MethodId} {args : Array Value} {below : List Frame} {meth : Method} {c : Code} {H : Heap} {locs : List Loc} {cells slots : Nat} {Q : State → Prop}
variable {cc : ByteArray} {pc : Nat} {ls : Array Slot} {rest : List Value} {D : va_G} {cl : List vw_C} {A : Nat → Prop} {a : Nat} {tys : List (ClassId × FieldType)} {L : List Nat} {f : Nat → va_E}
theorem sw_last (hexec : p.tables.exec = Jvm.exec) (hb : c.code = cc) (hI : sw_I D cl tys A s H locs L f) (ha : a ∈ L) (t0 : Nat) {cA : ClassId} {n : Nat} {g : Nat → Int64} (hf : f a = .inl (cA, n, .inr (.inl g))) (ht : tys[t0]? = some (cA, .long)) {i : Int32} {x : Int64} (hin : vp_in i n) (hdg : decode cc pc = .ok (.lastore, 1))
    (kk : ∀ (H1 : Heap) (locs1 : List Loc), sw_I D cl tys A s H1 locs1 L (va_up f a (.inl (cA, n, .inr (.inl (vp_updL g i.toNatClampNeg x))))) → W p l e R s m args below meth c H1 locs1 cells slots Q (F0 m (pc + 1) ls rest)) : W p l e R s m args below meth c H locs cells slots Q (F0 m pc ls (.long x :: .int i :: .ref a :: rest)) := by
  obtain ⟨j, hj⟩ := sw_at ha hf
  exact va_last hexec hb hI.2.2.2.1 hI.1 hI.2.1 hI.2.2.1 j t0 hj ht hin hdg fun H1 locs1 hP hD hS => kk H1 locs1 (sw_up hI ha hf hj hP hD hS)
theorem sw_alen (hexec : p.tables.exec = Jvm.exec) (hb : c.code = cc) (hI : sw_I D cl tys A s H locs L f) (ha : a ∈ L) (t0 : Nat) {cA : ClassId} {x : vp_A} (hf : f a = .inl (cA, x)) {ty : FieldType} (ht : tys[t0]? = some (cA, ty)) {v : Int32} (hv : Int32.ofNat x.1 = v) (hdg : decode cc pc = .ok (.arraylength, 1))
    (kk : W p l e R s m args below meth c H locs cells slots Q (F0 m (pc + 1) ls (.int v :: rest))) : W p l e R s m args below meth c H locs cells slots Q (F0 m pc ls (.ref a :: rest)) := by
  obtain ⟨j, hj⟩ := sw_at ha hf
  exact va_alen hexec hb hI.2.2.2.1 hI.1 j t0 hj ht hv hdg kk
theorem sw_push {s : State} {locs1 : List Loc} (hI : sw_I D cl tys A s H locs L f) {q : Nat} {e1 : va_E} {H1 : Heap} (hP : va_P D cl (([] ++ va_pl L f) ++ [(q, e1)]) H1) (hD : va_D A (([] ++ va_pl L f) ++ [(q, e1)])) (hS : va_S A s.heap H1 locs1) : q ∉ L ∧ sw_I D cl tys A s H1 locs1 (L ++ [q]) (va_up f q e1) := by
  have hq : q ∉ L := va_pl_fresh2 (X := []) hD
  have e : ([] ++ va_pl L f) ++ [(q, e1)] = [] ++ va_pl (L ++ [q]) (va_up f q e1) := by
    show va_pl L f ++ [(q, e1)] = va_pl (L ++ [q]) (va_up f q e1)
    exact va_pl_push hq
  exact ⟨hq, e ▸ hP, e ▸ hD, hS, hI.2.2.2.1, hI.2.2.2.2⟩
theorem sw_new (hexec : p.tables.exec = Jvm.exec) (hb : c.code = cc) {own C : String} {T : u_T} {N ci index : Nat} {Ts : List Cond} (hts : ∀ w ∈ Ts, w.before args s = true) (hin : ∀ w ∈ u_ws C T N, w ∈ Ts) (ty : Nat → FieldType) (hty : ∀ k, k < N → parseFieldDescriptor (T k).2.2.1 = some (ty k)) (hown : s.vm.findClass own = some m.cls) (hcl : (Cond.classLink own index C).before args s = true) (hinst : (Cond.instantiable C N).before args s = true) (hini : (Cond.initialized C).before args s = true)
    (hI : sw_I D cl tys A s H locs L f) (hc : cl[ci]? = some (C, T, N)) {fs : List Value} (hfs : ∀ j, j < N → defaultValue (ty j) = vp_V fs j) (hcells : cells + 1 ≤ R.cells) (hslots : slots + N ≤ R.slots) (hdg : decode cc pc = .ok (.new index, 3))
    (kk : ∀ (q : Nat) (H1 : Heap), q ∉ L → sw_I D cl tys A s H1 locs (L ++ [q]) (va_up f q (.inr (ci, fs))) → W p l e R s m args below meth c H1 locs (cells + 1) (slots + N) Q (F0 m (pc + 3) ls (.ref q :: rest))) : W p l e R s m args below meth c H locs cells slots Q (F0 m pc ls rest) := by
  refine va_new hexec hb hts hin ty hty hown hcl hinst hini hI.2.2.2.1 hI.1 hI.2.1 hI.2.2.1 hI.2.2.2.2 hc hfs hcells hslots hdg fun q H1 hP hD hS => ?_
  obtain ⟨h1, h2⟩ := sw_push hI hP hD hS
  exact kk q H1 h1 h2
theorem sw_same {s : State} {t0 : Nat} {cI cA : ClassId} {ty : FieldType} (hK : va_K D cl tys s) (ht : tys[t0]? = some (cI, ty)) (hK2 : va_K D cl (tys ++ [(cA, ty)]) s) : cA = cI := by
  have h1 := (hK.2 t0 _ ht).2
  have h2 := (hK2.2 tys.length (cA, ty) (by rw [List.getElem?_append_right (Nat.le_refl _), Nat.sub_self]; rfl)).2
  cases ty with
  | object C =>
    obtain ⟨_, _, -, -, -, k1⟩ := h1
    obtain ⟨_, _, -, -, -, k2⟩ := h2
    exact Option.some.inj (k2.symm.trans k1)
  | _ => exact Option.some.inj ((show s.vm.findClass _ = some cA from h2).symm.trans h1)
theorem sw_newa (hexec : p.tables.exec = Jvm.exec) (hb : c.code = cc) {atype : ArrayType} (harr : (Cond.arrayClass (newarray.typeOf atype)).before args s = true) {ty : FieldType} (hty : newarray.typeOf atype = ty) (hI : sw_I D cl tys A s H locs L f) (t0 : Nat) {cI : ClassId} (ht : tys[t0]? = some (cI, ty))
    {n : Int32} {N' : Nat} {a0 : vp_A} (ha : ∀ cA : ClassId, vp_cell cA a0 = arrV cA N' (fun _ => defaultValue ty)) (hn : ¬ n < 0) (hN : n.toNatClampNeg = N') (hbytes : N' * componentBytes ty ≤ 536870912) (hcells : cells + 1 ≤ R.cells) (hslots : slots + N' ≤ R.slots) (hdg : decode cc pc = .ok (.newarray atype, 2))
    (kk : ∀ (q : Nat) (H1 : Heap), q ∉ L → sw_I D cl tys A s H1 locs (L ++ [q]) (va_up f q (.inl (cI, a0))) → W p l e R s m args below meth c H1 locs (cells + 1) (slots + N') Q (F0 m (pc + 2) ls (.ref q :: rest))) : W p l e R s m args below meth c H locs cells slots Q (F0 m pc ls (.int n :: rest)) := by
  refine va_newa hexec hb harr hty hI.2.2.2.1 hI.1 hI.2.1 hI.2.2.1 hI.2.2.2.2 ha hn hN hbytes hcells hslots hdg fun q cA H1 hK hP hD hS => ?_
  have e := sw_same hI.2.2.2.1 ht hK
  subst e
  obtain ⟨h1, h2⟩ := sw_push hI hP hD hS
  exact kk q H1 h1 h2
theorem sw_newq (hexec : p.tables.exec = Jvm.exec) (hb : c.code = cc) {own C : String} {index : Nat} (hown : s.vm.findClass own = some m.cls) (hclink : (Cond.classLink own index C).before args s = true) (hover : va_AO C s) (hI : sw_I D cl tys A s H locs L f) (t0 : Nat) {cI : ClassId} (ht : tys[t0]? = some (cI, .object C))
    {n : Int32} {N' : Nat} (hn : ¬ n < 0) (hN : n.toNatClampNeg = N') (hbytes : N' * 4 ≤ 536870912) (hcells : cells + 1 ≤ R.cells) (hslots : slots + N' ≤ R.slots) (hdg : decode cc pc = .ok (.anewarray index, 3))
    (kk : ∀ (q : Nat) (H1 : Heap), q ∉ L → sw_I D cl tys A s H1 locs (L ++ [q]) (va_up f q (.inl (cI, N', .inr (.inr (.inr (.inr (fun _ => none))))))) → W p l e R s m args below meth c H1 locs (cells + 1) (slots + N') Q (F0 m (pc + 3) ls (.ref q :: rest))) : W p l e R s m args below meth c H locs cells slots Q (F0 m pc ls (.int n :: rest)) := by
  refine va_newq hexec hb hown hclink hover hI.2.2.2.1 hI.1 hI.2.1 hI.2.2.1 hI.2.2.2.2 hn hN hbytes hcells hslots hdg fun q cA H1 hK hP hD hS => ?_
  have e := sw_same hI.2.2.2.1 ht hK
  subst e
  obtain ⟨h1, h2⟩ := sw_push hI hP hD hS
  exact kk q H1 h1 h2
end SWMORE
/-- what a method finds: the store; what it leaves -/
abbrev sm_S : Type := List Nat × (Nat → va_E)
def sm_P (D : va_G) (cl : List vw_C) (tys : List (ClassId × FieldType)) (ek : (Nat → Prop) → State → Prop) (L : List Nat) (f : Nat → va_E) (sz : Nat) (U : State) : Prop :=
  U.heap.size = sz ∧ va_P D cl (va_pl L f) U.heap ∧ va_K D cl tys U ∧ va_D (fun _ => True) (va_pl L f) ∧ ek (va_A (va_pl L f) sz) U
def sm_B (D : va_G) (cl : List vw_C) (tys : List (ClassId × FieldType)) (L : List Nat) (f : Nat → va_E) (sz : Nat) (u : sm_S) (t : State) : Prop :=
  va_P D cl (va_pl u.1 u.2) t.heap ∧ va_K D cl tys t ∧ va_D (va_A (va_pl L f) sz) (va_pl u.1 u.2)
section SMCALL
variable {p : Program} {l : Launch} {e : Env} {R : Room} {s : State} {m : MethodId} {args : Array Value} {below : List Frame} {meth : Method} {c : Code} {H : Heap} {locs : List Loc} {cells slots mc ms : Nat} {Q : State → Prop}
variable {cc : ByteArray} {pc : Nat} {ls : Array Slot} {rest st0 : List Value} {D : va_G} {cl : List vw_C} {A : Nat → Prop} {tys : List (ClassId × FieldType)} {L : List Nat} {f : Nat → va_E} {a : Array Value}
theorem sm_free (hI : sw_I D cl tys A s H locs L f) : ∀ q, va_A (va_pl L f) H.size q → A q := by
  intro q h
  rcases h with ⟨k, e0, h⟩ | h
  · exact hI.2.1.2 k (q, e0) h
  · exact hI.2.2.2.2 q (Nat.le_trans hI.2.2.1.1 h)
theorem sm_back (hI : sw_I D cl tys A s H locs L f) {u : sm_S} {t : State} {H1 : Heap} {locs1 : List Loc} (ht : t.heap = H1) (hB : sm_B D cl tys L f H.size u t) (hS : va_S A s.heap H1 locs1) : sw_I D cl tys A s H1 locs1 u.1 u.2 :=
  ⟨by rw [← ht]; exact hB.1, hB.2.2.weaken (fun _ _ _ h => sm_free hI _ h), hS, hI.2.2.2.1, hI.2.2.2.2⟩
theorem sm_callv (hI : sw_I D cl tys A s H locs L f) {post : sm_S → Prop} (hr : va_Run p l e R s m args below meth c H locs cells slots mc ms (F0 m pc ls st0) rest (va_Qv post (sm_B D cl tys L f H.size) (va_A (va_pl L f) H.size) a) (va_A (va_pl L f) H.size))
    (kk : ∀ (u : sm_S) (H1 : Heap) (locs1 : List Loc), post u → sw_I D cl tys A s H1 locs1 u.1 u.2 → W p l e R s m args below meth c H1 locs1 (cells + mc) (slots + ms) Q (F0 m (pc + 3) ls rest)) : W p l e R s m args below meth c H locs cells slots Q (F0 m pc ls st0) :=
  va_callv hr hI.2.2.1 (fun q _ h => sm_free hI q h) (sm_free hI) fun u t H1 locs1 ht _ hp hB _ _ hS => kk u H1 locs1 hp (sm_back hI ht hB hS)
theorem sm_calli (hI : sw_I D cl tys A s H locs L f) {post : Int32 → sm_S → Prop} (hr : va_Run p l e R s m args below meth c H locs cells slots mc ms (F0 m pc ls st0) rest (va_Qi post (sm_B D cl tys L f H.size) (va_A (va_pl L f) H.size) a) (va_A (va_pl L f) H.size))
    (kk : ∀ (r : Int32) (u : sm_S) (H1 : Heap) (locs1 : List Loc), post r u → sw_I D cl tys A s H1 locs1 u.1 u.2 → W p l e R s m args below meth c H1 locs1 (cells + mc) (slots + ms) Q (F0 m (pc + 3) ls (.int r :: rest))) : W p l e R s m args below meth c H locs cells slots Q (F0 m pc ls st0) :=
  va_calli hr hI.2.2.1 (fun q _ h => sm_free hI q h) (sm_free hI) fun r u t H1 locs1 ht _ hp hB _ _ hS => kk r u H1 locs1 hp (sm_back hI ht hB hS)
theorem sm_calll (hI : sw_I D cl tys A s H locs L f) {post : Int64 → sm_S → Prop} (hr : va_Run p l e R s m args below meth c H locs cells slots mc ms (F0 m pc ls st0) rest (va_Ql post (sm_B D cl tys L f H.size) (va_A (va_pl L f) H.size) a) (va_A (va_pl L f) H.size))
    (kk : ∀ (r : Int64) (u : sm_S) (H1 : Heap) (locs1 : List Loc), post r u → sw_I D cl tys A s H1 locs1 u.1 u.2 → W p l e R s m args below meth c H1 locs1 (cells + mc) (slots + ms) Q (F0 m (pc + 3) ls (.long r :: rest))) : W p l e R s m args below meth c H locs cells slots Q (F0 m pc ls st0) :=
  va_calll hr hI.2.2.1 (fun q _ h => sm_free hI q h) (sm_free hI) fun r u t H1 locs1 ht _ hp hB _ _ hS => kk r u H1 locs1 hp (sm_back hI ht hB hS)
theorem sm_callq (hI : sw_I D cl tys A s H locs L f) {post : Option Nat → sm_S → Prop} (hr : va_Run p l e R s m args below meth c H locs cells slots mc ms (F0 m pc ls st0) rest (va_Qq post (sm_B D cl tys L f H.size) (va_A (va_pl L f) H.size) a) (va_A (va_pl L f) H.size))
    (kk : ∀ (r : Option Nat) (u : sm_S) (H1 : Heap) (locs1 : List Loc), post r u → sw_I D cl tys A s H1 locs1 u.1 u.2 → W p l e R s m args below meth c H1 locs1 (cells + mc) (slots + ms) Q (F0 m (pc + 3) ls (va_rf r :: rest))) : W p l e R s m args below meth c H locs cells slots Q (F0 m pc ls st0) :=
  va_callq hr hI.2.2.1 (fun q _ h => sm_free hI q h) (sm_free hI) fun r u t H1 locs1 ht _ hp hB _ _ hS => kk r u H1 locs1 hp (sm_back hI ht hB hS)
end SMCALL
