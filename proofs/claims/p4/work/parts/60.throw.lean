/-! methods that may throw: what they find besides, how they begin and how they throw -/
theorem st_me (T : State) (fs : List Frame) (h : T.cur < T.threads.size) : (T.setFrames fs).me.stackBytes = T.me.stackBytes := by
  unfold State.me State.setFrames
  have h1 : T.threads[T.cur]? = some T.threads[T.cur] := Array.getElem?_eq_getElem h
  simp [Array.getElem?_modify, h1]
/-- a walk may be taken to begin where it stands -/
theorem st_again {p : Program} {l : Launch} {e : Env} {R R' : Room} {s : State} {m : MethodId} {args : Array Value} {below : List Frame} {meth : Method} {c : Code} {T : State} {locs : List Loc} {cells slots : Nat} (X : Stand p l e R s m args below meth c T locs cells slots) (hf : R'.frames = R.frames) (hl : R'.locals = R.locals) (hc : cells + R'.cells ≤ R.cells) (hs : slots + R'.slots ≤ R.slots) : Stand p l e R' (T.setFrames (.invoking m args :: below)) m args below meth c T [] 0 0 := by
  obtain ⟨g₀, hg0⟩ := Option.isSome_iff_exists.mp X.here.top
  obtain ⟨r, hr⟩ := State.topJava?_eq_some.mp hg0
  have hcur : T.cur < T.threads.size := State.cur_lt_of_frames hr
  have hfr : (T.setFrames (.invoking m args :: below)).frames = .invoking m args :: below := State.frames_setFrames _ hcur
  have hme := st_me T (.invoking m args :: below) hcur
  have hlim : e.platform.stackLimits (T.setFrames (.invoking m args :: below)).me = e.platform.stackLimits T.me := by
    unfold Platform.stackLimits
    rw [hme]
  have hloc : (T.setFrames (.invoking m args :: below)).localsInUse = s.localsInUse := by
    unfold State.localsInUse
    rw [hfr, X.frames]
    show _ + ((((T.vm.method? m).bind (·.code)).map (·.maxLocals)).getD 0 + 11) = _ + ((((s.vm.method? m).bind (·.code)).map (·.maxLocals)).getD 0 + 11)
    rw [X.method', X.method]
  refine ⟨X.admits, X.cas, X.clock, hfr, ?_, ?_, X.method', X.code, X.here, X.tail, State.WarmedH.refl _, hlim.symm, hme.symm, ?_⟩
  · have h0 := X.room
    have hb : (T.setFrames (.invoking m args :: below)).slotsTrue = true := X.book
    have h1 := X.cellsAbove hc
    have h2 := X.slotsAbove hs
    simp only [State.hasRoom, Bool.and_eq_true, decide_eq_true_eq] at h0 ⊢
    obtain ⟨⟨⟨⟨a1, a2, a3, a4, a5, a6⟩, a7⟩, a8⟩, a9⟩ := h0
    rw [hloc, hlim, hme, hfr, X.limits, X.bytes, hf, hl]
    rw [X.frames] at a2 a3
    exact ⟨⟨⟨⟨a1, a2, a3, a4, a5, a6⟩, h1⟩, h2⟩, hb⟩
  · have h0 := X.hears
    have hk : ∀ k, (T.setFrames (.invoking m args :: below)).vm.method? k = s.vm.method? k := fun k => X.warmed.alike.method? k
    unfold State.hears at h0 ⊢
    cases below with
    | nil =>
      have h2 : T.vm.method? m = s.vm.method? m := hk m
      simpa [h2] using h0
    | cons f fs =>
      cases f <;> simp only [State.code?_eq, hk] at h0 ⊢ <;> exact h0
  · show (T.setFrames (.invoking m args :: below)).sameButNew (T.setVm T.vm) [] 0 0
    rw [State.setVm_self]
    have hx : (T.setFrames (.invoking m args :: below)).cur < (T.setFrames (.invoking m args :: below)).threads.size := State.cur_lt_of_frames hfr
    have h1 := State.sameButNew.setFrames (State.sameButNew.refl (T.setFrames (.invoking m args :: below)) (Array.getElem?_eq_getElem hx)) T.frames hx
    rw [State.setFrames_setFrames] at h1
    obtain ⟨t, ht, -⟩ := State.frames_cons hr
    rw [State.setFrames_self ht] at h1
    exact h1
/-- a static field as its class lays it, in a cell that nobody here writes -/
def ls_Z (C n d : String) (A : Nat → Prop) (U : State) (H : Heap) : Prop := ∃ (c : ClassId) (k : Class) (i : Nat) (f : Field) (a : Nat) (cell : Cell), U.vm.findClass C = some c ∧ U.fieldFound? C n d = some (c, k, i, f) ∧ f.isStatic = true ∧ k.statics = some a ∧ H[a]? = some cell ∧ cell.vm.isStatics = true ∧ cell.cls = c ∧ f.slot < cell.slots.size ∧ k.staticTypes[f.slot]? = some f.type ∧ ¬ A a
theorem ls_of {args : Array Value} {s : State} {C n d : String} {A : Nat → Prop} (h : (Cond.laysStatic C n d).before args s = true) (hA : ∀ a : Nat, a < s.heap.size → ¬ A a) : ls_Z C n d A s s.heap := by
  obtain ⟨c, k, i, f, a, cell, hc, hf, hst, hsta, hcell, hiss, hcls, hlt, hty⟩ := Cond.laysStatic_spec h
  exact ⟨c, k, i, f, a, cell, hc, hf, hst, hsta, hcell, hiss, hcls, hlt, hty, hA a (Array.getElem?_eq_some_iff.mp hcell).1⟩
theorem ls_to {args : Array Value} {s : State} {C n d : String} {A : Nat → Prop} (h : ls_Z C n d A s s.heap) : (Cond.laysStatic C n d).before args s = true := by
  obtain ⟨c, k, i, f, a, cell, hc, hf, hst, hsta, hcell, hiss, hcls, hlt, hty, -⟩ := h
  simp [Cond.before, Cond.holds, Cond.value, hc, hf, hsta, hcell, hst, hiss, hcls, hlt, hty]
theorem ls_moved {C n d : String} {A : Nat → Prop} {u U : State} {H : Heap} (hvm : u.vm.Alike U.vm) (h : ls_Z C n d A u H) : ls_Z C n d A U H := by
  obtain ⟨c, k, i, f, a, cell, hc, hf, hst, hsta, hcell, hiss, hcls, hlt, hty, hn⟩ := h
  obtain ⟨k', hi', he⟩ := State.fieldFound?_setVm hvm hf
  exact ⟨c, k', i, f, a, cell, by rw [hvm.findClass]; exact hc, hi', hst, by rw [he]; exact hsta, hcell, hiss, hcls, hlt, by rw [he]; exact hty, hn⟩
theorem ls_kept {C n d : String} {A : Nat → Prop} {U : State} {H H1 : Heap} (h : ls_Z C n d A U H) (hq : ∀ a : Nat, a < H.size → ¬ A a → H1[a]? = H[a]?) : ls_Z C n d A U H1 := by
  obtain ⟨c, k, i, f, a, cell, hc, hf, hst, hsta, hcell, hiss, hcls, hlt, hty, hn⟩ := h
  exact ⟨c, k, i, f, a, cell, hc, hf, hst, hsta, by rw [hq a (Array.getElem?_eq_some_iff.mp hcell).1 hn]; exact hcell, hiss, hcls, hlt, hty, hn⟩
theorem ls_narrow {C n d : String} {A B : Nat → Prop} {U : State} {H : Heap} (hAB : ∀ q, B q → A q) (h : ls_Z C n d A U H) : ls_Z C n d B U H := by
  obtain ⟨c, k, i, f, a, cell, hc, hf, hst, hsta, hcell, hiss, hcls, hlt, hty, hn⟩ := h
  exact ⟨c, k, i, f, a, cell, hc, hf, hst, hsta, hcell, hiss, hcls, hlt, hty, fun q => hn (hAB a q)⟩
/-- a static field's value, out of the cell -/
theorem zq_ref {args : Array Value} {s : State} {C n d : String} {A : Nat → Prop} (h : va_Zq C n d A s s.heap) : (Cond.isRef (.static C n d)).before args s = true := by
  have key : ∀ v : Value, va_Z C n d v A s s.heap → (Term.static C n d).eval args s none [] s = some v := fun v hz => by
    obtain ⟨cf, kf, fi, f, a, cell, h1, h2, h3, h4, h5, h6, h7, h8⟩ := hz
    simp [Term.eval, State.fieldNamed?, h1, h2, h4, h5, h6, h7]
  rcases h with h | ⟨t, h⟩
  · simp [Cond.before, Cond.holds, Cond.value, key _ h, Value.isRef]
  · simp [Cond.before, Cond.holds, Cond.value, key _ h, Value.isRef]
def ek_more : Cond → Bool
  | .castable .. => true
  | .native .. => true
  | _ => false
theorem ek_moreW {w : Cond} (h : ek_more w = true) {s U : State} (hW : s.WarmedH U.vm) (hZ : va_Nw w s) : va_Nw w U := by
  cases w <;> first | exact va_Nw.warmC hW hZ | exact word_at hW (Or.inl rfl) hZ | (exact absurd h (by decide)) | (cases h)
theorem ek_moreS {w : Cond} (h : ek_more w = true) {s U : State} (hv : s.vm = U.vm) (hZ : va_Nw w s) : va_Nw w U := by
  refine va_Nw.same ?_ hv hZ
  cases w <;> first | rfl | (cases h)
abbrev tT : String := "java/lang/Throwable"
def ek2 (A : Nat → Prop) (U : State) : Prop := ek A U ∧ (∀ w ∈ lw_tbl, ek_more w = true → va_Nw w U) ∧ ls_Z tT "UNASSIGNED_STACK" "[Ljava/lang/StackTraceElement;" A U U.heap ∧ ls_Z tT "SUPPRESSED_SENTINEL" "Ljava/util/List;" A U U.heap
theorem ek2_move {s U : State} {A B : Nat → Prop} (hW : s.WarmedH U.vm) (hq : ∀ a : Nat, a < s.heap.size → ¬ A a → U.heap[a]? = s.heap[a]?) (hAB : ∀ q, B q → A q) (h : ek2 A s) : ek2 B U :=
  ⟨ek_move hW hq hAB h.1, fun w hw hn => ek_moreW hn hW (h.2.1 w hw hn), ls_narrow hAB (ls_moved hW.alike (ls_kept h.2.2.1 hq)), ls_narrow hAB (ls_moved hW.alike (ls_kept h.2.2.2 hq))⟩
theorem ek2_same {s U : State} {A : Nat → Prop} (hv : U.vm = s.vm) (hh : U.heap = s.heap) (h : ek2 A s) : ek2 A U := by
  have al : s.vm.Alike U.vm := by rw [hv]; exact Vm.Alike.refl _
  exact ⟨ek_same hv hh h.1, fun w hw hn => ek_moreS hn hv.symm (h.2.1 w hw hn), by rw [hh]; exact ls_moved al h.2.2.1, by rw [hh]; exact ls_moved al h.2.2.2⟩
