/-! a method that returns or throws: its end, its start, a throw of an own exception -/
def xq (X : String) (x : Nat) (t : State) : Prop := ∃ ce : Cell, t.heap[x]? = some ce ∧ ce.vm = .none ∧ t.vm.findClass X = some ce.cls
/-- what an exception leaves: the tables are warmer, nothing else moved but slots of L, and new cells -/
def xe_E (s t : State) (L : List Loc) (mc ms : Nat) : Prop := s.WarmedH t.vm ∧ s.sameButNew ({ t with vm := s.vm } : State) L mc ms
def MT (below : List Frame) (Qt : State → Nat → State → Prop) (s : State) (mc ms : Nat) (free : Addr → Prop) : State → Prop := fun t =>
  ∃ x : Nat, t.status = .running ∧ Ended t below (.threw x) ∧ Qt s x t ∧ ∃ L, xe_E s t L mc ms ∧ ∀ q ∈ L, free q.base
def MO (below : List Frame) (Qc : Array Value → State → Outcome → State → Prop) (Qt : State → Nat → State → Prop) (a : Array Value) (s : State) (mc ms : Nat) (free : Addr → Prop) : State → Prop := fun t => MQ below Qc a s mc ms free t ∨ MT below Qt s mc ms free t
def oq (Qc : Array Value → State → Outcome → State → Prop) (Qt : State → Nat → State → Prop) (mc ms : Nat) (free : Addr → Prop) : Array Value → State → Outcome → State → Prop := fun a st o t =>
  (Qc a st o t ∧ ∃ L, FrameEnd st o t L mc ms ∧ ∀ q ∈ L, free q.base) ∨ ∃ x : Nat, o = .threw x ∧ Qt st x t ∧ ∃ L, xe_E st t L mc ms ∧ ∀ q ∈ L, free q.base
def MetO (l : Launch) (y : MethodName) (ws : List Cond) (rm : Room) (Pc : Array Value → State → Prop) (Qc : Array Value → State → Outcome → State → Prop) (Qt : State → Nat → State → Prop) (mc ms : Nat) (free : Addr → Prop) : Prop :=
  MetFree l y (headSpec ws rm) Pc (fun _ _ _ _ _ => True) (oq Qc Qt mc ms free)
theorem MetO.ofW {l : Launch} {y : MethodName} {ws ws' : List Cond} {rm : Room} {Pc : Array Value → State → Prop} {Qc : Array Value → State → Outcome → State → Prop} {Qt : State → Nat → State → Prop} {mc ms : Nat} {free : Addr → Prop} {cc : ByteArray} {maxL : Nat} {ret : Option FieldType}
    (hy : plainName y.cls = true) (hw : ws = Cond.code y cc maxL ret :: ws')
    (body : ∀ p e s m args below meth c s₁, BodyLoose p l y (headSpec ws rm) cc maxL ret e s m args below meth c s₁ → c.maxLocals = maxL → c.exceptionTable.toList = [] → Pc args s →
      W p l e (headSpec ws rm).room s m args below meth c s.heap [] 0 0 (MO below Qc Qt args s mc ms free) (entryFrame m args maxL)) : MetO l y ws rm Pc Qc Qt mc ms free := by
  refine MetFree.of_bodyS (code := cc) (maxLocals := maxL) (ret := ret) hy ?_ ?_
  · intro args s m h hn
    obtain ⟨meth, c, h1, h2, h3, h4, h5, h6, -, -⟩ := Cond.code_spec hn (atoms_spec (ws := ws) h _ (by rw [hw]; exact List.mem_cons_self))
    exact ⟨meth, c, h1, h2, h3, h4, h5, h6⟩
  · intro p e s m args below meth c s₁ B hml hP _
    have hh0 : s₁.heap = s.heap := by rw [B.state]; rfl
    have hno : c.exceptionTable.toList = [] := by
      obtain ⟨meth', c', h1, h2, -, -, -, -, h7, -⟩ := Cond.code_spec B.named (atoms_spec (ws := ws) B.pre _ (by rw [hw]; exact List.mem_cons_self))
      have h8 := (Stand.of_body B).code
      cases h1.symm.trans B.method
      cases h2.symm.trans h8
      simpa using h7
    obtain ⟨t, a1, h⟩ := body p e s m args below meth c s₁ B hml hno hP s₁ hh0 (Stand.of_body B)
    rcases h with ⟨o, b1, b2, b3⟩ | ⟨x, b1, b2, b3⟩
    · exact ⟨t, o, a1, b1, b2, Or.inl ⟨b3.1, b3.2⟩⟩
    · exact ⟨t, _, a1, b1, b2, Or.inr ⟨x, rfl, b3.1, b3.2⟩⟩
theorem W.mono {p : Program} {l : Launch} {e : Env} {R : Room} {s : State} {m : MethodId} {args : Array Value} {below : List Frame} {meth : Method} {c : Code} {H : Heap} {locs : List Loc} {cells slots : Nat} {Q Q2 : State → Prop} {g : JFrame} (h : ∀ t, Q t → Q2 t) (k : W p l e R s m args below meth c H locs cells slots Q g) : W p l e R s m args below meth c H locs cells slots Q2 g := by
  intro T hT X
  obtain ⟨t, a, b⟩ := k T hT X
  exact ⟨t, a, h t b⟩
/-- what is left by a throw: the store, and an exception of one of the classes Xs -/
def sm_Qt (D : va_G) (tys : List (ClassId × FieldType)) (L : List Nat) (f : Nat → va_E) (sz : Nat) (post : sm_S → Prop) (Xs : List String) : State → Nat → State → Prop := fun st x t =>
  (∃ X ∈ Xs, xq X x t) ∧ (∃ u : sm_S, post u ∧ sm_B D cl_all tys L f sz u t) ∧ va_F (va_A (va_pl L f) sz) st t
abbrev xIA : String := "java/lang/IllegalArgumentException"
abbrev xIS : String := "java/lang/IllegalStateException"
def ek3 (A : Nat → Prop) (U : State) : Prop := ek2 A U ∧ va_Nc xIS xIA U
theorem ek3_move {s U : State} {A B : Nat → Prop} (hW : s.WarmedH U.vm) (hq : ∀ a : Nat, a < s.heap.size → ¬ A a → U.heap[a]? = s.heap[a]?) (hAB : ∀ q, B q → A q) (h : ek3 A s) : ek3 B U := ⟨ek2_move hW hq hAB h.1, h.2.moved hW.alike⟩
theorem ek3_same {s U : State} {A : Nat → Prop} (hv : U.vm = s.vm) (hh : U.heap = s.heap) (h : ek3 A s) : ek3 A U := ⟨ek2_same hv hh h.1, h.2.moved (by rw [hv]; exact Vm.Alike.refl _)⟩
section EK3ROWS
variable {s U : State} {A : Nat → Prop} {H : Heap} {locs : List Loc} {D : va_G} {cl : List vw_C} {tys : List (ClassId × FieldType)} {L K : List Nat} {f : Nat → va_E}
theorem sm_blind3 {As : List Value} {sz : Nat} : FrameBlind (va_Pc As (sm_P D cl tys ek3 L f sz)) := by
  intro a U g mk q
  obtain ⟨q0, q1, qP, qK, qD, qE⟩ := q
  exact ⟨q0, q1, qP, va_K.moved (u := U) (U := U.calling g mk a) (Vm.Alike.refl U.vm) qK, qD, ek3_same (s := U) rfl rfl qE⟩
theorem sd_preS3 (hI : sw_I D cl tys A s H locs (L ++ K) f) (hE : ek3 A s) {As : List Value} : PreS s H (va_Pc As (sm_P D cl tys ek3 K f H.size)) As :=
  ⟨sm_blind3, fun U hU hW => ⟨rfl, by rw [hU], by rw [hU]; exact sd_P (L := L) hI.1, va_K.moved hW.alike hI.2.2.2.1, (sd_D (L := L) hI.2.1).weaken (fun _ _ _ _ => trivial), ek3_move hW (fun a h1 h2 => by rw [hU]; exact hI.2.2.1.2.1 a h1 h2) (sd_free hI) hE⟩⟩
theorem sd_preV3 (hI : sw_I D cl tys A s H locs (L ++ K) f) (hE : ek3 A s) {As : List Value} {b ci : Nat} {q : vw_C} {fs : List Value} (hb : b ∈ L ++ K) (hf : f b = .inr (ci, fs)) (hc : cl[ci]? = some q) : PreV s H q.1 b (va_Pc (.ref b :: As) (sm_P D cl tys ek3 K f H.size)) As := by
  obtain ⟨i, hi⟩ := sw_at hb hf
  exact ⟨sm_blind3, va_recv hI.2.2.2.1 hI.1 hc hi, (sd_preS3 hI hE).2⟩
end EK3ROWS
section SMSTARTO
variable {l : Launch} {y : MethodName} {cc : ByteArray} {maxL : Nat} {ret : Option FieldType} {rm : Room} {As : List Value} {D : va_G} {tys : List (ClassId × FieldType)} {L : List Nat} {f : Nat → va_E} {sz mc ms : Nat} {Qc : Array Value → State → Outcome → State → Prop} {Qt : State → Nat → State → Prop}
theorem sm_startO (hy : plainName y.cls = true) (hn : (lg_sl As).length ≤ maxL)
    (body : ∀ (p : Program) (e : Env) (s : State) (m : MethodId) (below : List Frame) (meth : Method) (c : Code) (ls : Array Slot), p.tables.exec = Jvm.exec → c.code = cc → c.maxLocals = maxL → meth.sig.returnType = ret → meth.locks = false → c.exceptionTable.toList = [] → (∀ w ∈ wg, w.before As.toArray s = true) → s.vm.findClass y.cls = some m.cls → s.heap.size = sz → ek3 (va_A (va_pl L f) sz) s →
      sw_I D cl_all tys (va_A (va_pl L f) sz) s s.heap [] L f → lv_has ls maxL (lv_args 0 As) → W p l e rm s m As.toArray below meth c s.heap [] 0 0 (MO below Qc Qt As.toArray s mc ms (va_A (va_pl L f) sz)) (F0 m 0 ls [])) :
    MetO l y (Cond.code y cc maxL ret :: wg) rm (va_Pc As (sm_P D cl_all tys ek3 L f sz)) Qc Qt mc ms (va_A (va_pl L f) sz) := by
  refine MetO.ofW (cc := cc) (maxL := maxL) (ret := ret) hy rfl ?_
  intro p e s m args below meth c s₁ B hml hno hv
  obtain ⟨rfl, hsz, hP, hK, hD, hE⟩ := hv
  have hts := atoms_spec (ws := Cond.code y cc maxL ret :: wg) B.pre
  rw [lg_entry_eq]
  refine body p e s m below meth c _ B.exec B.bytes hml B.returns B.notSynchronized hno (fun w h => hts w (List.mem_cons_of_mem _ h)) (findClass_of_methodNamed B.named) hsz hE ⟨hP, hD.self, va_S.rf, hK, fun q h => Or.inr (by rw [← hsz]; exact h)⟩ (lv_entry As hn)
end SMSTARTO
section THROW
variable {p : Program} {l : Launch} {e : Env} {R : Room} {s : State} {m : MethodId} {args : Array Value} {below : List Frame} {meth : Method} {c : Code} {H : Heap} {locs : List Loc} {cells slots mc ms : Nat} {Q : State → Prop}
variable {cc : ByteArray} {pc : Nat} {ls : Array Slot} {rest : List Value} {D : va_G} {tys : List (ClassId × FieldType)} {L L1 : List Nat} {f f1 : Nat → va_E} {sz : Nat} {Qc : Array Value → State → Outcome → State → Prop}
theorem va_ldcwS (hexec : p.tables.exec = Jvm.exec) (hb : c.code = cc) {own tx : String} {index q : Nat} (hown : s.vm.findClass own = some m.cls) (hZ : vk_R own index tx q s) (hdg : decode cc pc = .ok (.ldc_w index, 3))
    (k : W p l e R s m args below meth c H locs cells slots Q (F0 m (pc + 3) ls (.ref q :: rest))) : W p l e R s m args below meth c H locs cells slots Q (F0 m pc ls rest) := by
  intro T hT X
  obtain ⟨t, a1, b1⟩ := k T hT X
  obtain ⟨kc, cf, i, a', hk, hcf, hcp, -, hr, hev'⟩ := Cond.stringRef_spec hown hZ.1
  cases hZ.2.symm.trans hev'
  obtain ⟨k', hk', he⟩ := X.warmed.alike.2.2 _ _ hk
  have hr' : k'.resolved[index]? = some (some (.string q)) := by
    rcases X.warmed.entry hk hk' index with h | ⟨h, -⟩
    · rw [h]; exact hr
    · rw [hr] at h; cases h
  refine ⟨t, ?_, b1⟩
  jvm_step X.here [hexec, hb, hdg, ldc_w.wp_string (e := e) (s := T) (f := F0 m pc ls rest) X.here.top hk' (by rw [he]; exact hcf) hcp hr']
  exact a1
/-- what old cells are after a walk that wrote nothing -/
theorem sb_old {s U : State} {cells slots : Nat} (h : s.sameButNew U [] cells slots) {q : Nat} (hq : q < s.heap.size) : U.heap[q]? = s.heap[q]? := by
  obtain ⟨c', h1, h2, h3, h4⟩ := h.2.2.2.2.2 q s.heap[q] (Array.getElem?_eq_getElem hq)
  rw [h1, Array.getElem?_eq_getElem hq, h2]
  have h5 : c'.slots = s.heap[q].slots := by
    refine Array.ext h3 (fun i i1 i2 => ?_)
    have := h4 i (by simp)
    rw [Array.getElem?_eq_getElem i1, Array.getElem?_eq_getElem i2] at this
    exact Option.some.inj this
  rw [h5]
theorem wg_at {a' : Array Value} {U : State} (hts : ∀ w ∈ wg, w.before args s = true) (hW : s.WarmedH U.vm) : ∀ w ∈ wg, w.before a' U = true := fun w hw => word_at hW (wg_good w hw).2 (hts w hw)
theorem sm_thr {X tx : String} {ic ix k n : Nat} {post : sm_S → Prop} {Xs : List String} (hx : p.tables.exec = Jvm.exec) (hb : c.code = cc) (hts : ∀ w ∈ wg, w.before args s = true) (hown : s.vm.findClass "TelecontrolPost" = some m.cls) (hlk : meth.locks = false) (hno : c.exceptionTable.toList = []) (hfl : l.flags = Jvm.pinnedFlags ++ [Jvm.noTraceFlag])
    (hE : ek3 (va_A (va_pl L f) sz) s) (hI : sw_I D cl_all tys (va_A (va_pl L f) sz) s H locs L1 f1) (hsz : ls.size = c.maxLocals) (hfit : Bundle.fit X = true)
    (hat : ∀ (a' : Array Value) (U : State) (A' : Nat → Prop), (∀ w ∈ wg, w.before a' U = true) → ek2 A' U → ∀ w ∈ Bundle.ownAtoms "TelecontrolPost" ic X ["java/lang/RuntimeException", "java/lang/Exception"], w.before a' U = true)
    (hcl : Cond.classLink "TelecontrolPost" ix X ∈ wg) (hin : Cond.instantiable X 6 ∈ wg) (hini : Cond.initialized X ∈ wg) (hstr : Cond.stringRef "TelecontrolPost" k tx ∈ lw_tbl)
    (hp : post (L1, f1)) (hX : X ∈ Xs) (hc : cells + 1 ≤ mc) (hs : slots + 6 ≤ ms) (hc1 : cells + 1 ≤ R.cells) (hs1 : slots + 6 ≤ R.slots) (hfr : 6 ≤ R.frames) (hlo : 82 ≤ R.locals)
    (d0 : decode cc pc = .ok (.new ix, 3)) (d1 : decode cc (pc + 3) = .ok (.dup, 1)) (d2 : (decode cc (pc + 4) = .ok (.ldc k, 2) ∧ n = pc + 6) ∨ (decode cc (pc + 4) = .ok (.ldc_w k, 3) ∧ n = pc + 7)) (d6 : decode cc n = .ok (.invokespecial ic, 3)) (d9 : decode cc (n + 3) = .ok (.athrow, 1)) :
    W p l e R s m args below meth c H locs cells slots (MO below Qc (sm_Qt D tys L f sz post Xs) args s mc ms (va_A (va_pl L f) sz)) (F0 m pc ls []) := by
  intro T hT Y
  have Y2 := st_again (R' := { R with cells := 1, slots := 6 }) Y rfl rfl hc1 hs1
  obtain ⟨s', hs'⟩ : ∃ s' : State, s' = T.setFrames (.invoking m args :: below) := ⟨_, rfl⟩
  rw [← hs'] at Y2
  have hh : s'.heap = H := by rw [hs']; exact hT
  have hW2 : s.WarmedH s'.vm := by rw [hs']; exact Y.warmed
  have hE2 : ek3 (va_A (va_pl L f) sz) s' := ek3_move hW2 (fun a h1 h2 => by rw [hh]; exact hI.2.2.1.2.1 a h1 h2) (fun _ h => h) hE
  have hts2 := wg_at (a' := args) hts hW2
  have hown2 : s'.vm.findClass "TelecontrolPost" = some m.cls := by rw [hW2.alike.findClass]; exact hown
  have htr : e.platform.stackTraces = false := Launch.traces_off hfl Y.admits
  obtain ⟨q, hq⟩ := hE2.1.1.2.1 _ _ _ hstr
  have hw : W p l e { R with cells := 1, slots := 6 } s' m args below meth c H [] 0 0 (fun t => t.status = .running ∧ Ended t below (.threw H.size) ∧ s'.WarmedH t.vm ∧ s'.sameButNew ({ t with vm := s'.vm } : State) [] 1 6 ∧ ∃ ce, t.heap[H.size]? = some ce ∧ Bundle.OwnCell args s' X H.size (.ref q) ce) (F0 m pc ls []) := by
    refine W.newc hx hb hown2 (hts2 _ hcl) (hts2 _ hin) (hts2 _ hini) rfl d0 (Nat.le_refl _) (Nat.le_refl _) (fun cX kX e1 e2 _ _ => ?_)
    refine lv_dup hx hb d1 rfl ?_
    have hend : W p l e { R with cells := 1, slots := 6 } s' m args below meth c (H.push { cls := cX, slots := kX.instanceTypes.map defaultValue, vm := .none }) [] (0 + 1) (0 + 6) (fun t => t.status = .running ∧ Ended t below (.threw H.size) ∧ s'.WarmedH t.vm ∧ s'.sameButNew ({ t with vm := s'.vm } : State) [] 1 6 ∧ ∃ ce, t.heap[H.size]? = some ce ∧ Bundle.OwnCell args s' X H.size (.ref q) ce) (F0 m n ls [.ref q, .ref H.size, .ref H.size]) := by
      intro T3 hT3 Y3
      have hcell : T3.heap[H.size]? = some (freshCell cX kX) := by rw [hT3]; simp [freshCell]
      obtain ⟨U, u1, u2, u3, u4, u5, u6⟩ := Y3.ctorThrowS hx htr (own := "TelecontrolPost") (names := ["java/lang/RuntimeException", "java/lang/Exception"]) (ic := ic) hown2 hfit (by decide) (hat _ _ _ hts2 hE2.1) (by simp) e1 e2 hcell (by rw [hh]; exact Nat.le_refl _) (msg := .ref q) rfl (g := F0 m n ls [.ref q, .ref H.size, .ref H.size]) rfl hsz rfl rfl (rest := []) rfl (by rw [hb]; exact d6) (by rw [hb]; exact d9) (by rw [hno]; simp) (by show 2 + 3 < R.frames; omega) (by simpa [Value.category] using hlo) hlk
      exact ⟨U, u1, u2, u3, u4, u5, u6⟩
    rcases d2 with ⟨d2, rfl⟩ | ⟨d2, rfl⟩
    · exact va_ldcS hx hb hown2 hq d2 hend
    · exact va_ldcwS hx hb hown2 hq d2 hend
  obtain ⟨t, a1, b1, b2, b3, b4, ce, b5, b6⟩ := hw T hT Y2
  have hold : ∀ q : Nat, q < H.size → t.heap[q]? = H[q]? := fun q hq => by
    have := sb_old b4 (q := q) (by rw [hh]; exact hq)
    rw [hh] at this
    exact this
  have hW3 : s.WarmedH t.vm := State.WarmedH.trans hW2 b3
  have hs3 : (T.setVm s.vm).sameButNew ({ t with vm := s.vm } : State) [] 1 6 := by
    obtain ⟨r1, r2, r3, r4, r5, r6⟩ := b4
    subst hs'
    refine ⟨?_, r2, r3, r4, r5, r6⟩
    have r7 := congrArg (fun z : State => z.setVm s.vm) r1
    rw [State.setFrames_setFrames] at r7
    exact r7
  refine ⟨t, a1, Or.inr ⟨H.size, b1, b2, ⟨⟨X, hX, ce, b5, b6.vm, by rw [b3.alike.findClass]; exact b6.cls⟩, ⟨(L1, f1), hp, ?_, va_K.moved hW3.alike hI.2.2.2.1, hI.2.1⟩, ?_, ?_⟩, locs, ⟨hW3, ?_⟩, hI.2.2.1.2.2⟩⟩
  · exact va_P.kept hI.1 (fun k q hq => by
      obtain ⟨c, hc, he⟩ := List.mem_map.mp (List.mem_of_getElem? hq)
      cases he
      exact hold c (va_pl_lt (X := []) (L := L1) hI.1 hc))
  · have h1 := hI.2.2.1.1
    have h2 := b4.2.1
    rw [hh] at h2
    exact Nat.le_trans h1 h2
  · intro q h1 h2
    rw [hold q (Nat.lt_of_lt_of_le h1 hI.2.2.1.1)]
    exact hI.2.2.1.2.1 q h1 h2
  · have h1 := Y.same.trans hs3
    rw [List.append_nil] at h1
    exact h1.mono hc hs
end THROW
