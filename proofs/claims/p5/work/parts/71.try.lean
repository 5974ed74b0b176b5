/-! a method with handlers: how it begins, a call whose exception is caught -/
section SMSTARTW
variable {l : Launch} {y : MethodName} {cc : ByteArray} {maxL : Nat} {ret : Option FieldType} {hd : List (Nat × Nat × Nat × Nat)} {rm : Room} {As : List Value} {D : va_G} {tys : List (ClassId × FieldType)} {L : List Nat} {f : Nat → va_E} {sz mc ms : Nat} {Qc : Array Value → State → Outcome → State → Prop}
theorem sm_startW (hy : plainName y.cls = true) (hn : (lg_sl As).length ≤ maxL)
    (body : ∀ (p : Program) (e : Env) (s : State) (m : MethodId) (below : List Frame) (meth : Method) (c : Code) (ls : Array Slot), p.tables.exec = Jvm.exec → c.code = cc → c.maxLocals = maxL → meth.sig.returnType = ret → meth.locks = false → c.exceptionTable.toList = tableOf hd → (∀ w ∈ wg, w.before As.toArray s = true) → s.vm.findClass y.cls = some m.cls → s.heap.size = sz → ek3 (va_A (va_pl L f) sz) s →
      sw_I D cl_all tys (va_A (va_pl L f) sz) s s.heap [] L f → lv_has ls maxL (lv_args 0 As) → W p l e rm s m As.toArray below meth c s.heap [] 0 0 (MQ below Qc As.toArray s mc ms (va_A (va_pl L f) sz)) (F0 m 0 ls [])) :
    Met l y (Cond.codeWith y cc maxL ret hd :: wg) rm (va_Pc As (sm_P D cl_all tys ek3 L f sz)) Qc mc ms (va_A (va_pl L f) sz) := by
  refine MetFree.of_bodyS (code := cc) (maxLocals := maxL) (ret := ret) hy ?_ ?_
  · intro args s m h hn
    obtain ⟨m', meth, c, h0, h1, h2, h3, h4, -, h5, h6, -⟩ := Cond.codeWith_spec (atoms_spec (ws := Cond.codeWith y cc maxL ret hd :: wg) h _ List.mem_cons_self)
    cases hn.symm.trans h0
    exact ⟨meth, c, h1, h2, h3, h4, h5, h6⟩
  · intro p e s m args below meth c s₁ B hml hv _
    have hts := atoms_spec (ws := Cond.codeWith y cc maxL ret hd :: wg) B.pre
    have htab : c.exceptionTable.toList = tableOf hd := by
      obtain ⟨m', meth', c', h0, h1, h2, -, -, h7, -, -, -⟩ := Cond.codeWith_spec (hts _ List.mem_cons_self)
      have h8 := (Stand.of_body B).code
      cases B.named.symm.trans h0
      cases h1.symm.trans B.method
      cases h2.symm.trans h8
      rw [← h7, table_eq]
    obtain ⟨rfl, hsz, hP, hK, hD, hE⟩ := hv
    have hh0 : s₁.heap = s.heap := by rw [B.state]; rfl
    have hw := body p e s m below meth c _ B.exec B.bytes hml B.returns B.notSynchronized htab (fun w h => hts w (List.mem_cons_of_mem _ h)) (findClass_of_methodNamed B.named) hsz hE ⟨hP, hD.self, va_S.rf, hK, fun q h => Or.inr (by rw [← hsz]; exact h)⟩ (lv_entry As hn)
    rw [← lg_entry_eq] at hw
    obtain ⟨t, a1, o, b1, b2, b3⟩ := hw s₁ hh0 (Stand.of_body B)
    exact ⟨t, o, a1, b1, b2, ⟨b3.1, b3.2⟩⟩
end SMSTARTW
/-! an exception finds its handler: rows of the table that cover the place, each linked to its class, over the laws of one step of the unwinding -/
section FIND
variable {p : Program} {l : Launch} {e : Env} {R : Room} {s : State} {m : MethodId} {args : Array Value} {below : List Frame} {meth : Method} {c : Code} {T : State} {locs : List Loc} {cells slots : Nat}
/-- a row that covers the place: its link is noted; it takes the exception, or the search goes on behind it -/
theorem xc_row {U : State} {g : JFrame} {x : Nat} {r : ExceptionTableEntry} {rs : List ExceptionTableEntry} {k : ClassId} {ce : Cell} (hcov : covers r g.pc = true) (hz : r.catchType ≠ 0)
    (hl : U.vm.ClassLinks e.platform g.method.cls r.catchType k) (hce : U.heap[x]? = some ce) (hst : ce.vm.isStatics = false) (h1 : ∃ q, U.vm.classes[ce.cls]? = some q) (h2 : ∃ q, U.vm.classes[k]? = some q) (Q : Handler → Pre) (E : CtlPost) (d : Bool) (acts : List Action) :
    wp (findHandler.go g x (r :: rs)) Q E e d acts U ↔ if U.vm.assignable ce.cls k = true then Q (.found r.handlerPc) d acts (U.setVm (U.vm.noted g.method.cls r.catchType (.cls k))) else wp (findHandler.go g x rs) Q E e d acts (U.setVm (U.vm.noted g.method.cls r.catchType (.cls k))) := by
  have hal : U.vm.Alike (U.vm.noted g.method.cls r.catchType (.cls k)) := (Vm.Alike.refl U.vm).noted _ _ _
  obtain ⟨q1, hq1⟩ := h1
  obtain ⟨q2, hq2⟩ := h2
  obtain ⟨n1, hn1, -⟩ := hal.2.2 _ _ hq1
  obtain ⟨n2, hn2, -⟩ := hal.2.2 _ _ hq2
  obtain ⟨hr1, hr2⟩ := (resolveClass_links e.toSetting hl).op (op := VmOp.resolveClass g.method.cls r.catchType) rfl
  have hob := VmData.ne_statics_of hst
  have has : (U.vm.noted g.method.cls r.catchType (.cls k)).assignable ce.cls k = U.vm.assignable ce.cls k := by rw [hal.assignable]
  simp only [covers] at hcov
  cases hb : U.vm.assignable ce.cls k <;> rw [hb] at has <;> simp [findHandler.go, hcov, hz, hr1, hr2, hce, hob, hn1, hn2, has, VmOp.dirties, VmOp.acts]
/-- a link of the tables that were holds in warmer ones, and may be noted there -/
theorem xc_note {V : Vm} {d i k : Nat} {pl : Platform} (hW : s.WarmedH V) (hl : s.vm.ClassLinks pl d i k) : s.WarmedH (V.noted d i (.cls k)) ∧ V.ClassLinks pl d i k ∧ ∃ q, V.classes[k]? = some q := by
  obtain ⟨dk, _, _, kt, hd, _, _, _, _, hkt, _, hopen⟩ := hl.here
  obtain ⟨q, hq, -⟩ := hW.alike.2.2 _ _ hkt
  exact ⟨hW.noted hd hopen (State.rightAt_cls hl), hW.classLinks hl, q, hq⟩
/-- one step: the search has ended at a row, the frame goes on at its handler -/
theorem xc_go {tb : Tables} {g : JFrame} {x n : Nat} {v : Vm} (h : At T g.method c below) (hF : ∀ (Q : Handler → Pre) (E : CtlPost) (d : Bool) (acts : List Action), wp (findHandler g x) Q E e d acts ((T.setTop g).pushFrame (.throwing x)) ↔ Q (.found n) d acts (((T.setTop g).pushFrame (.throwing x)).setVm v)) :
    Steps tb e below ((T.setTop g).pushFrame (.throwing x)) ((T.setVm v).setTop { g with pc := n, stack := [.ref x] }) := by
  obtain ⟨q, hq⟩ := Option.isSome_iff_exists.mp h.top
  obtain ⟨r, hr⟩ := State.topJava?_eq_some.mp hq
  have hr2 : (T.setVm v).frames = .java q :: r := hr
  have hv : ∀ (A B : List Frame), ((T.setFrames A).setVm v).setFrames B = (T.setVm v).setFrames B := fun A B => State.setFrames_setFrames (T.setVm v) A B
  have hs : (stepThread tb e ((T.setTop g).pushFrame (.throwing x))).1 = (T.setVm v).setTop { g with pc := n, stack := [.ref x] } := by
    rw [stepThread_throwing (frames_entered h.top _)]
    simp only [stepThrowing, searchFrame, vmDo]
    generalize hz : Sem.go _ e false [] ((T.setTop g).pushFrame (.throwing x)) = z
    obtain ⟨as, rfl, -⟩ := Sem.eq_ok_of hz (a := Handler.found n) (s' := ((T.setTop g).pushFrame (.throwing x)).setVm v) (acts' := []) (by simp [hF _ _ _ _])
    show (((T.setTop g).pushFrame (.throwing x)).setVm v).setFrames (.java { g with pc := n, stack := [.ref x] } :: T.frames.tail) = _
    rw [State.setTop_of_frames _ hr2, State.pushFrame, State.setTop_of_frames _ hr, State.setFrames_setFrames, hv, hr, List.tail_cons]
  exact Steps.head (h.throwing x).1 (h.throwing x).2 (by rw [hs]; exact Steps.refl _)
variable {own : String} {x : Nat} {g : JFrame} {ce : Cell} {r1 r2 : ExceptionTableEntry} {rs : List ExceptionTableEntry}
/-- the table's first row takes it -/
theorem xc_first (X : Stand p l e R s m args below meth c T locs cells slots) (hown : s.vm.findClass own = some m.cls) (hg : g.method = m) (hce : T.heap[x]? = some ce) (hst : ce.vm.isStatics = false) (htab : c.exceptionTable.toList = r1 :: rs)
    {n1 : String} {k1 : ClassId} (hc1 : covers r1 g.pc = true) (hz1 : r1.catchType ≠ 0) (hl1 : (Cond.classLink own r1.catchType n1).before args s = true) (hk1 : s.vm.findClass n1 = some k1) (ha1 : s.vm.assignable ce.cls k1 = true) :
    ∃ v : Vm, Stand p l e R s m args below meth c (T.setVm v) locs cells slots ∧ Steps p.tables e below ((T.setTop g).pushFrame (.throwing x)) ((T.setVm v).setTop { g with pc := r1.handlerPc, stack := [.ref x] }) := by
  subst hg
  have hpl : e.platform.magicAccessors = ({} : Platform).magicAccessors := by rw [X.admits.platform]
  obtain ⟨k', hk', hcl⟩ := Cond.classLink_spec hown hl1 e.platform hpl
  cases hk1.symm.trans hk'
  obtain ⟨w1, w2, w3⟩ := xc_note X.warmed hcl
  have ha : T.vm.assignable ce.cls k1 = true := by rw [X.warmed.alike.assignable]; exact ha1
  refine ⟨_, X.noted w1, xc_go X.here ?_⟩
  intro Q E d acts
  refine (Jvm.W.findHandler_eq (s := (T.setTop g).pushFrame (.throwing x)) (meth := meth) (code := c) X.method' X.code).trans ?_
  rw [htab]
  refine (xc_row (U := (T.setTop g).pushFrame (.throwing x)) hc1 hz1 w2 hce hst (Vm.classAt_of_assignable ha w3) w3 Q E d acts).trans ?_
  exact iff_of_eq (if_pos ha)
/-- the first row is passed, the second takes it -/
theorem xc_second (X : Stand p l e R s m args below meth c T locs cells slots) (hown : s.vm.findClass own = some m.cls) (hg : g.method = m) (hce : T.heap[x]? = some ce) (hst : ce.vm.isStatics = false) (htab : c.exceptionTable.toList = r1 :: r2 :: rs)
    {n1 n2 : String} {k1 k2 : ClassId} (hc1 : covers r1 g.pc = true) (hz1 : r1.catchType ≠ 0) (hl1 : (Cond.classLink own r1.catchType n1).before args s = true) (hk1 : s.vm.findClass n1 = some k1) (ha1 : s.vm.assignable ce.cls k1 = false)
    (hc2 : covers r2 g.pc = true) (hz2 : r2.catchType ≠ 0) (hl2 : (Cond.classLink own r2.catchType n2).before args s = true) (hk2 : s.vm.findClass n2 = some k2) (ha2 : s.vm.assignable ce.cls k2 = true) :
    ∃ v : Vm, Stand p l e R s m args below meth c (T.setVm v) locs cells slots ∧ Steps p.tables e below ((T.setTop g).pushFrame (.throwing x)) ((T.setVm v).setTop { g with pc := r2.handlerPc, stack := [.ref x] }) := by
  subst hg
  have hpl : e.platform.magicAccessors = ({} : Platform).magicAccessors := by rw [X.admits.platform]
  obtain ⟨k', hk', hcl1⟩ := Cond.classLink_spec hown hl1 e.platform hpl
  cases hk1.symm.trans hk'
  obtain ⟨k', hk', hcl2⟩ := Cond.classLink_spec hown hl2 e.platform hpl
  cases hk2.symm.trans hk'
  obtain ⟨w1, w2, w3⟩ := xc_note X.warmed hcl1
  obtain ⟨u1, u2, u3⟩ := xc_note w1 hcl2
  obtain ⟨-, -, t3⟩ := xc_note X.warmed hcl2
  have ha : T.vm.assignable ce.cls k1 = false := by rw [X.warmed.alike.assignable]; exact ha1
  have hb : T.vm.assignable ce.cls k2 = true := by rw [X.warmed.alike.assignable]; exact ha2
  have hb2 : (T.vm.noted g.method.cls r1.catchType (.cls k1)).assignable ce.cls k2 = true := by rw [w1.alike.assignable]; exact ha2
  refine ⟨_, X.noted u1, xc_go X.here ?_⟩
  intro Q E d acts
  refine (Jvm.W.findHandler_eq (s := (T.setTop g).pushFrame (.throwing x)) (meth := meth) (code := c) X.method' X.code).trans ?_
  rw [htab]
  refine (xc_row (U := (T.setTop g).pushFrame (.throwing x)) hc1 hz1 w2 hce hst (Vm.classAt_of_assignable hb t3) w3 Q E d acts).trans ?_
  refine (iff_of_eq (if_neg (fun h => by rw [show T.vm.assignable ce.cls k1 = true from h] at ha; cases ha))).trans ?_
  refine (xc_row (U := ((T.setTop g).pushFrame (.throwing x)).setVm (T.vm.noted g.method.cls r1.catchType (.cls k1))) hc2 hz2 u2 hce hst (Vm.classAt_of_assignable hb2 u3) u3 Q E d acts).trans ?_
  exact iff_of_eq (if_pos hb2)
end FIND
section TRY
variable {p : Program} {l : Launch} {e : Env} {R : Room} {s : State} {m : MethodId} {args : Array Value} {below : List Frame} {meth : Method} {c : Code} {H : Heap} {locs : List Loc} {cells slots mc ms : Nat} {Q : State → Prop}
variable {pc : Nat} {ls : Array Slot} {rest st0 : List Value} {D : va_G} {A : Nat → Prop} {tys : List (ClassId × FieldType)} {L K : List Nat} {f : Nat → va_E}
theorem xq_s {X : String} {x : Nat} {t : State} (hW : s.WarmedH t.vm) (h : xq X x t) : ∃ ce : Cell, t.heap[x]? = some ce ∧ ce.vm.isStatics = false ∧ s.vm.findClass X = some ce.cls := by
  obtain ⟨ce, h1, h2, h3⟩ := h
  exact ⟨ce, h1, by rw [h2]; rfl, by rw [← h3, hW.alike.findClass]⟩
theorem sd_try {own : String} {n1 n2 : Nat} {r1 : ExceptionTableEntry} {rows : List ExceptionTableEntry} {Xs : List String} {Rr : Option Value → sm_S → Prop} {post : sm_S → Prop} {Qa : State → Outcome → State → Prop} (hts : ∀ w ∈ wg, w.before args s = true) (hown : s.vm.findClass own = some m.cls) (hE : ek3 A s) (hI : sw_I D cl_all tys A s H locs (L ++ K) f)
    (hr : va_RunO p l e R s m args below meth c H locs cells slots mc ms (F0 m pc ls st0) rest Qa (sm_Qt D tys K f H.size post Xs) (va_A (va_pl K f) H.size))
    (hQ : ∀ (st t : State) (v : Option Value), Qa st (.returned v) t → (∃ u : sm_S, Rr v u ∧ sm_B D cl_all tys K f H.size u t) ∧ va_F (va_A (va_pl K f) H.size) st t)
    (htab : c.exceptionTable.toList = r1 :: rows) (hc1 : covers r1 pc = true) (hl1 : Cond.classLink own r1.catchType xIA ∈ wg) (hz1 : r1.catchType ≠ 0) (hn1 : r1.handlerPc = n1)
    (hrow : xIS ∈ Xs → ∃ (r2 : ExceptionTableEntry) (rest2 : List ExceptionTableEntry), rows = r2 :: rest2 ∧ covers r2 pc = true ∧ Cond.classLink own r2.catchType xIS ∈ wg ∧ r2.catchType ≠ 0 ∧ r2.handlerPc = n2) (hXs : ∀ X ∈ Xs, X = xIA ∨ X = xIS)
    (kr : ∀ (v : Option Value) (u : sm_S) (H1 : Heap) (locs1 : List Loc), Rr v u → sw_I D cl_all tys A s H1 locs1 (L ++ u.1) (sd_f L f u.2) → (∀ a, a ∈ u.1 → a ∉ L) → W p l e R s m args below meth c H1 locs1 (cells + mc) (slots + ms) Q (F0 m (pc + 3) ls (v.toList ++ rest)))
    (k1 : ∀ (x : Nat) (u : sm_S) (H1 : Heap) (locs1 : List Loc), post u → sw_I D cl_all tys A s H1 locs1 (L ++ u.1) (sd_f L f u.2) → (∀ a, a ∈ u.1 → a ∉ L) → W p l e R s m args below meth c H1 locs1 (cells + mc) (slots + ms) Q (F0 m n1 ls [.ref x]))
    (k2 : xIS ∈ Xs → ∀ (x : Nat) (u : sm_S) (H1 : Heap) (locs1 : List Loc), post u → sw_I D cl_all tys A s H1 locs1 (L ++ u.1) (sd_f L f u.2) → (∀ a, a ∈ u.1 → a ∉ L) → W p l e R s m args below meth c H1 locs1 (cells + mc) (slots + ms) Q (F0 m n2 ls [.ref x])) :
    W p l e R s m args below meth c H locs cells slots Q (F0 m pc ls st0) := by
  have hS : ∀ {st t : State} {Lx : List Loc}, st.heap = H → va_F (va_A (va_pl K f) H.size) st t → (∀ q ∈ Lx, va_A (va_pl K f) H.size q.base) → va_S A s.heap t.heap (locs ++ Lx) := fun {st t Lx} h0 hF hL => by
    obtain ⟨hz, hk⟩ := hF
    rw [h0] at hz hk
    refine ⟨Nat.le_trans hI.2.2.1.1 hz, fun q h1 h2 => ?_, fun q hq => ?_⟩
    · rw [hk q (Nat.lt_of_lt_of_le h1 hI.2.2.1.1) (fun z => h2 (sd_free hI q z))]
      exact hI.2.2.1.2.1 q h1 h2
    · rcases List.mem_append.mp hq with h | h
      · exact hI.2.2.1.2.2 q h
      · exact sd_free hI _ (hL q h)
  intro T hT X
  rcases hr T hT X with ⟨v, st₀, t, T', Lx, h0, X', hL, e1, e2, hq, st⟩ | ⟨x, st₀, t, T', Lx, h0, X', hL, e1, e2, hq, st⟩
  · obtain ⟨⟨u, hu, hB⟩, hF⟩ := hQ _ _ _ hq
    have hk := hF.2
    rw [h0] at hk
    obtain ⟨hI2, hd⟩ := sd_back hI (t := t) (H1 := T'.heap) (locs1 := locs ++ Lx) e1.symm hB (by rw [e1]; exact hk) (by rw [e1]; exact hS h0 hF hL)
    obtain ⟨t2, a1, b1⟩ := kr v u T'.heap (locs ++ Lx) hu hI2 hd T' rfl X'
    exact ⟨t2, st t2 a1, b1⟩
  · obtain ⟨⟨Y, hY, hx⟩, ⟨u, hu, hB⟩, hF⟩ := hq
    have hk := hF.2
    rw [h0] at hk
    obtain ⟨hI2, hd⟩ := sd_back hI (t := t) (H1 := T'.heap) (locs1 := locs ++ Lx) e1.symm hB (by rw [e1]; exact hk) (by rw [e1]; exact hS h0 hF hL)
    have hWt : s.WarmedH t.vm := by rw [← e2]; exact X'.warmed
    obtain ⟨ce, g1, g2, g3⟩ := xq_s hWt hx
    rcases hXs Y hY with rfl | rfl
    · obtain ⟨c3, c4, hc3, hc4, hasg⟩ := Cond.castable_spec (va_Nw.use (A := args) rfl (hE.1.2.1 _ tn_427 rfl))
      cases g3.symm.trans hc3
      obtain ⟨vm', XV, st2⟩ := xc_first X' hown (g := { F0 m pc ls st0 with stack := rest }) rfl (by rw [e1]; exact g1) g2 htab hc1 hz1 (hts _ hl1) hc4 hasg
      obtain ⟨t2, a1, b1⟩ := k1 x u T'.heap (locs ++ Lx) hu hI2 hd (T'.setVm vm') rfl XV
      subst hn1
      exact ⟨t2, st.trans (st2.trans a1), b1⟩
    · obtain ⟨r2, rest2, hr2, hcv2, hl2, hz2, hn2⟩ := hrow hY
      obtain ⟨c3, c4, hc3, hc4, hasg⟩ := Cond.castable_spec (va_Nw.use (A := args) rfl (hE.1.2.1 _ tn_499 rfl))
      cases g3.symm.trans hc3
      obtain ⟨ca, cb, h1, h2, h3⟩ := hE.2
      cases g3.symm.trans h1
      obtain ⟨vm', XV, st2⟩ := xc_second X' hown (g := { F0 m pc ls st0 with stack := rest }) rfl (by rw [e1]; exact g1) g2 (htab.trans (by rw [hr2])) hc1 hz1 (hts _ hl1) h2 h3 hcv2 hz2 (hts _ hl2) hc4 hasg
      obtain ⟨t2, a1, b1⟩ := k2 hY x u T'.heap (locs ++ Lx) hu hI2 hd (T'.setVm vm') rfl XV
      subst hn2
      exact ⟨t2, st.trans (st2.trans a1), b1⟩
end TRY
