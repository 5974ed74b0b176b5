/-! what every method finds beside its store: links within the nest, constants, static tables; and how a method begins and ends -/
def ek_nest : Cond → Bool
  | .fieldLinkNest .. => true
  | .methodLinkNest .. => true
  | .declares .. => true
  | _ => false
theorem ek_nestW {w : Cond} (h : ek_nest w = true) {s U : State} (hW : s.WarmedH U.vm) (hZ : va_Nw w s) : va_Nw w U := by
  cases w <;> first | exact va_Nw.warmF hW hZ | exact va_Nw.warmM hW hZ | exact va_Nw.warmD hW hZ | (exact absurd h (by decide)) | (cases h)
theorem ek_nestS {w : Cond} (h : ek_nest w = true) {s U : State} (hv : s.vm = U.vm) (hZ : va_Nw w s) : va_Nw w U := by
  refine va_Nw.same ?_ hv hZ
  cases w <;> first | rfl | (cases h)
abbrev st_n (i : Nat) : String := ["TYPES", "TIMED_TYPES", "LEAST_VALUES", "GREATEST_VALUES", "OBJECT_BYTES", "MONTH_DAYS"].getD i ""
abbrev st_v (i : Nat) : List Int32 := ([[1, 3, 5, 9, 11, 13, 15], [30, 31, 32, 34, 35, 36, 37], [0, 0, -64, -32768, -32768, -2147483648, -2147483648], [1, 3, 63, 32767, 32767, 2147483647, 2147483647], [1, 1, 2, 3, 3, 5, 5], [31, 28, 31, 30, 31, 30, 31, 31, 30, 31, 30, 31]] : List (List Int32)).getD i []
abbrev ek_tb (i : Nat) (A : Nat → Prop) (U : State) (H : Heap) : Prop := ∃ t : Nat, va_Z R_Po (st_n i) "[I" (.ref t) A U H ∧ va_T .int t (st_v i).length (fun j => .int ((st_v i).getD j 0)) A U H
def ek (A : Nat → Prop) (U : State) : Prop :=
  (∀ w ∈ lw_tbl, ek_nest w = true → va_Nw w U) ∧ (∀ (own : String) (k : Nat) (tx : String), Cond.stringRef own k tx ∈ lw_tbl → ∃ q : Nat, vk_R own k tx q U) ∧ (∀ C : String, Cond.arrayOver (.object C) ∈ lw_tbl → va_AO C U) ∧
  (∀ i : Nat, i < 6 → ek_tb i A U U.heap) ∧ va_Zq "java/lang/Throwable" "UNASSIGNED_STACK" "[Ljava/lang/StackTraceElement;" A U U.heap ∧ va_Zq "java/lang/Throwable" "SUPPRESSED_SENTINEL" "Ljava/util/List;" A U U.heap
section EKROWS
variable {s U : State} {A B : Nat → Prop} {H : Heap} {locs : List Loc} {D : va_G} {cl : List vw_C} {tys : List (ClassId × FieldType)} {L : List Nat} {f : Nat → va_E}
theorem ek_move (hW : s.WarmedH U.vm) (hq : ∀ a : Nat, a < s.heap.size → ¬ A a → U.heap[a]? = s.heap[a]?) (hAB : ∀ q, B q → A q) (h : ek A s) : ek B U := by
  obtain ⟨h1, h2, h3, h4, h5, h6⟩ := h
  refine ⟨fun w hw hn => ek_nestW hn hW (h1 w hw hn), fun own k tx hw => ?_, fun C hw => va_AO.moved hW.alike (h3 C hw), fun i hi => ?_, ?_, ?_⟩
  · obtain ⟨q, hq⟩ := h2 own k tx hw
    exact ⟨q, hq.warm hW⟩
  · obtain ⟨t, a, b⟩ := h4 i hi
    exact ⟨t, ((a.kept hq).moved hW.alike).narrow hAB, ((b.kept hq).moved hW.alike).narrow hAB⟩
  · exact ((h5.kept hq).moved hW.alike).narrow hAB
  · exact ((h6.kept hq).moved hW.alike).narrow hAB
theorem ek_same (hv : U.vm = s.vm) (hh : U.heap = s.heap) (h : ek A s) : ek A U := by
  obtain ⟨h1, h2, h3, h4, h5, h6⟩ := h
  have al : s.vm.Alike U.vm := by rw [hv]; exact Vm.Alike.refl _
  refine ⟨fun w hw hn => ek_nestS hn hv.symm (h1 w hw hn), fun own k tx hw => ?_, fun C hw => va_AO.moved al (h3 C hw), fun i hi => ?_, ?_, ?_⟩
  · obtain ⟨q, hq⟩ := h2 own k tx hw
    exact ⟨q, hq.same hv⟩
  · obtain ⟨t, a, b⟩ := h4 i hi
    rw [hh]
    exact ⟨t, a.moved al, b.moved al⟩
  · rw [hh]; exact h5.moved al
  · rw [hh]; exact h6.moved al
theorem ek_call (hI : sw_I D cl tys A s H locs L f) (hE : ek A s) (hU : U.heap = H) (hW : s.WarmedH U.vm) : ek (va_A (va_pl L f) H.size) U :=
  ek_move hW (fun a h1 h2 => by rw [hU]; exact hI.2.2.1.2.1 a h1 h2) (sm_free hI) hE
theorem sm_blind {As : List Value} {sz : Nat} : FrameBlind (va_Pc As (sm_P D cl tys ek L f sz)) := by
  intro a U g mk q
  obtain ⟨q0, q1, qP, qK, qD, qE⟩ := q
  exact ⟨q0, q1, qP, va_K.moved (u := U) (U := U.calling g mk a) (Vm.Alike.refl U.vm) qK, qD, ek_same (s := U) rfl rfl qE⟩
theorem sm_preS (hI : sw_I D cl tys A s H locs L f) (hE : ek A s) {As : List Value} : PreS s H (va_Pc As (sm_P D cl tys ek L f H.size)) As :=
  ⟨sm_blind, fun U hU hW => ⟨rfl, by rw [hU], by rw [hU]; exact hI.1, va_K.moved hW.alike hI.2.2.2.1, hI.2.1.weaken (fun _ _ _ _ => trivial), ek_call hI hE hU hW⟩⟩
theorem sm_preV (hI : sw_I D cl tys A s H locs L f) (hE : ek A s) {As : List Value} {b ci : Nat} {q : vw_C} {fs : List Value} (hb : b ∈ L) (hf : f b = .inr (ci, fs)) (hc : cl[ci]? = some q) : PreV s H q.1 b (va_Pc (.ref b :: As) (sm_P D cl tys ek L f H.size)) As := by
  obtain ⟨i, hi⟩ := sw_at hb hf
  exact ⟨sm_blind, va_recv hI.2.2.2.1 hI.1 hc hi, (sm_preS hI hE).2⟩
end EKROWS
/-- a method's end, by kind: the store that it leaves -/
abbrev sm_Qv (D : va_G) (tys : List (ClassId × FieldType)) (L : List Nat) (f : Nat → va_E) (sz : Nat) (post : sm_S → Prop) := va_Qv post (sm_B D cl_all tys L f sz) (va_A (va_pl L f) sz)
abbrev sm_Qi (D : va_G) (tys : List (ClassId × FieldType)) (L : List Nat) (f : Nat → va_E) (sz : Nat) (post : Int32 → sm_S → Prop) := va_Qi post (sm_B D cl_all tys L f sz) (va_A (va_pl L f) sz)
abbrev sm_Ql (D : va_G) (tys : List (ClassId × FieldType)) (L : List Nat) (f : Nat → va_E) (sz : Nat) (post : Int64 → sm_S → Prop) := va_Ql post (sm_B D cl_all tys L f sz) (va_A (va_pl L f) sz)
abbrev sm_Qq (D : va_G) (tys : List (ClassId × FieldType)) (L : List Nat) (f : Nat → va_E) (sz : Nat) (post : Option Nat → sm_S → Prop) := va_Qq post (sm_B D cl_all tys L f sz) (va_A (va_pl L f) sz)
section SMSTART
variable {l : Launch} {y : MethodName} {cc : ByteArray} {maxL : Nat} {ret : Option FieldType} {rm : Room} {As : List Value} {D : va_G} {tys : List (ClassId × FieldType)} {L : List Nat} {f : Nat → va_E} {sz mc ms : Nat} {Qc : Array Value → State → Outcome → State → Prop}
theorem sm_start (hy : plainName y.cls = true) (hn : (lg_sl As).length ≤ maxL)
    (body : ∀ (p : Program) (e : Env) (s : State) (m : MethodId) (below : List Frame) (meth : Method) (c : Code) (ls : Array Slot), p.tables.exec = Jvm.exec → c.code = cc → c.maxLocals = maxL → meth.sig.returnType = ret → meth.locks = false → meth.name = y.name → (∀ w ∈ wg, w.before As.toArray s = true) → s.vm.findClass y.cls = some m.cls → s.heap.size = sz → ek (va_A (va_pl L f) sz) s →
      sw_I D cl_all tys (va_A (va_pl L f) sz) s s.heap [] L f → lv_has ls maxL (lv_args 0 As) → W p l e rm s m As.toArray below meth c s.heap [] 0 0 (MQ below Qc As.toArray s mc ms (va_A (va_pl L f) sz)) (F0 m 0 ls [])) :
    Met l y (Cond.code y cc maxL ret :: wg) rm (va_Pc As (sm_P D cl_all tys ek L f sz)) Qc mc ms (va_A (va_pl L f) sz) := by
  refine Met.ofW (cc := cc) (maxL := maxL) (ret := ret) hy rfl ?_
  intro p e s m args below meth c s₁ B hml hv
  obtain ⟨rfl, hsz, hP, hK, hD, hE⟩ := hv
  have hts := atoms_spec (ws := Cond.code y cc maxL ret :: wg) B.pre
  rw [lg_entry_eq]
  refine body p e s m below meth c _ B.exec B.bytes hml B.returns B.notSynchronized (name_of_methodNamed B.named B.method).1 (fun w h => hts w (List.mem_cons_of_mem _ h)) (findClass_of_methodNamed B.named) hsz hE ⟨hP, hD.self, va_S.rf, hK, fun q h => Or.inr (by rw [← hsz]; exact h)⟩ (lv_entry As hn)
end SMSTART
section SMEND
variable {p : Program} {l : Launch} {e : Env} {R : Room} {s : State} {m : MethodId} {args : Array Value} {below : List Frame} {meth : Method} {c : Code} {H : Heap} {locs : List Loc} {cells slots : Nat}
variable {cc : ByteArray} {pc : Nat} {ls : Array Slot} {D : va_G} {tys : List (ClassId × FieldType)} {L L1 : List Nat} {f f1 : Nat → va_E} {sz : Nat}
theorem sm_B_of {t : State} (hI : sw_I D cl_all tys (va_A (va_pl L f) sz) s H locs L1 f1) (ht : t.heap = H) (hW : s.WarmedH t.vm) : sm_B D cl_all tys L f sz (L1, f1) t :=
  ⟨by rw [ht]; exact hI.1, va_K.moved hW.alike hI.2.2.2.1, hI.2.1⟩
theorem sm_vret (hx : p.tables.exec = Jvm.exec) (hb : c.code = cc) (hr : meth.sig.returnType = none) (hlocks : meth.locks = false) (hI : sw_I D cl_all tys (va_A (va_pl L f) sz) s H locs L1 f1) {post : sm_S → Prop} (hp : post (L1, f1)) (hdg : decode cc pc = .ok (.return_, 1)) :
    W p l e R s m args below meth c H locs cells slots (MQ below (sm_Qv D tys L f sz post) args s cells slots (va_A (va_pl L f) sz)) (F0 m pc ls []) :=
  W.vret hx hb hr (fun t ht hW => ⟨⟨(L1, f1), rfl, hp, sm_B_of hI ht hW⟩, hI.2.2.1.F ht⟩) hI.2.2.1.2.2 hdg hlocks
theorem sm_iret (hx : p.tables.exec = Jvm.exec) (hb : c.code = cc) (hr : meth.sig.returnType = some .int) (hlocks : meth.locks = false) (hI : sw_I D cl_all tys (va_A (va_pl L f) sz) s H locs L1 f1) {v : Int32} {post : Int32 → sm_S → Prop} (hp : post v (L1, f1)) (hdg : decode cc pc = .ok (.ireturn, 1)) :
    W p l e R s m args below meth c H locs cells slots (MQ below (sm_Qi D tys L f sz post) args s cells slots (va_A (va_pl L f) sz)) (F0 m pc ls [.int v]) :=
  W.iret hx hb hr (fun t ht hW => ⟨⟨v, (L1, f1), rfl, hp, sm_B_of hI ht hW⟩, hI.2.2.1.F ht⟩) hI.2.2.1.2.2 hdg hlocks
theorem sm_zret (hx : p.tables.exec = Jvm.exec) (hb : c.code = cc) (hr : meth.sig.returnType = some .boolean) (hlocks : meth.locks = false) (hI : sw_I D cl_all tys (va_A (va_pl L f) sz) s H locs L1 f1) {v : Int32} (hv : v = 0 ∨ v = 1) {post : Int32 → sm_S → Prop} (hp : post v (L1, f1)) (hdg : decode cc pc = .ok (.ireturn, 1)) :
    W p l e R s m args below meth c H locs cells slots (MQ below (sm_Qi D tys L f sz post) args s cells slots (va_A (va_pl L f) sz)) (F0 m pc ls [.int v]) :=
  W.zret hx hb hr (by rcases hv with rfl | rfl <;> decide) (fun t ht hW => ⟨⟨v, (L1, f1), rfl, hp, sm_B_of hI ht hW⟩, hI.2.2.1.F ht⟩) hI.2.2.1.2.2 hdg hlocks
theorem sm_lret (hx : p.tables.exec = Jvm.exec) (hb : c.code = cc) (hr : meth.sig.returnType = some .long) (hlocks : meth.locks = false) (hI : sw_I D cl_all tys (va_A (va_pl L f) sz) s H locs L1 f1) {v : Int64} {post : Int64 → sm_S → Prop} (hp : post v (L1, f1)) (hdg : decode cc pc = .ok (.lreturn, 1)) :
    W p l e R s m args below meth c H locs cells slots (MQ below (sm_Ql D tys L f sz post) args s cells slots (va_A (va_pl L f) sz)) (F0 m pc ls [.long v]) :=
  W.lret hx hb hr (fun t ht hW => ⟨⟨v, (L1, f1), rfl, hp, sm_B_of hI ht hW⟩, hI.2.2.1.F ht⟩) hI.2.2.1.2.2 hdg hlocks
theorem sm_qret (hx : p.tables.exec = Jvm.exec) (hb : c.code = cc) {rt : FieldType} (hr : meth.sig.returnType = some rt) (hrt : (∃ n, rt = .object n) ∨ ∃ t, rt = .array t) (hlocks : meth.locks = false) (hI : sw_I D cl_all tys (va_A (va_pl L f) sz) s H locs L1 f1) {v : Option Nat} {post : Option Nat → sm_S → Prop} (hp : post v (L1, f1)) (hdg : decode cc pc = .ok (.areturn, 1)) :
    W p l e R s m args below meth c H locs cells slots (MQ below (sm_Qq D tys L f sz post) args s cells slots (va_A (va_pl L f) sz)) (F0 m pc ls [va_rf v]) :=
  W.aret hx hb hr hrt (va_rf_or v) (fun t ht hW => ⟨⟨v, (L1, f1), rfl, hp, sm_B_of hI ht hW⟩, hI.2.2.1.F ht⟩) hI.2.2.1.2.2 hdg hlocks
end SMEND
