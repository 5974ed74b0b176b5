/-! THE CLAIM OUT OF ONE WALK OF THE LAW'S BODY. Your part is whole_start (and what it stands on); all else here is the same for every law, but numbers. -/
def R_law : String := "TelecontrolPostLaw"
def lw_P (b : Addr) (xs : List Int32) (args : Array Value) (s : State) : Prop := args = #[.ref b] ∧ s.IntsAt b xs ∧ xs.length ≤ 2561 ∧ (Jvm.Cond.and given_1 narrow_1).before args s = true
def lw_Q (_ : Array Value) (s : State) (o : Outcome) (t : State) : Prop := o = .returned (some (.int 1)) ∧ Framed s o t [] 601024 7293000
def lw_Z (below : List Frame) (a : Array Value) (s : State) : State → Prop := fun t => ∃ o, t.status = .running ∧ Ended t below o ∧ lw_Q a s o t
/-- the law's own end, with 1 on the stack, nothing written that was there before, its room as the claim has it -/
theorem lw_ret {p : Program} {l : Launch} {e : Env} {s : State} {m : MethodId} {below : List Frame} {meth : Method} {c : Code} {b : Nat} (hx : p.tables.exec = Jvm.exec) (hb : c.code = code) (hr : meth.sig.returnType = ret) (hlocks : meth.locks = false) {pc : Nat} {H : Heap} {ls : Array Slot} (hdg : decode code pc = .ok (.ireturn, 1)) : W p l e room_1 s m #[Value.ref b] below meth c H [] 601024 7293000 (lw_Z below #[Value.ref b] s) (F0 m pc ls [.int 1]) := by
  intro T hT X
  obtain ⟨fs, hret, hrun, hended, hW, hframe⟩ := X.leave (v := some (.int 1)) (hlocks := hlocks) (fun h => by rw [hr] at h; cases h)
  have hmeth' : T.vm.method? m = some meth := X.method'
  refine ⟨T.setFrames fs, ?_, .returned (some (.int 1)), hrun, hended, rfl, ⟨_, rfl⟩, hW, hframe⟩
  jvm_step X.here [X.here.top, hx, hb, hdg, hmeth', hr, ret, narrow_b1]
  (try refine ⟨rfl, ?_⟩); (try refine ⟨rfl, ?_⟩)
  first | (intro acts; rw [hret _ acts rfl rfl rfl]) | rw [hret _ _ rfl rfl rfl]
  exact Steps.refl _
/-- what holds at the law's entry: the machine, the code, the tables' words (any of lw_tbl by 'hts w (by decide +kernel)'), the script of L ints xs at the cell b, what the Statement gives of the start (any of its parts by flat_of_before) -/
def lw_At (p : Program) (s : State) (m : MethodId) (meth : Method) (c : Code) (b L : Nat) (xs : Nat → Int32) : Prop :=
  p.tables.exec = Jvm.exec ∧ c.code = code ∧ meth.sig.returnType = ret ∧ c.maxLocals = 8 ∧ s.vm.findClass R_law = some m.cls ∧ (∀ w ∈ lw_tbl, w.before #[Value.ref b] s = true) ∧ va_X b L xs s s.heap ∧ b < s.heap.size ∧ meth.locks = false ∧ (Jvm.Cond.and given_1 narrow_1).before #[Value.ref b] s = true
theorem lp_in {L k : Nat} (hL : L ≤ 2561) (hk : k ≤ 2566) (h : ¬ (Int32.ofNat L - 5 < nI k)) : k + 5 ≤ L := by
  have a : ¬ (Int32.ofNat L - 5).toInt < (nI k).toInt := fun q => h (Int32.lt_iff_toInt_lt.mpr q)
  rw [nI_toInt (by omega), Int32.toInt_sub, show (Int32.ofNat L).toInt = (L : Int) from nI_toInt (by omega), show (5 : Int32).toInt = 5 from rfl] at a
  rw [Int.bmod_eq_of_le (by omega) (by omega)] at a
  omega
set_option maxRecDepth 100000 in
set_option maxHeartbeats 4000000 in
theorem lp_33 {p : Program} {l : Launch} {e : Env} {s : State} {m : MethodId} {below : List Frame} {meth : Method} {c : Code} {D : va_G} {ca : Nat → ClassId} {b L : Nat} {xs : Nat → Int32} {o hP : Nat} {ad : Nat → Nat} {M : List Nat} (hx : p.tables.exec = Jvm.exec) (hb : c.code = code) (hml : c.maxLocals = 8) (hown : s.vm.findClass R_La = some m.cls) (hts : ∀ w ∈ wg, w.before #[Value.ref b] s = true) (hX : va_X b L xs s s.heap) (hbl : b < s.heap.size) (hE : ek3 (fun q => s.heap.size ≤ q) s) (hfl : l.flags = Jvm.pinnedFlags ++ [Jvm.noTraceFlag]) (hL : L ≤ 2561) (hr : meth.sig.returnType = ret) (hlk : meth.locks = false) : ∀ (N j : Nat) (H : Heap) (locs : List Loc) (Q1 : List Nat) (f : Nat → va_E) (g : List (Int32 × Int32)) (σ : mq_S) (ls : Array Slot), 513 - j ≤ N → j ≤ 512 → LI D ca (fun q => s.heap.size ≤ q) s H locs o hP ad M Q1 f g σ → IQ j σ → RR g σ → lv_has ls 8 [(4, .int (nI (1 + 5 * j))), (3, .ref o), (2, .ref (ad 71)), (1, .ref hP), (0, .ref b)] → W p l e room_1 s m #[Value.ref b] below meth c H locs (521 + 16 * j) (52902 + 4144 * j) (lw_Z below #[Value.ref b] s) (F0 m 33 ls []) := by
  intro N
  induction N with
  | zero => intros; omega
  | succ N ih =>
    intro j H locs Q1 f g σ ls hN hj hLI hq hR hl
    refine lv_iload hx hb d_law_33 (lv_at hl 0 rfl) ?_
    refine lv_aload_n hx hb d_law_35 rfl (lv_at hl 4 rfl) ?_
    refine va_slen hx hb hX hbl (Nat.not_le.mpr hbl) hLI.1.2.2.1 d_law_36 ?_
    refine lv_iconst (v := 5) hx hb d_law_37 (by decide) ?_
    refine lv_isub hx hb d_law_38 ?_
    refine lv_icmp_gt (tgt := 779) hx hb d_law_39 (by decide) (fun c1 => ?_) (fun c1 => ?_)
    · refine lv_iconst (v := 1) hx hb d_law_779 (by decide) ?_
      refine va_forget (fun q hq => hLI.1.2.2.1.2.2 q hq) ?_
      refine W.widen (k := 601024) (n := 7293000) (by omega) (by omega) ?_
      exact lw_ret hx hb hr hlk d_law_780
    · have hk : (1 + 5 * j) + 5 ≤ L := lp_in hL (by omega) c1
      have hnext : ∀ (H : Heap) (locs : List Loc) (Q1 : List Nat) (f : Nat → va_E) (g : List (Int32 × Int32)) (σ : mq_S) (ls : Array Slot), LI D ca (fun q => s.heap.size ≤ q) s H locs o hP ad M Q1 f g σ → IQ (j + 1) σ → RR g σ → lv_has ls 8 [(4, .int (nI (1 + 5 * j))), (3, .ref o), (2, .ref (ad 71)), (1, .ref hP), (0, .ref b)] → W p l e room_1 s m #[Value.ref b] below meth c H locs ((521 + 16 * j) + 16) ((52902 + 4144 * j) + 4144) (lw_Z below #[Value.ref b] s) (F0 m 773 ls []) := by
        intro H locs Q1 f g σ ls hLI hq hR hl
        refine lv_iinc (v := nI (1 + 5 * (j + 1))) (lv' := [(4, .int (nI (1 + 5 * (j + 1)))), (3, .ref o), (2, .ref (ad 71)), (1, .ref hP), (0, .ref b)]) hx hb d_law_773 hl (k := 0) rfl (by rw [show Int32.ofInt 5 = nI 5 from rfl, nI_add]; congr 1) (by decide) rfl (fun ls hl => ?_)
        refine lv_goto (tgt := 33) hx hb d_law_776 (by decide) ?_
        refine W.widen (k := 521 + 16 * (j + 1)) (n := 52902 + 4144 * (j + 1)) (by omega) (by omega) ?_
        exact ih (j + 1) H locs Q1 f g σ ls (by omega) (by omega) hLI hq hR hl
      refine lv_aload_n hx hb d_law_42 rfl (lv_at hl 4 rfl) ?_
      refine lv_iload hx hb d_law_43 (lv_at hl 0 rfl) ?_
      refine va_sld hx hb hX hbl (Nat.not_le.mpr hbl) hLI.1.2.2.1 (vp_in_nI (by omega) (by omega)) d_law_45 ?_
      refine lv_bipush (v := 15) hx hb d_law_46 (by decide) ?_
      refine lv_iand hx hb d_law_48 ?_
      refine lv_topi (fun x e => ?_)
      by_cases c_0 : x.toInt = 0
      · refine lv_tableIn (off := 71) (tgt := 120) hx hb d_law_49 (by omega) (by omega) (by rw [c_0]; rfl) (by decide) ?_
        exact lt_point hx hb hml hown hts hX hbl hE hfl hL hk hj (by omega) (by omega) hLI hq hR hl hnext
      by_cases c_1 : x.toInt = 1
      · refine lv_tableIn (off := 151) (tgt := 200) hx hb d_law_49 (by omega) (by omega) (by rw [c_1]; rfl) (by decide) ?_
        exact lt_serial hx hb hml hown hts hX hbl hE hfl hL hk hj (by omega) (by omega) hLI hq hR hl hnext
      by_cases c_2 : x.toInt = 2
      · refine lv_tableIn (off := 212) (tgt := 261) hx hb d_law_49 (by omega) (by omega) (by rw [c_2]; rfl) (by decide) ?_
        exact lt_change hx hb hml hown hts hX hbl hE hfl hL hk hj (by omega) (by omega) hLI hq hR hl hnext
      by_cases c_3 : x.toInt = 3
      · refine lv_tableIn (off := 300) (tgt := 349) hx hb d_law_49 (by omega) (by omega) (by rw [c_3]; rfl) (by decide) ?_
        exact lt_clock hx hb hml hown hts hX hbl hE hfl hL hk hj (by omega) (by omega) hLI hq hR hl hnext
      by_cases c_4 : x.toInt = 4
      · refine lv_tableIn (off := 357) (tgt := 406) hx hb d_law_49 (by omega) (by omega) (by rw [c_4]; rfl) (by decide) ?_
        exact lt_advance hx hb hml hown hts hX hbl hE hfl hL hk hj (by omega) (by omega) hLI hq hR hl hnext
      by_cases c_5 : x.toInt = 5
      · refine lv_tableIn (off := 385) (tgt := 434) hx hb d_law_49 (by omega) (by omega) (by rw [c_5]; rfl) (by decide) ?_
        exact lt_open hx hb hml hown hts hX hbl hE hfl hL hk hj (by omega) (by omega) hLI hq hR hl hnext
      by_cases c_6 : x.toInt = 6
      · refine lv_tableIn (off := 410) (tgt := 459) hx hb d_law_49 (by omega) (by omega) (by rw [c_6]; rfl) (by decide) ?_
        exact lt_close hx hb hml hown hts hX hbl hE hfl hL hk hj (by omega) (by omega) hLI hq hR hl hnext
      by_cases c_7 : x.toInt = 7
      · refine lv_tableIn (off := 435) (tgt := 484) hx hb d_law_49 (by omega) (by omega) (by rw [c_7]; rfl) (by decide) ?_
        exact lt_receive hx hb hml hown hts hX hbl hE hfl hL hk hj (by omega) (by omega) hLI hq hR hl hnext
      by_cases c_8 : x.toInt = 8
      · refine lv_tableIn (off := 519) (tgt := 568) hx hb d_law_49 (by omega) (by omega) (by rw [c_8]; rfl) (by decide) ?_
        exact lt_take hx hb hml hown hts hX hbl hE hfl hL hk hj (by omega) (by omega) hLI hq hR hl hnext
      by_cases c_9 : x.toInt = 9
      · refine lv_tableIn (off := 547) (tgt := 596) hx hb d_law_49 (by omega) (by omega) (by rw [c_9]; rfl) (by decide) ?_
        exact lt_done hx hb hml hown hts hX hbl hE hfl hL hk hj (by omega) (by omega) hLI hq hR hl hnext
      by_cases c_10 : x.toInt = 10
      · refine lv_tableIn (off := 603) (tgt := 652) hx hb d_law_49 (by omega) (by omega) (by rw [c_10]; rfl) (by decide) ?_
        exact lt_operation hx hb hml hown hts hX hbl hE hfl hL hk hj (by omega) (by omega) hLI hq hR hl hnext
      by_cases c_11 : x.toInt = 11
      · refine lv_tableIn (off := 643) (tgt := 692) hx hb d_law_49 (by omega) (by omega) (by rw [c_11]; rfl) (by decide) ?_
        exact lt_look hx hb hml hown hts hX hbl hE hfl hL hk hj (by omega) (by omega) hLI hq hR hl hnext
      by_cases c_12 : x.toInt = 12
      · refine lv_tableIn (off := 683) (tgt := 732) hx hb d_law_49 (by omega) (by omega) (by rw [c_12]; rfl) (by decide) ?_
        exact lt_count hx hb hml hown hts hX hbl hE hfl hL hk hj (by omega) (by omega) hLI hq hR hl hnext
      by_cases c_13 : x.toInt = 13
      · refine lv_tableIn (off := 711) (tgt := 760) hx hb d_law_49 (by omega) (by omega) (by rw [c_13]; rfl) (by decide) ?_
        exact lt_time hx hb hml hown hts hX hbl hE hfl hL hk hj (by omega) (by omega) hLI hq hR hl hnext
      refine lv_tableOut (tgt := 773) hx hb d_law_49 (by omega) (by decide) ?_
      refine W.widen (k := (521 + 16 * j) + 16) (n := (52902 + 4144 * j) + 4144) (by omega) (by omega) ?_
      exact hnext H locs Q1 f g σ ls hLI (iq_s hq) hR hl
