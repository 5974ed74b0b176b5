/-! from the entry to the end, and the claim -/
theorem ce_blind {b L : Nat} {xs : Nat → Int32} : FrameBlind (va_Pc [.ref b, .int 0] (fun U => va_X b L xs U U.heap)) := by
  intro a U g mk q
  exact ⟨q.1, va_X.moved (u := U) (U := U.calling g mk a) (Vm.Alike.refl U.vm) q.2⟩
set_option maxRecDepth 100000 in
set_option maxHeartbeats 8000000 in
/-- from the entry, for every script of at most 2561 ints, the law comes to its end with true -/
theorem whole_start {p : Program} {e : Env} {s : State} {m : MethodId} {below : List Frame} {meth : Method} {c : Code} (l : Launch) (hfl : l.flags = Jvm.pinnedFlags ++ [Jvm.noTraceFlag]) {b L : Nat} {xs : Nat → Int32} (hL : L ≤ 2561) (C0 : lw_At p s m meth c b L xs) : W p l e room_1 s m #[Value.ref b] below meth c s.heap [] 0 0 (lw_Z below #[Value.ref b] s) (entryFrame m ([Value.ref b] : List Value).toArray 8) := by
  obtain ⟨hx, hb, hr, hml, hown, htl, hX, hbl, hlk, hgv⟩ := C0
  have hown : s.vm.findClass R_La = some m.cls := hown
  have hts := le_wg htl
  have hE := le_ek htl hgv
  obtain ⟨D, ca, hK⟩ := le_K htl
  have hbA : ¬ (fun q => s.heap.size ≤ q) b := Nat.not_le.mpr hbl
  rw [lg_entry_eq]
  obtain ⟨ls, hls, hl⟩ : ∃ ls : Array Slot, ls = ((lg_sl [Value.ref b] ++ List.replicate (8 - (lg_sl [Value.ref b]).length) Slot.unset).toArray) ∧ lv_has ls 8 [(0, .ref b)] := ⟨_, rfl, lv_entry [.ref b] (Nat.le_of_ble_eq_true rfl)⟩
  rw [← hls]
  obtain ⟨f, hf0⟩ : ∃ f : Nat → va_E, f = fun _ => .inr (0, []) := ⟨_, rfl⟩
  have hI : sw_I D cl_all (ty_s ca) (fun q => s.heap.size ≤ q) s s.heap [] [] f := ⟨fun k q h => by simp [va_pl] at h, ⟨fun i j p q h => by simp [va_pl] at h, fun k q h => by simp [va_pl] at h⟩, va_S.rf, hK, fun q h => h⟩
  refine ra_new (ci := 0) (C := R_Po) (T := F_Po) (N := 15) (fs := [.int 0, .null, .int 0, .null, .null, .null, .null, .int 0, .int 0, .long 0, .int 0, .long 0, .null, .null, .null]) hx hb hts in_Po t_Po t_Po_ok hown (hts _ tw_20) (hts _ tw_21) (hts _ tw_1) hI rfl (by decide) (Nat.le_of_ble_eq_true rfl) (Nat.le_of_ble_eq_true rfl) d_law_0 (fun hP H f hq_hP hI e_hP hk_hP => ?_)
  refine lv_dup hx hb d_law_3 rfl ?_
  refine lv_aload_n hx hb d_law_4 rfl (lv_at hl 0 rfl) ?_
  refine lv_iconst (v := 0) hx hb d_law_5 (by decide) ?_
  have hp_ra : PreS s H (va_Pc [.ref b, .int 0] (fun U => va_X b L xs U U.heap)) [.ref b, .int 0] := ⟨ce_blind, fun U hU hW => ⟨rfl, by show va_X b L xs U U.heap; rw [hU]; exact va_X.kept (va_X.moved hW.alike hX) (hI.2.2.1.2.1 b hbl hbA)⟩⟩
  refine va_calli (va_runS (As := [.ref b, .int 0]) (rest := [.ref hP, .ref hP]) ⟨hx, hb, hml, hown, hts⟩ (c_La_cell l b L xs hL) ⟨callB_of 2 hts (wg_in0 tw_414) rfl rfl rfl (hts _ tw_0) (hts _ tw_412) (by decide +kernel) ⟨Nat.le_of_ble_eq_true rfl, Nat.le_of_ble_eq_true rfl⟩, hts _ tw_413⟩ hp_ra rfl rfl hl.1 rfl (lv_room (Nat.le_of_ble_eq_true rfl)) d_law_6 ⟨Nat.le_of_ble_eq_true rfl, Nat.le_of_ble_eq_true rfl⟩) hI.2.2.1 (fun q _ h => h.elim) (fun q h => h.elim) (fun ra u t H1 locs1 ht al hp hB hsz hk hS => ?_)
  have hI := sw_keep hI (fun q hq => hk q hq (fun h => h)) hS
  clear hp_ra ht al hp hB hsz hk hS
  have hT : ok_T ca (fun _ => none) [] f := fun b ty h => by cases h
  refine sm_vK (L := []) (K := [hP]) (ty := ty_po []) hI hT (va_runI (As := [.int ra]) (rest := [.ref hP]) ⟨hx, hb, hml, hown, hts⟩ (c_Po_init l D ca _ _ hP e_hP ra) (ki_Po_init hts rfl rfl (hts _ tw_22) ⟨Nat.le_of_ble_eq_true rfl, Nat.le_of_ble_eq_true rfl⟩) (sd_preS (L := []) hI hE.1.1) rfl rfl hl.1 rfl (lv_room (Nat.le_of_ble_eq_true rfl)) d_law_9 ⟨Nat.le_of_ble_eq_true rfl, Nat.le_of_ble_eq_true rfl⟩) (fun T L1 H locs f hle hI hT tP hko => ?_)
  refine lv_astore_n (lv' := [(1, .ref hP), (0, .ref b)]) hx hb d_law_12 rfl hl (by decide) rfl (fun ls hl => ?_)
  refine ra_new (ci := 11) (C := R_Mo) (T := F_Mo) (N := 71) (fs := [.int 0, .int 0, .int 0, .null, .null, .null, .null, .null, .null, .int 0, .long 0, .int 0, .long 0, .null, .null, .null, .null, .null, .null, .null, .null, .null, .null, .null, .null, .null, .null, .null, .null, .null, .null, .null, .null, .null, .null, .int 0, .int 0, .int 0, .int 0, .int 0, .int 0, .null, .int 0, .int 0, .int 0, .null, .null, .null, .null, .null, .null, .null, .null, .int 0, .int 0, .int 0, .int 0, .null, .null, .null, .null, .null, .null, .null, .null, .int 0, .int 0, .long 0, .null, .null, .int 0]) hx hb hts in_Mo t_Mo t_Mo_ok hown (hts _ tw_1162) (hts _ tw_1163) (hts _ tw_12) hI rfl (by decide) (Nat.le_of_ble_eq_true rfl) (Nat.le_of_ble_eq_true rfl) d_law_13 (fun hM H f hq_hM hI e_hM hk_hM => ?_)
  have hT := ok_psl hT hq_hM hk_hM
  refine lv_dup hx hb d_law_16 rfl ?_
  refine lv_aload_n hx hb d_law_17 rfl (lv_at hl 1 rfl) ?_
  refine lv_iconst (v := 0) hx hb d_law_18 (by decide) ?_
  have hp_rb : PreS s H (va_Pc [.ref b, .int 0] (fun U => va_X b L xs U U.heap)) [.ref b, .int 0] := ⟨ce_blind, fun U hU hW => ⟨rfl, by show va_X b L xs U U.heap; rw [hU]; exact va_X.kept (va_X.moved hW.alike hX) (hI.2.2.1.2.1 b hbl hbA)⟩⟩
  refine va_calli (va_runS (As := [.ref b, .int 0]) (rest := [.ref hM, .ref hM]) ⟨hx, hb, hml, hown, hts⟩ (c_La_cell l b L xs hL) ⟨callB_of 2 hts (wg_in0 tw_414) rfl rfl rfl (hts _ tw_0) (hts _ tw_412) (by decide +kernel) ⟨Nat.le_of_ble_eq_true rfl, Nat.le_of_ble_eq_true rfl⟩, hts _ tw_413⟩ hp_rb rfl rfl hl.1 rfl (lv_room (Nat.le_of_ble_eq_true rfl)) d_law_19 ⟨Nat.le_of_ble_eq_true rfl, Nat.le_of_ble_eq_true rfl⟩) hI.2.2.1 (fun q _ h => h.elim) (fun q h => h.elim) (fun rb u t H1 locs1 ht al hp hB hsz hk hS => ?_)
  have hI := sw_keep hI (fun q hq => hk q hq (fun h => h)) hS
  clear hp_rb ht al hp hB hsz hk hS
  refine sd_callv (L := L1) (K := [hM]) hI (va_runI (As := [.int rb]) (rest := [.ref hM]) ⟨hx, hb, hml, hown, hts⟩ (c_Mo_init l D ca _ _ hM e_hM rb) (ki_Mo_init hts rfl rfl (hts _ tw_1164) ⟨Nat.le_of_ble_eq_true rfl, Nat.le_of_ble_eq_true rfl⟩) (sd_preS (L := L1) hI hE.1.1) rfl rfl hl.1 rfl (lv_room (Nat.le_of_ble_eq_true rfl)) d_law_22 ⟨Nat.le_of_ble_eq_true rfl, Nat.le_of_ble_eq_true rfl⟩) (fun u H locs hp hI hd => ?_)
  obtain ⟨ad, σ, hB, had, hih, hbi, hsi, h56, h2⟩ := hp
  refine lv_astore_n (lv' := [(2, .ref hM), (1, .ref hP), (0, .ref b)]) hx hb d_law_25 rfl hl (by decide) rfl (fun ls hl => ?_)
  refine lv_iconst (v := 1) hx hb d_law_26 (by decide) ?_
  refine ra_newa (atype := .long) (ty := .long) (N' := 1) (a0 := (1, .inr (.inl (fun _ => 0)))) hx hb (hts _ tw_327) rfl hI 1 rfl (fun _ => rfl) (by decide) (by decide) (by decide) (Nat.le_of_ble_eq_true rfl) (Nat.le_of_ble_eq_true rfl) d_law_27 (fun o H f2 hq_o hI e_o hk_o => ?_)
  refine lv_astore_n (lv' := [(3, .ref o), (2, .ref hM), (1, .ref hP), (0, .ref b)]) hx hb d_law_29 rfl hl (by decide) rfl (fun ls hl => ?_)
  refine lv_iconst (v := 1) hx hb d_law_30 (by decide) ?_
  refine lv_istore (lv' := [(4, .int 1), (3, .ref o), (2, .ref hM), (1, .ref hP), (0, .ref b)]) hx hb d_law_31 hl (by decide) rfl (fun ls hl => ?_)
  have hl : lv_has ls 8 [(4, .int (nI (1 + 5 * 0))), (3, .ref o), (2, .ref (ad 71)), (1, .ref hP), (0, .ref b)] := by rw [had]; exact hl
  have hoL : o ∉ L1 := fun h => hq_o (List.mem_append_left _ h)
  have hoM : o ∉ u.1 := fun h => hq_o (List.mem_append_right _ h)
  have hLI : LI D ca (fun q => s.heap.size ≤ q) s H locs o hP ad u.1 L1 f2 [] σ := by
    refine ⟨?_, ⟨hoL, ⟨_, e_o⟩, T, [], ok_cg hT (fun a ha => (hk_o a (fun z => hoL (z ▸ ha))).trans (sd_l ha)), tP, rfl⟩, mq_cg hB (fun a ha => (hk_o a (fun z => hoM (z ▸ ha))).trans (sd_r (hd a ha)))⟩
    have h9 : sw_I D cl_all (ty_s ca) (fun q => s.heap.size ≤ q) s H locs ((o :: L1) ++ u.1) f2 := sw_swap (L := L1 ++ u.1) (K := [o]) hI
    exact sw_swap h9
  refine W.widen (k := 521 + 16 * 0) (n := 52902 + 4144 * 0) (by decide) (by decide) ?_
  exact lp_33 hx hb hml hown hts hX hbl hE hfl hL hr hlk 513 0 H locs L1 f2 [] σ ls (by omega) (by omega) hLI ⟨hih, hbi, hsi, 0, Nat.le_refl _, h56⟩ (RR_0 h2) hl
set_option maxHeartbeats 4000000 in
theorem lw_walk (l : Launch) (hfl : l.flags = Jvm.pinnedFlags ++ [Jvm.noTraceFlag]) (b : Addr) (xs : List Int32) : MetFree l x (headSpec (Jvm.Cond.code x code maxLocals ret :: tables_1) room_1) (lw_P b xs) (fun _ _ _ _ _ => True) lw_Q := by
  refine MetFree.of_bodyS (code := code) (maxLocals := maxLocals) (ret := ret) (by decide) ?_ ?_
  · intro args s m h hn
    obtain ⟨meth, c, h1, h2, h3, h4, h5, h6, -, -⟩ := Cond.code_spec hn (atoms_spec (ws := Jvm.Cond.code x code maxLocals ret :: tables_1) h _ List.mem_cons_self)
    exact ⟨meth, c, h1, h2, h3, h4, h5, h6⟩
  · intro p e s m args below meth c s₁ B hml0 hP _
    obtain ⟨rfl, hx, hbd, hgv⟩ := hP
    obtain ⟨scr, harrAt, hlist, hof, hsmall⟩ := hx
    obtain ⟨hcb, hkn, -, -⟩ := State.arrayAt?_spec harrAt
    have hown : s.vm.findClass R_law = some m.cls := findClass_of_methodNamed B.named
    have hts0 : ∀ c ∈ (Jvm.Cond.code x code maxLocals ret :: tables_1), c.before #[Value.ref b] s = true := atoms_spec (ws := Jvm.Cond.code x code maxLocals ret :: tables_1) B.pre
    have hts : ∀ w ∈ lw_tbl, w.before #[Value.ref b] s = true := k2_hts_sels lw_privs (fun w hw => hts0 w (List.mem_cons_of_mem _ hw)) lw_privs_ok
    have hml : c.maxLocals = 8 := B.maxLocals_eq (hts0 _ List.mem_cons_self)
    have X₀ : Stand p l e room_1 s m #[Value.ref b] below meth c s₁ [] 0 0 := Stand.of_body B
    have hh0 : s₁.heap = s.heap := by rw [B.state]; rfl
    have hsz : scr.slots.size = xs.length := by rw [← Array.length_toList, hlist, List.length_map]
    have hval : ∀ j : Nat, j < xs.length → scr.slots[j]? = some (.int (xs.getD j 0)) := fun j hj => by
      rw [← Array.getElem?_toList, hlist]
      simp [hj]
    have hbl : b < s.heap.size := (Array.getElem?_eq_some_iff.mp hcb).1
    have hX : va_X b xs.length (fun j => xs.getD j 0) s s.heap := ⟨scr, hcb, hof, hkn, hsz, hval⟩
    have K : W p l e room_1 s m #[Value.ref b] below meth c s₁.heap [] 0 0 (lw_Z below #[Value.ref b] s) (entryFrame m ([Value.ref b] : List Value).toArray 8) := by
      rw [hh0]
      exact whole_start l hfl hbd ⟨B.exec, B.bytes, B.returns, hml, hown, hts, hX, hbl, B.notSynchronized, hgv⟩
    obtain ⟨t, a1, o, b1, b2, b3⟩ := K s₁ rfl X₀
    exact ⟨t, o, a1, b1, b2, b3⟩
theorem lw_pre_spec {args : Array Value} {s : State} (h : (Jvm.Cond.and given_1 narrow_1).before args s = true) (hr : rest_1_c.before args s = true) : ∃ (b : Addr) (xs : List Int32), lw_P b xs args s := by
  have hs := flat_of_before _ h
  have hq := flat_of_before _ hr
  have hc : (Cond.count 1).before args s = true := hs _ (by decide +kernel)
  have harr : (Cond.arrayOf (.arg 0) .int).before args s = true := hs _ (by decide +kernel)
  have hle : (Cond.le (.length (.arg 0)) (.int 2561)).before args s = true := hs _ (by decide +kernel)
  have hlen : (Cond.isInt (.length (.arg 0))).before args s = true := hq _ (by decide +kernel)
  have hall : (Cond.all (.arg 0) (.isInt (.elem (.arg 0) (.index 0)))).before args s = true := hq _ (by decide +kernel)
  obtain ⟨b, xs, hb, hx⟩ := State.ints_of_pre rfl harr hlen hall
  have hsm : xs.length < 2 ^ 31 := hx.choose_spec.2.2.2
  have hev : (Term.length (.arg 0)).eval args s none [] s = some (.int xs.length.toInt32) := hx.length_eval hb
  have hv := Cond.le_ints hev (show (Term.int 2561).eval args s none [] s = some (.int 2561) from rfl)
  have hd : xs.length.toInt32 ≤ 2561 := by
    simpa [Cond.before, Cond.holds, hv] using hle
  have hN : xs.length ≤ 2561 := (Int32.ofNat_le_ofNat hsm (by decide)).mp (show Int32.ofNat xs.length ≤ Int32.ofNat 2561 from hd)
  exact ⟨b, xs, Cond.one_arg hc (show args[0]? = some (.ref b) from hb), hx, hN, h⟩
theorem lw_comes (l : Launch) (hfl : l.flags = Jvm.pinnedFlags ++ [Jvm.noTraceFlag]) : Comes l x (Jvm.Cond.code x code maxLocals ret :: tables_1) room_1 (fun tb e args s => Calls_1 tb e args s ∧ rest_1 tb e args s ∧ Pre_1 tb e args s)
    (fun _ _ args s o t => lw_Q args s o t) := by
  intro p e ha hc hk s m args below hf hfit hheap happ hpre
  obtain ⟨b, xs, hP⟩ := lw_pre_spec hpre.2.2 hpre.2.1
  obtain ⟨k, o, h1, h2, h3, hQ⟩ := lw_walk l hfl b xs p e ha hc hk s m args below hf ((Spec.applies_iff_loose hf).mp happ).1 hP trivial
  exact ⟨k, o, h1, h2, h3, hQ⟩
theorem lw_frame {s t : State} {o : Outcome} {args : Array Value} (h : Framed s o t [] 601024 7293000) :
    Framed s o t (fieldLocs frame_1_writes args s ++ arrayLocs frame_1_arrays args s ++ staticLocs frame_1_statics s) 601024 7293000 := h
theorem lw_limb (L : Cond) (hL : ∀ (args : Array Value) (s t : State), L.after args s (.returned (some (.int 1))) t = true) :
    ArmFor flags0 classFile x code maxLocals ret World_1 tables_1 room_1 Calls_1 rest_1 Pre_1
      (fun tb e a s o t => postC L tb e a s o t ∧ Framed s o t (fieldLocs frame_1_writes a s ++ arrayLocs frame_1_arrays a s ++ staticLocs frame_1_statics s) 601024 7293000) := by
  intro l hfl _ _ p e ha hc hk s m args below hf hfit hheap happ hpre
  obtain ⟨k, o, h1, h2, h3, rfl, hF⟩ := lw_comes l hfl p e ha hc hk s m args below hf hfit hheap happ hpre
  exact ⟨k, _, h1, h2, h3, hL args s _, lw_frame hF⟩
theorem i_vc : Claimed_1_1 ∧ Claimed_1_2 := ⟨lw_limb limb_1_1 (fun args s t => by simp [limb_1_1, Cond.after, Cond.holds, Cond.value]), lw_limb limb_1_2 (fun args s t => Cond.after_iff.mpr (by
  first | (rw [show limb_1_2 = Cond.eq .result (.int 1) from rfl, Cond.eq_ints (x := 1) (y := 1) rfl rfl]; simp; done) | (simp [limb_1_2, Cond.value, Term.eval]; done)))⟩
