/-! TelecontrolPost: what callers call (written by wip/tools) -/
theorem d_Po_clock_0 : decode b_Po_clock 0 = .ok (.lload_n 1, 1) := by decide +kernel
theorem d_Po_clock_1 : decode b_Po_clock 1 = .ok (.lconst 0, 1) := by decide +kernel
theorem d_Po_clock_2 : decode b_Po_clock 2 = .ok (.lcmp, 1) := by decide +kernel
theorem d_Po_clock_3 : decode b_Po_clock 3 = .ok (.ifCond .lt 11, 3) := by decide +kernel
theorem d_Po_clock_6 : decode b_Po_clock 6 = .ok (.lload_n 1, 1) := by decide +kernel
theorem d_Po_clock_7 : decode b_Po_clock 7 = .ok (.ldc2_w 134, 3) := by decide +kernel
theorem d_Po_clock_10 : decode b_Po_clock 10 = .ok (.lcmp, 1) := by decide +kernel
theorem d_Po_clock_11 : decode b_Po_clock 11 = .ok (.ifCond .le 13, 3) := by decide +kernel
theorem d_Po_clock_14 : decode b_Po_clock 14 = .ok (.new 68, 3) := by decide +kernel
theorem d_Po_clock_17 : decode b_Po_clock 17 = .ok (.dup, 1) := by decide +kernel
theorem d_Po_clock_18 : decode b_Po_clock 18 = .ok (.ldc 136, 2) := by decide +kernel
theorem d_Po_clock_20 : decode b_Po_clock 20 = .ok (.invokespecial 72, 3) := by decide +kernel
theorem d_Po_clock_23 : decode b_Po_clock 23 = .ok (.athrow, 1) := by decide +kernel
theorem d_Po_clock_24 : decode b_Po_clock 24 = .ok (.aload_n 0, 1) := by decide +kernel
theorem d_Po_clock_25 : decode b_Po_clock 25 = .ok (.lload_n 1, 1) := by decide +kernel
theorem d_Po_clock_26 : decode b_Po_clock 26 = .ok (.putfield 138, 3) := by decide +kernel
theorem d_Po_clock_29 : decode b_Po_clock 29 = .ok (.aload_n 0, 1) := by decide +kernel
theorem d_Po_clock_30 : decode b_Po_clock 30 = .ok (.iconst 1, 1) := by decide +kernel
theorem d_Po_clock_31 : decode b_Po_clock 31 = .ok (.putfield 142, 3) := by decide +kernel
theorem d_Po_clock_34 : decode b_Po_clock 34 = .ok (.return_, 1) := by decide +kernel
set_option maxRecDepth 100000 in
set_option maxHeartbeats 4000000 in
theorem c_Po_clock (l : Launch) (D : va_G) (ca : Nat → ClassId) (T : ty_e) (L : List Nat) (f0 : Nat → va_E) (sz : Nat) (hT : ok_T ca T L f0) {g0 : List (Int32 × Int32)} (h0 : Nat) (t0 : T h0 = some (ty_po g0)) (x1 : Int64) (hfl : l.flags = Jvm.pinnedFlags ++ [Jvm.noTraceFlag]) :
    MetO l y_Po_clock (Cond.code y_Po_clock b_Po_clock 3 none :: wg) { frames := 6, cells := 1, slots := 6, locals := 82 } (va_Pc [.ref h0, .long (x1)] (sm_P D cl_all (ty_s ca) ek3 L f0 sz)) (sm_Qv D (ty_s ca) L f0 sz (fun u => (0 ≤ x1 ∧ x1 ≤ 3155759999999) ∧ po_m ca T L u)) (sm_Qt D (ty_s ca) L f0 sz (fun X u => (¬ (0 ≤ x1 ∧ x1 ≤ 3155759999999)) ∧ po_m ca T L u) [xIA]) 1 6 (va_A (va_pl L f0) sz) := by
  refine sm_startO (by decide) (Nat.le_of_ble_eq_true rfl) ?_
  intro p e s m below meth c ls hx hb hml hr hlk hno hts hown hsz hE3 hI hl
  have hE := hE3.1.1
  have hl : lv_has ls 3 [(0, .ref h0), (1, .long (x1))] := hl
  refine lv_lload_n hx hb d_Po_clock_0 rfl (lv_at hl 1 rfl) ?_
  refine lv_lconst (v := 0) hx hb d_Po_clock_1 (by decide) ?_
  refine W.lcmp hx hb d_Po_clock_2 ?_
  refine lv_topi (fun x_1 e_2 => ?_)
  refine lv_if_lt (tgt := 14) hx hb d_Po_clock_3 (by decide) (fun c_3 => ?_) (fun c_3 => ?_)
  · exact sm_thr (k := 136) (n := 20) hx hb hts hown hlk hno hfl hE3 hI (hl.1.trans hml.symm) (by decide) (fun _ _ _ h1 h2 => oa_IA h1 h2) tw_425 tw_426 tw_16 tn_756 ⟨(clk_t1 e_2 c_3), rfl, hT⟩ (by decide) (Nat.le_of_ble_eq_true rfl) (Nat.le_of_ble_eq_true rfl) (Nat.le_of_ble_eq_true rfl) (Nat.le_of_ble_eq_true rfl) (Nat.le_of_ble_eq_true rfl) (Nat.le_of_ble_eq_true rfl) d_Po_clock_14 d_Po_clock_17 (Or.inl ⟨d_Po_clock_18, rfl⟩) d_Po_clock_20 d_Po_clock_23
  · refine lv_lload_n hx hb d_Po_clock_6 rfl (lv_at hl 1 rfl) ?_
    refine lv_ldc2 (v := 3155759999999) hx hb hown (hts _ tw_755) d_Po_clock_7 ?_
    refine W.lcmp hx hb d_Po_clock_10 ?_
    refine lv_topi (fun x_4 e_5 => ?_)
    refine lv_if_le (tgt := 24) hx hb d_Po_clock_11 (by decide) (fun c_6 => ?_) (fun c_6 => ?_)
    · refine lv_aload_n hx hb d_Po_clock_24 rfl (lv_at hl 0 rfl) ?_
      refine lv_lload_n hx hb d_Po_clock_25 rfl (lv_at hl 1 rfl) ?_
      refine fp_Po_clockTime hx hb hts hown hI hT t0 (hts _ tw_371) (fun _ h9 => h9) d_Po_clock_26 (fun H locs f hI hT => ?_)
      refine lv_aload_n hx hb d_Po_clock_29 rfl (lv_at hl 0 rfl) ?_
      refine lv_iconst (v := 1) hx hb d_Po_clock_30 (by decide) ?_
      refine fp_Po_clockSet hx hb hts hown hI hT t0 (hts _ tw_372) (fun _ h9 => h9) (by decide) d_Po_clock_31 (fun H locs f hI hT => ?_)
      refine W.mono (fun _ h => Or.inl h) (W.widen (k := 1) (n := 6) (by decide) (by decide) ?_)
      exact sm_vret hx hb hr hlk hI ⟨(clk_v e_2 c_3 e_5 c_6), rfl, hT⟩ d_Po_clock_34
    · exact sm_thr (k := 136) (n := 20) hx hb hts hown hlk hno hfl hE3 hI (hl.1.trans hml.symm) (by decide) (fun _ _ _ h1 h2 => oa_IA h1 h2) tw_425 tw_426 tw_16 tn_756 ⟨(clk_t2 e_5 c_6), rfl, hT⟩ (by decide) (Nat.le_of_ble_eq_true rfl) (Nat.le_of_ble_eq_true rfl) (Nat.le_of_ble_eq_true rfl) (Nat.le_of_ble_eq_true rfl) (Nat.le_of_ble_eq_true rfl) (Nat.le_of_ble_eq_true rfl) d_Po_clock_14 d_Po_clock_17 (Or.inl ⟨d_Po_clock_18, rfl⟩) d_Po_clock_20 d_Po_clock_23
theorem d_Po_open_0 : decode b_Po_open 0 = .ok (.iload_n 1, 1) := by decide +kernel
theorem d_Po_open_1 : decode b_Po_open 1 = .ok (.ifCond .lt 8, 3) := by decide +kernel
theorem d_Po_open_4 : decode b_Po_open 4 = .ok (.iload_n 1, 1) := by decide +kernel
theorem d_Po_open_5 : decode b_Po_open 5 = .ok (.iconst 3, 1) := by decide +kernel
theorem d_Po_open_6 : decode b_Po_open 6 = .ok (.if_icmp .lt 13, 3) := by decide +kernel
theorem d_Po_open_9 : decode b_Po_open 9 = .ok (.new 68, 3) := by decide +kernel
theorem d_Po_open_12 : decode b_Po_open 12 = .ok (.dup, 1) := by decide +kernel
theorem d_Po_open_13 : decode b_Po_open 13 = .ok (.ldc 157, 2) := by decide +kernel
theorem d_Po_open_15 : decode b_Po_open 15 = .ok (.invokespecial 72, 3) := by decide +kernel
theorem d_Po_open_18 : decode b_Po_open 18 = .ok (.athrow, 1) := by decide +kernel
theorem d_Po_open_19 : decode b_Po_open 19 = .ok (.aload_n 0, 1) := by decide +kernel
theorem d_Po_open_20 : decode b_Po_open 20 = .ok (.getfield 17, 3) := by decide +kernel
theorem d_Po_open_23 : decode b_Po_open 23 = .ok (.iload_n 1, 1) := by decide +kernel
theorem d_Po_open_24 : decode b_Po_open 24 = .ok (.aaload, 1) := by decide +kernel
theorem d_Po_open_25 : decode b_Po_open 25 = .ok (.getfield 150, 3) := by decide +kernel
theorem d_Po_open_28 : decode b_Po_open 28 = .ok (.ifCond .eq 13, 3) := by decide +kernel
theorem d_Po_open_31 : decode b_Po_open 31 = .ok (.new 84, 3) := by decide +kernel
theorem d_Po_open_34 : decode b_Po_open 34 = .ok (.dup, 1) := by decide +kernel
theorem d_Po_open_35 : decode b_Po_open 35 = .ok (.ldc 159, 2) := by decide +kernel
theorem d_Po_open_37 : decode b_Po_open 37 = .ok (.invokespecial 88, 3) := by decide +kernel
theorem d_Po_open_40 : decode b_Po_open 40 = .ok (.athrow, 1) := by decide +kernel
theorem d_Po_open_41 : decode b_Po_open 41 = .ok (.aload_n 0, 1) := by decide +kernel
theorem d_Po_open_42 : decode b_Po_open 42 = .ok (.getfield 17, 3) := by decide +kernel
theorem d_Po_open_45 : decode b_Po_open 45 = .ok (.iload_n 1, 1) := by decide +kernel
theorem d_Po_open_46 : decode b_Po_open 46 = .ok (.aaload, 1) := by decide +kernel
theorem d_Po_open_47 : decode b_Po_open 47 = .ok (.iconst 1, 1) := by decide +kernel
theorem d_Po_open_48 : decode b_Po_open 48 = .ok (.putfield 150, 3) := by decide +kernel
theorem d_Po_open_51 : decode b_Po_open 51 = .ok (.aload_n 0, 1) := by decide +kernel
theorem d_Po_open_52 : decode b_Po_open 52 = .ok (.getfield 17, 3) := by decide +kernel
theorem d_Po_open_55 : decode b_Po_open 55 = .ok (.iload_n 1, 1) := by decide +kernel
theorem d_Po_open_56 : decode b_Po_open 56 = .ok (.aaload, 1) := by decide +kernel
theorem d_Po_open_57 : decode b_Po_open 57 = .ok (.aload_n 0, 1) := by decide +kernel
theorem d_Po_open_58 : decode b_Po_open 58 = .ok (.getfield 147, 3) := by decide +kernel
theorem d_Po_open_61 : decode b_Po_open 61 = .ok (.putfield 161, 3) := by decide +kernel
theorem d_Po_open_64 : decode b_Po_open 64 = .ok (.return_, 1) := by decide +kernel
set_option maxRecDepth 100000 in
set_option maxHeartbeats 4000000 in
theorem c_Po_open (l : Launch) (D : va_G) (ca : Nat → ClassId) (T : ty_e) (L : List Nat) (f0 : Nat → va_E) (sz : Nat) (hT : ok_T ca T L f0) {g0 : List (Int32 × Int32)} (h0 : Nat) (t0 : T h0 = some (ty_po g0)) (x1 : Int32) (hfl : l.flags = Jvm.pinnedFlags ++ [Jvm.noTraceFlag]) :
    MetO l y_Po_open (Cond.code y_Po_open b_Po_open 2 none :: wg) { frames := 6, cells := 1, slots := 6, locals := 82 } (va_Pc [.ref h0, .int (x1)] (sm_P D cl_all (ty_s ca) ek3 L f0 sz)) (sm_Qv D (ty_s ca) L f0 sz (fun u => po_m ca T L u)) (sm_Qt D (ty_s ca) L f0 sz (fun X u => (True) ∧ po_m ca T L u) [xIA, xIS]) 1 6 (va_A (va_pl L f0) sz) := by
  refine sm_startO (by decide) (Nat.le_of_ble_eq_true rfl) ?_
  intro p e s m below meth c ls hx hb hml hr hlk hno hts hown hsz hE3 hI hl
  have hE := hE3.1.1
  have hl : lv_has ls 2 [(0, .ref h0), (1, .int (x1))] := hl
  refine lv_iload_n hx hb d_Po_open_0 rfl (lv_at hl 1 rfl) ?_
  refine lv_if_lt (tgt := 9) hx hb d_Po_open_1 (by decide) (fun c_1 => ?_) (fun c_1 => ?_)
  · exact sm_thr (k := 157) (n := 15) hx hb hts hown hlk hno hfl hE3 hI (hl.1.trans hml.symm) (by decide) (fun _ _ _ h1 h2 => oa_IA h1 h2) tw_425 tw_426 tw_16 tn_810 ⟨trivial, rfl, hT⟩ (by decide) (Nat.le_of_ble_eq_true rfl) (Nat.le_of_ble_eq_true rfl) (Nat.le_of_ble_eq_true rfl) (Nat.le_of_ble_eq_true rfl) (Nat.le_of_ble_eq_true rfl) (Nat.le_of_ble_eq_true rfl) d_Po_open_9 d_Po_open_12 (Or.inl ⟨d_Po_open_13, rfl⟩) d_Po_open_15 d_Po_open_18
  · refine lv_iload_n hx hb d_Po_open_4 rfl (lv_at hl 1 rfl) ?_
    refine lv_iconst (v := 3) hx hb d_Po_open_5 (by decide) ?_
    refine lv_icmp_lt (tgt := 19) hx hb d_Po_open_6 (by decide) (fun c_2 => ?_) (fun c_2 => ?_)
    · obtain ⟨n_3, h_4, rfl⟩ : ∃ n : Nat, n ≤ 2 ∧ x1 = nI n := (nb_lt c_1 c_2)
      refine lv_aload_n hx hb d_Po_open_19 rfl (lv_at hl 0 rfl) ?_
      refine fg_Po_connections hx hb hts hown hI hT t0 (hts _ tw_365) (fun _ h9 => h9) d_Po_open_20 (fun r_5 t_6 => ?_)
      refine lv_iload_n hx hb d_Po_open_23 rfl (lv_at hl 1 rfl) ?_
      refine fa_cns (j := n_3) hx hb hI hT t_6 (by omega) d_Po_open_24 (fun r_7 t_8 => ?_)
      refine fg_Cn_state hx hb hts hown hI hT t_8 (hts _ tw_148) (fun x9 h9 => u_same (hts _ tw_147) x9 h9) d_Po_open_25 (fun x_9 => ?_)
      refine lv_if_eq (tgt := 41) hx hb d_Po_open_28 (by decide) (fun c_10 => ?_) (fun c_10 => ?_)
      · refine lv_aload_n hx hb d_Po_open_41 rfl (lv_at hl 0 rfl) ?_
        refine fg_Po_connections hx hb hts hown hI hT t0 (hts _ tw_365) (fun _ h9 => h9) d_Po_open_42 (fun r_11 t_12 => ?_)
        refine lv_iload_n hx hb d_Po_open_45 rfl (lv_at hl 1 rfl) ?_
        refine fa_cns (j := n_3) hx hb hI hT t_12 (by omega) d_Po_open_46 (fun r_13 t_14 => ?_)
        refine lv_iconst (v := 1) hx hb d_Po_open_47 (by decide) ?_
        refine fp_Cn_state hx hb hts hown hI hT t_14 (hts _ tw_148) (fun x9 h9 => u_same (hts _ tw_147) x9 h9) d_Po_open_48 (fun H locs f hI hT => ?_)
        refine lv_aload_n hx hb d_Po_open_51 rfl (lv_at hl 0 rfl) ?_
        refine fg_Po_connections hx hb hts hown hI hT t0 (hts _ tw_365) (fun _ h9 => h9) d_Po_open_52 (fun r_15 t_16 => ?_)
        refine lv_iload_n hx hb d_Po_open_55 rfl (lv_at hl 1 rfl) ?_
        refine fa_cns (j := n_3) hx hb hI hT t_16 (by omega) d_Po_open_56 (fun r_17 t_18 => ?_)
        refine lv_aload_n hx hb d_Po_open_57 rfl (lv_at hl 0 rfl) ?_
        refine fg_Po_now hx hb hts hown hI hT t0 (hts _ tw_373) (fun _ h9 => h9) d_Po_open_58 (fun x_19 => ?_)
        refine fp_Cn_heardAt hx hb hts hown hI hT t_18 (hts _ tw_163) (fun x9 h9 => u_same (hts _ tw_164) x9 h9) d_Po_open_61 (fun H locs f hI hT => ?_)
        refine W.mono (fun _ h => Or.inl h) (W.widen (k := 1) (n := 6) (by decide) (by decide) ?_)
        exact sm_vret hx hb hr hlk hI ⟨rfl, hT⟩ d_Po_open_64
      · exact sm_thr (k := 159) (n := 37) hx hb hts hown hlk hno hfl hE3 hI (hl.1.trans hml.symm) (by decide) (fun _ _ _ h1 h2 => oa_IS h1 h2) tw_497 tw_498 tw_17 tn_811 ⟨trivial, rfl, hT⟩ (by decide) (Nat.le_of_ble_eq_true rfl) (Nat.le_of_ble_eq_true rfl) (Nat.le_of_ble_eq_true rfl) (Nat.le_of_ble_eq_true rfl) (Nat.le_of_ble_eq_true rfl) (Nat.le_of_ble_eq_true rfl) d_Po_open_31 d_Po_open_34 (Or.inl ⟨d_Po_open_35, rfl⟩) d_Po_open_37 d_Po_open_40
    · exact sm_thr (k := 157) (n := 15) hx hb hts hown hlk hno hfl hE3 hI (hl.1.trans hml.symm) (by decide) (fun _ _ _ h1 h2 => oa_IA h1 h2) tw_425 tw_426 tw_16 tn_810 ⟨trivial, rfl, hT⟩ (by decide) (Nat.le_of_ble_eq_true rfl) (Nat.le_of_ble_eq_true rfl) (Nat.le_of_ble_eq_true rfl) (Nat.le_of_ble_eq_true rfl) (Nat.le_of_ble_eq_true rfl) (Nat.le_of_ble_eq_true rfl) d_Po_open_9 d_Po_open_12 (Or.inl ⟨d_Po_open_13, rfl⟩) d_Po_open_15 d_Po_open_18
theorem d_Po_close_0 : decode b_Po_close 0 = .ok (.iload_n 1, 1) := by decide +kernel
theorem d_Po_close_1 : decode b_Po_close 1 = .ok (.ifCond .lt 8, 3) := by decide +kernel
theorem d_Po_close_4 : decode b_Po_close 4 = .ok (.iload_n 1, 1) := by decide +kernel
theorem d_Po_close_5 : decode b_Po_close 5 = .ok (.iconst 3, 1) := by decide +kernel
theorem d_Po_close_6 : decode b_Po_close 6 = .ok (.if_icmp .lt 13, 3) := by decide +kernel
theorem d_Po_close_9 : decode b_Po_close 9 = .ok (.new 68, 3) := by decide +kernel
theorem d_Po_close_12 : decode b_Po_close 12 = .ok (.dup, 1) := by decide +kernel
theorem d_Po_close_13 : decode b_Po_close 13 = .ok (.ldc 157, 2) := by decide +kernel
theorem d_Po_close_15 : decode b_Po_close 15 = .ok (.invokespecial 72, 3) := by decide +kernel
theorem d_Po_close_18 : decode b_Po_close 18 = .ok (.athrow, 1) := by decide +kernel
theorem d_Po_close_19 : decode b_Po_close 19 = .ok (.aload_n 0, 1) := by decide +kernel
theorem d_Po_close_20 : decode b_Po_close 20 = .ok (.getfield 17, 3) := by decide +kernel
theorem d_Po_close_23 : decode b_Po_close 23 = .ok (.iload_n 1, 1) := by decide +kernel
theorem d_Po_close_24 : decode b_Po_close 24 = .ok (.aaload, 1) := by decide +kernel
theorem d_Po_close_25 : decode b_Po_close 25 = .ok (.getfield 150, 3) := by decide +kernel
theorem d_Po_close_28 : decode b_Po_close 28 = .ok (.ifCond .ne 13, 3) := by decide +kernel
theorem d_Po_close_31 : decode b_Po_close 31 = .ok (.new 84, 3) := by decide +kernel
theorem d_Po_close_34 : decode b_Po_close 34 = .ok (.dup, 1) := by decide +kernel
theorem d_Po_close_35 : decode b_Po_close 35 = .ok (.ldc 164, 2) := by decide +kernel
theorem d_Po_close_37 : decode b_Po_close 37 = .ok (.invokespecial 88, 3) := by decide +kernel
theorem d_Po_close_40 : decode b_Po_close 40 = .ok (.athrow, 1) := by decide +kernel
theorem d_Po_close_41 : decode b_Po_close 41 = .ok (.aload_n 0, 1) := by decide +kernel
theorem d_Po_close_42 : decode b_Po_close 42 = .ok (.aload_n 0, 1) := by decide +kernel
theorem d_Po_close_43 : decode b_Po_close 43 = .ok (.getfield 17, 3) := by decide +kernel
theorem d_Po_close_46 : decode b_Po_close 46 = .ok (.iload_n 1, 1) := by decide +kernel
theorem d_Po_close_47 : decode b_Po_close 47 = .ok (.aaload, 1) := by decide +kernel
theorem d_Po_close_48 : decode b_Po_close 48 = .ok (.invokevirtual 166, 3) := by decide +kernel
theorem d_Po_close_51 : decode b_Po_close 51 = .ok (.return_, 1) := by decide +kernel
set_option maxRecDepth 100000 in
set_option maxHeartbeats 4000000 in
theorem c_Po_close (l : Launch) (D : va_G) (ca : Nat → ClassId) (T : ty_e) (L : List Nat) (f0 : Nat → va_E) (sz : Nat) (hT : ok_T ca T L f0) {g0 : List (Int32 × Int32)} (h0 : Nat) (t0 : T h0 = some (ty_po g0)) (x1 : Int32) (hfl : l.flags = Jvm.pinnedFlags ++ [Jvm.noTraceFlag]) :
    MetO l y_Po_close (Cond.code y_Po_close b_Po_close 2 none :: wg) { frames := 6, cells := 1, slots := 6, locals := 82 } (va_Pc [.ref h0, .int (x1)] (sm_P D cl_all (ty_s ca) ek3 L f0 sz)) (sm_Qv D (ty_s ca) L f0 sz (fun u => po_m ca T L u)) (sm_Qt D (ty_s ca) L f0 sz (fun X u => (True) ∧ po_m ca T L u) [xIA, xIS]) 1 6 (va_A (va_pl L f0) sz) := by
  refine sm_startO (by decide) (Nat.le_of_ble_eq_true rfl) ?_
  intro p e s m below meth c ls hx hb hml hr hlk hno hts hown hsz hE3 hI hl
  have hE := hE3.1.1
  have hl : lv_has ls 2 [(0, .ref h0), (1, .int (x1))] := hl
  refine lv_iload_n hx hb d_Po_close_0 rfl (lv_at hl 1 rfl) ?_
  refine lv_if_lt (tgt := 9) hx hb d_Po_close_1 (by decide) (fun c_1 => ?_) (fun c_1 => ?_)
  · exact sm_thr (k := 157) (n := 15) hx hb hts hown hlk hno hfl hE3 hI (hl.1.trans hml.symm) (by decide) (fun _ _ _ h1 h2 => oa_IA h1 h2) tw_425 tw_426 tw_16 tn_810 ⟨trivial, rfl, hT⟩ (by decide) (Nat.le_of_ble_eq_true rfl) (Nat.le_of_ble_eq_true rfl) (Nat.le_of_ble_eq_true rfl) (Nat.le_of_ble_eq_true rfl) (Nat.le_of_ble_eq_true rfl) (Nat.le_of_ble_eq_true rfl) d_Po_close_9 d_Po_close_12 (Or.inl ⟨d_Po_close_13, rfl⟩) d_Po_close_15 d_Po_close_18
  · refine lv_iload_n hx hb d_Po_close_4 rfl (lv_at hl 1 rfl) ?_
    refine lv_iconst (v := 3) hx hb d_Po_close_5 (by decide) ?_
    refine lv_icmp_lt (tgt := 19) hx hb d_Po_close_6 (by decide) (fun c_2 => ?_) (fun c_2 => ?_)
    · obtain ⟨n_3, h_4, rfl⟩ : ∃ n : Nat, n ≤ 2 ∧ x1 = nI n := (nb_lt c_1 c_2)
      refine lv_aload_n hx hb d_Po_close_19 rfl (lv_at hl 0 rfl) ?_
      refine fg_Po_connections hx hb hts hown hI hT t0 (hts _ tw_365) (fun _ h9 => h9) d_Po_close_20 (fun r_5 t_6 => ?_)
      refine lv_iload_n hx hb d_Po_close_23 rfl (lv_at hl 1 rfl) ?_
      refine fa_cns (j := n_3) hx hb hI hT t_6 (by omega) d_Po_close_24 (fun r_7 t_8 => ?_)
      refine fg_Cn_state hx hb hts hown hI hT t_8 (hts _ tw_148) (fun x9 h9 => u_same (hts _ tw_147) x9 h9) d_Po_close_25 (fun x_9 => ?_)
      refine lv_if_ne (tgt := 41) hx hb d_Po_close_28 (by decide) (fun c_10 => ?_) (fun c_10 => ?_)
      · refine lv_aload_n hx hb d_Po_close_41 rfl (lv_at hl 0 rfl) ?_
        refine lv_aload_n hx hb d_Po_close_42 rfl (lv_at hl 0 rfl) ?_
        refine fg_Po_connections hx hb hts hown hI hT t0 (hts _ tw_365) (fun _ h9 => h9) d_Po_close_43 (fun r_11 t_12 => ?_)
        refine lv_iload_n hx hb d_Po_close_46 rfl (lv_at hl 1 rfl) ?_
        refine fa_cns (j := n_3) hx hb hI hT t_12 (by omega) d_Po_close_47 (fun r_13 t_14 => ?_)
        refine sm_v hI (va_runV (As := [.ref r_13]) (rest := []) ⟨hx, hb, hml, hown, hts⟩ (c_Po_shut l D ca _ _ _ _ hT h0 t0 r_13 t_14) (kv_Po_shut hts rfl rfl (hts _ tw_778) ⟨Nat.le_of_ble_eq_true rfl, Nat.le_of_ble_eq_true rfl⟩) (pv_Po hI hE hT t0) rfl rfl hl.1 rfl (lv_room (Nat.le_of_ble_eq_true rfl)) d_Po_close_48 ⟨Nat.le_of_ble_eq_true rfl, Nat.le_of_ble_eq_true rfl⟩) (fun H locs f hI hT => ?_)
        refine W.mono (fun _ h => Or.inl h) (W.widen (k := 1) (n := 6) (by decide) (by decide) ?_)
        exact sm_vret hx hb hr hlk hI ⟨rfl, hT⟩ d_Po_close_51
      · exact sm_thr (k := 164) (n := 37) hx hb hts hown hlk hno hfl hE3 hI (hl.1.trans hml.symm) (by decide) (fun _ _ _ h1 h2 => oa_IS h1 h2) tw_497 tw_498 tw_17 tn_819 ⟨trivial, rfl, hT⟩ (by decide) (Nat.le_of_ble_eq_true rfl) (Nat.le_of_ble_eq_true rfl) (Nat.le_of_ble_eq_true rfl) (Nat.le_of_ble_eq_true rfl) (Nat.le_of_ble_eq_true rfl) (Nat.le_of_ble_eq_true rfl) d_Po_close_31 d_Po_close_34 (Or.inl ⟨d_Po_close_35, rfl⟩) d_Po_close_37 d_Po_close_40
    · exact sm_thr (k := 157) (n := 15) hx hb hts hown hlk hno hfl hE3 hI (hl.1.trans hml.symm) (by decide) (fun _ _ _ h1 h2 => oa_IA h1 h2) tw_425 tw_426 tw_16 tn_810 ⟨trivial, rfl, hT⟩ (by decide) (Nat.le_of_ble_eq_true rfl) (Nat.le_of_ble_eq_true rfl) (Nat.le_of_ble_eq_true rfl) (Nat.le_of_ble_eq_true rfl) (Nat.le_of_ble_eq_true rfl) (Nat.le_of_ble_eq_true rfl) d_Po_close_9 d_Po_close_12 (Or.inl ⟨d_Po_close_13, rfl⟩) d_Po_close_15 d_Po_close_18
theorem d_Po_serial_0 : decode b_Po_serial 0 = .ok (.iload_n 1, 1) := by decide +kernel
theorem d_Po_serial_1 : decode b_Po_serial 1 = .ok (.ifCond .lt 20, 3) := by decide +kernel
theorem d_Po_serial_4 : decode b_Po_serial 4 = .ok (.iload_n 1, 1) := by decide +kernel
theorem d_Po_serial_5 : decode b_Po_serial 5 = .ok (.sipush 254, 3) := by decide +kernel
theorem d_Po_serial_8 : decode b_Po_serial 8 = .ok (.if_icmp .gt 13, 3) := by decide +kernel
theorem d_Po_serial_11 : decode b_Po_serial 11 = .ok (.iload_n 2, 1) := by decide +kernel
theorem d_Po_serial_12 : decode b_Po_serial 12 = .ok (.iconst 1, 1) := by decide +kernel
theorem d_Po_serial_13 : decode b_Po_serial 13 = .ok (.if_icmp .lt 8, 3) := by decide +kernel
theorem d_Po_serial_16 : decode b_Po_serial 16 = .ok (.iload_n 2, 1) := by decide +kernel
theorem d_Po_serial_17 : decode b_Po_serial 17 = .ok (.iconst 2, 1) := by decide +kernel
theorem d_Po_serial_18 : decode b_Po_serial 18 = .ok (.if_icmp .le 13, 3) := by decide +kernel
theorem d_Po_serial_21 : decode b_Po_serial 21 = .ok (.new 68, 3) := by decide +kernel
theorem d_Po_serial_24 : decode b_Po_serial 24 = .ok (.dup, 1) := by decide +kernel
theorem d_Po_serial_25 : decode b_Po_serial 25 = .ok (.ldc 92, 2) := by decide +kernel
theorem d_Po_serial_27 : decode b_Po_serial 27 = .ok (.invokespecial 72, 3) := by decide +kernel
theorem d_Po_serial_30 : decode b_Po_serial 30 = .ok (.athrow, 1) := by decide +kernel
theorem d_Po_serial_31 : decode b_Po_serial 31 = .ok (.iload_n 3, 1) := by decide +kernel
theorem d_Po_serial_32 : decode b_Po_serial 32 = .ok (.iconst 1, 1) := by decide +kernel
theorem d_Po_serial_33 : decode b_Po_serial 33 = .ok (.if_icmp .lt 20, 3) := by decide +kernel
theorem d_Po_serial_36 : decode b_Po_serial 36 = .ok (.iload_n 3, 1) := by decide +kernel
theorem d_Po_serial_37 : decode b_Po_serial 37 = .ok (.iconst 2, 1) := by decide +kernel
theorem d_Po_serial_38 : decode b_Po_serial 38 = .ok (.if_icmp .gt 15, 3) := by decide +kernel
theorem d_Po_serial_41 : decode b_Po_serial 41 = .ok (.iload 4, 2) := by decide +kernel
theorem d_Po_serial_43 : decode b_Po_serial 43 = .ok (.iconst 1, 1) := by decide +kernel
theorem d_Po_serial_44 : decode b_Po_serial 44 = .ok (.if_icmp .lt 9, 3) := by decide +kernel
theorem d_Po_serial_47 : decode b_Po_serial 47 = .ok (.iload 4, 2) := by decide +kernel
theorem d_Po_serial_49 : decode b_Po_serial 49 = .ok (.iconst 3, 1) := by decide +kernel
theorem d_Po_serial_50 : decode b_Po_serial 50 = .ok (.if_icmp .le 13, 3) := by decide +kernel
theorem d_Po_serial_53 : decode b_Po_serial 53 = .ok (.new 68, 3) := by decide +kernel
theorem d_Po_serial_56 : decode b_Po_serial 56 = .ok (.dup, 1) := by decide +kernel
theorem d_Po_serial_57 : decode b_Po_serial 57 = .ok (.ldc 94, 2) := by decide +kernel
theorem d_Po_serial_59 : decode b_Po_serial 59 = .ok (.invokespecial 72, 3) := by decide +kernel
theorem d_Po_serial_62 : decode b_Po_serial 62 = .ok (.athrow, 1) := by decide +kernel
theorem d_Po_serial_63 : decode b_Po_serial 63 = .ok (.iload_n 3, 1) := by decide +kernel
theorem d_Po_serial_64 : decode b_Po_serial 64 = .ok (.iconst 1, 1) := by decide +kernel
theorem d_Po_serial_65 : decode b_Po_serial 65 = .ok (.if_icmp .ne 23, 3) := by decide +kernel
theorem d_Po_serial_68 : decode b_Po_serial 68 = .ok (.aload_n 0, 1) := by decide +kernel
theorem d_Po_serial_69 : decode b_Po_serial 69 = .ok (.getfield 61, 3) := by decide +kernel
theorem d_Po_serial_72 : decode b_Po_serial 72 = .ok (.sipush 255, 3) := by decide +kernel
theorem d_Po_serial_75 : decode b_Po_serial 75 = .ok (.if_icmp .le 13, 3) := by decide +kernel
theorem d_Po_serial_78 : decode b_Po_serial 78 = .ok (.new 68, 3) := by decide +kernel
theorem d_Po_serial_81 : decode b_Po_serial 81 = .ok (.dup, 1) := by decide +kernel
theorem d_Po_serial_82 : decode b_Po_serial 82 = .ok (.ldc 96, 2) := by decide +kernel
theorem d_Po_serial_84 : decode b_Po_serial 84 = .ok (.invokespecial 72, 3) := by decide +kernel
theorem d_Po_serial_87 : decode b_Po_serial 87 = .ok (.athrow, 1) := by decide +kernel
theorem d_Po_serial_88 : decode b_Po_serial 88 = .ok (.aload_n 0, 1) := by decide +kernel
theorem d_Po_serial_89 : decode b_Po_serial 89 = .ok (.getfield 24, 3) := by decide +kernel
theorem d_Po_serial_92 : decode b_Po_serial 92 = .ok (.iload_n 1, 1) := by decide +kernel
theorem d_Po_serial_93 : decode b_Po_serial 93 = .ok (.iload_n 2, 1) := by decide +kernel
theorem d_Po_serial_94 : decode b_Po_serial 94 = .ok (.iload_n 3, 1) := by decide +kernel
theorem d_Po_serial_95 : decode b_Po_serial 95 = .ok (.iload 4, 2) := by decide +kernel
theorem d_Po_serial_97 : decode b_Po_serial 97 = .ok (.invokevirtual 98, 3) := by decide +kernel
theorem d_Po_serial_100 : decode b_Po_serial 100 = .ok (.aload_n 0, 1) := by decide +kernel
theorem d_Po_serial_101 : decode b_Po_serial 101 = .ok (.getfield 44, 3) := by decide +kernel
theorem d_Po_serial_104 : decode b_Po_serial 104 = .ok (.iconst 3, 1) := by decide +kernel
theorem d_Po_serial_105 : decode b_Po_serial 105 = .ok (.invokevirtual 102, 3) := by decide +kernel
theorem d_Po_serial_108 : decode b_Po_serial 108 = .ok (.return_, 1) := by decide +kernel
set_option maxRecDepth 100000 in
set_option maxHeartbeats 4000000 in
theorem c_Po_serial (l : Launch) (D : va_G) (ca : Nat → ClassId) (T : ty_e) (L : List Nat) (f0 : Nat → va_E) (sz : Nat) (hT : ok_T ca T L f0) {g0 : List (Int32 × Int32)} (h0 : Nat) (t0 : T h0 = some (ty_po g0)) (x1 : Int32) (x2 : Int32) (x3 : Int32) (x4 : Int32) (hfl : l.flags = Jvm.pinnedFlags ++ [Jvm.noTraceFlag]) :
    MetO l y_Po_serial (Cond.code y_Po_serial b_Po_serial 5 none :: wg) { frames := 6, cells := 1, slots := 6, locals := 82 } (va_Pc [.ref h0, .int (x1), .int (x2), .int (x3), .int (x4)] (sm_P D cl_all (ty_s ca) ek3 L f0 sz)) (sm_Qv D (ty_s ca) L f0 sz (fun u => po_m ca T L u)) (sm_Qt D (ty_s ca) L f0 sz (fun X u => (True) ∧ po_m ca T L u) [xIA]) 1 6 (va_A (va_pl L f0) sz) := by
  refine sm_startO (by decide) (Nat.le_of_ble_eq_true rfl) ?_
  intro p e s m below meth c ls hx hb hml hr hlk hno hts hown hsz hE3 hI hl
  have hE := hE3.1.1
  have hl : lv_has ls 5 [(0, .ref h0), (1, .int (x1)), (2, .int (x2)), (3, .int (x3)), (4, .int (x4))] := hl
  refine lv_iload_n hx hb d_Po_serial_0 rfl (lv_at hl 1 rfl) ?_
  refine lv_if_lt (tgt := 21) hx hb d_Po_serial_1 (by decide) (fun c_1 => ?_) (fun c_1 => ?_)
  · exact sm_thr (k := 92) (n := 27) hx hb hts hown hlk hno hfl hE3 hI (hl.1.trans hml.symm) (by decide) (fun _ _ _ h1 h2 => oa_IA h1 h2) tw_425 tw_426 tw_16 tn_551 ⟨trivial, rfl, hT⟩ (by decide) (Nat.le_of_ble_eq_true rfl) (Nat.le_of_ble_eq_true rfl) (Nat.le_of_ble_eq_true rfl) (Nat.le_of_ble_eq_true rfl) (Nat.le_of_ble_eq_true rfl) (Nat.le_of_ble_eq_true rfl) d_Po_serial_21 d_Po_serial_24 (Or.inl ⟨d_Po_serial_25, rfl⟩) d_Po_serial_27 d_Po_serial_30
  · refine lv_iload_n hx hb d_Po_serial_4 rfl (lv_at hl 1 rfl) ?_
    refine lv_sipush (v := 254) hx hb d_Po_serial_5 (by decide) ?_
    refine lv_icmp_gt (tgt := 21) hx hb d_Po_serial_8 (by decide) (fun c_2 => ?_) (fun c_2 => ?_)
    · exact sm_thr (k := 92) (n := 27) hx hb hts hown hlk hno hfl hE3 hI (hl.1.trans hml.symm) (by decide) (fun _ _ _ h1 h2 => oa_IA h1 h2) tw_425 tw_426 tw_16 tn_551 ⟨trivial, rfl, hT⟩ (by decide) (Nat.le_of_ble_eq_true rfl) (Nat.le_of_ble_eq_true rfl) (Nat.le_of_ble_eq_true rfl) (Nat.le_of_ble_eq_true rfl) (Nat.le_of_ble_eq_true rfl) (Nat.le_of_ble_eq_true rfl) d_Po_serial_21 d_Po_serial_24 (Or.inl ⟨d_Po_serial_25, rfl⟩) d_Po_serial_27 d_Po_serial_30
    · refine lv_iload_n hx hb d_Po_serial_11 rfl (lv_at hl 2 rfl) ?_
      refine lv_iconst (v := 1) hx hb d_Po_serial_12 (by decide) ?_
      refine lv_icmp_lt (tgt := 21) hx hb d_Po_serial_13 (by decide) (fun c_3 => ?_) (fun c_3 => ?_)
      · exact sm_thr (k := 92) (n := 27) hx hb hts hown hlk hno hfl hE3 hI (hl.1.trans hml.symm) (by decide) (fun _ _ _ h1 h2 => oa_IA h1 h2) tw_425 tw_426 tw_16 tn_551 ⟨trivial, rfl, hT⟩ (by decide) (Nat.le_of_ble_eq_true rfl) (Nat.le_of_ble_eq_true rfl) (Nat.le_of_ble_eq_true rfl) (Nat.le_of_ble_eq_true rfl) (Nat.le_of_ble_eq_true rfl) (Nat.le_of_ble_eq_true rfl) d_Po_serial_21 d_Po_serial_24 (Or.inl ⟨d_Po_serial_25, rfl⟩) d_Po_serial_27 d_Po_serial_30
      · refine lv_iload_n hx hb d_Po_serial_16 rfl (lv_at hl 2 rfl) ?_
        refine lv_iconst (v := 2) hx hb d_Po_serial_17 (by decide) ?_
        refine lv_icmp_le (tgt := 31) hx hb d_Po_serial_18 (by decide) (fun c_4 => ?_) (fun c_4 => ?_)
        · refine lv_iload_n hx hb d_Po_serial_31 rfl (lv_at hl 3 rfl) ?_
          refine lv_iconst (v := 1) hx hb d_Po_serial_32 (by decide) ?_
          refine lv_icmp_lt (tgt := 53) hx hb d_Po_serial_33 (by decide) (fun c_5 => ?_) (fun c_5 => ?_)
          · exact sm_thr (k := 94) (n := 59) hx hb hts hown hlk hno hfl hE3 hI (hl.1.trans hml.symm) (by decide) (fun _ _ _ h1 h2 => oa_IA h1 h2) tw_425 tw_426 tw_16 tn_552 ⟨trivial, rfl, hT⟩ (by decide) (Nat.le_of_ble_eq_true rfl) (Nat.le_of_ble_eq_true rfl) (Nat.le_of_ble_eq_true rfl) (Nat.le_of_ble_eq_true rfl) (Nat.le_of_ble_eq_true rfl) (Nat.le_of_ble_eq_true rfl) d_Po_serial_53 d_Po_serial_56 (Or.inl ⟨d_Po_serial_57, rfl⟩) d_Po_serial_59 d_Po_serial_62
          · refine lv_iload_n hx hb d_Po_serial_36 rfl (lv_at hl 3 rfl) ?_
            refine lv_iconst (v := 2) hx hb d_Po_serial_37 (by decide) ?_
            refine lv_icmp_gt (tgt := 53) hx hb d_Po_serial_38 (by decide) (fun c_6 => ?_) (fun c_6 => ?_)
            · exact sm_thr (k := 94) (n := 59) hx hb hts hown hlk hno hfl hE3 hI (hl.1.trans hml.symm) (by decide) (fun _ _ _ h1 h2 => oa_IA h1 h2) tw_425 tw_426 tw_16 tn_552 ⟨trivial, rfl, hT⟩ (by decide) (Nat.le_of_ble_eq_true rfl) (Nat.le_of_ble_eq_true rfl) (Nat.le_of_ble_eq_true rfl) (Nat.le_of_ble_eq_true rfl) (Nat.le_of_ble_eq_true rfl) (Nat.le_of_ble_eq_true rfl) d_Po_serial_53 d_Po_serial_56 (Or.inl ⟨d_Po_serial_57, rfl⟩) d_Po_serial_59 d_Po_serial_62
            · refine lv_iload hx hb d_Po_serial_41 (lv_at hl 4 rfl) ?_
              refine lv_iconst (v := 1) hx hb d_Po_serial_43 (by decide) ?_
              refine lv_icmp_lt (tgt := 53) hx hb d_Po_serial_44 (by decide) (fun c_7 => ?_) (fun c_7 => ?_)
              · exact sm_thr (k := 94) (n := 59) hx hb hts hown hlk hno hfl hE3 hI (hl.1.trans hml.symm) (by decide) (fun _ _ _ h1 h2 => oa_IA h1 h2) tw_425 tw_426 tw_16 tn_552 ⟨trivial, rfl, hT⟩ (by decide) (Nat.le_of_ble_eq_true rfl) (Nat.le_of_ble_eq_true rfl) (Nat.le_of_ble_eq_true rfl) (Nat.le_of_ble_eq_true rfl) (Nat.le_of_ble_eq_true rfl) (Nat.le_of_ble_eq_true rfl) d_Po_serial_53 d_Po_serial_56 (Or.inl ⟨d_Po_serial_57, rfl⟩) d_Po_serial_59 d_Po_serial_62
              · refine lv_iload hx hb d_Po_serial_47 (lv_at hl 4 rfl) ?_
                refine lv_iconst (v := 3) hx hb d_Po_serial_49 (by decide) ?_
                refine lv_icmp_le (tgt := 63) hx hb d_Po_serial_50 (by decide) (fun c_8 => ?_) (fun c_8 => ?_)
                · obtain ⟨n_9, h_10, rfl⟩ : ∃ n : Nat, n ≤ 2 ∧ x2 = nI n := (nb_1le c_3 c_4)
                  obtain ⟨n_11, h_12, rfl⟩ : ∃ n : Nat, n ≤ 2 ∧ x3 = nI n := (nb_1gt c_5 c_6)
                  obtain ⟨n_13, h_14, rfl⟩ : ∃ n : Nat, n ≤ 3 ∧ x4 = nI n := (nb_1le c_7 c_8)
                  refine lv_iload_n hx hb d_Po_serial_63 rfl (lv_at hl 3 rfl) ?_
                  refine lv_iconst (v := 1) hx hb d_Po_serial_64 (by decide) ?_
                  refine lv_icmp_ne (tgt := 88) hx hb d_Po_serial_65 (by decide) (fun c_15 => ?_) (fun c_15 => ?_)
                  · have k_16 : ¬ n_11 = 1 := (fun q => c_15 ((nI_eq (a := n_11) (b := 1) (by omega) (by omega)).mpr q))
                    refine lv_aload_n hx hb d_Po_serial_88 rfl (lv_at hl 0 rfl) ?_
                    refine fg_Po_serialLine hx hb hts hown hI hT t0 (hts _ tw_366) (fun _ h9 => h9) d_Po_serial_89 (fun r_17 t_18 => ?_)
                    refine lv_iload_n hx hb d_Po_serial_92 rfl (lv_at hl 1 rfl) ?_
                    refine lv_iload_n hx hb d_Po_serial_93 rfl (lv_at hl 2 rfl) ?_
                    refine lv_iload_n hx hb d_Po_serial_94 rfl (lv_at hl 3 rfl) ?_
                    refine lv_iload hx hb d_Po_serial_95 (lv_at hl 4 rfl) ?_
                    refine sm_v hI (va_runV (As := [.int (x1), .int (nI n_9), .int (nI n_11), .int (nI n_13)]) (rest := []) ⟨hx, hb, hml, hown, hts⟩ (c_Sr_setUp l D ca _ _ _ _ hT r_17 t_18 x1 (n_9) (by omega) (n_11) (by omega) (n_13) (by omega)) (kv_Sr_setUp hts rfl rfl (hts _ tw_554) ⟨Nat.le_of_ble_eq_true rfl, Nat.le_of_ble_eq_true rfl⟩) (pv_Sr hI hE hT t_18) rfl rfl hl.1 rfl (lv_room (Nat.le_of_ble_eq_true rfl)) d_Po_serial_97 ⟨Nat.le_of_ble_eq_true rfl, Nat.le_of_ble_eq_true rfl⟩) (fun H locs f hI hT => ?_)
                    refine lv_aload_n hx hb d_Po_serial_100 rfl (lv_at hl 0 rfl) ?_
                    refine fg_Po_selection hx hb hts hown hI hT t0 (hts _ tw_374) (fun _ h9 => h9) d_Po_serial_101 (fun r_19 t_20 => ?_)
                    refine lv_iconst (v := 3) hx hb d_Po_serial_104 (by decide) ?_
                    refine sm_v hI (va_runV (As := [.int (3)]) (rest := []) ⟨hx, hb, hml, hown, hts⟩ (c_Se_leave l D ca _ _ _ _ hT r_19 t_20 3) (kv_Se_leave hts rfl rfl (hts _ tw_572) ⟨Nat.le_of_ble_eq_true rfl, Nat.le_of_ble_eq_true rfl⟩) (pv_Se hI hE hT t_20) rfl rfl hl.1 rfl (lv_room (Nat.le_of_ble_eq_true rfl)) d_Po_serial_105 ⟨Nat.le_of_ble_eq_true rfl, Nat.le_of_ble_eq_true rfl⟩) (fun H locs f hI hT => ?_)
                    refine W.mono (fun _ h => Or.inl h) (W.widen (k := 1) (n := 6) (by decide) (by decide) ?_)
                    exact sm_vret hx hb hr hlk hI ⟨rfl, hT⟩ d_Po_serial_108
                  · have k_21 : n_11 = 1 := (nI_eq (a := n_11) (b := 1) (by omega) (by omega)).mp c_15
                    refine lv_aload_n hx hb d_Po_serial_68 rfl (lv_at hl 0 rfl) ?_
                    refine fg_Po_station hx hb hts hown hI hT t0 (hts _ tw_362) (fun _ h9 => h9) d_Po_serial_69 (fun x_22 => ?_)
                    refine lv_sipush (v := 255) hx hb d_Po_serial_72 (by decide) ?_
                    refine lv_icmp_le (tgt := 88) hx hb d_Po_serial_75 (by decide) (fun c_23 => ?_) (fun c_23 => ?_)
                    · refine lv_aload_n hx hb d_Po_serial_88 rfl (lv_at hl 0 rfl) ?_
                      refine fg_Po_serialLine hx hb hts hown hI hT t0 (hts _ tw_366) (fun _ h9 => h9) d_Po_serial_89 (fun r_24 t_25 => ?_)
                      refine lv_iload_n hx hb d_Po_serial_92 rfl (lv_at hl 1 rfl) ?_
                      refine lv_iload_n hx hb d_Po_serial_93 rfl (lv_at hl 2 rfl) ?_
                      refine lv_iload_n hx hb d_Po_serial_94 rfl (lv_at hl 3 rfl) ?_
                      refine lv_iload hx hb d_Po_serial_95 (lv_at hl 4 rfl) ?_
                      refine sm_v hI (va_runV (As := [.int (x1), .int (nI n_9), .int (nI n_11), .int (nI n_13)]) (rest := []) ⟨hx, hb, hml, hown, hts⟩ (c_Sr_setUp l D ca _ _ _ _ hT r_24 t_25 x1 (n_9) (by omega) (n_11) (by omega) (n_13) (by omega)) (kv_Sr_setUp hts rfl rfl (hts _ tw_554) ⟨Nat.le_of_ble_eq_true rfl, Nat.le_of_ble_eq_true rfl⟩) (pv_Sr hI hE hT t_25) rfl rfl hl.1 rfl (lv_room (Nat.le_of_ble_eq_true rfl)) d_Po_serial_97 ⟨Nat.le_of_ble_eq_true rfl, Nat.le_of_ble_eq_true rfl⟩) (fun H locs f hI hT => ?_)
                      refine lv_aload_n hx hb d_Po_serial_100 rfl (lv_at hl 0 rfl) ?_
                      refine fg_Po_selection hx hb hts hown hI hT t0 (hts _ tw_374) (fun _ h9 => h9) d_Po_serial_101 (fun r_26 t_27 => ?_)
                      refine lv_iconst (v := 3) hx hb d_Po_serial_104 (by decide) ?_
                      refine sm_v hI (va_runV (As := [.int (3)]) (rest := []) ⟨hx, hb, hml, hown, hts⟩ (c_Se_leave l D ca _ _ _ _ hT r_26 t_27 3) (kv_Se_leave hts rfl rfl (hts _ tw_572) ⟨Nat.le_of_ble_eq_true rfl, Nat.le_of_ble_eq_true rfl⟩) (pv_Se hI hE hT t_27) rfl rfl hl.1 rfl (lv_room (Nat.le_of_ble_eq_true rfl)) d_Po_serial_105 ⟨Nat.le_of_ble_eq_true rfl, Nat.le_of_ble_eq_true rfl⟩) (fun H locs f hI hT => ?_)
                      refine W.mono (fun _ h => Or.inl h) (W.widen (k := 1) (n := 6) (by decide) (by decide) ?_)
                      exact sm_vret hx hb hr hlk hI ⟨rfl, hT⟩ d_Po_serial_108
                    · exact sm_thr (k := 96) (n := 84) hx hb hts hown hlk hno hfl hE3 hI (hl.1.trans hml.symm) (by decide) (fun _ _ _ h1 h2 => oa_IA h1 h2) tw_425 tw_426 tw_16 tn_553 ⟨trivial, rfl, hT⟩ (by decide) (Nat.le_of_ble_eq_true rfl) (Nat.le_of_ble_eq_true rfl) (Nat.le_of_ble_eq_true rfl) (Nat.le_of_ble_eq_true rfl) (Nat.le_of_ble_eq_true rfl) (Nat.le_of_ble_eq_true rfl) d_Po_serial_78 d_Po_serial_81 (Or.inl ⟨d_Po_serial_82, rfl⟩) d_Po_serial_84 d_Po_serial_87
                · exact sm_thr (k := 94) (n := 59) hx hb hts hown hlk hno hfl hE3 hI (hl.1.trans hml.symm) (by decide) (fun _ _ _ h1 h2 => oa_IA h1 h2) tw_425 tw_426 tw_16 tn_552 ⟨trivial, rfl, hT⟩ (by decide) (Nat.le_of_ble_eq_true rfl) (Nat.le_of_ble_eq_true rfl) (Nat.le_of_ble_eq_true rfl) (Nat.le_of_ble_eq_true rfl) (Nat.le_of_ble_eq_true rfl) (Nat.le_of_ble_eq_true rfl) d_Po_serial_53 d_Po_serial_56 (Or.inl ⟨d_Po_serial_57, rfl⟩) d_Po_serial_59 d_Po_serial_62
        · exact sm_thr (k := 92) (n := 27) hx hb hts hown hlk hno hfl hE3 hI (hl.1.trans hml.symm) (by decide) (fun _ _ _ h1 h2 => oa_IA h1 h2) tw_425 tw_426 tw_16 tn_551 ⟨trivial, rfl, hT⟩ (by decide) (Nat.le_of_ble_eq_true rfl) (Nat.le_of_ble_eq_true rfl) (Nat.le_of_ble_eq_true rfl) (Nat.le_of_ble_eq_true rfl) (Nat.le_of_ble_eq_true rfl) (Nat.le_of_ble_eq_true rfl) d_Po_serial_21 d_Po_serial_24 (Or.inl ⟨d_Po_serial_25, rfl⟩) d_Po_serial_27 d_Po_serial_30
theorem d_Po_advance_0 : decode b_Po_advance 0 = .ok (.iload_n 1, 1) := by decide +kernel
theorem d_Po_advance_1 : decode b_Po_advance 1 = .ok (.ifCond .lt 9, 3) := by decide +kernel
theorem d_Po_advance_4 : decode b_Po_advance 4 = .ok (.iload_n 1, 1) := by decide +kernel
theorem d_Po_advance_5 : decode b_Po_advance 5 = .ok (.ldc 146, 2) := by decide +kernel
theorem d_Po_advance_7 : decode b_Po_advance 7 = .ok (.if_icmp .le 13, 3) := by decide +kernel
theorem d_Po_advance_10 : decode b_Po_advance 10 = .ok (.new 68, 3) := by decide +kernel
theorem d_Po_advance_13 : decode b_Po_advance 13 = .ok (.dup, 1) := by decide +kernel
theorem d_Po_advance_14 : decode b_Po_advance 14 = .ok (.ldc 136, 2) := by decide +kernel
theorem d_Po_advance_16 : decode b_Po_advance 16 = .ok (.invokespecial 72, 3) := by decide +kernel
theorem d_Po_advance_19 : decode b_Po_advance 19 = .ok (.athrow, 1) := by decide +kernel
theorem d_Po_advance_20 : decode b_Po_advance 20 = .ok (.aload_n 0, 1) := by decide +kernel
theorem d_Po_advance_21 : decode b_Po_advance 21 = .ok (.dup, 1) := by decide +kernel
theorem d_Po_advance_22 : decode b_Po_advance 22 = .ok (.getfield 147, 3) := by decide +kernel
theorem d_Po_advance_25 : decode b_Po_advance 25 = .ok (.iload_n 1, 1) := by decide +kernel
theorem d_Po_advance_26 : decode b_Po_advance 26 = .ok (.i2l, 1) := by decide +kernel
theorem d_Po_advance_27 : decode b_Po_advance 27 = .ok (.ladd, 1) := by decide +kernel
theorem d_Po_advance_28 : decode b_Po_advance 28 = .ok (.putfield 147, 3) := by decide +kernel
theorem d_Po_advance_31 : decode b_Po_advance 31 = .ok (.aload_n 0, 1) := by decide +kernel
theorem d_Po_advance_32 : decode b_Po_advance 32 = .ok (.dup, 1) := by decide +kernel
theorem d_Po_advance_33 : decode b_Po_advance 33 = .ok (.getfield 138, 3) := by decide +kernel
theorem d_Po_advance_36 : decode b_Po_advance 36 = .ok (.iload_n 1, 1) := by decide +kernel
theorem d_Po_advance_37 : decode b_Po_advance 37 = .ok (.i2l, 1) := by decide +kernel
theorem d_Po_advance_38 : decode b_Po_advance 38 = .ok (.ladd, 1) := by decide +kernel
theorem d_Po_advance_39 : decode b_Po_advance 39 = .ok (.putfield 138, 3) := by decide +kernel
theorem d_Po_advance_42 : decode b_Po_advance 42 = .ok (.iconst 0, 1) := by decide +kernel
theorem d_Po_advance_43 : decode b_Po_advance 43 = .ok (.istore_n 2, 1) := by decide +kernel
theorem d_Po_advance_44 : decode b_Po_advance 44 = .ok (.iconst 0, 1) := by decide +kernel
theorem d_Po_advance_45 : decode b_Po_advance 45 = .ok (.istore_n 3, 1) := by decide +kernel
theorem d_Po_advance_46 : decode b_Po_advance 46 = .ok (.iload_n 3, 1) := by decide +kernel
theorem d_Po_advance_47 : decode b_Po_advance 47 = .ok (.iconst 3, 1) := by decide +kernel
theorem d_Po_advance_48 : decode b_Po_advance 48 = .ok (.if_icmp .ge 51, 3) := by decide +kernel
theorem d_Po_advance_51 : decode b_Po_advance 51 = .ok (.aload_n 0, 1) := by decide +kernel
theorem d_Po_advance_52 : decode b_Po_advance 52 = .ok (.getfield 17, 3) := by decide +kernel
theorem d_Po_advance_55 : decode b_Po_advance 55 = .ok (.iload_n 3, 1) := by decide +kernel
theorem d_Po_advance_56 : decode b_Po_advance 56 = .ok (.aaload, 1) := by decide +kernel
theorem d_Po_advance_57 : decode b_Po_advance 57 = .ok (.getfield 150, 3) := by decide +kernel
theorem d_Po_advance_60 : decode b_Po_advance 60 = .ok (.ifCond .eq 33, 3) := by decide +kernel
theorem d_Po_advance_63 : decode b_Po_advance 63 = .ok (.aload_n 0, 1) := by decide +kernel
theorem d_Po_advance_64 : decode b_Po_advance 64 = .ok (.aload_n 0, 1) := by decide +kernel
theorem d_Po_advance_65 : decode b_Po_advance 65 = .ok (.getfield 17, 3) := by decide +kernel
theorem d_Po_advance_68 : decode b_Po_advance 68 = .ok (.iload_n 3, 1) := by decide +kernel
theorem d_Po_advance_69 : decode b_Po_advance 69 = .ok (.aaload, 1) := by decide +kernel
theorem d_Po_advance_70 : decode b_Po_advance 70 = .ok (.invokevirtual 153, 3) := by decide +kernel
theorem d_Po_advance_73 : decode b_Po_advance 73 = .ok (.iload_n 2, 1) := by decide +kernel
theorem d_Po_advance_74 : decode b_Po_advance 74 = .ok (.aload_n 0, 1) := by decide +kernel
theorem d_Po_advance_75 : decode b_Po_advance 75 = .ok (.getfield 17, 3) := by decide +kernel
theorem d_Po_advance_78 : decode b_Po_advance 78 = .ok (.iload_n 3, 1) := by decide +kernel
theorem d_Po_advance_79 : decode b_Po_advance 79 = .ok (.aaload, 1) := by decide +kernel
theorem d_Po_advance_80 : decode b_Po_advance 80 = .ok (.getfield 150, 3) := by decide +kernel
theorem d_Po_advance_83 : decode b_Po_advance 83 = .ok (.ifCond .ne 7, 3) := by decide +kernel
theorem d_Po_advance_86 : decode b_Po_advance 86 = .ok (.iconst 1, 1) := by decide +kernel
theorem d_Po_advance_87 : decode b_Po_advance 87 = .ok (.goto 4, 3) := by decide +kernel
theorem d_Po_advance_90 : decode b_Po_advance 90 = .ok (.iconst 0, 1) := by decide +kernel
theorem d_Po_advance_91 : decode b_Po_advance 91 = .ok (.iadd, 1) := by decide +kernel
theorem d_Po_advance_92 : decode b_Po_advance 92 = .ok (.istore_n 2, 1) := by decide +kernel
theorem d_Po_advance_93 : decode b_Po_advance 93 = .ok (.iinc 3 1, 3) := by decide +kernel
theorem d_Po_advance_96 : decode b_Po_advance 96 = .ok (.goto (-50), 3) := by decide +kernel
theorem d_Po_advance_99 : decode b_Po_advance 99 = .ok (.iload_n 2, 1) := by decide +kernel
theorem d_Po_advance_100 : decode b_Po_advance 100 = .ok (.ireturn, 1) := by decide +kernel
set_option maxRecDepth 100000 in
set_option maxHeartbeats 4000000 in
theorem c_Po_advance (l : Launch) (D : va_G) (ca : Nat → ClassId) (T : ty_e) (L : List Nat) (f0 : Nat → va_E) (sz : Nat) (hT : ok_T ca T L f0) {g0 : List (Int32 × Int32)} (h0 : Nat) (t0 : T h0 = some (ty_po g0)) (x1 : Int32) (hfl : l.flags = Jvm.pinnedFlags ++ [Jvm.noTraceFlag]) :
    MetO l y_Po_advance (Cond.code y_Po_advance b_Po_advance 4 (some .int) :: wg) { frames := 6, cells := 1, slots := 6, locals := 127 } (va_Pc [.ref h0, .int (x1)] (sm_P D cl_all (ty_s ca) ek3 L f0 sz)) (sm_Qi D (ty_s ca) L f0 sz (fun r u => (True) ∧ po_m ca T L u)) (sm_Qt D (ty_s ca) L f0 sz (fun X u => (True) ∧ po_m ca T L u) [xIA]) 1 6 (va_A (va_pl L f0) sz) := by
  refine sm_startO (by decide) (Nat.le_of_ble_eq_true rfl) ?_
  intro p e s m below meth c ls hx hb hml hr hlk hno hts hown hsz hE3 hI hl
  have hE := hE3.1.1
  have hl : lv_has ls 4 [(0, .ref h0), (1, .int (x1))] := hl
  have hJ_46 : ∀ (N k : Nat) (H : Heap) (locs : List Loc) (f : Nat → va_E) (ls : Array Slot) (y2 : Int32), 3 + 1 - k ≤ N → k ≤ 3 → sw_I D cl_all (ty_s ca) (va_A (va_pl L f0) sz) s H locs L f → ok_T ca T L f → lv_has ls 4 [(0, .ref h0), (1, .int (x1)), (2, .int (y2)), (3, .int (nI k))] → W p l e { frames := 6, cells := 1, slots := 6, locals := 127 } s m ([.ref h0, .int (x1)] : List Value).toArray below meth c H locs 0 0 (MO below (sm_Qi D (ty_s ca) L f0 sz (fun r u => (True) ∧ po_m ca T L u)) (sm_Qt D (ty_s ca) L f0 sz (fun X u => (True) ∧ po_m ca T L u) [xIA]) ([.ref h0, .int (x1)] : List Value).toArray s 1 6 (va_A (va_pl L f0) sz)) (F0 m 46 ls []) := by
    intro N
    induction N with
    | zero => intros; omega
    | succ N ih =>
      intro k H locs f ls y2 hN hk hI hT hl 
      refine lv_iload_n hx hb d_Po_advance_46 rfl (lv_at hl 3 rfl) ?_
      refine lv_iconst (v := 3) hx hb d_Po_advance_47 (by decide) ?_
      refine lv_icmp_ge (tgt := 99) hx hb d_Po_advance_48 (by decide) (fun c_1 => ?_) (fun c_1 => ?_)
      · have k_2 : 3 ≤ k := (nI_leI (a := 3) (b := k) (by omega) (by omega)).mp c_1
        refine lv_iload_n hx hb d_Po_advance_99 rfl (lv_at hl 2 rfl) ?_
        refine W.mono (fun _ h => Or.inl h) (W.widen (k := 1) (n := 6) (by decide) (by decide) ?_)
        exact sm_iret hx hb hr hlk hI ⟨trivial, ⟨rfl, hT⟩⟩ d_Po_advance_100
      · have k_3 : k < 3 := Nat.lt_of_not_le (fun q => c_1 ((nI_leI (a := 3) (b := k) (by omega) (by omega)).mpr q))
        refine lv_aload_n hx hb d_Po_advance_51 rfl (lv_at hl 0 rfl) ?_
        refine fg_Po_connections hx hb hts hown hI hT t0 (hts _ tw_365) (fun _ h9 => h9) d_Po_advance_52 (fun r_4 t_5 => ?_)
        refine lv_iload_n hx hb d_Po_advance_55 rfl (lv_at hl 3 rfl) ?_
        refine fa_cns (j := k) hx hb hI hT t_5 (by omega) d_Po_advance_56 (fun r_6 t_7 => ?_)
        refine fg_Cn_state hx hb hts hown hI hT t_7 (hts _ tw_148) (fun x9 h9 => u_same (hts _ tw_147) x9 h9) d_Po_advance_57 (fun x_8 => ?_)
        refine lv_if_eq (tgt := 93) hx hb d_Po_advance_60 (by decide) (fun c_9 => ?_) (fun c_9 => ?_)
        · refine lv_iinc (v := nI (k + 1)) (lv' := [(3, .int (nI (k + 1))), (0, .ref h0), (1, .int (x1)), (2, .int (y2))]) hx hb d_Po_advance_93 hl (k := 3) rfl (nI_1 _) (by decide) rfl (fun ls hl => ?_)
          refine lv_goto (tgt := 46) hx hb d_Po_advance_96 (by decide) ?_
          exact ih ((k + 1)) _ _ _ _ y2 (by omega) (by omega) hI hT (lv_sub hl [1, 2, 3, 0] rfl) 
        · refine lv_aload_n hx hb d_Po_advance_63 rfl (lv_at hl 0 rfl) ?_
          refine lv_aload_n hx hb d_Po_advance_64 rfl (lv_at hl 0 rfl) ?_
          refine fg_Po_connections hx hb hts hown hI hT t0 (hts _ tw_365) (fun _ h9 => h9) d_Po_advance_65 (fun r_10 t_11 => ?_)
          refine lv_iload_n hx hb d_Po_advance_68 rfl (lv_at hl 3 rfl) ?_
          refine fa_cns (j := k) hx hb hI hT t_11 (by omega) d_Po_advance_69 (fun r_12 t_13 => ?_)
          refine sm_v hI (va_runV (As := [.ref r_12]) (rest := []) ⟨hx, hb, hml, hown, hts⟩ (c_Po_lookAtTimers l D ca _ _ _ _ hT h0 t0 r_12 t_13) (kv_Po_lookAtTimers hts rfl rfl (hts _ tw_765) ⟨Nat.le_of_ble_eq_true rfl, Nat.le_of_ble_eq_true rfl⟩) (pv_Po hI hE hT t0) rfl rfl hl.1 rfl (lv_room (Nat.le_of_ble_eq_true rfl)) d_Po_advance_70 ⟨Nat.le_of_ble_eq_true rfl, Nat.le_of_ble_eq_true rfl⟩) (fun H locs f hI hT => ?_)
          refine lv_iload_n hx hb d_Po_advance_73 rfl (lv_at hl 2 rfl) ?_
          refine lv_aload_n hx hb d_Po_advance_74 rfl (lv_at hl 0 rfl) ?_
          refine fg_Po_connections hx hb hts hown hI hT t0 (hts _ tw_365) (fun _ h9 => h9) d_Po_advance_75 (fun r_14 t_15 => ?_)
          refine lv_iload_n hx hb d_Po_advance_78 rfl (lv_at hl 3 rfl) ?_
          refine fa_cns (j := k) hx hb hI hT t_15 (by omega) d_Po_advance_79 (fun r_16 t_17 => ?_)
          refine fg_Cn_state hx hb hts hown hI hT t_17 (hts _ tw_148) (fun x9 h9 => u_same (hts _ tw_147) x9 h9) d_Po_advance_80 (fun x_18 => ?_)
          refine lv_if_ne (tgt := 90) hx hb d_Po_advance_83 (by decide) (fun c_19 => ?_) (fun c_19 => ?_)
          · refine lv_iconst (v := 0) hx hb d_Po_advance_90 (by decide) ?_
            refine lv_iadd hx hb d_Po_advance_91 ?_
            refine lv_topi (fun x_20 e_21 => ?_)
            refine lv_istore_n (lv' := [(2, .int (x_20)), (0, .ref h0), (1, .int (x1)), (3, .int (nI k))]) hx hb d_Po_advance_92 rfl hl (by decide) rfl (fun ls hl => ?_)
            refine lv_iinc (v := nI (k + 1)) (lv' := [(3, .int (nI (k + 1))), (2, .int (x_20)), (0, .ref h0), (1, .int (x1))]) hx hb d_Po_advance_93 hl (k := 3) rfl (nI_1 _) (by decide) rfl (fun ls hl => ?_)
            refine lv_goto (tgt := 46) hx hb d_Po_advance_96 (by decide) ?_
            exact ih ((k + 1)) _ _ _ _ x_20 (by omega) (by omega) hI hT (lv_sub hl [2, 3, 1, 0] rfl) 
          · refine lv_iconst (v := 1) hx hb d_Po_advance_86 (by decide) ?_
            refine lv_goto (tgt := 91) hx hb d_Po_advance_87 (by decide) ?_
            refine lv_iadd hx hb d_Po_advance_91 ?_
            refine lv_topi (fun x_22 e_23 => ?_)
            refine lv_istore_n (lv' := [(2, .int (x_22)), (0, .ref h0), (1, .int (x1)), (3, .int (nI k))]) hx hb d_Po_advance_92 rfl hl (by decide) rfl (fun ls hl => ?_)
            refine lv_iinc (v := nI (k + 1)) (lv' := [(3, .int (nI (k + 1))), (2, .int (x_22)), (0, .ref h0), (1, .int (x1))]) hx hb d_Po_advance_93 hl (k := 3) rfl (nI_1 _) (by decide) rfl (fun ls hl => ?_)
            refine lv_goto (tgt := 46) hx hb d_Po_advance_96 (by decide) ?_
            exact ih ((k + 1)) _ _ _ _ x_22 (by omega) (by omega) hI hT (lv_sub hl [2, 3, 1, 0] rfl) 
  refine lv_iload_n hx hb d_Po_advance_0 rfl (lv_at hl 1 rfl) ?_
  refine lv_if_lt (tgt := 10) hx hb d_Po_advance_1 (by decide) (fun c_24 => ?_) (fun c_24 => ?_)
  · exact sm_thr (k := 136) (n := 16) hx hb hts hown hlk hno hfl hE3 hI (hl.1.trans hml.symm) (by decide) (fun _ _ _ h1 h2 => oa_IA h1 h2) tw_425 tw_426 tw_16 tn_756 ⟨trivial, rfl, hT⟩ (by decide) (Nat.le_of_ble_eq_true rfl) (Nat.le_of_ble_eq_true rfl) (Nat.le_of_ble_eq_true rfl) (Nat.le_of_ble_eq_true rfl) (Nat.le_of_ble_eq_true rfl) (Nat.le_of_ble_eq_true rfl) d_Po_advance_10 d_Po_advance_13 (Or.inl ⟨d_Po_advance_14, rfl⟩) d_Po_advance_16 d_Po_advance_19
  · refine lv_iload_n hx hb d_Po_advance_4 rfl (lv_at hl 1 rfl) ?_
    refine lv_ldc (v := 100000) hx hb hown (hts _ tw_764) d_Po_advance_5 ?_
    refine lv_icmp_le (tgt := 20) hx hb d_Po_advance_7 (by decide) (fun c_25 => ?_) (fun c_25 => ?_)
    · refine lv_aload_n hx hb d_Po_advance_20 rfl (lv_at hl 0 rfl) ?_
      refine lv_dup hx hb d_Po_advance_21 rfl ?_
      refine fg_Po_now hx hb hts hown hI hT t0 (hts _ tw_373) (fun _ h9 => h9) d_Po_advance_22 (fun x_26 => ?_)
      refine lv_iload_n hx hb d_Po_advance_25 rfl (lv_at hl 1 rfl) ?_
      refine lv_i2l hx hb d_Po_advance_26 rfl ?_
      refine lv_topl (fun x_27 e_28 => ?_)
      refine lv_ladd hx hb d_Po_advance_27 ?_
      refine lv_topl (fun x_29 e_30 => ?_)
      refine fp_Po_now hx hb hts hown hI hT t0 (hts _ tw_373) (fun _ h9 => h9) d_Po_advance_28 (fun H locs f hI hT => ?_)
      refine lv_aload_n hx hb d_Po_advance_31 rfl (lv_at hl 0 rfl) ?_
      refine lv_dup hx hb d_Po_advance_32 rfl ?_
      refine fg_Po_clockTime hx hb hts hown hI hT t0 (hts _ tw_371) (fun _ h9 => h9) d_Po_advance_33 (fun x_31 => ?_)
      refine lv_iload_n hx hb d_Po_advance_36 rfl (lv_at hl 1 rfl) ?_
      refine lv_i2l hx hb d_Po_advance_37 rfl ?_
      refine lv_topl (fun x_32 e_33 => ?_)
      refine lv_ladd hx hb d_Po_advance_38 ?_
      refine lv_topl (fun x_34 e_35 => ?_)
      refine fp_Po_clockTime hx hb hts hown hI hT t0 (hts _ tw_371) (fun _ h9 => h9) d_Po_advance_39 (fun H locs f hI hT => ?_)
      refine lv_iconst (v := 0) hx hb d_Po_advance_42 (by decide) ?_
      refine lv_istore_n (lv' := [(2, .int (0)), (0, .ref h0), (1, .int (x1))]) hx hb d_Po_advance_43 rfl hl (by decide) rfl (fun ls hl => ?_)
      refine lv_iconst (v := 0) hx hb d_Po_advance_44 (by decide) ?_
      refine lv_istore_n (lv' := [(3, .int (0)), (2, .int (0)), (0, .ref h0), (1, .int (x1))]) hx hb d_Po_advance_45 rfl hl (by decide) rfl (fun ls hl => ?_)
      exact hJ_46 _ (0) _ _ _ _ 0 (Nat.le_refl _) (by omega) hI hT (lv_sub hl [2, 3, 1, 0] rfl) 
    · exact sm_thr (k := 136) (n := 16) hx hb hts hown hlk hno hfl hE3 hI (hl.1.trans hml.symm) (by decide) (fun _ _ _ h1 h2 => oa_IA h1 h2) tw_425 tw_426 tw_16 tn_756 ⟨trivial, rfl, hT⟩ (by decide) (Nat.le_of_ble_eq_true rfl) (Nat.le_of_ble_eq_true rfl) (Nat.le_of_ble_eq_true rfl) (Nat.le_of_ble_eq_true rfl) (Nat.le_of_ble_eq_true rfl) (Nat.le_of_ble_eq_true rfl) d_Po_advance_10 d_Po_advance_13 (Or.inl ⟨d_Po_advance_14, rfl⟩) d_Po_advance_16 d_Po_advance_19
theorem d_Po_operation_0 : decode b_Po_operation 0 = .ok (.aload_n 0, 1) := by decide +kernel
theorem d_Po_operation_1 : decode b_Po_operation 1 = .ok (.iload_n 1, 1) := by decide +kernel
theorem d_Po_operation_2 : decode b_Po_operation 2 = .ok (.invokevirtual 222, 3) := by decide +kernel
theorem d_Po_operation_5 : decode b_Po_operation 5 = .ok (.astore_n 3, 1) := by decide +kernel
theorem d_Po_operation_6 : decode b_Po_operation 6 = .ok (.iload_n 2, 1) := by decide +kernel
theorem d_Po_operation_7 : decode b_Po_operation 7 = .ok (.ifCond .lt 23, 3) := by decide +kernel
theorem d_Po_operation_10 : decode b_Po_operation 10 = .ok (.iload_n 2, 1) := by decide +kernel
theorem d_Po_operation_11 : decode b_Po_operation 11 = .ok (.iconst 4, 1) := by decide +kernel
theorem d_Po_operation_12 : decode b_Po_operation 12 = .ok (.if_icmp .gt 18, 3) := by decide +kernel
theorem d_Po_operation_15 : decode b_Po_operation 15 = .ok (.aload_n 3, 1) := by decide +kernel
theorem d_Po_operation_16 : decode b_Po_operation 16 = .ok (.ifnull 14, 3) := by decide +kernel
theorem d_Po_operation_19 : decode b_Po_operation 19 = .ok (.iload_n 1, 1) := by decide +kernel
theorem d_Po_operation_20 : decode b_Po_operation 20 = .ok (.aload_n 0, 1) := by decide +kernel
theorem d_Po_operation_21 : decode b_Po_operation 21 = .ok (.getfield 252, 3) := by decide +kernel
theorem d_Po_operation_24 : decode b_Po_operation 24 = .ok (.bipush 16, 2) := by decide +kernel
theorem d_Po_operation_26 : decode b_Po_operation 26 = .ok (.isub, 1) := by decide +kernel
theorem d_Po_operation_27 : decode b_Po_operation 27 = .ok (.if_icmp .ge 13, 3) := by decide +kernel
theorem d_Po_operation_30 : decode b_Po_operation 30 = .ok (.new 68, 3) := by decide +kernel
theorem d_Po_operation_33 : decode b_Po_operation 33 = .ok (.dup, 1) := by decide +kernel
theorem d_Po_operation_34 : decode b_Po_operation 34 = .ok (.ldc 255, 2) := by decide +kernel
theorem d_Po_operation_36 : decode b_Po_operation 36 = .ok (.invokespecial 72, 3) := by decide +kernel
theorem d_Po_operation_39 : decode b_Po_operation 39 = .ok (.athrow, 1) := by decide +kernel
theorem d_Po_operation_40 : decode b_Po_operation 40 = .ok (.iload_n 2, 1) := by decide +kernel
theorem d_Po_operation_41 : decode b_Po_operation 41 = .ok (.tableswitch 51 0 3 #[31, 36, 41, 46], 31) := by decide +kernel
theorem d_Po_operation_72 : decode b_Po_operation 72 = .ok (.aload_n 3, 1) := by decide +kernel
theorem d_Po_operation_73 : decode b_Po_operation 73 = .ok (.getfield 249, 3) := by decide +kernel
theorem d_Po_operation_76 : decode b_Po_operation 76 = .ok (.ireturn, 1) := by decide +kernel
theorem d_Po_operation_77 : decode b_Po_operation 77 = .ok (.aload_n 3, 1) := by decide +kernel
theorem d_Po_operation_78 : decode b_Po_operation 78 = .ok (.getfield 257, 3) := by decide +kernel
theorem d_Po_operation_81 : decode b_Po_operation 81 = .ok (.ireturn, 1) := by decide +kernel
theorem d_Po_operation_82 : decode b_Po_operation 82 = .ok (.aload_n 3, 1) := by decide +kernel
theorem d_Po_operation_83 : decode b_Po_operation 83 = .ok (.getfield 258, 3) := by decide +kernel
theorem d_Po_operation_86 : decode b_Po_operation 86 = .ok (.ireturn, 1) := by decide +kernel
theorem d_Po_operation_87 : decode b_Po_operation 87 = .ok (.aload_n 3, 1) := by decide +kernel
theorem d_Po_operation_88 : decode b_Po_operation 88 = .ok (.getfield 231, 3) := by decide +kernel
theorem d_Po_operation_91 : decode b_Po_operation 91 = .ok (.ireturn, 1) := by decide +kernel
theorem d_Po_operation_92 : decode b_Po_operation 92 = .ok (.aload_n 3, 1) := by decide +kernel
theorem d_Po_operation_93 : decode b_Po_operation 93 = .ok (.getfield 226, 3) := by decide +kernel
theorem d_Po_operation_96 : decode b_Po_operation 96 = .ok (.ifCond .eq 7, 3) := by decide +kernel
theorem d_Po_operation_99 : decode b_Po_operation 99 = .ok (.iconst 1, 1) := by decide +kernel
theorem d_Po_operation_100 : decode b_Po_operation 100 = .ok (.goto 4, 3) := by decide +kernel
theorem d_Po_operation_103 : decode b_Po_operation 103 = .ok (.iconst 0, 1) := by decide +kernel
theorem d_Po_operation_104 : decode b_Po_operation 104 = .ok (.ireturn, 1) := by decide +kernel
set_option maxRecDepth 100000 in
set_option maxHeartbeats 4000000 in
theorem c_Po_operation (l : Launch) (D : va_G) (ca : Nat → ClassId) (T : ty_e) (L : List Nat) (f0 : Nat → va_E) (sz : Nat) (hT : ok_T ca T L f0) {g0 : List (Int32 × Int32)} (h0 : Nat) (t0 : T h0 = some (ty_po g0)) (x1 : Int32) (x2 : Int32) (hfl : l.flags = Jvm.pinnedFlags ++ [Jvm.noTraceFlag]) :
    MetO l y_Po_operation (Cond.code y_Po_operation b_Po_operation 4 (some .int) :: wg) { frames := 6, cells := 1, slots := 6, locals := 82 } (va_Pc [.ref h0, .int (x1), .int (x2)] (sm_P D cl_all (ty_s ca) ek3 L f0 sz)) (sm_Qi D (ty_s ca) L f0 sz (fun r u => (True) ∧ u = (L, f0))) (sm_Qt D (ty_s ca) L f0 sz (fun X u => (True) ∧ po_m ca T L u) [xIA]) 1 6 (va_A (va_pl L f0) sz) := by
  refine sm_startO (by decide) (Nat.le_of_ble_eq_true rfl) ?_
  intro p e s m below meth c ls hx hb hml hr hlk hno hts hown hsz hE3 hI hl
  have hE := hE3.1.1
  have hl : lv_has ls 4 [(0, .ref h0), (1, .int (x1)), (2, .int (x2))] := hl
  refine lv_aload_n hx hb d_Po_operation_0 rfl (lv_at hl 0 rfl) ?_
  refine lv_iload_n hx hb d_Po_operation_1 rfl (lv_at hl 1 rfl) ?_
  refine sm_qP hI (va_runV (As := [.int (x1)]) (rest := []) ⟨hx, hb, hml, hown, hts⟩ (c_Po_findOperation l D ca _ _ _ _ hT h0 t0 x1) (kv_Po_findOperation hts rfl rfl (hts _ tw_1125) ⟨Nat.le_of_ble_eq_true rfl, Nat.le_of_ble_eq_true rfl⟩) (pv_Po hI hE hT t0) rfl rfl hl.1 rfl (lv_room (Nat.le_of_ble_eq_true rfl)) d_Po_operation_2 ⟨Nat.le_of_ble_eq_true rfl, Nat.le_of_ble_eq_true rfl⟩) (fun o_1 H locs p_2 hI => ?_)
  rcases o_1 with _ | r_3
  · refine lv_astore_nN (lv' := [(3, .null), (0, .ref h0), (1, .int (x1)), (2, .int (x2))]) hx hb d_Po_operation_5 rfl hl (by decide) rfl (fun ls hl => ?_)
    refine lv_iload_n hx hb d_Po_operation_6 rfl (lv_at hl 3 rfl) ?_
    refine lv_if_lt (tgt := 30) hx hb d_Po_operation_7 (by decide) (fun c_4 => ?_) (fun c_4 => ?_)
    · exact sm_thr (k := 255) (n := 36) hx hb hts hown hlk hno hfl hE3 hI (hl.1.trans hml.symm) (by decide) (fun _ _ _ h1 h2 => oa_IA h1 h2) tw_425 tw_426 tw_16 tn_1137 ⟨trivial, rfl, hT⟩ (by decide) (Nat.le_of_ble_eq_true rfl) (Nat.le_of_ble_eq_true rfl) (Nat.le_of_ble_eq_true rfl) (Nat.le_of_ble_eq_true rfl) (Nat.le_of_ble_eq_true rfl) (Nat.le_of_ble_eq_true rfl) d_Po_operation_30 d_Po_operation_33 (Or.inl ⟨d_Po_operation_34, rfl⟩) d_Po_operation_36 d_Po_operation_39
    · refine lv_iload_n hx hb d_Po_operation_10 rfl (lv_at hl 3 rfl) ?_
      refine lv_iconst (v := 4) hx hb d_Po_operation_11 (by decide) ?_
      refine lv_icmp_gt (tgt := 30) hx hb d_Po_operation_12 (by decide) (fun c_5 => ?_) (fun c_5 => ?_)
      · exact sm_thr (k := 255) (n := 36) hx hb hts hown hlk hno hfl hE3 hI (hl.1.trans hml.symm) (by decide) (fun _ _ _ h1 h2 => oa_IA h1 h2) tw_425 tw_426 tw_16 tn_1137 ⟨trivial, rfl, hT⟩ (by decide) (Nat.le_of_ble_eq_true rfl) (Nat.le_of_ble_eq_true rfl) (Nat.le_of_ble_eq_true rfl) (Nat.le_of_ble_eq_true rfl) (Nat.le_of_ble_eq_true rfl) (Nat.le_of_ble_eq_true rfl) d_Po_operation_30 d_Po_operation_33 (Or.inl ⟨d_Po_operation_34, rfl⟩) d_Po_operation_36 d_Po_operation_39
      · refine lv_aload_nN hx hb d_Po_operation_15 rfl (lv_at hl 0 rfl) ?_
        refine lv_ifnullN (tgt := 30) hx hb d_Po_operation_16 (by decide) ?_
        exact sm_thr (k := 255) (n := 36) hx hb hts hown hlk hno hfl hE3 hI (hl.1.trans hml.symm) (by decide) (fun _ _ _ h1 h2 => oa_IA h1 h2) tw_425 tw_426 tw_16 tn_1137 ⟨trivial, rfl, hT⟩ (by decide) (Nat.le_of_ble_eq_true rfl) (Nat.le_of_ble_eq_true rfl) (Nat.le_of_ble_eq_true rfl) (Nat.le_of_ble_eq_true rfl) (Nat.le_of_ble_eq_true rfl) (Nat.le_of_ble_eq_true rfl) d_Po_operation_30 d_Po_operation_33 (Or.inl ⟨d_Po_operation_34, rfl⟩) d_Po_operation_36 d_Po_operation_39
  · have t_6 := p_2 r_3 rfl
    refine lv_astore_n (lv' := [(3, .ref r_3), (0, .ref h0), (1, .int (x1)), (2, .int (x2))]) hx hb d_Po_operation_5 rfl hl (by decide) rfl (fun ls hl => ?_)
    refine lv_iload_n hx hb d_Po_operation_6 rfl (lv_at hl 3 rfl) ?_
    refine lv_if_lt (tgt := 30) hx hb d_Po_operation_7 (by decide) (fun c_7 => ?_) (fun c_7 => ?_)
    · exact sm_thr (k := 255) (n := 36) hx hb hts hown hlk hno hfl hE3 hI (hl.1.trans hml.symm) (by decide) (fun _ _ _ h1 h2 => oa_IA h1 h2) tw_425 tw_426 tw_16 tn_1137 ⟨trivial, rfl, hT⟩ (by decide) (Nat.le_of_ble_eq_true rfl) (Nat.le_of_ble_eq_true rfl) (Nat.le_of_ble_eq_true rfl) (Nat.le_of_ble_eq_true rfl) (Nat.le_of_ble_eq_true rfl) (Nat.le_of_ble_eq_true rfl) d_Po_operation_30 d_Po_operation_33 (Or.inl ⟨d_Po_operation_34, rfl⟩) d_Po_operation_36 d_Po_operation_39
    · refine lv_iload_n hx hb d_Po_operation_10 rfl (lv_at hl 3 rfl) ?_
      refine lv_iconst (v := 4) hx hb d_Po_operation_11 (by decide) ?_
      refine lv_icmp_gt (tgt := 30) hx hb d_Po_operation_12 (by decide) (fun c_8 => ?_) (fun c_8 => ?_)
      · exact sm_thr (k := 255) (n := 36) hx hb hts hown hlk hno hfl hE3 hI (hl.1.trans hml.symm) (by decide) (fun _ _ _ h1 h2 => oa_IA h1 h2) tw_425 tw_426 tw_16 tn_1137 ⟨trivial, rfl, hT⟩ (by decide) (Nat.le_of_ble_eq_true rfl) (Nat.le_of_ble_eq_true rfl) (Nat.le_of_ble_eq_true rfl) (Nat.le_of_ble_eq_true rfl) (Nat.le_of_ble_eq_true rfl) (Nat.le_of_ble_eq_true rfl) d_Po_operation_30 d_Po_operation_33 (Or.inl ⟨d_Po_operation_34, rfl⟩) d_Po_operation_36 d_Po_operation_39
      · refine lv_aload_n hx hb d_Po_operation_15 rfl (lv_at hl 0 rfl) ?_
        refine lv_ifnull hx hb d_Po_operation_16 ?_
        refine lv_iload_n hx hb d_Po_operation_19 rfl (lv_at hl 2 rfl) ?_
        refine lv_aload_n hx hb d_Po_operation_20 rfl (lv_at hl 1 rfl) ?_
        refine fg_Po_operationsEver hx hb hts hown hI hT t0 (hts _ tw_369) (fun _ h9 => h9) d_Po_operation_21 (fun x_9 => ?_)
        refine lv_bipush (v := 16) hx hb d_Po_operation_24 (by decide) ?_
        refine lv_isub hx hb d_Po_operation_26 ?_
        refine lv_topi (fun x_10 e_11 => ?_)
        refine lv_icmp_ge (tgt := 40) hx hb d_Po_operation_27 (by decide) (fun c_12 => ?_) (fun c_12 => ?_)
        · refine lv_iload_n hx hb d_Po_operation_40 rfl (lv_at hl 3 rfl) ?_
          by_cases c_13 : x2.toInt = 0
          · refine lv_tableIn (off := 31) (tgt := 72) hx hb d_Po_operation_41 (by omega) (by omega) (by rw [c_13]; rfl) (by decide) ?_
            refine lv_aload_n hx hb d_Po_operation_72 rfl (lv_at hl 0 rfl) ?_
            refine fgN_Op_point hx hb hts hown hI hT t_6 (va_Nw.use rfl (hE.1 _ tn_337 rfl)) (fun _ h9 => h9) d_Po_operation_73 (fun x_14 => ?_)
            refine W.mono (fun _ h => Or.inl h) (W.widen (k := 1) (n := 6) (by decide) (by decide) ?_)
            exact sm_iret hx hb hr hlk hI ⟨trivial, rfl⟩ d_Po_operation_76
          by_cases c_15 : x2.toInt = 1
          · refine lv_tableIn (off := 36) (tgt := 77) hx hb d_Po_operation_41 (by omega) (by omega) (by rw [c_15]; rfl) (by decide) ?_
            refine lv_aload_n hx hb d_Po_operation_77 rfl (lv_at hl 0 rfl) ?_
            refine fgN_Op_value hx hb hts hown hI hT t_6 (va_Nw.use rfl (hE.1 _ tn_338 rfl)) (fun _ h9 => h9) d_Po_operation_78 (fun x_16 => ?_)
            refine W.mono (fun _ h => Or.inl h) (W.widen (k := 1) (n := 6) (by decide) (by decide) ?_)
            exact sm_iret hx hb hr hlk hI ⟨trivial, rfl⟩ d_Po_operation_81
          by_cases c_17 : x2.toInt = 2
          · refine lv_tableIn (off := 41) (tgt := 82) hx hb d_Po_operation_41 (by omega) (by omega) (by rw [c_17]; rfl) (by decide) ?_
            refine lv_aload_n hx hb d_Po_operation_82 rfl (lv_at hl 0 rfl) ?_
            refine fgN_Op_qualifier hx hb hts hown hI hT t_6 (va_Nw.use rfl (hE.1 _ tn_339 rfl)) (fun _ h9 => h9) d_Po_operation_83 (fun x_18 => ?_)
            refine W.mono (fun _ h => Or.inl h) (W.widen (k := 1) (n := 6) (by decide) (by decide) ?_)
            exact sm_iret hx hb hr hlk hI ⟨trivial, rfl⟩ d_Po_operation_86
          by_cases c_19 : x2.toInt = 3
          · refine lv_tableIn (off := 46) (tgt := 87) hx hb d_Po_operation_41 (by omega) (by omega) (by rw [c_19]; rfl) (by decide) ?_
            refine lv_aload_n hx hb d_Po_operation_87 rfl (lv_at hl 0 rfl) ?_
            refine fgN_Op_line hx hb hts hown hI hT t_6 (va_Nw.use rfl (hE.1 _ tn_340 rfl)) (fun _ h9 => h9) d_Po_operation_88 (fun x_20 => ?_)
            refine W.mono (fun _ h => Or.inl h) (W.widen (k := 1) (n := 6) (by decide) (by decide) ?_)
            exact sm_iret hx hb hr hlk hI ⟨trivial, rfl⟩ d_Po_operation_91
          refine lv_tableOut (tgt := 92) hx hb d_Po_operation_41 (by omega) (by decide) ?_
          refine lv_aload_n hx hb d_Po_operation_92 rfl (lv_at hl 0 rfl) ?_
          refine fgN_Op_goesOn hx hb hts hown hI hT t_6 (va_Nw.use rfl (hE.1 _ tn_342 rfl)) (fun _ h9 => h9) d_Po_operation_93 (fun x_21 p_22 => ?_)
          refine lv_if_eq (tgt := 103) hx hb d_Po_operation_96 (by decide) (fun c_23 => ?_) (fun c_23 => ?_)
          · refine lv_iconst (v := 0) hx hb d_Po_operation_103 (by decide) ?_
            refine W.mono (fun _ h => Or.inl h) (W.widen (k := 1) (n := 6) (by decide) (by decide) ?_)
            exact sm_iret hx hb hr hlk hI ⟨trivial, rfl⟩ d_Po_operation_104
          · refine lv_iconst (v := 1) hx hb d_Po_operation_99 (by decide) ?_
            refine lv_goto (tgt := 104) hx hb d_Po_operation_100 (by decide) ?_
            refine W.mono (fun _ h => Or.inl h) (W.widen (k := 1) (n := 6) (by decide) (by decide) ?_)
            exact sm_iret hx hb hr hlk hI ⟨trivial, rfl⟩ d_Po_operation_104
        · exact sm_thr (k := 255) (n := 36) hx hb hts hown hlk hno hfl hE3 hI (hl.1.trans hml.symm) (by decide) (fun _ _ _ h1 h2 => oa_IA h1 h2) tw_425 tw_426 tw_16 tn_1137 ⟨trivial, rfl, hT⟩ (by decide) (Nat.le_of_ble_eq_true rfl) (Nat.le_of_ble_eq_true rfl) (Nat.le_of_ble_eq_true rfl) (Nat.le_of_ble_eq_true rfl) (Nat.le_of_ble_eq_true rfl) (Nat.le_of_ble_eq_true rfl) d_Po_operation_30 d_Po_operation_33 (Or.inl ⟨d_Po_operation_34, rfl⟩) d_Po_operation_36 d_Po_operation_39
theorem d_Po_look_0 : decode b_Po_look 0 = .ok (.iload_n 1, 1) := by decide +kernel
theorem d_Po_look_1 : decode b_Po_look 1 = .ok (.ifCond .lt 18, 3) := by decide +kernel
theorem d_Po_look_4 : decode b_Po_look 4 = .ok (.iload_n 1, 1) := by decide +kernel
theorem d_Po_look_5 : decode b_Po_look 5 = .ok (.iconst 3, 1) := by decide +kernel
theorem d_Po_look_6 : decode b_Po_look 6 = .ok (.if_icmp .gt 13, 3) := by decide +kernel
theorem d_Po_look_9 : decode b_Po_look 9 = .ok (.iload_n 2, 1) := by decide +kernel
theorem d_Po_look_10 : decode b_Po_look 10 = .ok (.ifCond .lt 9, 3) := by decide +kernel
theorem d_Po_look_13 : decode b_Po_look 13 = .ok (.iload_n 2, 1) := by decide +kernel
theorem d_Po_look_14 : decode b_Po_look 14 = .ok (.bipush 6, 2) := by decide +kernel
theorem d_Po_look_16 : decode b_Po_look 16 = .ok (.if_icmp .le 14, 3) := by decide +kernel
theorem d_Po_look_19 : decode b_Po_look 19 = .ok (.new 68, 3) := by decide +kernel
theorem d_Po_look_22 : decode b_Po_look 22 = .ok (.dup, 1) := by decide +kernel
theorem d_Po_look_23 : decode b_Po_look 23 = .ok (.ldc_w 261, 3) := by decide +kernel
theorem d_Po_look_26 : decode b_Po_look 26 = .ok (.invokespecial 72, 3) := by decide +kernel
theorem d_Po_look_29 : decode b_Po_look 29 = .ok (.athrow, 1) := by decide +kernel
theorem d_Po_look_30 : decode b_Po_look 30 = .ok (.aload_n 0, 1) := by decide +kernel
theorem d_Po_look_31 : decode b_Po_look 31 = .ok (.iload_n 1, 1) := by decide +kernel
theorem d_Po_look_32 : decode b_Po_look 32 = .ok (.invokevirtual 171, 3) := by decide +kernel
theorem d_Po_look_35 : decode b_Po_look 35 = .ok (.astore_n 3, 1) := by decide +kernel
theorem d_Po_look_36 : decode b_Po_look 36 = .ok (.iload_n 2, 1) := by decide +kernel
theorem d_Po_look_37 : decode b_Po_look 37 = .ok (.lookupswitch 56 #[(0, 35), (1, 40), (6, 48)], 35) := by decide +kernel
theorem d_Po_look_72 : decode b_Po_look 72 = .ok (.aload_n 3, 1) := by decide +kernel
theorem d_Po_look_73 : decode b_Po_look 73 = .ok (.getfield 175, 3) := by decide +kernel
theorem d_Po_look_76 : decode b_Po_look 76 = .ok (.ireturn, 1) := by decide +kernel
theorem d_Po_look_77 : decode b_Po_look 77 = .ok (.aload_n 3, 1) := by decide +kernel
theorem d_Po_look_78 : decode b_Po_look 78 = .ok (.getfield 204, 3) := by decide +kernel
theorem d_Po_look_81 : decode b_Po_look 81 = .ok (.getfield 207, 3) := by decide +kernel
theorem d_Po_look_84 : decode b_Po_look 84 = .ok (.ireturn, 1) := by decide +kernel
theorem d_Po_look_85 : decode b_Po_look 85 = .ok (.aload_n 3, 1) := by decide +kernel
theorem d_Po_look_86 : decode b_Po_look 86 = .ok (.getfield 263, 3) := by decide +kernel
theorem d_Po_look_89 : decode b_Po_look 89 = .ok (.getfield 267, 3) := by decide +kernel
theorem d_Po_look_92 : decode b_Po_look 92 = .ok (.ireturn, 1) := by decide +kernel
theorem d_Po_look_93 : decode b_Po_look 93 = .ok (.iload_n 1, 1) := by decide +kernel
theorem d_Po_look_94 : decode b_Po_look 94 = .ok (.iconst 3, 1) := by decide +kernel
theorem d_Po_look_95 : decode b_Po_look 95 = .ok (.if_icmp .ne 7, 3) := by decide +kernel
theorem d_Po_look_98 : decode b_Po_look 98 = .ok (.iconst 0, 1) := by decide +kernel
theorem d_Po_look_99 : decode b_Po_look 99 = .ok (.goto 13, 3) := by decide +kernel
theorem d_Po_look_102 : decode b_Po_look 102 = .ok (.aload_n 0, 1) := by decide +kernel
theorem d_Po_look_103 : decode b_Po_look 103 = .ok (.getfield 17, 3) := by decide +kernel
theorem d_Po_look_106 : decode b_Po_look 106 = .ok (.iload_n 1, 1) := by decide +kernel
theorem d_Po_look_107 : decode b_Po_look 107 = .ok (.aaload, 1) := by decide +kernel
theorem d_Po_look_108 : decode b_Po_look 108 = .ok (.iload_n 2, 1) := by decide +kernel
theorem d_Po_look_109 : decode b_Po_look 109 = .ok (.invokevirtual 272, 3) := by decide +kernel
theorem d_Po_look_112 : decode b_Po_look 112 = .ok (.ireturn, 1) := by decide +kernel
set_option maxRecDepth 100000 in
set_option maxHeartbeats 4000000 in
theorem c_Po_look (l : Launch) (D : va_G) (ca : Nat → ClassId) (T : ty_e) (L : List Nat) (f0 : Nat → va_E) (sz : Nat) (hT : ok_T ca T L f0) {g0 : List (Int32 × Int32)} (h0 : Nat) (t0 : T h0 = some (ty_po g0)) (x1 : Int32) (x2 : Int32) (hfl : l.flags = Jvm.pinnedFlags ++ [Jvm.noTraceFlag]) :
    MetO l y_Po_look (Cond.code y_Po_look b_Po_look 4 (some .int) :: wg) { frames := 6, cells := 1, slots := 6, locals := 82 } (va_Pc [.ref h0, .int (x1), .int (x2)] (sm_P D cl_all (ty_s ca) ek3 L f0 sz)) (sm_Qi D (ty_s ca) L f0 sz (fun r u => (True) ∧ u = (L, f0))) (sm_Qt D (ty_s ca) L f0 sz (fun X u => (True) ∧ po_m ca T L u) [xIA]) 1 6 (va_A (va_pl L f0) sz) := by
  refine sm_startO (by decide) (Nat.le_of_ble_eq_true rfl) ?_
  intro p e s m below meth c ls hx hb hml hr hlk hno hts hown hsz hE3 hI hl
  have hE := hE3.1.1
  have hl : lv_has ls 4 [(0, .ref h0), (1, .int (x1)), (2, .int (x2))] := hl
  refine lv_iload_n hx hb d_Po_look_0 rfl (lv_at hl 1 rfl) ?_
  refine lv_if_lt (tgt := 19) hx hb d_Po_look_1 (by decide) (fun c_1 => ?_) (fun c_1 => ?_)
  · exact sm_thr (k := 261) (n := 26) hx hb hts hown hlk hno hfl hE3 hI (hl.1.trans hml.symm) (by decide) (fun _ _ _ h1 h2 => oa_IA h1 h2) tw_425 tw_426 tw_16 tn_1145 ⟨trivial, rfl, hT⟩ (by decide) (Nat.le_of_ble_eq_true rfl) (Nat.le_of_ble_eq_true rfl) (Nat.le_of_ble_eq_true rfl) (Nat.le_of_ble_eq_true rfl) (Nat.le_of_ble_eq_true rfl) (Nat.le_of_ble_eq_true rfl) d_Po_look_19 d_Po_look_22 (Or.inr ⟨d_Po_look_23, rfl⟩) d_Po_look_26 d_Po_look_29
  · refine lv_iload_n hx hb d_Po_look_4 rfl (lv_at hl 1 rfl) ?_
    refine lv_iconst (v := 3) hx hb d_Po_look_5 (by decide) ?_
    refine lv_icmp_gt (tgt := 19) hx hb d_Po_look_6 (by decide) (fun c_2 => ?_) (fun c_2 => ?_)
    · exact sm_thr (k := 261) (n := 26) hx hb hts hown hlk hno hfl hE3 hI (hl.1.trans hml.symm) (by decide) (fun _ _ _ h1 h2 => oa_IA h1 h2) tw_425 tw_426 tw_16 tn_1145 ⟨trivial, rfl, hT⟩ (by decide) (Nat.le_of_ble_eq_true rfl) (Nat.le_of_ble_eq_true rfl) (Nat.le_of_ble_eq_true rfl) (Nat.le_of_ble_eq_true rfl) (Nat.le_of_ble_eq_true rfl) (Nat.le_of_ble_eq_true rfl) d_Po_look_19 d_Po_look_22 (Or.inr ⟨d_Po_look_23, rfl⟩) d_Po_look_26 d_Po_look_29
    · refine lv_iload_n hx hb d_Po_look_9 rfl (lv_at hl 2 rfl) ?_
      refine lv_if_lt (tgt := 19) hx hb d_Po_look_10 (by decide) (fun c_3 => ?_) (fun c_3 => ?_)
      · exact sm_thr (k := 261) (n := 26) hx hb hts hown hlk hno hfl hE3 hI (hl.1.trans hml.symm) (by decide) (fun _ _ _ h1 h2 => oa_IA h1 h2) tw_425 tw_426 tw_16 tn_1145 ⟨trivial, rfl, hT⟩ (by decide) (Nat.le_of_ble_eq_true rfl) (Nat.le_of_ble_eq_true rfl) (Nat.le_of_ble_eq_true rfl) (Nat.le_of_ble_eq_true rfl) (Nat.le_of_ble_eq_true rfl) (Nat.le_of_ble_eq_true rfl) d_Po_look_19 d_Po_look_22 (Or.inr ⟨d_Po_look_23, rfl⟩) d_Po_look_26 d_Po_look_29
      · refine lv_iload_n hx hb d_Po_look_13 rfl (lv_at hl 2 rfl) ?_
        refine lv_bipush (v := 6) hx hb d_Po_look_14 (by decide) ?_
        refine lv_icmp_le (tgt := 30) hx hb d_Po_look_16 (by decide) (fun c_4 => ?_) (fun c_4 => ?_)
        · refine lv_aload_n hx hb d_Po_look_30 rfl (lv_at hl 0 rfl) ?_
          refine lv_iload_n hx hb d_Po_look_31 rfl (lv_at hl 1 rfl) ?_
          refine sm_qP hI (va_runV (As := [.int (x1)]) (rest := []) ⟨hx, hb, hml, hown, hts⟩ (c_Po_lineOf l D ca _ _ _ _ hT h0 t0 x1) (kv_Po_lineOf hts rfl rfl (hts _ tw_828) ⟨Nat.le_of_ble_eq_true rfl, Nat.le_of_ble_eq_true rfl⟩) (pv_Po hI hE hT t0) rfl rfl hl.1 rfl (lv_room (Nat.le_of_ble_eq_true rfl)) d_Po_look_32 ⟨Nat.le_of_ble_eq_true rfl, Nat.le_of_ble_eq_true rfl⟩) (fun o_5 H locs p_6 hI => ?_)
          obtain ⟨r_7, rfl, t_8⟩ := p_6
          refine lv_astore_n (lv' := [(3, .ref r_7), (0, .ref h0), (1, .int (x1)), (2, .int (x2))]) hx hb d_Po_look_35 rfl hl (by decide) rfl (fun ls hl => ?_)
          refine lv_iload_n hx hb d_Po_look_36 rfl (lv_at hl 3 rfl) ?_
          by_cases c_9 : x2 = 0
          · refine lv_lookup (off := 35) (tgt := 72) hx hb d_Po_look_37 (by decide) (by rw [c_9]; decide) (by decide) ?_
            refine lv_aload_n hx hb d_Po_look_72 rfl (lv_at hl 0 rfl) ?_
            refine fg_Li_state hx hb hts hown hI hT t_8 (hts _ tw_149) (fun _ h9 => h9) d_Po_look_73 (fun x_10 => ?_)
            refine W.mono (fun _ h => Or.inl h) (W.widen (k := 1) (n := 6) (by decide) (by decide) ?_)
            exact sm_iret hx hb hr hlk hI ⟨trivial, rfl⟩ d_Po_look_76
          by_cases c_11 : x2 = 1
          · refine lv_lookup (off := 40) (tgt := 77) hx hb d_Po_look_37 (by decide) (by rw [c_11]; decide) (by decide) ?_
            refine lv_aload_n hx hb d_Po_look_77 rfl (lv_at hl 0 rfl) ?_
            refine fg_Li_waiting hx hb hts hown hI hT t_8 (hts _ tw_124) (fun _ h9 => h9) d_Po_look_78 (fun r_12 n_13 t_14 => ?_)
            refine fgN_Br_length hx hb hts hown hI hT t_14 (va_Nw.use rfl (hE.1 _ tn_51 rfl)) (fun _ h9 => h9) d_Po_look_81 (fun n_15 h_16 => ?_)
            refine W.mono (fun _ h => Or.inl h) (W.widen (k := 1) (n := 6) (by decide) (by decide) ?_)
            exact sm_iret hx hb hr hlk hI ⟨trivial, rfl⟩ d_Po_look_84
          by_cases c_17 : x2 = 6
          · refine lv_lookup (off := 48) (tgt := 85) hx hb d_Po_look_37 (by decide) (by rw [c_17]; decide) (by decide) ?_
            refine lv_aload_n hx hb d_Po_look_85 rfl (lv_at hl 0 rfl) ?_
            refine fg_Li_answers hx hb hts hown hI hT t_8 (hts _ tw_139) (fun _ h9 => h9) d_Po_look_86 (fun r_18 t_19 => ?_)
            refine fgN_As_many hx hb hts hown hI hT t_19 (va_Nw.use rfl (hE.1 _ tn_101 rfl)) (fun _ h9 => h9) d_Po_look_89 (fun n_20 h_21 => ?_)
            refine W.mono (fun _ h => Or.inl h) (W.widen (k := 1) (n := 6) (by decide) (by decide) ?_)
            exact sm_iret hx hb hr hlk hI ⟨trivial, rfl⟩ d_Po_look_92
          refine lv_lookup (off := 56) (tgt := 93) hx hb d_Po_look_37 (by decide) (by show Op.lookupswitch.offset [(0, 35), (1, 40), (6, 48)] _ _ = _; rw [lv_osw c_9 (by decide), lv_osw c_11 (by decide), lv_osw c_17 (by decide)]; rfl) (by decide) ?_
          refine lv_iload_n hx hb d_Po_look_93 rfl (lv_at hl 2 rfl) ?_
          refine lv_iconst (v := 3) hx hb d_Po_look_94 (by decide) ?_
          refine lv_icmp_ne (tgt := 102) hx hb d_Po_look_95 (by decide) (fun c_22 => ?_) (fun c_22 => ?_)
          · obtain ⟨n_23, h_24, rfl⟩ : ∃ n : Nat, n ≤ 2 ∧ x1 = nI n := (nb_ne c_1 c_2 c_22)
            refine lv_aload_n hx hb d_Po_look_102 rfl (lv_at hl 1 rfl) ?_
            refine fg_Po_connections hx hb hts hown hI hT t0 (hts _ tw_365) (fun _ h9 => h9) d_Po_look_103 (fun r_25 t_26 => ?_)
            refine lv_iload_n hx hb d_Po_look_106 rfl (lv_at hl 2 rfl) ?_
            refine fa_cns (j := n_23) hx hb hI hT t_26 (by omega) d_Po_look_107 (fun r_27 t_28 => ?_)
            refine lv_iload_n hx hb d_Po_look_108 rfl (lv_at hl 3 rfl) ?_
            refine sm_iP hI (va_runV (As := [.int (x2)]) (rest := []) ⟨hx, hb, hml, hown, hts⟩ (c_Cn_numberOf l D ca _ _ _ _ hT r_27 t_28 x2) (kv_Cn_numberOf hts rfl rfl (hts _ tw_1146) ⟨Nat.le_of_ble_eq_true rfl, Nat.le_of_ble_eq_true rfl⟩) (pv_Cn hI hE hT t_28) rfl rfl hl.1 rfl (lv_room (Nat.le_of_ble_eq_true rfl)) d_Po_look_109 ⟨Nat.le_of_ble_eq_true rfl, Nat.le_of_ble_eq_true rfl⟩) (fun x_29 H locs p_30 hI => ?_)
            refine W.mono (fun _ h => Or.inl h) (W.widen (k := 1) (n := 6) (by decide) (by decide) ?_)
            exact sm_iret hx hb hr hlk hI ⟨trivial, rfl⟩ d_Po_look_112
          · refine lv_iconst (v := 0) hx hb d_Po_look_98 (by decide) ?_
            refine lv_goto (tgt := 112) hx hb d_Po_look_99 (by decide) ?_
            refine W.mono (fun _ h => Or.inl h) (W.widen (k := 1) (n := 6) (by decide) (by decide) ?_)
            exact sm_iret hx hb hr hlk hI ⟨trivial, rfl⟩ d_Po_look_112
        · exact sm_thr (k := 261) (n := 26) hx hb hts hown hlk hno hfl hE3 hI (hl.1.trans hml.symm) (by decide) (fun _ _ _ h1 h2 => oa_IA h1 h2) tw_425 tw_426 tw_16 tn_1145 ⟨trivial, rfl, hT⟩ (by decide) (Nat.le_of_ble_eq_true rfl) (Nat.le_of_ble_eq_true rfl) (Nat.le_of_ble_eq_true rfl) (Nat.le_of_ble_eq_true rfl) (Nat.le_of_ble_eq_true rfl) (Nat.le_of_ble_eq_true rfl) d_Po_look_19 d_Po_look_22 (Or.inr ⟨d_Po_look_23, rfl⟩) d_Po_look_26 d_Po_look_29
theorem d_Po_count_0 : decode b_Po_count 0 = .ok (.iload_n 1, 1) := by decide +kernel
theorem d_Po_count_1 : decode b_Po_count 1 = .ok (.tableswitch 116 0 6 #[43, 51, 59, 67, 72, 98, 103], 43) := by decide +kernel
theorem d_Po_count_44 : decode b_Po_count 44 = .ok (.aload_n 0, 1) := by decide +kernel
theorem d_Po_count_45 : decode b_Po_count 45 = .ok (.getfield 31, 3) := by decide +kernel
theorem d_Po_count_48 : decode b_Po_count 48 = .ok (.getfield 275, 3) := by decide +kernel
theorem d_Po_count_51 : decode b_Po_count 51 = .ok (.ireturn, 1) := by decide +kernel
theorem d_Po_count_52 : decode b_Po_count 52 = .ok (.aload_n 0, 1) := by decide +kernel
theorem d_Po_count_53 : decode b_Po_count 53 = .ok (.getfield 31, 3) := by decide +kernel
theorem d_Po_count_56 : decode b_Po_count 56 = .ok (.invokevirtual 276, 3) := by decide +kernel
theorem d_Po_count_59 : decode b_Po_count 59 = .ok (.ireturn, 1) := by decide +kernel
theorem d_Po_count_60 : decode b_Po_count 60 = .ok (.aload_n 0, 1) := by decide +kernel
theorem d_Po_count_61 : decode b_Po_count 61 = .ok (.getfield 31, 3) := by decide +kernel
theorem d_Po_count_64 : decode b_Po_count 64 = .ok (.getfield 279, 3) := by decide +kernel
theorem d_Po_count_67 : decode b_Po_count 67 = .ok (.ireturn, 1) := by decide +kernel
theorem d_Po_count_68 : decode b_Po_count 68 = .ok (.aload_n 0, 1) := by decide +kernel
theorem d_Po_count_69 : decode b_Po_count 69 = .ok (.getfield 252, 3) := by decide +kernel
theorem d_Po_count_72 : decode b_Po_count 72 = .ok (.ireturn, 1) := by decide +kernel
theorem d_Po_count_73 : decode b_Po_count 73 = .ok (.aload_n 0, 1) := by decide +kernel
theorem d_Po_count_74 : decode b_Po_count 74 = .ok (.getfield 44, 3) := by decide +kernel
theorem d_Po_count_77 : decode b_Po_count 77 = .ok (.aload_n 0, 1) := by decide +kernel
theorem d_Po_count_78 : decode b_Po_count 78 = .ok (.getfield 147, 3) := by decide +kernel
theorem d_Po_count_81 : decode b_Po_count 81 = .ok (.invokevirtual 282, 3) := by decide +kernel
theorem d_Po_count_84 : decode b_Po_count 84 = .ok (.ifCond .eq 13, 3) := by decide +kernel
theorem d_Po_count_87 : decode b_Po_count 87 = .ok (.aload_n 0, 1) := by decide +kernel
theorem d_Po_count_88 : decode b_Po_count 88 = .ok (.getfield 44, 3) := by decide +kernel
theorem d_Po_count_91 : decode b_Po_count 91 = .ok (.getfield 286, 3) := by decide +kernel
theorem d_Po_count_94 : decode b_Po_count 94 = .ok (.goto 4, 3) := by decide +kernel
theorem d_Po_count_97 : decode b_Po_count 97 = .ok (.iconst (-1), 1) := by decide +kernel
theorem d_Po_count_98 : decode b_Po_count 98 = .ok (.ireturn, 1) := by decide +kernel
theorem d_Po_count_99 : decode b_Po_count 99 = .ok (.aload_n 0, 1) := by decide +kernel
theorem d_Po_count_100 : decode b_Po_count 100 = .ok (.invokevirtual 127, 3) := by decide +kernel
theorem d_Po_count_103 : decode b_Po_count 103 = .ok (.ireturn, 1) := by decide +kernel
theorem d_Po_count_104 : decode b_Po_count 104 = .ok (.aload_n 0, 1) := by decide +kernel
theorem d_Po_count_105 : decode b_Po_count 105 = .ok (.getfield 142, 3) := by decide +kernel
theorem d_Po_count_108 : decode b_Po_count 108 = .ok (.ifCond .eq 7, 3) := by decide +kernel
theorem d_Po_count_111 : decode b_Po_count 111 = .ok (.iconst 1, 1) := by decide +kernel
theorem d_Po_count_112 : decode b_Po_count 112 = .ok (.goto 4, 3) := by decide +kernel
theorem d_Po_count_115 : decode b_Po_count 115 = .ok (.iconst 0, 1) := by decide +kernel
theorem d_Po_count_116 : decode b_Po_count 116 = .ok (.ireturn, 1) := by decide +kernel
theorem d_Po_count_117 : decode b_Po_count 117 = .ok (.new 68, 3) := by decide +kernel
theorem d_Po_count_120 : decode b_Po_count 120 = .ok (.dup, 1) := by decide +kernel
theorem d_Po_count_121 : decode b_Po_count 121 = .ok (.ldc_w 287, 3) := by decide +kernel
theorem d_Po_count_124 : decode b_Po_count 124 = .ok (.invokespecial 72, 3) := by decide +kernel
theorem d_Po_count_127 : decode b_Po_count 127 = .ok (.athrow, 1) := by decide +kernel
set_option maxRecDepth 100000 in
set_option maxHeartbeats 4000000 in
theorem c_Po_count (l : Launch) (D : va_G) (ca : Nat → ClassId) (T : ty_e) (L : List Nat) (f0 : Nat → va_E) (sz : Nat) (hT : ok_T ca T L f0) {g0 : List (Int32 × Int32)} (h0 : Nat) (t0 : T h0 = some (ty_po g0)) (x1 : Int32) (hfl : l.flags = Jvm.pinnedFlags ++ [Jvm.noTraceFlag]) :
    MetO l y_Po_count (Cond.code y_Po_count b_Po_count 2 (some .int) :: wg) { frames := 6, cells := 1, slots := 6, locals := 82 } (va_Pc [.ref h0, .int (x1)] (sm_P D cl_all (ty_s ca) ek3 L f0 sz)) (sm_Qi D (ty_s ca) L f0 sz (fun r u => (True) ∧ u = (L, f0))) (sm_Qt D (ty_s ca) L f0 sz (fun X u => (True) ∧ po_m ca T L u) [xIA]) 1 6 (va_A (va_pl L f0) sz) := by
  refine sm_startO (by decide) (Nat.le_of_ble_eq_true rfl) ?_
  intro p e s m below meth c ls hx hb hml hr hlk hno hts hown hsz hE3 hI hl
  have hE := hE3.1.1
  have hl : lv_has ls 2 [(0, .ref h0), (1, .int (x1))] := hl
  refine lv_iload_n hx hb d_Po_count_0 rfl (lv_at hl 1 rfl) ?_
  by_cases c_1 : x1.toInt = 0
  · refine lv_tableIn (off := 43) (tgt := 44) hx hb d_Po_count_1 (by omega) (by omega) (by rw [c_1]; rfl) (by decide) ?_
    refine lv_aload_n hx hb d_Po_count_44 rfl (lv_at hl 0 rfl) ?_
    refine fg_Po_events hx hb hts hown hI hT t0 (hts _ tw_367) (fun _ h9 => h9) d_Po_count_45 (fun r_2 t_3 => ?_)
    refine fgN_Es_many hx hb hts hown hI hT t_3 (va_Nw.use rfl (hE.1 _ tn_239 rfl)) (fun _ h9 => h9) d_Po_count_48 (fun n_4 h_5 => ?_)
    refine W.mono (fun _ h => Or.inl h) (W.widen (k := 1) (n := 6) (by decide) (by decide) ?_)
    exact sm_iret hx hb hr hlk hI ⟨trivial, rfl⟩ d_Po_count_51
  by_cases c_6 : x1.toInt = 1
  · refine lv_tableIn (off := 51) (tgt := 52) hx hb d_Po_count_1 (by omega) (by omega) (by rw [c_6]; rfl) (by decide) ?_
    refine lv_aload_n hx hb d_Po_count_52 rfl (lv_at hl 0 rfl) ?_
    refine fg_Po_events hx hb hts hown hI hT t0 (hts _ tw_367) (fun _ h9 => h9) d_Po_count_53 (fun r_7 t_8 => ?_)
    refine sm_iP hI (va_runV (As := []) (rest := []) ⟨hx, hb, hml, hown, hts⟩ (c_Es_sent l D ca _ _ _ _ hT r_7 t_8) (kv_Es_sent hts rfl rfl (hts _ tw_1157) ⟨Nat.le_of_ble_eq_true rfl, Nat.le_of_ble_eq_true rfl⟩) (pv_Es hI hE hT t_8) rfl rfl hl.1 rfl (lv_room (Nat.le_of_ble_eq_true rfl)) d_Po_count_56 ⟨Nat.le_of_ble_eq_true rfl, Nat.le_of_ble_eq_true rfl⟩) (fun x_9 H locs p_10 hI => ?_)
    refine W.mono (fun _ h => Or.inl h) (W.widen (k := 1) (n := 6) (by decide) (by decide) ?_)
    exact sm_iret hx hb hr hlk hI ⟨trivial, rfl⟩ d_Po_count_59
  by_cases c_11 : x1.toInt = 2
  · refine lv_tableIn (off := 59) (tgt := 60) hx hb d_Po_count_1 (by omega) (by omega) (by rw [c_11]; rfl) (by decide) ?_
    refine lv_aload_n hx hb d_Po_count_60 rfl (lv_at hl 0 rfl) ?_
    refine fg_Po_events hx hb hts hown hI hT t0 (hts _ tw_367) (fun _ h9 => h9) d_Po_count_61 (fun r_12 t_13 => ?_)
    refine fgN_Es_lost hx hb hts hown hI hT t_13 (va_Nw.use rfl (hE.1 _ tn_241 rfl)) (fun _ h9 => h9) d_Po_count_64 (fun x_14 => ?_)
    refine W.mono (fun _ h => Or.inl h) (W.widen (k := 1) (n := 6) (by decide) (by decide) ?_)
    exact sm_iret hx hb hr hlk hI ⟨trivial, rfl⟩ d_Po_count_67
  by_cases c_15 : x1.toInt = 3
  · refine lv_tableIn (off := 67) (tgt := 68) hx hb d_Po_count_1 (by omega) (by omega) (by rw [c_15]; rfl) (by decide) ?_
    refine lv_aload_n hx hb d_Po_count_68 rfl (lv_at hl 0 rfl) ?_
    refine fg_Po_operationsEver hx hb hts hown hI hT t0 (hts _ tw_369) (fun _ h9 => h9) d_Po_count_69 (fun x_16 => ?_)
    refine W.mono (fun _ h => Or.inl h) (W.widen (k := 1) (n := 6) (by decide) (by decide) ?_)
    exact sm_iret hx hb hr hlk hI ⟨trivial, rfl⟩ d_Po_count_72
  by_cases c_17 : x1.toInt = 4
  · refine lv_tableIn (off := 72) (tgt := 73) hx hb d_Po_count_1 (by omega) (by omega) (by rw [c_17]; rfl) (by decide) ?_
    refine lv_aload_n hx hb d_Po_count_73 rfl (lv_at hl 0 rfl) ?_
    refine fg_Po_selection hx hb hts hown hI hT t0 (hts _ tw_374) (fun _ h9 => h9) d_Po_count_74 (fun r_18 t_19 => ?_)
    refine lv_aload_n hx hb d_Po_count_77 rfl (lv_at hl 0 rfl) ?_
    refine fg_Po_now hx hb hts hown hI hT t0 (hts _ tw_373) (fun _ h9 => h9) d_Po_count_78 (fun x_20 => ?_)
    refine sm_iP hI (va_runV (As := [.long (x_20)]) (rest := []) ⟨hx, hb, hml, hown, hts⟩ (c_Se_isLive l D ca _ _ _ _ hT r_18 t_19 x_20) (kv_Se_isLive hts rfl rfl (hts _ tw_996) ⟨Nat.le_of_ble_eq_true rfl, Nat.le_of_ble_eq_true rfl⟩) (pv_Se hI hE hT t_19) rfl rfl hl.1 rfl (lv_room (Nat.le_of_ble_eq_true rfl)) d_Po_count_81 ⟨Nat.le_of_ble_eq_true rfl, Nat.le_of_ble_eq_true rfl⟩) (fun x_21 H locs p_22 hI => ?_)
    refine lv_if_eq (tgt := 97) hx hb d_Po_count_84 (by decide) (fun c_23 => ?_) (fun c_23 => ?_)
    · refine lv_iconst (v := -1) hx hb d_Po_count_97 (by decide) ?_
      refine W.mono (fun _ h => Or.inl h) (W.widen (k := 1) (n := 6) (by decide) (by decide) ?_)
      exact sm_iret hx hb hr hlk hI ⟨trivial, rfl⟩ d_Po_count_98
    · refine lv_aload_n hx hb d_Po_count_87 rfl (lv_at hl 0 rfl) ?_
      refine fg_Po_selection hx hb hts hown hI hT t0 (hts _ tw_374) (fun _ h9 => h9) d_Po_count_88 (fun r_24 t_25 => ?_)
      refine fgN_Se_point hx hb hts hown hI hT t_25 (va_Nw.use rfl (hE.1 _ tn_258 rfl)) (fun _ h9 => h9) d_Po_count_91 (fun x_26 => ?_)
      refine lv_goto (tgt := 98) hx hb d_Po_count_94 (by decide) ?_
      refine W.mono (fun _ h => Or.inl h) (W.widen (k := 1) (n := 6) (by decide) (by decide) ?_)
      exact sm_iret hx hb hr hlk hI ⟨trivial, rfl⟩ d_Po_count_98
  by_cases c_27 : x1.toInt = 5
  · refine lv_tableIn (off := 98) (tgt := 99) hx hb d_Po_count_1 (by omega) (by omega) (by rw [c_27]; rfl) (by decide) ?_
    refine lv_aload_n hx hb d_Po_count_99 rfl (lv_at hl 0 rfl) ?_
    refine sm_iP hI (va_runV (As := []) (rest := []) ⟨hx, hb, hml, hown, hts⟩ (c_Po_activeLine l D ca _ _ _ _ hT h0 t0) (kv_Po_activeLine hts rfl rfl (hts _ tw_653) ⟨Nat.le_of_ble_eq_true rfl, Nat.le_of_ble_eq_true rfl⟩) (pv_Po hI hE hT t0) rfl rfl hl.1 rfl (lv_room (Nat.le_of_ble_eq_true rfl)) d_Po_count_100 ⟨Nat.le_of_ble_eq_true rfl, Nat.le_of_ble_eq_true rfl⟩) (fun x_28 H locs p_29 hI => ?_)
    refine W.mono (fun _ h => Or.inl h) (W.widen (k := 1) (n := 6) (by decide) (by decide) ?_)
    exact sm_iret hx hb hr hlk hI ⟨trivial, rfl⟩ d_Po_count_103
  by_cases c_30 : x1.toInt = 6
  · refine lv_tableIn (off := 103) (tgt := 104) hx hb d_Po_count_1 (by omega) (by omega) (by rw [c_30]; rfl) (by decide) ?_
    refine lv_aload_n hx hb d_Po_count_104 rfl (lv_at hl 0 rfl) ?_
    refine fg_Po_clockSet hx hb hts hown hI hT t0 (hts _ tw_372) (fun _ h9 => h9) d_Po_count_105 (fun x_31 p_32 => ?_)
    refine lv_if_eq (tgt := 115) hx hb d_Po_count_108 (by decide) (fun c_33 => ?_) (fun c_33 => ?_)
    · refine lv_iconst (v := 0) hx hb d_Po_count_115 (by decide) ?_
      refine W.mono (fun _ h => Or.inl h) (W.widen (k := 1) (n := 6) (by decide) (by decide) ?_)
      exact sm_iret hx hb hr hlk hI ⟨trivial, rfl⟩ d_Po_count_116
    · refine lv_iconst (v := 1) hx hb d_Po_count_111 (by decide) ?_
      refine lv_goto (tgt := 116) hx hb d_Po_count_112 (by decide) ?_
      refine W.mono (fun _ h => Or.inl h) (W.widen (k := 1) (n := 6) (by decide) (by decide) ?_)
      exact sm_iret hx hb hr hlk hI ⟨trivial, rfl⟩ d_Po_count_116
  refine lv_tableOut (tgt := 117) hx hb d_Po_count_1 (by omega) (by decide) ?_
  exact sm_thr (k := 287) (n := 124) hx hb hts hown hlk hno hfl hE3 hI (hl.1.trans hml.symm) (by decide) (fun _ _ _ h1 h2 => oa_IA h1 h2) tw_425 tw_426 tw_16 tn_1161 ⟨trivial, rfl, hT⟩ (by decide) (Nat.le_of_ble_eq_true rfl) (Nat.le_of_ble_eq_true rfl) (Nat.le_of_ble_eq_true rfl) (Nat.le_of_ble_eq_true rfl) (Nat.le_of_ble_eq_true rfl) (Nat.le_of_ble_eq_true rfl) d_Po_count_117 d_Po_count_120 (Or.inr ⟨d_Po_count_121, rfl⟩) d_Po_count_124 d_Po_count_127
theorem d_Po_change_0 : decode b_Po_change 0 = .ok (.iload_n 1, 1) := by decide +kernel
theorem d_Po_change_1 : decode b_Po_change 1 = .ok (.ifCond .lt 23, 3) := by decide +kernel
theorem d_Po_change_4 : decode b_Po_change 4 = .ok (.iload_n 1, 1) := by decide +kernel
theorem d_Po_change_5 : decode b_Po_change 5 = .ok (.aload_n 0, 1) := by decide +kernel
theorem d_Po_change_6 : decode b_Po_change 6 = .ok (.getfield 77, 3) := by decide +kernel
theorem d_Po_change_9 : decode b_Po_change 9 = .ok (.if_icmp .ge 15, 3) := by decide +kernel
theorem d_Po_change_12 : decode b_Po_change 12 = .ok (.aload_n 0, 1) := by decide +kernel
theorem d_Po_change_13 : decode b_Po_change 13 = .ok (.getfield 11, 3) := by decide +kernel
theorem d_Po_change_16 : decode b_Po_change 16 = .ok (.iload_n 1, 1) := by decide +kernel
theorem d_Po_change_17 : decode b_Po_change 17 = .ok (.aaload, 1) := by decide +kernel
theorem d_Po_change_18 : decode b_Po_change 18 = .ok (.invokevirtual 105, 3) := by decide +kernel
theorem d_Po_change_21 : decode b_Po_change 21 = .ok (.ifCond .eq 13, 3) := by decide +kernel
theorem d_Po_change_24 : decode b_Po_change 24 = .ok (.new 68, 3) := by decide +kernel
theorem d_Po_change_27 : decode b_Po_change 27 = .ok (.dup, 1) := by decide +kernel
theorem d_Po_change_28 : decode b_Po_change 28 = .ok (.ldc 109, 2) := by decide +kernel
theorem d_Po_change_30 : decode b_Po_change 30 = .ok (.invokespecial 72, 3) := by decide +kernel
theorem d_Po_change_33 : decode b_Po_change 33 = .ok (.athrow, 1) := by decide +kernel
theorem d_Po_change_34 : decode b_Po_change 34 = .ok (.aload_n 0, 1) := by decide +kernel
theorem d_Po_change_35 : decode b_Po_change 35 = .ok (.getfield 11, 3) := by decide +kernel
theorem d_Po_change_38 : decode b_Po_change 38 = .ok (.iload_n 1, 1) := by decide +kernel
theorem d_Po_change_39 : decode b_Po_change 39 = .ok (.aaload, 1) := by decide +kernel
theorem d_Po_change_40 : decode b_Po_change 40 = .ok (.astore 5, 2) := by decide +kernel
theorem d_Po_change_42 : decode b_Po_change 42 = .ok (.aload 5, 2) := by decide +kernel
theorem d_Po_change_44 : decode b_Po_change 44 = .ok (.iload_n 2, 1) := by decide +kernel
theorem d_Po_change_45 : decode b_Po_change 45 = .ok (.iload_n 3, 1) := by decide +kernel
theorem d_Po_change_46 : decode b_Po_change 46 = .ok (.invokevirtual 111, 3) := by decide +kernel
theorem d_Po_change_49 : decode b_Po_change 49 = .ok (.ifCond .ne 13, 3) := by decide +kernel
theorem d_Po_change_52 : decode b_Po_change 52 = .ok (.new 68, 3) := by decide +kernel
theorem d_Po_change_55 : decode b_Po_change 55 = .ok (.dup, 1) := by decide +kernel
theorem d_Po_change_56 : decode b_Po_change 56 = .ok (.ldc 115, 2) := by decide +kernel
theorem d_Po_change_58 : decode b_Po_change 58 = .ok (.invokespecial 72, 3) := by decide +kernel
theorem d_Po_change_61 : decode b_Po_change 61 = .ok (.athrow, 1) := by decide +kernel
theorem d_Po_change_62 : decode b_Po_change 62 = .ok (.aload 5, 2) := by decide +kernel
theorem d_Po_change_64 : decode b_Po_change 64 = .ok (.iload_n 2, 1) := by decide +kernel
theorem d_Po_change_65 : decode b_Po_change 65 = .ok (.putfield 117, 3) := by decide +kernel
theorem d_Po_change_68 : decode b_Po_change 68 = .ok (.aload 5, 2) := by decide +kernel
theorem d_Po_change_70 : decode b_Po_change 70 = .ok (.iload_n 3, 1) := by decide +kernel
theorem d_Po_change_71 : decode b_Po_change 71 = .ok (.putfield 120, 3) := by decide +kernel
theorem d_Po_change_74 : decode b_Po_change 74 = .ok (.iload 4, 2) := by decide +kernel
theorem d_Po_change_76 : decode b_Po_change 76 = .ok (.ifCond .eq 17, 3) := by decide +kernel
theorem d_Po_change_79 : decode b_Po_change 79 = .ok (.aload_n 0, 1) := by decide +kernel
theorem d_Po_change_80 : decode b_Po_change 80 = .ok (.aload 5, 2) := by decide +kernel
theorem d_Po_change_82 : decode b_Po_change 82 = .ok (.invokevirtual 123, 3) := by decide +kernel
theorem d_Po_change_85 : decode b_Po_change 85 = .ok (.aload_n 0, 1) := by decide +kernel
theorem d_Po_change_86 : decode b_Po_change 86 = .ok (.aload_n 0, 1) := by decide +kernel
theorem d_Po_change_87 : decode b_Po_change 87 = .ok (.invokevirtual 127, 3) := by decide +kernel
theorem d_Po_change_90 : decode b_Po_change 90 = .ok (.invokevirtual 131, 3) := by decide +kernel
theorem d_Po_change_93 : decode b_Po_change 93 = .ok (.return_, 1) := by decide +kernel
set_option maxRecDepth 100000 in
set_option maxHeartbeats 4000000 in
theorem c_Po_change (l : Launch) (D : va_G) (ca : Nat → ClassId) (T : ty_e) (L : List Nat) (f0 : Nat → va_E) (sz : Nat) (hT : ok_T ca T L f0) {g0 : List (Int32 × Int32)} (h0 : Nat) (t0 : T h0 = some (ty_po g0)) (x1 : Int32) (x2 : Int32) (x3 : Int32) (x4 : Int32) (p4 : x4 = 0 ∨ x4 = 1) (hfl : l.flags = Jvm.pinnedFlags ++ [Jvm.noTraceFlag]) :
    MetO l y_Po_change (Cond.code y_Po_change b_Po_change 6 none :: wg) { frames := 6, cells := 1, slots := 6, locals := 119 } (va_Pc [.ref h0, .int (x1), .int (x2), .int (x3), .int (x4)] (sm_P D cl_all (ty_s ca) ek3 L f0 sz)) (sm_Qv D (ty_s ca) L f0 sz (fun u => po_m ca T L u)) (sm_Qt D (ty_s ca) L f0 sz (fun X u => (True) ∧ po_m ca T L u) [xIA]) 1 6 (va_A (va_pl L f0) sz) := by
  refine sm_startO (by decide) (Nat.le_of_ble_eq_true rfl) ?_
  intro p e s m below meth c ls hx hb hml hr hlk hno hts hown hsz hE3 hI hl
  have hE := hE3.1.1
  have hl : lv_has ls 6 [(0, .ref h0), (1, .int (x1)), (2, .int (x2)), (3, .int (x3)), (4, .int (x4))] := hl
  have hg := po_len hT t0
  refine lv_iload_n hx hb d_Po_change_0 rfl (lv_at hl 1 rfl) ?_
  refine lv_if_lt (tgt := 24) hx hb d_Po_change_1 (by decide) (fun c_1 => ?_) (fun c_1 => ?_)
  · exact sm_thr (k := 109) (n := 30) hx hb hts hown hlk hno hfl hE3 hI (hl.1.trans hml.symm) (by decide) (fun _ _ _ h1 h2 => oa_IA h1 h2) tw_425 tw_426 tw_16 tn_591 ⟨trivial, rfl, hT⟩ (by decide) (Nat.le_of_ble_eq_true rfl) (Nat.le_of_ble_eq_true rfl) (Nat.le_of_ble_eq_true rfl) (Nat.le_of_ble_eq_true rfl) (Nat.le_of_ble_eq_true rfl) (Nat.le_of_ble_eq_true rfl) d_Po_change_24 d_Po_change_27 (Or.inl ⟨d_Po_change_28, rfl⟩) d_Po_change_30 d_Po_change_33
  · refine lv_iload_n hx hb d_Po_change_4 rfl (lv_at hl 1 rfl) ?_
    refine lv_aload_n hx hb d_Po_change_5 rfl (lv_at hl 0 rfl) ?_
    refine fg_Po_pointCount hx hb hts hown hI hT t0 (hts _ tw_364) (fun _ h9 => h9) d_Po_change_6 (fun h_2 => ?_)
    refine lv_icmp_ge (tgt := 24) hx hb d_Po_change_9 (by decide) (fun c_3 => ?_) (fun c_3 => ?_)
    · exact sm_thr (k := 109) (n := 30) hx hb hts hown hlk hno hfl hE3 hI (hl.1.trans hml.symm) (by decide) (fun _ _ _ h1 h2 => oa_IA h1 h2) tw_425 tw_426 tw_16 tn_591 ⟨trivial, rfl, hT⟩ (by decide) (Nat.le_of_ble_eq_true rfl) (Nat.le_of_ble_eq_true rfl) (Nat.le_of_ble_eq_true rfl) (Nat.le_of_ble_eq_true rfl) (Nat.le_of_ble_eq_true rfl) (Nat.le_of_ble_eq_true rfl) d_Po_change_24 d_Po_change_27 (Or.inl ⟨d_Po_change_28, rfl⟩) d_Po_change_30 d_Po_change_33
    · obtain ⟨n_4, h_5, rfl⟩ : ∃ n : Nat, n < g0.length ∧ x1 = nI n := (nb_ge hg c_1 c_3)
      refine lv_aload_n hx hb d_Po_change_12 rfl (lv_at hl 0 rfl) ?_
      refine fg_Po_points hx hb hts hown hI hT t0 (hts _ tw_363) (fun _ h9 => h9) d_Po_change_13 (fun r_6 t_7 => ?_)
      refine lv_iload_n hx hb d_Po_change_16 rfl (lv_at hl 1 rfl) ?_
      obtain ⟨q_8, h_9⟩ : ∃ z, g0[n_4]? = some z := ⟨_, List.getElem?_eq_getElem (by omega)⟩
      refine fa_pts (j := n_4) hx hb hI hT t_7 h_9 (by omega) d_Po_change_17 (fun r_10 t_11 => ?_)
      refine sm_iP hI (va_runV (As := []) (rest := []) ⟨hx, hb, hml, hown, hts⟩ (c_Pt_isCommand l D ca _ _ _ _ hT r_10 t_11) (kv_Pt_isCommand hts rfl rfl (hts _ tw_587) ⟨Nat.le_of_ble_eq_true rfl, Nat.le_of_ble_eq_true rfl⟩) (pv_Pt hI hE hT t_11) rfl rfl hl.1 rfl (lv_room (Nat.le_of_ble_eq_true rfl)) d_Po_change_18 ⟨Nat.le_of_ble_eq_true rfl, Nat.le_of_ble_eq_true rfl⟩) (fun x_12 H locs p_13 hI => ?_)
      refine lv_if_eq (tgt := 34) hx hb d_Po_change_21 (by decide) (fun c_14 => ?_) (fun c_14 => ?_)
      · refine lv_aload_n hx hb d_Po_change_34 rfl (lv_at hl 0 rfl) ?_
        refine fg_Po_points hx hb hts hown hI hT t0 (hts _ tw_363) (fun _ h9 => h9) d_Po_change_35 (fun r_15 t_16 => ?_)
        refine lv_iload_n hx hb d_Po_change_38 rfl (lv_at hl 1 rfl) ?_
        obtain ⟨q_17, h_18⟩ : ∃ z, g0[n_4]? = some z := ⟨_, List.getElem?_eq_getElem (by omega)⟩
        refine fa_pts (j := n_4) hx hb hI hT t_16 h_18 (by omega) d_Po_change_39 (fun r_19 t_20 => ?_)
        refine lv_astore (lv' := [(5, .ref r_19), (0, .ref h0), (1, .int (nI n_4)), (2, .int (x2)), (3, .int (x3)), (4, .int (x4))]) hx hb d_Po_change_40 hl (by decide) rfl (fun ls hl => ?_)
        refine lv_aload hx hb d_Po_change_42 (lv_at hl 0 rfl) ?_
        refine lv_iload_n hx hb d_Po_change_44 rfl (lv_at hl 3 rfl) ?_
        refine lv_iload_n hx hb d_Po_change_45 rfl (lv_at hl 4 rfl) ?_
        refine sm_iP hI (va_runV (As := [.int (x2), .int (x3)]) (rest := []) ⟨hx, hb, hml, hown, hts⟩ (c_Pt_mayBe l D ca _ _ _ _ hT r_19 t_20 x2 x3) (kv_Pt_mayBe hts rfl rfl (hts _ tw_592) ⟨Nat.le_of_ble_eq_true rfl, Nat.le_of_ble_eq_true rfl⟩) (pv_Pt hI hE hT t_20) rfl rfl hl.1 rfl (lv_room (Nat.le_of_ble_eq_true rfl)) d_Po_change_46 ⟨Nat.le_of_ble_eq_true rfl, Nat.le_of_ble_eq_true rfl⟩) (fun x_21 H locs p_22 hI => ?_)
        refine lv_if_ne (tgt := 62) hx hb d_Po_change_49 (by decide) (fun c_23 => ?_) (fun c_23 => ?_)
        · refine lv_aload hx hb d_Po_change_62 (lv_at hl 0 rfl) ?_
          refine lv_iload_n hx hb d_Po_change_64 rfl (lv_at hl 3 rfl) ?_
          refine fpN_Pt_value hx hb hts hown hI hT t_20 (va_Nw.use rfl (hE.1 _ tn_527 rfl)) (fun _ h9 => h9) d_Po_change_65 (fun H locs f hI hT => ?_)
          refine lv_aload hx hb d_Po_change_68 (lv_at hl 0 rfl) ?_
          refine lv_iload_n hx hb d_Po_change_70 rfl (lv_at hl 4 rfl) ?_
          refine fpN_Pt_quality hx hb hts hown hI hT t_20 (va_Nw.use rfl (hE.1 _ tn_529 rfl)) (fun _ h9 => h9) d_Po_change_71 (fun H locs f hI hT => ?_)
          refine lv_iload hx hb d_Po_change_74 (lv_at hl 5 rfl) ?_
          refine lv_if_eq (tgt := 93) hx hb d_Po_change_76 (by decide) (fun c_24 => ?_) (fun c_24 => ?_)
          · refine W.mono (fun _ h => Or.inl h) (W.widen (k := 1) (n := 6) (by decide) (by decide) ?_)
            exact sm_vret hx hb hr hlk hI ⟨rfl, hT⟩ d_Po_change_93
          · refine lv_aload_n hx hb d_Po_change_79 rfl (lv_at hl 1 rfl) ?_
            refine lv_aload hx hb d_Po_change_80 (lv_at hl 0 rfl) ?_
            refine sm_v hI (va_runV (As := [.ref r_19]) (rest := []) ⟨hx, hb, hml, hown, hts⟩ (c_Po_makeEvent l D ca _ _ _ _ hT h0 t0 r_19 t_20 (by obtain rfl := Option.some.inj (h_9.symm.trans h_18); exact p_13.2 c_14)) (kv_Po_makeEvent hts rfl rfl (hts _ tw_602) ⟨Nat.le_of_ble_eq_true rfl, Nat.le_of_ble_eq_true rfl⟩) (pv_Po hI hE hT t0) rfl rfl hl.1 rfl (lv_room (Nat.le_of_ble_eq_true rfl)) d_Po_change_82 ⟨Nat.le_of_ble_eq_true rfl, Nat.le_of_ble_eq_true rfl⟩) (fun H locs f hI hT => ?_)
            refine lv_aload_n hx hb d_Po_change_85 rfl (lv_at hl 1 rfl) ?_
            refine lv_aload_n hx hb d_Po_change_86 rfl (lv_at hl 1 rfl) ?_
            refine sm_iP hI (va_runV (As := []) (rest := [.ref h0]) ⟨hx, hb, hml, hown, hts⟩ (c_Po_activeLine l D ca _ _ _ _ hT h0 t0) (kv_Po_activeLine hts rfl rfl (hts _ tw_653) ⟨Nat.le_of_ble_eq_true rfl, Nat.le_of_ble_eq_true rfl⟩) (pv_Po hI hE hT t0) rfl rfl hl.1 rfl (lv_room (Nat.le_of_ble_eq_true rfl)) d_Po_change_87 ⟨Nat.le_of_ble_eq_true rfl, Nat.le_of_ble_eq_true rfl⟩) (fun x_25 H locs p_26 hI => ?_)
            refine sm_v hI (va_runV (As := [.int (x_25)]) (rest := []) ⟨hx, hb, hml, hown, hts⟩ (c_Po_sendWhatMay l D ca _ _ _ _ hT h0 t0 x_25) (kv_Po_sendWhatMay hts rfl rfl (hts _ tw_657) ⟨Nat.le_of_ble_eq_true rfl, Nat.le_of_ble_eq_true rfl⟩) (pv_Po hI hE hT t0) rfl rfl hl.1 rfl (lv_room (Nat.le_of_ble_eq_true rfl)) d_Po_change_90 ⟨Nat.le_of_ble_eq_true rfl, Nat.le_of_ble_eq_true rfl⟩) (fun H locs f hI hT => ?_)
            refine W.mono (fun _ h => Or.inl h) (W.widen (k := 1) (n := 6) (by decide) (by decide) ?_)
            exact sm_vret hx hb hr hlk hI ⟨rfl, hT⟩ d_Po_change_93
        · exact sm_thr (k := 115) (n := 58) hx hb hts hown hlk hno hfl hE3 hI (hl.1.trans hml.symm) (by decide) (fun _ _ _ h1 h2 => oa_IA h1 h2) tw_425 tw_426 tw_16 tn_601 ⟨trivial, rfl, hT⟩ (by decide) (Nat.le_of_ble_eq_true rfl) (Nat.le_of_ble_eq_true rfl) (Nat.le_of_ble_eq_true rfl) (Nat.le_of_ble_eq_true rfl) (Nat.le_of_ble_eq_true rfl) (Nat.le_of_ble_eq_true rfl) d_Po_change_52 d_Po_change_55 (Or.inl ⟨d_Po_change_56, rfl⟩) d_Po_change_58 d_Po_change_61
      · exact sm_thr (k := 109) (n := 30) hx hb hts hown hlk hno hfl hE3 hI (hl.1.trans hml.symm) (by decide) (fun _ _ _ h1 h2 => oa_IA h1 h2) tw_425 tw_426 tw_16 tn_591 ⟨trivial, rfl, hT⟩ (by decide) (Nat.le_of_ble_eq_true rfl) (Nat.le_of_ble_eq_true rfl) (Nat.le_of_ble_eq_true rfl) (Nat.le_of_ble_eq_true rfl) (Nat.le_of_ble_eq_true rfl) (Nat.le_of_ble_eq_true rfl) d_Po_change_24 d_Po_change_27 (Or.inl ⟨d_Po_change_28, rfl⟩) d_Po_change_30 d_Po_change_33
