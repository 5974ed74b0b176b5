/-! Selection, Point, Answer, Answers: methods without loops (written by wip/tools) -/
theorem d_Se_isLive_0 : decode b_Se_isLive 0 = .ok (.aload_n 0, 1) := by decide +kernel
theorem d_Se_isLive_1 : decode b_Se_isLive 1 = .ok (.getfield 9, 3) := by decide +kernel
theorem d_Se_isLive_4 : decode b_Se_isLive 4 = .ok (.ifCond .lt 20, 3) := by decide +kernel
theorem d_Se_isLive_7 : decode b_Se_isLive 7 = .ok (.lload_n 1, 1) := by decide +kernel
theorem d_Se_isLive_8 : decode b_Se_isLive 8 = .ok (.aload_n 0, 1) := by decide +kernel
theorem d_Se_isLive_9 : decode b_Se_isLive 9 = .ok (.getfield 15, 3) := by decide +kernel
theorem d_Se_isLive_12 : decode b_Se_isLive 12 = .ok (.lsub, 1) := by decide +kernel
theorem d_Se_isLive_13 : decode b_Se_isLive 13 = .ok (.ldc2_w 19, 3) := by decide +kernel
theorem d_Se_isLive_16 : decode b_Se_isLive 16 = .ok (.lcmp, 1) := by decide +kernel
theorem d_Se_isLive_17 : decode b_Se_isLive 17 = .ok (.ifCond .ge 7, 3) := by decide +kernel
theorem d_Se_isLive_20 : decode b_Se_isLive 20 = .ok (.iconst 1, 1) := by decide +kernel
theorem d_Se_isLive_21 : decode b_Se_isLive 21 = .ok (.goto 4, 3) := by decide +kernel
theorem d_Se_isLive_24 : decode b_Se_isLive 24 = .ok (.iconst 0, 1) := by decide +kernel
theorem d_Se_isLive_25 : decode b_Se_isLive 25 = .ok (.ireturn, 1) := by decide +kernel
set_option maxRecDepth 100000 in
set_option maxHeartbeats 4000000 in
theorem c_Se_isLive (l : Launch) (D : va_G) (ca : Nat → ClassId) (T : ty_e) (L : List Nat) (f0 : Nat → va_E) (sz : Nat) (hT : ok_T ca T L f0) (h0 : Nat) (t0 : T h0 = some (ty_se)) (x1 : Int64) :
    Met l y_Se_isLive (Cond.code y_Se_isLive b_Se_isLive 3 (some .boolean) :: wg) { frames := 0, cells := 0, slots := 0, locals := 0 } (va_Pc [.ref h0, .long (x1)] (sm_P D cl_all (ty_s ca) ek L f0 sz)) (sm_Qi D (ty_s ca) L f0 sz (fun r u => (r = 0 ∨ r = 1) ∧ u = (L, f0))) 0 0 (va_A (va_pl L f0) sz) := by
  refine sm_start (by decide) (Nat.le_of_ble_eq_true rfl) ?_
  intro p e s m below meth c ls hx hb hml hr hlk hnm hts hown hsz hE hI hl
  have hl : lv_has ls 3 [(0, .ref h0), (1, .long (x1))] := hl
  refine lv_aload_n hx hb d_Se_isLive_0 rfl (lv_at hl 0 rfl) ?_
  refine fg_Se_point hx hb hts hown hI hT t0 (hts _ tw_257) (fun _ h9 => h9) d_Se_isLive_1 (fun x_1 => ?_)
  refine lv_if_lt (tgt := 24) hx hb d_Se_isLive_4 (by decide) (fun c_2 => ?_) (fun c_2 => ?_)
  · refine lv_iconst (v := 0) hx hb d_Se_isLive_24 (by decide) ?_
    exact sm_zret hx hb hr hlk hI (by decide) ⟨(by decide), rfl⟩ d_Se_isLive_25
  · refine lv_lload_n hx hb d_Se_isLive_7 rfl (lv_at hl 1 rfl) ?_
    refine lv_aload_n hx hb d_Se_isLive_8 rfl (lv_at hl 0 rfl) ?_
    refine fg_Se_at hx hb hts hown hI hT t0 (hts _ tw_261) (fun _ h9 => h9) d_Se_isLive_9 (fun x_3 => ?_)
    refine lv_lsub hx hb d_Se_isLive_12 ?_
    refine lv_topl (fun x_4 e_5 => ?_)
    refine lv_ldc2 (v := 10000) hx hb hown (hts _ tw_990) d_Se_isLive_13 ?_
    refine W.lcmp hx hb d_Se_isLive_16 ?_
    refine lv_topi (fun x_6 e_7 => ?_)
    refine lv_if_ge (tgt := 24) hx hb d_Se_isLive_17 (by decide) (fun c_8 => ?_) (fun c_8 => ?_)
    · refine lv_iconst (v := 0) hx hb d_Se_isLive_24 (by decide) ?_
      exact sm_zret hx hb hr hlk hI (by decide) ⟨(by decide), rfl⟩ d_Se_isLive_25
    · refine lv_iconst (v := 1) hx hb d_Se_isLive_20 (by decide) ?_
      refine lv_goto (tgt := 25) hx hb d_Se_isLive_21 (by decide) ?_
      exact sm_zret hx hb hr hlk hI (by decide) ⟨(by decide), rfl⟩ d_Se_isLive_25
theorem d_Se_isOf_0 : decode b_Se_isOf 0 = .ok (.aload_n 0, 1) := by decide +kernel
theorem d_Se_isOf_1 : decode b_Se_isOf 1 = .ok (.lload_n 3, 1) := by decide +kernel
theorem d_Se_isOf_2 : decode b_Se_isOf 2 = .ok (.invokevirtual 21, 3) := by decide +kernel
theorem d_Se_isOf_5 : decode b_Se_isOf 5 = .ok (.ifCond .eq 23, 3) := by decide +kernel
theorem d_Se_isOf_8 : decode b_Se_isOf 8 = .ok (.aload_n 0, 1) := by decide +kernel
theorem d_Se_isOf_9 : decode b_Se_isOf 9 = .ok (.getfield 25, 3) := by decide +kernel
theorem d_Se_isOf_12 : decode b_Se_isOf 12 = .ok (.iload_n 1, 1) := by decide +kernel
theorem d_Se_isOf_13 : decode b_Se_isOf 13 = .ok (.if_icmp .ne 15, 3) := by decide +kernel
theorem d_Se_isOf_16 : decode b_Se_isOf 16 = .ok (.aload_n 0, 1) := by decide +kernel
theorem d_Se_isOf_17 : decode b_Se_isOf 17 = .ok (.getfield 9, 3) := by decide +kernel
theorem d_Se_isOf_20 : decode b_Se_isOf 20 = .ok (.iload_n 2, 1) := by decide +kernel
theorem d_Se_isOf_21 : decode b_Se_isOf 21 = .ok (.if_icmp .ne 7, 3) := by decide +kernel
theorem d_Se_isOf_24 : decode b_Se_isOf 24 = .ok (.iconst 1, 1) := by decide +kernel
theorem d_Se_isOf_25 : decode b_Se_isOf 25 = .ok (.goto 4, 3) := by decide +kernel
theorem d_Se_isOf_28 : decode b_Se_isOf 28 = .ok (.iconst 0, 1) := by decide +kernel
theorem d_Se_isOf_29 : decode b_Se_isOf 29 = .ok (.ireturn, 1) := by decide +kernel
set_option maxRecDepth 100000 in
set_option maxHeartbeats 4000000 in
theorem c_Se_isOf (l : Launch) (D : va_G) (ca : Nat → ClassId) (T : ty_e) (L : List Nat) (f0 : Nat → va_E) (sz : Nat) (hT : ok_T ca T L f0) (h0 : Nat) (t0 : T h0 = some (ty_se)) (x1 : Int32) (x2 : Int32) (x3 : Int64) :
    Met l y_Se_isOf (Cond.code y_Se_isOf b_Se_isOf 5 (some .boolean) :: wg) { frames := 1, cells := 0, slots := 0, locals := 22 } (va_Pc [.ref h0, .int (x1), .int (x2), .long (x3)] (sm_P D cl_all (ty_s ca) ek L f0 sz)) (sm_Qi D (ty_s ca) L f0 sz (fun r u => (r = 0 ∨ r = 1) ∧ u = (L, f0))) 0 0 (va_A (va_pl L f0) sz) := by
  refine sm_start (by decide) (Nat.le_of_ble_eq_true rfl) ?_
  intro p e s m below meth c ls hx hb hml hr hlk hnm hts hown hsz hE hI hl
  have hl : lv_has ls 5 [(0, .ref h0), (1, .int (x1)), (2, .int (x2)), (3, .long (x3))] := hl
  refine lv_aload_n hx hb d_Se_isOf_0 rfl (lv_at hl 0 rfl) ?_
  refine lv_lload_n hx hb d_Se_isOf_1 rfl (lv_at hl 3 rfl) ?_
  refine sm_iP hI (va_runV (As := [.long (x3)]) (rest := []) ⟨hx, hb, hml, hown, hts⟩ (c_Se_isLive l D ca _ _ _ _ hT h0 t0 x3) (kv_Se_isLive hts rfl rfl (hts _ tw_986) ⟨Nat.le_of_ble_eq_true rfl, Nat.le_of_ble_eq_true rfl⟩) (pv_Se hI hE hT t0) rfl rfl hl.1 rfl (lv_room (Nat.le_of_ble_eq_true rfl)) d_Se_isOf_2 ⟨Nat.le_of_ble_eq_true rfl, Nat.le_of_ble_eq_true rfl⟩) (fun x_1 H locs p_2 hI => ?_)
  refine lv_if_eq (tgt := 28) hx hb d_Se_isOf_5 (by decide) (fun c_3 => ?_) (fun c_3 => ?_)
  · refine lv_iconst (v := 0) hx hb d_Se_isOf_28 (by decide) ?_
    exact sm_zret hx hb hr hlk hI (by decide) ⟨(by decide), rfl⟩ d_Se_isOf_29
  · refine lv_aload_n hx hb d_Se_isOf_8 rfl (lv_at hl 0 rfl) ?_
    refine fg_Se_line hx hb hts hown hI hT t0 (hts _ tw_259) (fun _ h9 => h9) d_Se_isOf_9 (fun x_4 => ?_)
    refine lv_iload_n hx hb d_Se_isOf_12 rfl (lv_at hl 1 rfl) ?_
    refine lv_icmp_ne (tgt := 28) hx hb d_Se_isOf_13 (by decide) (fun c_5 => ?_) (fun c_5 => ?_)
    · refine lv_iconst (v := 0) hx hb d_Se_isOf_28 (by decide) ?_
      exact sm_zret hx hb hr hlk hI (by decide) ⟨(by decide), rfl⟩ d_Se_isOf_29
    · refine lv_aload_n hx hb d_Se_isOf_16 rfl (lv_at hl 0 rfl) ?_
      refine fg_Se_point hx hb hts hown hI hT t0 (hts _ tw_257) (fun _ h9 => h9) d_Se_isOf_17 (fun x_6 => ?_)
      refine lv_iload_n hx hb d_Se_isOf_20 rfl (lv_at hl 2 rfl) ?_
      refine lv_icmp_ne (tgt := 28) hx hb d_Se_isOf_21 (by decide) (fun c_7 => ?_) (fun c_7 => ?_)
      · refine lv_iconst (v := 0) hx hb d_Se_isOf_28 (by decide) ?_
        exact sm_zret hx hb hr hlk hI (by decide) ⟨(by decide), rfl⟩ d_Se_isOf_29
      · refine lv_iconst (v := 1) hx hb d_Se_isOf_24 (by decide) ?_
        refine lv_goto (tgt := 29) hx hb d_Se_isOf_25 (by decide) ?_
        exact sm_zret hx hb hr hlk hI (by decide) ⟨(by decide), rfl⟩ d_Se_isOf_29
theorem d_Se_forget_0 : decode b_Se_forget 0 = .ok (.aload_n 0, 1) := by decide +kernel
theorem d_Se_forget_1 : decode b_Se_forget 1 = .ok (.iconst (-1), 1) := by decide +kernel
theorem d_Se_forget_2 : decode b_Se_forget 2 = .ok (.putfield 9, 3) := by decide +kernel
theorem d_Se_forget_5 : decode b_Se_forget 5 = .ok (.return_, 1) := by decide +kernel
set_option maxRecDepth 100000 in
set_option maxHeartbeats 4000000 in
theorem c_Se_forget (l : Launch) (D : va_G) (ca : Nat → ClassId) (T : ty_e) (L : List Nat) (f0 : Nat → va_E) (sz : Nat) (hT : ok_T ca T L f0) (h0 : Nat) (t0 : T h0 = some (ty_se)) :
    Met l y_Se_forget (Cond.code y_Se_forget b_Se_forget 1 none :: wg) { frames := 0, cells := 0, slots := 0, locals := 0 } (va_Pc [.ref h0] (sm_P D cl_all (ty_s ca) ek L f0 sz)) (sm_Qv D (ty_s ca) L f0 sz (fun u => po_m ca T L u)) 0 0 (va_A (va_pl L f0) sz) := by
  refine sm_start (by decide) (Nat.le_of_ble_eq_true rfl) ?_
  intro p e s m below meth c ls hx hb hml hr hlk hnm hts hown hsz hE hI hl
  have hl : lv_has ls 1 [(0, .ref h0)] := hl
  refine lv_aload_n hx hb d_Se_forget_0 rfl (lv_at hl 0 rfl) ?_
  refine lv_iconst (v := -1) hx hb d_Se_forget_1 (by decide) ?_
  refine fp_Se_point hx hb hts hown hI hT t0 (hts _ tw_257) (fun _ h9 => h9) d_Se_forget_2 (fun H locs f hI hT => ?_)
  exact sm_vret hx hb hr hlk hI ⟨rfl, hT⟩ d_Se_forget_5
theorem d_Se_leave_0 : decode b_Se_leave 0 = .ok (.aload_n 0, 1) := by decide +kernel
theorem d_Se_leave_1 : decode b_Se_leave 1 = .ok (.getfield 25, 3) := by decide +kernel
theorem d_Se_leave_4 : decode b_Se_leave 4 = .ok (.iload_n 1, 1) := by decide +kernel
theorem d_Se_leave_5 : decode b_Se_leave 5 = .ok (.if_icmp .ne 7, 3) := by decide +kernel
theorem d_Se_leave_8 : decode b_Se_leave 8 = .ok (.aload_n 0, 1) := by decide +kernel
theorem d_Se_leave_9 : decode b_Se_leave 9 = .ok (.invokevirtual 28, 3) := by decide +kernel
theorem d_Se_leave_12 : decode b_Se_leave 12 = .ok (.return_, 1) := by decide +kernel
set_option maxRecDepth 100000 in
set_option maxHeartbeats 4000000 in
theorem c_Se_leave (l : Launch) (D : va_G) (ca : Nat → ClassId) (T : ty_e) (L : List Nat) (f0 : Nat → va_E) (sz : Nat) (hT : ok_T ca T L f0) (h0 : Nat) (t0 : T h0 = some (ty_se)) (x1 : Int32) :
    Met l y_Se_leave (Cond.code y_Se_leave b_Se_leave 2 none :: wg) { frames := 1, cells := 0, slots := 0, locals := 20 } (va_Pc [.ref h0, .int (x1)] (sm_P D cl_all (ty_s ca) ek L f0 sz)) (sm_Qv D (ty_s ca) L f0 sz (fun u => po_m ca T L u)) 0 0 (va_A (va_pl L f0) sz) := by
  refine sm_start (by decide) (Nat.le_of_ble_eq_true rfl) ?_
  intro p e s m below meth c ls hx hb hml hr hlk hnm hts hown hsz hE hI hl
  have hl : lv_has ls 2 [(0, .ref h0), (1, .int (x1))] := hl
  refine lv_aload_n hx hb d_Se_leave_0 rfl (lv_at hl 0 rfl) ?_
  refine fg_Se_line hx hb hts hown hI hT t0 (hts _ tw_259) (fun _ h9 => h9) d_Se_leave_1 (fun x_1 => ?_)
  refine lv_iload_n hx hb d_Se_leave_4 rfl (lv_at hl 1 rfl) ?_
  refine lv_icmp_ne (tgt := 12) hx hb d_Se_leave_5 (by decide) (fun c_2 => ?_) (fun c_2 => ?_)
  · exact sm_vret hx hb hr hlk hI ⟨rfl, hT⟩ d_Se_leave_12
  · refine lv_aload_n hx hb d_Se_leave_8 rfl (lv_at hl 0 rfl) ?_
    refine sm_v hI (va_runV (As := []) (rest := []) ⟨hx, hb, hml, hown, hts⟩ (c_Se_forget l D ca _ _ _ _ hT h0 t0) (kv_Se_forget hts rfl rfl (hts _ tw_576) ⟨Nat.le_of_ble_eq_true rfl, Nat.le_of_ble_eq_true rfl⟩) (pv_Se hI hE hT t0) rfl rfl hl.1 rfl (lv_room (Nat.le_of_ble_eq_true rfl)) d_Se_leave_9 ⟨Nat.le_of_ble_eq_true rfl, Nat.le_of_ble_eq_true rfl⟩) (fun H locs f hI hT => ?_)
    exact sm_vret hx hb hr hlk hI ⟨rfl, hT⟩ d_Se_leave_12
theorem d_Pt_isCommand_0 : decode b_Pt_isCommand 0 = .ok (.aload_n 0, 1) := by decide +kernel
theorem d_Pt_isCommand_1 : decode b_Pt_isCommand 1 = .ok (.getfield 15, 3) := by decide +kernel
theorem d_Pt_isCommand_4 : decode b_Pt_isCommand 4 = .ok (.bipush 7, 2) := by decide +kernel
theorem d_Pt_isCommand_6 : decode b_Pt_isCommand 6 = .ok (.if_icmp .lt 7, 3) := by decide +kernel
theorem d_Pt_isCommand_9 : decode b_Pt_isCommand 9 = .ok (.iconst 1, 1) := by decide +kernel
theorem d_Pt_isCommand_10 : decode b_Pt_isCommand 10 = .ok (.goto 4, 3) := by decide +kernel
theorem d_Pt_isCommand_13 : decode b_Pt_isCommand 13 = .ok (.iconst 0, 1) := by decide +kernel
theorem d_Pt_isCommand_14 : decode b_Pt_isCommand 14 = .ok (.ireturn, 1) := by decide +kernel
set_option maxRecDepth 100000 in
set_option maxHeartbeats 4000000 in
theorem c_Pt_isCommand (l : Launch) (D : va_G) (ca : Nat → ClassId) (T : ty_e) (L : List Nat) (f0 : Nat → va_E) (sz : Nat) (hT : ok_T ca T L f0) {q0 : Int32 × Int32} (h0 : Nat) (t0 : T h0 = some (ty_pt q0)) :
    Met l y_Pt_isCommand (Cond.code y_Pt_isCommand b_Pt_isCommand 1 (some .boolean) :: wg) { frames := 0, cells := 0, slots := 0, locals := 0 } (va_Pc [.ref h0] (sm_P D cl_all (ty_s ca) ek L f0 sz)) (sm_Qi D (ty_s ca) L f0 sz (fun r u => ((r = 0 ∨ r = 1) ∧ (r = 0 → q0.2.toInt ≤ 6)) ∧ u = (L, f0))) 0 0 (va_A (va_pl L f0) sz) := by
  refine sm_start (by decide) (Nat.le_of_ble_eq_true rfl) ?_
  intro p e s m below meth c ls hx hb hml hr hlk hnm hts hown hsz hE hI hl
  have hl : lv_has ls 1 [(0, .ref h0)] := hl
  refine lv_aload_n hx hb d_Pt_isCommand_0 rfl (lv_at hl 0 rfl) ?_
  refine fg_Pt_kind hx hb hts hown hI hT t0 (hts _ tw_520) (fun _ h9 => h9) d_Pt_isCommand_1 (fun h_1 => ?_)
  refine lv_bipush (v := 7) hx hb d_Pt_isCommand_4 (by decide) ?_
  refine lv_icmp_lt (tgt := 13) hx hb d_Pt_isCommand_6 (by decide) (fun c_2 => ?_) (fun c_2 => ?_)
  · refine lv_iconst (v := 0) hx hb d_Pt_isCommand_13 (by decide) ?_
    exact sm_zret hx hb hr hlk hI (by decide) ⟨⟨Or.inl rfl, fun _ => kd_lt c_2⟩, rfl⟩ d_Pt_isCommand_14
  · refine lv_iconst (v := 1) hx hb d_Pt_isCommand_9 (by decide) ?_
    refine lv_goto (tgt := 14) hx hb d_Pt_isCommand_10 (by decide) ?_
    exact sm_zret hx hb hr hlk hI (by decide) ⟨⟨Or.inr rfl, fun h => absurd h (by decide)⟩, rfl⟩ d_Pt_isCommand_14
theorem d_Pt_fits_0 : decode b_Pt_fits 0 = .ok (.iload_n 1, 1) := by decide +kernel
theorem d_Pt_fits_1 : decode b_Pt_fits 1 = .ok (.lookupswitch 80 #[(45, 35), (46, 50), (50, 65)], 35) := by decide +kernel
theorem d_Pt_fits_36 : decode b_Pt_fits 36 = .ok (.aload_n 0, 1) := by decide +kernel
theorem d_Pt_fits_37 : decode b_Pt_fits 37 = .ok (.getfield 15, 3) := by decide +kernel
theorem d_Pt_fits_40 : decode b_Pt_fits 40 = .ok (.bipush 7, 2) := by decide +kernel
theorem d_Pt_fits_42 : decode b_Pt_fits 42 = .ok (.if_icmp .ne 7, 3) := by decide +kernel
theorem d_Pt_fits_45 : decode b_Pt_fits 45 = .ok (.iconst 1, 1) := by decide +kernel
theorem d_Pt_fits_46 : decode b_Pt_fits 46 = .ok (.goto 4, 3) := by decide +kernel
theorem d_Pt_fits_49 : decode b_Pt_fits 49 = .ok (.iconst 0, 1) := by decide +kernel
theorem d_Pt_fits_50 : decode b_Pt_fits 50 = .ok (.ireturn, 1) := by decide +kernel
theorem d_Pt_fits_51 : decode b_Pt_fits 51 = .ok (.aload_n 0, 1) := by decide +kernel
theorem d_Pt_fits_52 : decode b_Pt_fits 52 = .ok (.getfield 15, 3) := by decide +kernel
theorem d_Pt_fits_55 : decode b_Pt_fits 55 = .ok (.bipush 8, 2) := by decide +kernel
theorem d_Pt_fits_57 : decode b_Pt_fits 57 = .ok (.if_icmp .ne 7, 3) := by decide +kernel
theorem d_Pt_fits_60 : decode b_Pt_fits 60 = .ok (.iconst 1, 1) := by decide +kernel
theorem d_Pt_fits_61 : decode b_Pt_fits 61 = .ok (.goto 4, 3) := by decide +kernel
theorem d_Pt_fits_64 : decode b_Pt_fits 64 = .ok (.iconst 0, 1) := by decide +kernel
theorem d_Pt_fits_65 : decode b_Pt_fits 65 = .ok (.ireturn, 1) := by decide +kernel
theorem d_Pt_fits_66 : decode b_Pt_fits 66 = .ok (.aload_n 0, 1) := by decide +kernel
theorem d_Pt_fits_67 : decode b_Pt_fits 67 = .ok (.getfield 15, 3) := by decide +kernel
theorem d_Pt_fits_70 : decode b_Pt_fits 70 = .ok (.bipush 9, 2) := by decide +kernel
theorem d_Pt_fits_72 : decode b_Pt_fits 72 = .ok (.if_icmp .ne 7, 3) := by decide +kernel
theorem d_Pt_fits_75 : decode b_Pt_fits 75 = .ok (.iconst 1, 1) := by decide +kernel
theorem d_Pt_fits_76 : decode b_Pt_fits 76 = .ok (.goto 4, 3) := by decide +kernel
theorem d_Pt_fits_79 : decode b_Pt_fits 79 = .ok (.iconst 0, 1) := by decide +kernel
theorem d_Pt_fits_80 : decode b_Pt_fits 80 = .ok (.ireturn, 1) := by decide +kernel
theorem d_Pt_fits_81 : decode b_Pt_fits 81 = .ok (.aload_n 0, 1) := by decide +kernel
theorem d_Pt_fits_82 : decode b_Pt_fits 82 = .ok (.invokevirtual 25, 3) := by decide +kernel
theorem d_Pt_fits_85 : decode b_Pt_fits 85 = .ok (.ifCond .ne 7, 3) := by decide +kernel
theorem d_Pt_fits_88 : decode b_Pt_fits 88 = .ok (.iconst 1, 1) := by decide +kernel
theorem d_Pt_fits_89 : decode b_Pt_fits 89 = .ok (.goto 4, 3) := by decide +kernel
theorem d_Pt_fits_92 : decode b_Pt_fits 92 = .ok (.iconst 0, 1) := by decide +kernel
theorem d_Pt_fits_93 : decode b_Pt_fits 93 = .ok (.ireturn, 1) := by decide +kernel
set_option maxRecDepth 100000 in
set_option maxHeartbeats 4000000 in
theorem c_Pt_fits (l : Launch) (D : va_G) (ca : Nat → ClassId) (T : ty_e) (L : List Nat) (f0 : Nat → va_E) (sz : Nat) (hT : ok_T ca T L f0) {q0 : Int32 × Int32} (h0 : Nat) (t0 : T h0 = some (ty_pt q0)) (x1 : Int32) :
    Met l y_Pt_fits (Cond.code y_Pt_fits b_Pt_fits 2 (some .boolean) :: wg) { frames := 1, cells := 0, slots := 0, locals := 20 } (va_Pc [.ref h0, .int (x1)] (sm_P D cl_all (ty_s ca) ek L f0 sz)) (sm_Qi D (ty_s ca) L f0 sz (fun r u => ((r = 0 ∨ r = 1) ∧ (r = 1 → x1 = 102 → q0.2.toInt ≤ 6)) ∧ u = (L, f0))) 0 0 (va_A (va_pl L f0) sz) := by
  refine sm_start (by decide) (Nat.le_of_ble_eq_true rfl) ?_
  intro p e s m below meth c ls hx hb hml hr hlk hnm hts hown hsz hE hI hl
  have hl : lv_has ls 2 [(0, .ref h0), (1, .int (x1))] := hl
  refine lv_iload_n hx hb d_Pt_fits_0 rfl (lv_at hl 1 rfl) ?_
  by_cases c_1 : x1 = 45
  · refine lv_lookup (off := 35) (tgt := 36) hx hb d_Pt_fits_1 (by decide) (by rw [c_1]; decide) (by decide) ?_
    refine lv_aload_n hx hb d_Pt_fits_36 rfl (lv_at hl 0 rfl) ?_
    refine fg_Pt_kind hx hb hts hown hI hT t0 (hts _ tw_520) (fun _ h9 => h9) d_Pt_fits_37 (fun h_2 => ?_)
    refine lv_bipush (v := 7) hx hb d_Pt_fits_40 (by decide) ?_
    refine lv_icmp_ne (tgt := 49) hx hb d_Pt_fits_42 (by decide) (fun c_3 => ?_) (fun c_3 => ?_)
    · refine lv_iconst (v := 0) hx hb d_Pt_fits_49 (by decide) ?_
      exact sm_zret hx hb hr hlk hI (by decide) ⟨⟨Or.inl rfl, fun h => absurd h (by decide)⟩, rfl⟩ d_Pt_fits_50
    · refine lv_iconst (v := 1) hx hb d_Pt_fits_45 (by decide) ?_
      refine lv_goto (tgt := 50) hx hb d_Pt_fits_46 (by decide) ?_
      exact sm_zret hx hb hr hlk hI (by decide) ⟨⟨Or.inr rfl, fun _ h => absurd (c_1.symm.trans h) (by decide)⟩, rfl⟩ d_Pt_fits_50
  by_cases c_4 : x1 = 46
  · refine lv_lookup (off := 50) (tgt := 51) hx hb d_Pt_fits_1 (by decide) (by rw [c_4]; decide) (by decide) ?_
    refine lv_aload_n hx hb d_Pt_fits_51 rfl (lv_at hl 0 rfl) ?_
    refine fg_Pt_kind hx hb hts hown hI hT t0 (hts _ tw_520) (fun _ h9 => h9) d_Pt_fits_52 (fun h_5 => ?_)
    refine lv_bipush (v := 8) hx hb d_Pt_fits_55 (by decide) ?_
    refine lv_icmp_ne (tgt := 64) hx hb d_Pt_fits_57 (by decide) (fun c_6 => ?_) (fun c_6 => ?_)
    · refine lv_iconst (v := 0) hx hb d_Pt_fits_64 (by decide) ?_
      exact sm_zret hx hb hr hlk hI (by decide) ⟨⟨Or.inl rfl, fun h => absurd h (by decide)⟩, rfl⟩ d_Pt_fits_65
    · refine lv_iconst (v := 1) hx hb d_Pt_fits_60 (by decide) ?_
      refine lv_goto (tgt := 65) hx hb d_Pt_fits_61 (by decide) ?_
      exact sm_zret hx hb hr hlk hI (by decide) ⟨⟨Or.inr rfl, fun _ h => absurd (c_4.symm.trans h) (by decide)⟩, rfl⟩ d_Pt_fits_65
  by_cases c_7 : x1 = 50
  · refine lv_lookup (off := 65) (tgt := 66) hx hb d_Pt_fits_1 (by decide) (by rw [c_7]; decide) (by decide) ?_
    refine lv_aload_n hx hb d_Pt_fits_66 rfl (lv_at hl 0 rfl) ?_
    refine fg_Pt_kind hx hb hts hown hI hT t0 (hts _ tw_520) (fun _ h9 => h9) d_Pt_fits_67 (fun h_8 => ?_)
    refine lv_bipush (v := 9) hx hb d_Pt_fits_70 (by decide) ?_
    refine lv_icmp_ne (tgt := 79) hx hb d_Pt_fits_72 (by decide) (fun c_9 => ?_) (fun c_9 => ?_)
    · refine lv_iconst (v := 0) hx hb d_Pt_fits_79 (by decide) ?_
      exact sm_zret hx hb hr hlk hI (by decide) ⟨⟨Or.inl rfl, fun h => absurd h (by decide)⟩, rfl⟩ d_Pt_fits_80
    · refine lv_iconst (v := 1) hx hb d_Pt_fits_75 (by decide) ?_
      refine lv_goto (tgt := 80) hx hb d_Pt_fits_76 (by decide) ?_
      exact sm_zret hx hb hr hlk hI (by decide) ⟨⟨Or.inr rfl, fun _ h => absurd (c_7.symm.trans h) (by decide)⟩, rfl⟩ d_Pt_fits_80
  refine lv_lookup (off := 80) (tgt := 81) hx hb d_Pt_fits_1 (by decide) (by show Op.lookupswitch.offset [(45, 35), (46, 50), (50, 65)] _ _ = _; rw [lv_osw c_1 (by decide), lv_osw c_4 (by decide), lv_osw c_7 (by decide)]; rfl) (by decide) ?_
  refine lv_aload_n hx hb d_Pt_fits_81 rfl (lv_at hl 0 rfl) ?_
  refine sm_iP hI (va_runV (As := []) (rest := []) ⟨hx, hb, hml, hown, hts⟩ (c_Pt_isCommand l D ca _ _ _ _ hT h0 t0) (kv_Pt_isCommand hts rfl rfl (hts _ tw_596) ⟨Nat.le_of_ble_eq_true rfl, Nat.le_of_ble_eq_true rfl⟩) (pv_Pt hI hE hT t0) rfl rfl hl.1 rfl (lv_room (Nat.le_of_ble_eq_true rfl)) d_Pt_fits_82 ⟨Nat.le_of_ble_eq_true rfl, Nat.le_of_ble_eq_true rfl⟩) (fun x_10 H locs p_11 hI => ?_)
  refine lv_if_ne (tgt := 92) hx hb d_Pt_fits_85 (by decide) (fun c_12 => ?_) (fun c_12 => ?_)
  · refine lv_iconst (v := 0) hx hb d_Pt_fits_92 (by decide) ?_
    exact sm_zret hx hb hr hlk hI (by decide) ⟨⟨Or.inl rfl, fun h => absurd h (by decide)⟩, rfl⟩ d_Pt_fits_93
  · refine lv_iconst (v := 1) hx hb d_Pt_fits_88 (by decide) ?_
    refine lv_goto (tgt := 93) hx hb d_Pt_fits_89 (by decide) ?_
    exact sm_zret hx hb hr hlk hI (by decide) ⟨⟨Or.inr rfl, fun _ _ => p_11.2 c_12⟩, rfl⟩ d_Pt_fits_93
theorem d_An_asksFor_0 : decode b_An_asksFor 0 = .ok (.aload_n 0, 1) := by decide +kernel
theorem d_An_asksFor_1 : decode b_An_asksFor 1 = .ok (.getfield 20, 3) := by decide +kernel
theorem d_An_asksFor_4 : decode b_An_asksFor 4 = .ok (.ifCond .eq 20, 3) := by decide +kernel
theorem d_An_asksFor_7 : decode b_An_asksFor 7 = .ok (.aload_n 1, 1) := by decide +kernel
theorem d_An_asksFor_8 : decode b_An_asksFor 8 = .ok (.getfield 24, 3) := by decide +kernel
theorem d_An_asksFor_11 : decode b_An_asksFor 11 = .ok (.bipush 6, 2) := by decide +kernel
theorem d_An_asksFor_13 : decode b_An_asksFor 13 = .ok (.if_icmp .ne 7, 3) := by decide +kernel
theorem d_An_asksFor_16 : decode b_An_asksFor 16 = .ok (.iconst 1, 1) := by decide +kernel
theorem d_An_asksFor_17 : decode b_An_asksFor 17 = .ok (.goto 21, 3) := by decide +kernel
theorem d_An_asksFor_20 : decode b_An_asksFor 20 = .ok (.iconst 0, 1) := by decide +kernel
theorem d_An_asksFor_21 : decode b_An_asksFor 21 = .ok (.goto 17, 3) := by decide +kernel
theorem d_An_asksFor_24 : decode b_An_asksFor 24 = .ok (.aload_n 1, 1) := by decide +kernel
theorem d_An_asksFor_25 : decode b_An_asksFor 25 = .ok (.getfield 24, 3) := by decide +kernel
theorem d_An_asksFor_28 : decode b_An_asksFor 28 = .ok (.bipush 6, 2) := by decide +kernel
theorem d_An_asksFor_30 : decode b_An_asksFor 30 = .ok (.if_icmp .ge 7, 3) := by decide +kernel
theorem d_An_asksFor_33 : decode b_An_asksFor 33 = .ok (.iconst 1, 1) := by decide +kernel
theorem d_An_asksFor_34 : decode b_An_asksFor 34 = .ok (.goto 4, 3) := by decide +kernel
theorem d_An_asksFor_37 : decode b_An_asksFor 37 = .ok (.iconst 0, 1) := by decide +kernel
theorem d_An_asksFor_38 : decode b_An_asksFor 38 = .ok (.istore_n 2, 1) := by decide +kernel
theorem d_An_asksFor_39 : decode b_An_asksFor 39 = .ok (.iload_n 2, 1) := by decide +kernel
theorem d_An_asksFor_40 : decode b_An_asksFor 40 = .ok (.ifCond .eq 25, 3) := by decide +kernel
theorem d_An_asksFor_43 : decode b_An_asksFor 43 = .ok (.aload_n 0, 1) := by decide +kernel
theorem d_An_asksFor_44 : decode b_An_asksFor 44 = .ok (.getfield 30, 3) := by decide +kernel
theorem d_An_asksFor_47 : decode b_An_asksFor 47 = .ok (.ifCond .eq 14, 3) := by decide +kernel
theorem d_An_asksFor_50 : decode b_An_asksFor 50 = .ok (.aload_n 0, 1) := by decide +kernel
theorem d_An_asksFor_51 : decode b_An_asksFor 51 = .ok (.getfield 30, 3) := by decide +kernel
theorem d_An_asksFor_54 : decode b_An_asksFor 54 = .ok (.aload_n 1, 1) := by decide +kernel
theorem d_An_asksFor_55 : decode b_An_asksFor 55 = .ok (.getfield 33, 3) := by decide +kernel
theorem d_An_asksFor_58 : decode b_An_asksFor 58 = .ok (.if_icmp .ne 7, 3) := by decide +kernel
theorem d_An_asksFor_61 : decode b_An_asksFor 61 = .ok (.iconst 1, 1) := by decide +kernel
theorem d_An_asksFor_62 : decode b_An_asksFor 62 = .ok (.goto 4, 3) := by decide +kernel
theorem d_An_asksFor_65 : decode b_An_asksFor 65 = .ok (.iconst 0, 1) := by decide +kernel
theorem d_An_asksFor_66 : decode b_An_asksFor 66 = .ok (.ireturn, 1) := by decide +kernel
set_option maxRecDepth 100000 in
set_option maxHeartbeats 4000000 in
theorem c_An_asksFor (l : Launch) (D : va_G) (ca : Nat → ClassId) (T : ty_e) (L : List Nat) (f0 : Nat → va_E) (sz : Nat) (hT : ok_T ca T L f0) (h0 : Nat) (t0 : T h0 = some (ty_an)) {q1 : Int32 × Int32} (x1 : Nat) (t1 : T x1 = some (ty_pt q1)) :
    Met l y_An_asksFor (Cond.code y_An_asksFor b_An_asksFor 3 (some .boolean) :: wg) { frames := 0, cells := 0, slots := 0, locals := 0 } (va_Pc [.ref h0, .ref x1] (sm_P D cl_all (ty_s ca) ek L f0 sz)) (sm_Qi D (ty_s ca) L f0 sz (fun r u => ((r = 0 ∨ r = 1) ∧ (r = 1 → q1.2.toInt ≤ 6)) ∧ u = (L, f0))) 0 0 (va_A (va_pl L f0) sz) := by
  refine sm_start (by decide) (Nat.le_of_ble_eq_true rfl) ?_
  intro p e s m below meth c ls hx hb hml hr hlk hnm hts hown hsz hE hI hl
  have hl : lv_has ls 3 [(0, .ref h0), (1, .ref x1)] := hl
  refine lv_aload_n hx hb d_An_asksFor_0 rfl (lv_at hl 0 rfl) ?_
  refine fg_An_counters hx hb hts hown hI hT t0 (hts _ tw_77) (fun _ h9 => h9) d_An_asksFor_1 (fun x_1 p_2 => ?_)
  refine lv_if_eq (tgt := 24) hx hb d_An_asksFor_4 (by decide) (fun c_3 => ?_) (fun c_3 => ?_)
  · refine lv_aload_n hx hb d_An_asksFor_24 rfl (lv_at hl 1 rfl) ?_
    refine fgN_Pt_kind hx hb hts hown hI hT t1 (va_Nw.use rfl (hE.1 _ tn_521 rfl)) (fun _ h9 => h9) d_An_asksFor_25 (fun h_4 => ?_)
    refine lv_bipush (v := 6) hx hb d_An_asksFor_28 (by decide) ?_
    refine lv_icmp_ge (tgt := 37) hx hb d_An_asksFor_30 (by decide) (fun c_5 => ?_) (fun c_5 => ?_)
    · refine lv_iconst (v := 0) hx hb d_An_asksFor_37 (by decide) ?_
      refine lv_istore_n (lv' := [(2, .int (0)), (0, .ref h0), (1, .ref x1)]) hx hb d_An_asksFor_38 rfl hl (by decide) rfl (fun ls hl => ?_)
      refine lv_iload_n hx hb d_An_asksFor_39 rfl (lv_at hl 0 rfl) ?_
      refine lv_if_eq (tgt := 65) hx hb d_An_asksFor_40 (by decide) (fun c_6 => ?_) (fun c_6 => ?_)
      · refine lv_iconst (v := 0) hx hb d_An_asksFor_65 (by decide) ?_
        exact sm_zret hx hb hr hlk hI (by decide) ⟨⟨Or.inl rfl, fun h => absurd h (by decide)⟩, rfl⟩ d_An_asksFor_66
      · exact absurd c_6 (by decide)
    · refine lv_iconst (v := 1) hx hb d_An_asksFor_33 (by decide) ?_
      refine lv_goto (tgt := 38) hx hb d_An_asksFor_34 (by decide) ?_
      refine lv_istore_n (lv' := [(2, .int (1)), (0, .ref h0), (1, .ref x1)]) hx hb d_An_asksFor_38 rfl hl (by decide) rfl (fun ls hl => ?_)
      refine lv_iload_n hx hb d_An_asksFor_39 rfl (lv_at hl 0 rfl) ?_
      refine lv_if_eq (tgt := 65) hx hb d_An_asksFor_40 (by decide) (fun c_7 => ?_) (fun c_7 => ?_)
      · exact absurd c_7 (by decide)
      · refine lv_aload_n hx hb d_An_asksFor_43 rfl (lv_at hl 1 rfl) ?_
        refine fg_An_group hx hb hts hown hI hT t0 (hts _ tw_81) (fun _ h9 => h9) d_An_asksFor_44 (fun x_8 => ?_)
        refine lv_if_eq (tgt := 61) hx hb d_An_asksFor_47 (by decide) (fun c_9 => ?_) (fun c_9 => ?_)
        · refine lv_iconst (v := 1) hx hb d_An_asksFor_61 (by decide) ?_
          refine lv_goto (tgt := 66) hx hb d_An_asksFor_62 (by decide) ?_
          exact sm_zret hx hb hr hlk hI (by decide) ⟨⟨Or.inr rfl, fun _ => kd_ge c_5⟩, rfl⟩ d_An_asksFor_66
        · refine lv_aload_n hx hb d_An_asksFor_50 rfl (lv_at hl 1 rfl) ?_
          refine fg_An_group hx hb hts hown hI hT t0 (hts _ tw_81) (fun _ h9 => h9) d_An_asksFor_51 (fun x_10 => ?_)
          refine lv_aload_n hx hb d_An_asksFor_54 rfl (lv_at hl 2 rfl) ?_
          refine fgN_Pt_group hx hb hts hown hI hT t1 (va_Nw.use rfl (hE.1 _ tn_524 rfl)) (fun _ h9 => h9) d_An_asksFor_55 (fun x_11 => ?_)
          refine lv_icmp_ne (tgt := 65) hx hb d_An_asksFor_58 (by decide) (fun c_12 => ?_) (fun c_12 => ?_)
          · refine lv_iconst (v := 0) hx hb d_An_asksFor_65 (by decide) ?_
            exact sm_zret hx hb hr hlk hI (by decide) ⟨⟨Or.inl rfl, fun h => absurd h (by decide)⟩, rfl⟩ d_An_asksFor_66
          · refine lv_iconst (v := 1) hx hb d_An_asksFor_61 (by decide) ?_
            refine lv_goto (tgt := 66) hx hb d_An_asksFor_62 (by decide) ?_
            exact sm_zret hx hb hr hlk hI (by decide) ⟨⟨Or.inr rfl, fun _ => kd_ge c_5⟩, rfl⟩ d_An_asksFor_66
  · refine lv_aload_n hx hb d_An_asksFor_7 rfl (lv_at hl 1 rfl) ?_
    refine fgN_Pt_kind hx hb hts hown hI hT t1 (va_Nw.use rfl (hE.1 _ tn_521 rfl)) (fun _ h9 => h9) d_An_asksFor_8 (fun h_13 => ?_)
    refine lv_bipush (v := 6) hx hb d_An_asksFor_11 (by decide) ?_
    refine lv_icmp_ne (tgt := 20) hx hb d_An_asksFor_13 (by decide) (fun c_14 => ?_) (fun c_14 => ?_)
    · refine lv_iconst (v := 0) hx hb d_An_asksFor_20 (by decide) ?_
      refine lv_goto (tgt := 38) hx hb d_An_asksFor_21 (by decide) ?_
      refine lv_istore_n (lv' := [(2, .int (0)), (0, .ref h0), (1, .ref x1)]) hx hb d_An_asksFor_38 rfl hl (by decide) rfl (fun ls hl => ?_)
      refine lv_iload_n hx hb d_An_asksFor_39 rfl (lv_at hl 0 rfl) ?_
      refine lv_if_eq (tgt := 65) hx hb d_An_asksFor_40 (by decide) (fun c_15 => ?_) (fun c_15 => ?_)
      · refine lv_iconst (v := 0) hx hb d_An_asksFor_65 (by decide) ?_
        exact sm_zret hx hb hr hlk hI (by decide) ⟨⟨Or.inl rfl, fun h => absurd h (by decide)⟩, rfl⟩ d_An_asksFor_66
      · exact absurd c_15 (by decide)
    · refine lv_iconst (v := 1) hx hb d_An_asksFor_16 (by decide) ?_
      refine lv_goto (tgt := 38) hx hb d_An_asksFor_17 (by decide) ?_
      refine lv_istore_n (lv' := [(2, .int (1)), (0, .ref h0), (1, .ref x1)]) hx hb d_An_asksFor_38 rfl hl (by decide) rfl (fun ls hl => ?_)
      refine lv_iload_n hx hb d_An_asksFor_39 rfl (lv_at hl 0 rfl) ?_
      refine lv_if_eq (tgt := 65) hx hb d_An_asksFor_40 (by decide) (fun c_16 => ?_) (fun c_16 => ?_)
      · exact absurd c_16 (by decide)
      · refine lv_aload_n hx hb d_An_asksFor_43 rfl (lv_at hl 1 rfl) ?_
        refine fg_An_group hx hb hts hown hI hT t0 (hts _ tw_81) (fun _ h9 => h9) d_An_asksFor_44 (fun x_17 => ?_)
        refine lv_if_eq (tgt := 61) hx hb d_An_asksFor_47 (by decide) (fun c_18 => ?_) (fun c_18 => ?_)
        · refine lv_iconst (v := 1) hx hb d_An_asksFor_61 (by decide) ?_
          refine lv_goto (tgt := 66) hx hb d_An_asksFor_62 (by decide) ?_
          exact sm_zret hx hb hr hlk hI (by decide) ⟨⟨Or.inr rfl, fun _ => kd_6 c_14⟩, rfl⟩ d_An_asksFor_66
        · refine lv_aload_n hx hb d_An_asksFor_50 rfl (lv_at hl 1 rfl) ?_
          refine fg_An_group hx hb hts hown hI hT t0 (hts _ tw_81) (fun _ h9 => h9) d_An_asksFor_51 (fun x_19 => ?_)
          refine lv_aload_n hx hb d_An_asksFor_54 rfl (lv_at hl 2 rfl) ?_
          refine fgN_Pt_group hx hb hts hown hI hT t1 (va_Nw.use rfl (hE.1 _ tn_524 rfl)) (fun _ h9 => h9) d_An_asksFor_55 (fun x_20 => ?_)
          refine lv_icmp_ne (tgt := 65) hx hb d_An_asksFor_58 (by decide) (fun c_21 => ?_) (fun c_21 => ?_)
          · refine lv_iconst (v := 0) hx hb d_An_asksFor_65 (by decide) ?_
            exact sm_zret hx hb hr hlk hI (by decide) ⟨⟨Or.inl rfl, fun h => absurd h (by decide)⟩, rfl⟩ d_An_asksFor_66
          · refine lv_iconst (v := 1) hx hb d_An_asksFor_61 (by decide) ?_
            refine lv_goto (tgt := 66) hx hb d_An_asksFor_62 (by decide) ?_
            exact sm_zret hx hb hr hlk hI (by decide) ⟨⟨Or.inr rfl, fun _ => kd_6 c_14⟩, rfl⟩ d_An_asksFor_66
theorem d_An_cause_0 : decode b_An_cause 0 = .ok (.aload_n 0, 1) := by decide +kernel
theorem d_An_cause_1 : decode b_An_cause 1 = .ok (.getfield 20, 3) := by decide +kernel
theorem d_An_cause_4 : decode b_An_cause 4 = .ok (.ifCond .eq 8, 3) := by decide +kernel
theorem d_An_cause_7 : decode b_An_cause 7 = .ok (.bipush 37, 2) := by decide +kernel
theorem d_An_cause_9 : decode b_An_cause 9 = .ok (.goto 5, 3) := by decide +kernel
theorem d_An_cause_12 : decode b_An_cause 12 = .ok (.bipush 20, 2) := by decide +kernel
theorem d_An_cause_14 : decode b_An_cause 14 = .ok (.aload_n 0, 1) := by decide +kernel
theorem d_An_cause_15 : decode b_An_cause 15 = .ok (.getfield 30, 3) := by decide +kernel
theorem d_An_cause_18 : decode b_An_cause 18 = .ok (.iadd, 1) := by decide +kernel
theorem d_An_cause_19 : decode b_An_cause 19 = .ok (.ireturn, 1) := by decide +kernel
set_option maxRecDepth 100000 in
set_option maxHeartbeats 4000000 in
theorem c_An_cause (l : Launch) (D : va_G) (ca : Nat → ClassId) (T : ty_e) (L : List Nat) (f0 : Nat → va_E) (sz : Nat) (hT : ok_T ca T L f0) (h0 : Nat) (t0 : T h0 = some (ty_an)) :
    Met l y_An_cause (Cond.code y_An_cause b_An_cause 1 (some .int) :: wg) { frames := 0, cells := 0, slots := 0, locals := 0 } (va_Pc [.ref h0] (sm_P D cl_all (ty_s ca) ek L f0 sz)) (sm_Qi D (ty_s ca) L f0 sz (fun r u => (True) ∧ u = (L, f0))) 0 0 (va_A (va_pl L f0) sz) := by
  refine sm_start (by decide) (Nat.le_of_ble_eq_true rfl) ?_
  intro p e s m below meth c ls hx hb hml hr hlk hnm hts hown hsz hE hI hl
  have hl : lv_has ls 1 [(0, .ref h0)] := hl
  refine lv_aload_n hx hb d_An_cause_0 rfl (lv_at hl 0 rfl) ?_
  refine fg_An_counters hx hb hts hown hI hT t0 (hts _ tw_77) (fun _ h9 => h9) d_An_cause_1 (fun x_1 p_2 => ?_)
  refine lv_if_eq (tgt := 12) hx hb d_An_cause_4 (by decide) (fun c_3 => ?_) (fun c_3 => ?_)
  · refine lv_bipush (v := 20) hx hb d_An_cause_12 (by decide) ?_
    refine lv_aload_n hx hb d_An_cause_14 rfl (lv_at hl 0 rfl) ?_
    refine fg_An_group hx hb hts hown hI hT t0 (hts _ tw_81) (fun _ h9 => h9) d_An_cause_15 (fun x_4 => ?_)
    refine lv_iadd hx hb d_An_cause_18 ?_
    refine lv_topi (fun x_5 e_6 => ?_)
    exact sm_iret hx hb hr hlk hI ⟨trivial, rfl⟩ d_An_cause_19
  · refine lv_bipush (v := 37) hx hb d_An_cause_7 (by decide) ?_
    refine lv_goto (tgt := 14) hx hb d_An_cause_9 (by decide) ?_
    refine lv_aload_n hx hb d_An_cause_14 rfl (lv_at hl 0 rfl) ?_
    refine fg_An_group hx hb hts hown hI hT t0 (hts _ tw_81) (fun _ h9 => h9) d_An_cause_15 (fun x_7 => ?_)
    refine lv_iadd hx hb d_An_cause_18 ?_
    refine lv_topi (fun x_8 e_9 => ?_)
    exact sm_iret hx hb hr hlk hI ⟨trivial, rfl⟩ d_An_cause_19
theorem d_As_clear_0 : decode b_As_clear 0 = .ok (.aload_n 0, 1) := by decide +kernel
theorem d_As_clear_1 : decode b_As_clear 1 = .ok (.iconst 0, 1) := by decide +kernel
theorem d_As_clear_2 : decode b_As_clear 2 = .ok (.putfield 22, 3) := by decide +kernel
theorem d_As_clear_5 : decode b_As_clear 5 = .ok (.return_, 1) := by decide +kernel
set_option maxRecDepth 100000 in
set_option maxHeartbeats 4000000 in
theorem c_As_clear (l : Launch) (D : va_G) (ca : Nat → ClassId) (T : ty_e) (L : List Nat) (f0 : Nat → va_E) (sz : Nat) (hT : ok_T ca T L f0) (h0 : Nat) (t0 : T h0 = some (ty_as)) :
    Met l y_As_clear (Cond.code y_As_clear b_As_clear 1 none :: wg) { frames := 0, cells := 0, slots := 0, locals := 0 } (va_Pc [.ref h0] (sm_P D cl_all (ty_s ca) ek L f0 sz)) (sm_Qv D (ty_s ca) L f0 sz (fun u => po_m ca T L u)) 0 0 (va_A (va_pl L f0) sz) := by
  refine sm_start (by decide) (Nat.le_of_ble_eq_true rfl) ?_
  intro p e s m below meth c ls hx hb hml hr hlk hnm hts hown hsz hE hI hl
  have hl : lv_has ls 1 [(0, .ref h0)] := hl
  refine lv_aload_n hx hb d_As_clear_0 rfl (lv_at hl 0 rfl) ?_
  refine lv_iconst (v := 0) hx hb d_As_clear_1 (by decide) ?_
  refine fp_As_many hx hb hts hown hI hT t0 (hts _ tw_100) (fun _ h9 => h9) (v := 0) (by decide) d_As_clear_2 (fun H locs f hI hT => ?_)
  exact sm_vret hx hb hr hlk hI ⟨rfl, hT⟩ d_As_clear_5
