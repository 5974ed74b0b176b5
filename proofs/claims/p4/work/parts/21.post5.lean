/-! TelecontrolPost: what is sent (written by wip/tools) -/
theorem d_Po_tellAnswer_0 : decode b_Po_tellAnswer 0 = .ok (.aload_n 0, 1) := by decide +kernel
theorem d_Po_tellAnswer_1 : decode b_Po_tellAnswer 1 = .ok (.aload_n 2, 1) := by decide +kernel
theorem d_Po_tellAnswer_2 : decode b_Po_tellAnswer 2 = .ok (.invokevirtual 470, 3) := by decide +kernel
theorem d_Po_tellAnswer_5 : decode b_Po_tellAnswer 5 = .ok (.ifCond .eq 10, 3) := by decide +kernel
theorem d_Po_tellAnswer_8 : decode b_Po_tellAnswer 8 = .ok (.aload_n 0, 1) := by decide +kernel
theorem d_Po_tellAnswer_9 : decode b_Po_tellAnswer 9 = .ok (.aload_n 1, 1) := by decide +kernel
theorem d_Po_tellAnswer_10 : decode b_Po_tellAnswer 10 = .ok (.aload_n 2, 1) := by decide +kernel
theorem d_Po_tellAnswer_11 : decode b_Po_tellAnswer 11 = .ok (.invokevirtual 474, 3) := by decide +kernel
theorem d_Po_tellAnswer_14 : decode b_Po_tellAnswer 14 = .ok (.return_, 1) := by decide +kernel
theorem d_Po_tellAnswer_15 : decode b_Po_tellAnswer 15 = .ok (.aload_n 0, 1) := by decide +kernel
theorem d_Po_tellAnswer_16 : decode b_Po_tellAnswer 16 = .ok (.getfield 57, 3) := by decide +kernel
theorem d_Po_tellAnswer_19 : decode b_Po_tellAnswer 19 = .ok (.aload_n 2, 1) := by decide +kernel
theorem d_Po_tellAnswer_20 : decode b_Po_tellAnswer 20 = .ok (.getfield 477, 3) := by decide +kernel
theorem d_Po_tellAnswer_23 : decode b_Po_tellAnswer 23 = .ok (.iconst 0, 1) := by decide +kernel
theorem d_Po_tellAnswer_24 : decode b_Po_tellAnswer 24 = .ok (.aload_n 2, 1) := by decide +kernel
theorem d_Po_tellAnswer_25 : decode b_Po_tellAnswer 25 = .ok (.getfield 477, 3) := by decide +kernel
theorem d_Po_tellAnswer_28 : decode b_Po_tellAnswer 28 = .ok (.getfield 207, 3) := by decide +kernel
theorem d_Po_tellAnswer_31 : decode b_Po_tellAnswer 31 = .ok (.invokevirtual 361, 3) := by decide +kernel
theorem d_Po_tellAnswer_34 : decode b_Po_tellAnswer 34 = .ok (.aload_n 2, 1) := by decide +kernel
theorem d_Po_tellAnswer_35 : decode b_Po_tellAnswer 35 = .ok (.getfield 482, 3) := by decide +kernel
theorem d_Po_tellAnswer_38 : decode b_Po_tellAnswer 38 = .ok (.ifCond .eq 16, 3) := by decide +kernel
theorem d_Po_tellAnswer_41 : decode b_Po_tellAnswer 41 = .ok (.aload_n 2, 1) := by decide +kernel
theorem d_Po_tellAnswer_42 : decode b_Po_tellAnswer 42 = .ok (.getfield 485, 3) := by decide +kernel
theorem d_Po_tellAnswer_45 : decode b_Po_tellAnswer 45 = .ok (.ifCond .ne 9, 3) := by decide +kernel
theorem d_Po_tellAnswer_48 : decode b_Po_tellAnswer 48 = .ok (.aload_n 2, 1) := by decide +kernel
theorem d_Po_tellAnswer_49 : decode b_Po_tellAnswer 49 = .ok (.iconst 1, 1) := by decide +kernel
theorem d_Po_tellAnswer_50 : decode b_Po_tellAnswer 50 = .ok (.putfield 485, 3) := by decide +kernel
theorem d_Po_tellAnswer_53 : decode b_Po_tellAnswer 53 = .ok (.return_, 1) := by decide +kernel
theorem d_Po_tellAnswer_54 : decode b_Po_tellAnswer 54 = .ok (.aload_n 2, 1) := by decide +kernel
theorem d_Po_tellAnswer_55 : decode b_Po_tellAnswer 55 = .ok (.getfield 482, 3) := by decide +kernel
theorem d_Po_tellAnswer_58 : decode b_Po_tellAnswer 58 = .ok (.ifCond .eq 26, 3) := by decide +kernel
theorem d_Po_tellAnswer_61 : decode b_Po_tellAnswer 61 = .ok (.aload_n 0, 1) := by decide +kernel
theorem d_Po_tellAnswer_62 : decode b_Po_tellAnswer 62 = .ok (.getfield 57, 3) := by decide +kernel
theorem d_Po_tellAnswer_65 : decode b_Po_tellAnswer 65 = .ok (.iconst 2, 1) := by decide +kernel
theorem d_Po_tellAnswer_66 : decode b_Po_tellAnswer 66 = .ok (.aload_n 2, 1) := by decide +kernel
theorem d_Po_tellAnswer_67 : decode b_Po_tellAnswer 67 = .ok (.getfield 477, 3) := by decide +kernel
theorem d_Po_tellAnswer_70 : decode b_Po_tellAnswer 70 = .ok (.iconst 2, 1) := by decide +kernel
theorem d_Po_tellAnswer_71 : decode b_Po_tellAnswer 71 = .ok (.invokevirtual 216, 3) := by decide +kernel
theorem d_Po_tellAnswer_74 : decode b_Po_tellAnswer 74 = .ok (.sipush 128, 3) := by decide +kernel
theorem d_Po_tellAnswer_77 : decode b_Po_tellAnswer 77 = .ok (.iand, 1) := by decide +kernel
theorem d_Po_tellAnswer_78 : decode b_Po_tellAnswer 78 = .ok (.bipush 10, 2) := by decide +kernel
theorem d_Po_tellAnswer_80 : decode b_Po_tellAnswer 80 = .ok (.ior, 1) := by decide +kernel
theorem d_Po_tellAnswer_81 : decode b_Po_tellAnswer 81 = .ok (.invokevirtual 488, 3) := by decide +kernel
theorem d_Po_tellAnswer_84 : decode b_Po_tellAnswer 84 = .ok (.aload_n 1, 1) := by decide +kernel
theorem d_Po_tellAnswer_85 : decode b_Po_tellAnswer 85 = .ok (.getfield 263, 3) := by decide +kernel
theorem d_Po_tellAnswer_88 : decode b_Po_tellAnswer 88 = .ok (.invokevirtual 491, 3) := by decide +kernel
theorem d_Po_tellAnswer_91 : decode b_Po_tellAnswer 91 = .ok (.return_, 1) := by decide +kernel
set_option maxRecDepth 100000 in
set_option maxHeartbeats 4000000 in
theorem c_Po_tellAnswer (l : Launch) (D : va_G) (ca : Nat → ClassId) (T : ty_e) (L : List Nat) (f0 : Nat → va_E) (sz : Nat) (hT : ok_T ca T L f0) {g0 : List (Int32 × Int32)} (h0 : Nat) (t0 : T h0 = some (ty_po g0)) (x1 : Nat) (t1 : is_li T x1) (x2 : Nat) (t2 : T x2 = some (ty_an)) :
    Met l y_Po_tellAnswer (Cond.code y_Po_tellAnswer b_Po_tellAnswer 3 none :: wg) { frames := 3, cells := 0, slots := 0, locals := 73 } (va_Pc [.ref h0, .ref x1, .ref x2] (sm_P D cl_all (ty_s ca) ek L f0 sz)) (sm_Qv D (ty_s ca) L f0 sz (fun u => po_m ca T L u)) 0 0 (va_A (va_pl L f0) sz) := by
  refine sm_start (by decide) (Nat.le_of_ble_eq_true rfl) ?_
  intro p e s m below meth c ls hx hb hml hr hlk hnm hts hown hsz hE hI hl
  have hl : lv_has ls 3 [(0, .ref h0), (1, .ref x1), (2, .ref x2)] := hl
  have hJ_54 : ∀ (H : Heap) (locs : List Loc) (f : Nat → va_E) (ls : Array Slot) , sw_I D cl_all (ty_s ca) (va_A (va_pl L f0) sz) s H locs L f → ok_T ca T L f → lv_has ls 3 [(0, .ref h0), (1, .ref x1), (2, .ref x2)] → W p l e { frames := 3, cells := 0, slots := 0, locals := 73 } s m ([.ref h0, .ref x1, .ref x2] : List Value).toArray below meth c H locs 0 0 (MQ below (sm_Qv D (ty_s ca) L f0 sz (fun u => po_m ca T L u)) ([.ref h0, .ref x1, .ref x2] : List Value).toArray s 0 0 (va_A (va_pl L f0) sz)) (F0 m 54 ls []) := by
    intro H locs f ls  hI hT hl 
    refine lv_aload_n hx hb d_Po_tellAnswer_54 rfl (lv_at hl 2 rfl) ?_
    refine fgN_An_interrogates hx hb hts hown hI hT t2 (va_Nw.use rfl (hE.1 _ tn_76 rfl)) (fun _ h9 => h9) d_Po_tellAnswer_55 (fun x_1 p_2 => ?_)
    refine lv_if_eq (tgt := 84) hx hb d_Po_tellAnswer_58 (by decide) (fun c_3 => ?_) (fun c_3 => ?_)
    · refine lv_aload_n hx hb d_Po_tellAnswer_84 rfl (lv_at hl 1 rfl) ?_
      refine fg_Li_answers hx hb hts hown hI hT t1 (hts _ tw_139) (fun _ h9 => h9) d_Po_tellAnswer_85 (fun r_4 t_5 => ?_)
      refine sm_v hI (va_runV (As := []) (rest := []) ⟨hx, hb, hml, hown, hts⟩ (c_As_removeFirst l D ca _ _ _ _ hT r_4 t_5) (kv_As_removeFirst hts rfl rfl (hts _ tw_722) ⟨Nat.le_of_ble_eq_true rfl, Nat.le_of_ble_eq_true rfl⟩) (pv_As hI hE hT t_5) rfl rfl hl.1 rfl (lv_room (Nat.le_of_ble_eq_true rfl)) d_Po_tellAnswer_88 ⟨Nat.le_of_ble_eq_true rfl, Nat.le_of_ble_eq_true rfl⟩) (fun H locs f hI hT => ?_)
      exact sm_vret hx hb hr hlk hI ⟨rfl, hT⟩ d_Po_tellAnswer_91
    · refine lv_aload_n hx hb d_Po_tellAnswer_61 rfl (lv_at hl 0 rfl) ?_
      refine fg_Po_told hx hb hts hown hI hT t0 (hts _ tw_376) (fun _ h9 => h9) d_Po_tellAnswer_62 (fun r_6 t_7 => ?_)
      refine lv_iconst (v := 2) hx hb d_Po_tellAnswer_65 (by decide) ?_
      refine lv_aload_n hx hb d_Po_tellAnswer_66 rfl (lv_at hl 2 rfl) ?_
      refine fgN_An_row hx hb hts hown hI hT t2 (va_Nw.use rfl (hE.1 _ tn_74 rfl)) (fun _ h9 => h9) d_Po_tellAnswer_67 (fun r_8 t_9 => ?_)
      refine lv_iconst (v := 2) hx hb d_Po_tellAnswer_70 (by decide) ?_
      refine sm_iP hI (va_runV (As := [.int (2)]) (rest := [.int (2), .ref r_6]) ⟨hx, hb, hml, hown, hts⟩ (c_Br_at l D ca _ _ _ _ hT r_8 t_9 2) (kv_Br_at hts rfl rfl (hts _ tw_697) ⟨Nat.le_of_ble_eq_true rfl, Nat.le_of_ble_eq_true rfl⟩) (pv_Br hI hE hT t_9) rfl rfl hl.1 rfl (lv_room (Nat.le_of_ble_eq_true rfl)) d_Po_tellAnswer_71 ⟨Nat.le_of_ble_eq_true rfl, Nat.le_of_ble_eq_true rfl⟩) (fun x_10 H locs p_11 hI => ?_)
      refine lv_sipush (v := 128) hx hb d_Po_tellAnswer_74 (by decide) ?_
      refine lv_iand hx hb d_Po_tellAnswer_77 ?_
      refine lv_topi (fun x_12 e_13 => ?_)
      refine lv_bipush (v := 10) hx hb d_Po_tellAnswer_78 (by decide) ?_
      refine lv_ior hx hb d_Po_tellAnswer_80 ?_
      refine lv_topi (fun x_14 e_15 => ?_)
      refine sm_v hI (va_runV (As := [.int (2), .int (x_14)]) (rest := []) ⟨hx, hb, hml, hown, hts⟩ (c_Br_set l D ca _ _ _ _ hT r_6 t_7 2 x_14) (kv_Br_set hts rfl rfl (hts _ tw_714) ⟨Nat.le_of_ble_eq_true rfl, Nat.le_of_ble_eq_true rfl⟩) (pv_Br hI hE hT t_7) rfl rfl hl.1 rfl (lv_room (Nat.le_of_ble_eq_true rfl)) d_Po_tellAnswer_81 ⟨Nat.le_of_ble_eq_true rfl, Nat.le_of_ble_eq_true rfl⟩) (fun H locs f hI hT => ?_)
      refine lv_aload_n hx hb d_Po_tellAnswer_84 rfl (lv_at hl 1 rfl) ?_
      refine fg_Li_answers hx hb hts hown hI hT t1 (hts _ tw_139) (fun _ h9 => h9) d_Po_tellAnswer_85 (fun r_16 t_17 => ?_)
      refine sm_v hI (va_runV (As := []) (rest := []) ⟨hx, hb, hml, hown, hts⟩ (c_As_removeFirst l D ca _ _ _ _ hT r_16 t_17) (kv_As_removeFirst hts rfl rfl (hts _ tw_722) ⟨Nat.le_of_ble_eq_true rfl, Nat.le_of_ble_eq_true rfl⟩) (pv_As hI hE hT t_17) rfl rfl hl.1 rfl (lv_room (Nat.le_of_ble_eq_true rfl)) d_Po_tellAnswer_88 ⟨Nat.le_of_ble_eq_true rfl, Nat.le_of_ble_eq_true rfl⟩) (fun H locs f hI hT => ?_)
      exact sm_vret hx hb hr hlk hI ⟨rfl, hT⟩ d_Po_tellAnswer_91
  refine lv_aload_n hx hb d_Po_tellAnswer_0 rfl (lv_at hl 0 rfl) ?_
  refine lv_aload_n hx hb d_Po_tellAnswer_1 rfl (lv_at hl 2 rfl) ?_
  refine sm_iP hI (va_runV (As := [.ref x2]) (rest := []) ⟨hx, hb, hml, hown, hts⟩ (c_Po_isTelling l D ca _ _ _ _ hT h0 t0 x2 t2) (kv_Po_isTelling hts rfl rfl (hts _ tw_677) ⟨Nat.le_of_ble_eq_true rfl, Nat.le_of_ble_eq_true rfl⟩) (pv_Po hI hE hT t0) rfl rfl hl.1 rfl (lv_room (Nat.le_of_ble_eq_true rfl)) d_Po_tellAnswer_2 ⟨Nat.le_of_ble_eq_true rfl, Nat.le_of_ble_eq_true rfl⟩) (fun x_18 H locs p_19 hI => ?_)
  refine lv_if_eq (tgt := 15) hx hb d_Po_tellAnswer_5 (by decide) (fun c_20 => ?_) (fun c_20 => ?_)
  · refine lv_aload_n hx hb d_Po_tellAnswer_15 rfl (lv_at hl 0 rfl) ?_
    refine fg_Po_told hx hb hts hown hI hT t0 (hts _ tw_376) (fun _ h9 => h9) d_Po_tellAnswer_16 (fun r_21 t_22 => ?_)
    refine lv_aload_n hx hb d_Po_tellAnswer_19 rfl (lv_at hl 2 rfl) ?_
    refine fgN_An_row hx hb hts hown hI hT t2 (va_Nw.use rfl (hE.1 _ tn_74 rfl)) (fun _ h9 => h9) d_Po_tellAnswer_20 (fun r_23 t_24 => ?_)
    refine lv_iconst (v := 0) hx hb d_Po_tellAnswer_23 (by decide) ?_
    refine lv_aload_n hx hb d_Po_tellAnswer_24 rfl (lv_at hl 2 rfl) ?_
    refine fgN_An_row hx hb hts hown hI hT t2 (va_Nw.use rfl (hE.1 _ tn_74 rfl)) (fun _ h9 => h9) d_Po_tellAnswer_25 (fun r_25 t_26 => ?_)
    refine fgN_Br_length hx hb hts hown hI hT t_26 (va_Nw.use rfl (hE.1 _ tn_51 rfl)) (fun _ h9 => h9) d_Po_tellAnswer_28 (fun n_27 h_28 => ?_)
    refine sm_v hI (va_runV (As := [.ref r_23, .int (0), .int (nI n_27)]) (rest := []) ⟨hx, hb, hml, hown, hts⟩ (c_Br_copyFrom l D ca _ _ _ _ hT r_21 t_22 r_23 t_24 (0) (by omega) (nI n_27) (by omega) (by omega) (by omega) (lo_nI (by omega))) (kv_Br_copyFrom hts rfl rfl (hts _ tw_718) ⟨Nat.le_of_ble_eq_true rfl, Nat.le_of_ble_eq_true rfl⟩) (pv_Br hI hE hT t_22) rfl rfl hl.1 rfl (lv_room (Nat.le_of_ble_eq_true rfl)) d_Po_tellAnswer_31 ⟨Nat.le_of_ble_eq_true rfl, Nat.le_of_ble_eq_true rfl⟩) (fun H locs f hI hT => ?_)
    refine lv_aload_n hx hb d_Po_tellAnswer_34 rfl (lv_at hl 2 rfl) ?_
    refine fgN_An_interrogates hx hb hts hown hI hT t2 (va_Nw.use rfl (hE.1 _ tn_76 rfl)) (fun _ h9 => h9) d_Po_tellAnswer_35 (fun x_29 p_30 => ?_)
    refine lv_if_eq (tgt := 54) hx hb d_Po_tellAnswer_38 (by decide) (fun c_31 => ?_) (fun c_31 => ?_)
    · exact hJ_54 _ _ _ _  hI hT (lv_sub hl [0, 1, 2] rfl)
    · refine lv_aload_n hx hb d_Po_tellAnswer_41 rfl (lv_at hl 2 rfl) ?_
      refine fgN_An_begun hx hb hts hown hI hT t2 (va_Nw.use rfl (hE.1 _ tn_80 rfl)) (fun _ h9 => h9) d_Po_tellAnswer_42 (fun x_32 p_33 => ?_)
      refine lv_if_ne (tgt := 54) hx hb d_Po_tellAnswer_45 (by decide) (fun c_34 => ?_) (fun c_34 => ?_)
      · exact hJ_54 _ _ _ _  hI hT (lv_sub hl [0, 1, 2] rfl)
      · refine lv_aload_n hx hb d_Po_tellAnswer_48 rfl (lv_at hl 2 rfl) ?_
        refine lv_iconst (v := 1) hx hb d_Po_tellAnswer_49 (by decide) ?_
        refine fpN_An_begun hx hb hts hown hI hT t2 (va_Nw.use rfl (hE.1 _ tn_80 rfl)) (fun _ h9 => h9) (by decide) d_Po_tellAnswer_50 (fun H locs f hI hT => ?_)
        exact sm_vret hx hb hr hlk hI ⟨rfl, hT⟩ d_Po_tellAnswer_53
  · refine lv_aload_n hx hb d_Po_tellAnswer_8 rfl (lv_at hl 0 rfl) ?_
    refine lv_aload_n hx hb d_Po_tellAnswer_9 rfl (lv_at hl 1 rfl) ?_
    refine lv_aload_n hx hb d_Po_tellAnswer_10 rfl (lv_at hl 2 rfl) ?_
    refine sm_v hI (va_runV (As := [.ref x1, .ref x2]) (rest := []) ⟨hx, hb, hml, hown, hts⟩ (c_Po_tellPoints l D ca _ _ _ _ hT h0 t0 x1 t1 x2 t2) (kv_Po_tellPoints hts rfl rfl (hts _ tw_689) ⟨Nat.le_of_ble_eq_true rfl, Nat.le_of_ble_eq_true rfl⟩) (pv_Po hI hE hT t0) rfl rfl hl.1 rfl (lv_room (Nat.le_of_ble_eq_true rfl)) d_Po_tellAnswer_11 ⟨Nat.le_of_ble_eq_true rfl, Nat.le_of_ble_eq_true rfl⟩) (fun H locs f hI hT => ?_)
    exact sm_vret hx hb hr hlk hI ⟨rfl, hT⟩ d_Po_tellAnswer_14
theorem d_Po_sendWhatMay_0 : decode b_Po_sendWhatMay 0 = .ok (.iload_n 1, 1) := by decide +kernel
theorem d_Po_sendWhatMay_1 : decode b_Po_sendWhatMay 1 = .ok (.ifCond .lt 8, 3) := by decide +kernel
theorem d_Po_sendWhatMay_4 : decode b_Po_sendWhatMay 4 = .ok (.iload_n 1, 1) := by decide +kernel
theorem d_Po_sendWhatMay_5 : decode b_Po_sendWhatMay 5 = .ok (.iconst 3, 1) := by decide +kernel
theorem d_Po_sendWhatMay_6 : decode b_Po_sendWhatMay 6 = .ok (.if_icmp .lt 4, 3) := by decide +kernel
theorem d_Po_sendWhatMay_9 : decode b_Po_sendWhatMay 9 = .ok (.return_, 1) := by decide +kernel
theorem d_Po_sendWhatMay_10 : decode b_Po_sendWhatMay 10 = .ok (.aload_n 0, 1) := by decide +kernel
theorem d_Po_sendWhatMay_11 : decode b_Po_sendWhatMay 11 = .ok (.getfield 17, 3) := by decide +kernel
theorem d_Po_sendWhatMay_14 : decode b_Po_sendWhatMay 14 = .ok (.iload_n 1, 1) := by decide +kernel
theorem d_Po_sendWhatMay_15 : decode b_Po_sendWhatMay 15 = .ok (.aaload, 1) := by decide +kernel
theorem d_Po_sendWhatMay_16 : decode b_Po_sendWhatMay 16 = .ok (.astore_n 2, 1) := by decide +kernel
theorem d_Po_sendWhatMay_17 : decode b_Po_sendWhatMay 17 = .ok (.iconst 0, 1) := by decide +kernel
theorem d_Po_sendWhatMay_18 : decode b_Po_sendWhatMay 18 = .ok (.istore_n 3, 1) := by decide +kernel
theorem d_Po_sendWhatMay_19 : decode b_Po_sendWhatMay 19 = .ok (.iload_n 3, 1) := by decide +kernel
theorem d_Po_sendWhatMay_20 : decode b_Po_sendWhatMay 20 = .ok (.bipush 12, 2) := by decide +kernel
theorem d_Po_sendWhatMay_22 : decode b_Po_sendWhatMay 22 = .ok (.if_icmp .ge 58, 3) := by decide +kernel
theorem d_Po_sendWhatMay_25 : decode b_Po_sendWhatMay 25 = .ok (.aload_n 2, 1) := by decide +kernel
theorem d_Po_sendWhatMay_26 : decode b_Po_sendWhatMay 26 = .ok (.invokevirtual 429, 3) := by decide +kernel
theorem d_Po_sendWhatMay_29 : decode b_Po_sendWhatMay 29 = .ok (.ifCond .eq 51, 3) := by decide +kernel
theorem d_Po_sendWhatMay_32 : decode b_Po_sendWhatMay 32 = .ok (.aload_n 2, 1) := by decide +kernel
theorem d_Po_sendWhatMay_33 : decode b_Po_sendWhatMay 33 = .ok (.getfield 432, 3) := by decide +kernel
theorem d_Po_sendWhatMay_36 : decode b_Po_sendWhatMay 36 = .ok (.invokevirtual 433, 3) := by decide +kernel
theorem d_Po_sendWhatMay_39 : decode b_Po_sendWhatMay 39 = .ok (.astore 4, 2) := by decide +kernel
theorem d_Po_sendWhatMay_41 : decode b_Po_sendWhatMay 41 = .ok (.aload 4, 2) := by decide +kernel
theorem d_Po_sendWhatMay_43 : decode b_Po_sendWhatMay 43 = .ok (.ifnull 13, 3) := by decide +kernel
theorem d_Po_sendWhatMay_46 : decode b_Po_sendWhatMay 46 = .ok (.aload_n 0, 1) := by decide +kernel
theorem d_Po_sendWhatMay_47 : decode b_Po_sendWhatMay 47 = .ok (.aload_n 2, 1) := by decide +kernel
theorem d_Po_sendWhatMay_48 : decode b_Po_sendWhatMay 48 = .ok (.aload 4, 2) := by decide +kernel
theorem d_Po_sendWhatMay_50 : decode b_Po_sendWhatMay 50 = .ok (.invokevirtual 437, 3) := by decide +kernel
theorem d_Po_sendWhatMay_53 : decode b_Po_sendWhatMay 53 = .ok (.goto 16, 3) := by decide +kernel
theorem d_Po_sendWhatMay_56 : decode b_Po_sendWhatMay 56 = .ok (.aload_n 0, 1) := by decide +kernel
theorem d_Po_sendWhatMay_57 : decode b_Po_sendWhatMay 57 = .ok (.aload_n 2, 1) := by decide +kernel
theorem d_Po_sendWhatMay_58 : decode b_Po_sendWhatMay 58 = .ok (.aload_n 2, 1) := by decide +kernel
theorem d_Po_sendWhatMay_59 : decode b_Po_sendWhatMay 59 = .ok (.getfield 441, 3) := by decide +kernel
theorem d_Po_sendWhatMay_62 : decode b_Po_sendWhatMay 62 = .ok (.invokevirtual 444, 3) := by decide +kernel
theorem d_Po_sendWhatMay_65 : decode b_Po_sendWhatMay 65 = .ok (.ifCond .ne 4, 3) := by decide +kernel
theorem d_Po_sendWhatMay_68 : decode b_Po_sendWhatMay 68 = .ok (.return_, 1) := by decide +kernel
theorem d_Po_sendWhatMay_69 : decode b_Po_sendWhatMay 69 = .ok (.aload_n 0, 1) := by decide +kernel
theorem d_Po_sendWhatMay_70 : decode b_Po_sendWhatMay 70 = .ok (.aload_n 2, 1) := by decide +kernel
theorem d_Po_sendWhatMay_71 : decode b_Po_sendWhatMay 71 = .ok (.invokevirtual 448, 3) := by decide +kernel
theorem d_Po_sendWhatMay_74 : decode b_Po_sendWhatMay 74 = .ok (.iinc 3 1, 3) := by decide +kernel
theorem d_Po_sendWhatMay_77 : decode b_Po_sendWhatMay 77 = .ok (.goto (-58), 3) := by decide +kernel
theorem d_Po_sendWhatMay_80 : decode b_Po_sendWhatMay 80 = .ok (.return_, 1) := by decide +kernel
set_option maxRecDepth 100000 in
set_option maxHeartbeats 4000000 in
theorem c_Po_sendWhatMay (l : Launch) (D : va_G) (ca : Nat → ClassId) (T : ty_e) (L : List Nat) (f0 : Nat → va_E) (sz : Nat) (hT : ok_T ca T L f0) {g0 : List (Int32 × Int32)} (h0 : Nat) (t0 : T h0 = some (ty_po g0)) (x1 : Int32) :
    Met l y_Po_sendWhatMay (Cond.code y_Po_sendWhatMay b_Po_sendWhatMay 5 none :: wg) { frames := 4, cells := 0, slots := 0, locals := 95 } (va_Pc [.ref h0, .int (x1)] (sm_P D cl_all (ty_s ca) ek L f0 sz)) (sm_Qv D (ty_s ca) L f0 sz (fun u => po_m ca T L u)) 0 0 (va_A (va_pl L f0) sz) := by
  refine sm_start (by decide) (Nat.le_of_ble_eq_true rfl) ?_
  intro p e s m below meth c ls hx hb hml hr hlk hnm hts hown hsz hE hI hl
  have hl : lv_has ls 5 [(0, .ref h0), (1, .int (x1))] := hl
  have hJ_19 : ∀ (N k : Nat) (H : Heap) (locs : List Loc) (f : Nat → va_E) (ls : Array Slot) (gy2 : Nat) (y2 : Nat), 12 + 1 - k ≤ N → k ≤ 12 → sw_I D cl_all (ty_s ca) (va_A (va_pl L f0) sz) s H locs L f → ok_T ca T L f → lv_has ls 5 [(0, .ref h0), (1, .int (x1)), (2, .ref y2), (3, .int (nI k))] → (T y2 = some (ty_cn gy2)) → W p l e { frames := 4, cells := 0, slots := 0, locals := 95 } s m ([.ref h0, .int (x1)] : List Value).toArray below meth c H locs 0 0 (MQ below (sm_Qv D (ty_s ca) L f0 sz (fun u => po_m ca T L u)) ([.ref h0, .int (x1)] : List Value).toArray s 0 0 (va_A (va_pl L f0) sz)) (F0 m 19 ls []) := by
    intro N
    induction N with
    | zero => intros; omega
    | succ N ih =>
      intro k H locs f ls gy2 y2 hN hk hI hT hl ty2
      refine lv_iload_n hx hb d_Po_sendWhatMay_19 rfl (lv_at hl 3 rfl) ?_
      refine lv_bipush (v := 12) hx hb d_Po_sendWhatMay_20 (by decide) ?_
      refine lv_icmp_ge (tgt := 80) hx hb d_Po_sendWhatMay_22 (by decide) (fun c_1 => ?_) (fun c_1 => ?_)
      · have k_2 : 12 ≤ k := (nI_leI (a := 12) (b := k) (by omega) (by omega)).mp c_1
        exact sm_vret hx hb hr hlk hI ⟨rfl, hT⟩ d_Po_sendWhatMay_80
      · have k_3 : k < 12 := Nat.lt_of_not_le (fun q => c_1 ((nI_leI (a := 12) (b := k) (by omega) (by omega)).mpr q))
        refine lv_aload_n hx hb d_Po_sendWhatMay_25 rfl (lv_at hl 2 rfl) ?_
        refine sm_iP hI (va_runV (As := []) (rest := []) ⟨hx, hb, hml, hown, hts⟩ (c_Cn_maySend l D ca _ _ _ _ hT y2 ty2) (kv_Cn_maySend hts rfl rfl (hts _ tw_661) ⟨Nat.le_of_ble_eq_true rfl, Nat.le_of_ble_eq_true rfl⟩) (pv_Cn hI hE hT ty2) rfl rfl hl.1 rfl (lv_room (Nat.le_of_ble_eq_true rfl)) d_Po_sendWhatMay_26 ⟨Nat.le_of_ble_eq_true rfl, Nat.le_of_ble_eq_true rfl⟩) (fun x_4 H locs p_5 hI => ?_)
        refine lv_if_eq (tgt := 80) hx hb d_Po_sendWhatMay_29 (by decide) (fun c_6 => ?_) (fun c_6 => ?_)
        · exact sm_vret hx hb hr hlk hI ⟨rfl, hT⟩ d_Po_sendWhatMay_80
        · refine lv_aload_n hx hb d_Po_sendWhatMay_32 rfl (lv_at hl 2 rfl) ?_
          refine fg_Cn_answers hx hb hts hown hI hT ty2 (hts _ tw_140) (fun x9 h9 => u_same (hts _ tw_141) x9 h9) d_Po_sendWhatMay_33 (fun r_7 t_8 => ?_)
          refine sm_qP hI (va_runV (As := []) (rest := []) ⟨hx, hb, hml, hown, hts⟩ (c_As_first l D ca _ _ _ _ hT r_7 t_8) (kv_As_first hts rfl rfl (hts _ tw_665) ⟨Nat.le_of_ble_eq_true rfl, Nat.le_of_ble_eq_true rfl⟩) (pv_As hI hE hT t_8) rfl rfl hl.1 rfl (lv_room (Nat.le_of_ble_eq_true rfl)) d_Po_sendWhatMay_36 ⟨Nat.le_of_ble_eq_true rfl, Nat.le_of_ble_eq_true rfl⟩) (fun o_9 H locs p_10 hI => ?_)
          rcases o_9 with _ | r_11
          · refine lv_astoreN (lv' := [(4, .null), (0, .ref h0), (1, .int (x1)), (2, .ref y2), (3, .int (nI k))]) hx hb d_Po_sendWhatMay_39 hl (by decide) rfl (fun ls hl => ?_)
            refine lv_aloadN hx hb d_Po_sendWhatMay_41 (lv_at hl 0 rfl) ?_
            refine lv_ifnullN (tgt := 56) hx hb d_Po_sendWhatMay_43 (by decide) ?_
            refine lv_aload_n hx hb d_Po_sendWhatMay_56 rfl (lv_at hl 1 rfl) ?_
            refine lv_aload_n hx hb d_Po_sendWhatMay_57 rfl (lv_at hl 3 rfl) ?_
            refine lv_aload_n hx hb d_Po_sendWhatMay_58 rfl (lv_at hl 3 rfl) ?_
            refine fgN_Cn_nextToSend hx hb hts hown hI hT ty2 (va_Nw.use rfl (hE.1 _ tn_285 rfl)) (fun _ h9 => h9) d_Po_sendWhatMay_59 (fun x_12 => ?_)
            refine sm_i hI (va_runV (As := [.ref y2, .int (x_12)]) (rest := []) ⟨hx, hb, hml, hown, hts⟩ (c_Po_tellEvent l D ca _ _ _ _ hT h0 t0 y2 (Or.inl ⟨_, ty2⟩) x_12) (kv_Po_tellEvent hts rfl rfl (hts _ tw_726) ⟨Nat.le_of_ble_eq_true rfl, Nat.le_of_ble_eq_true rfl⟩) (pv_Po hI hE hT t0) rfl rfl hl.1 rfl (lv_room (Nat.le_of_ble_eq_true rfl)) d_Po_sendWhatMay_62 ⟨Nat.le_of_ble_eq_true rfl, Nat.le_of_ble_eq_true rfl⟩) (fun x_13 H locs f p_14 hI hT => ?_)
            refine lv_if_ne (tgt := 69) hx hb d_Po_sendWhatMay_65 (by decide) (fun c_15 => ?_) (fun c_15 => ?_)
            · refine lv_aload_n hx hb d_Po_sendWhatMay_69 rfl (lv_at hl 1 rfl) ?_
              refine lv_aload_n hx hb d_Po_sendWhatMay_70 rfl (lv_at hl 3 rfl) ?_
              refine sm_v hI (va_runV (As := [.ref y2]) (rest := []) ⟨hx, hb, hml, hown, hts⟩ (c_Po_sendTold l D ca _ _ _ _ hT h0 t0 y2 ty2) (kv_Po_sendTold hts rfl rfl (hts _ tw_740) ⟨Nat.le_of_ble_eq_true rfl, Nat.le_of_ble_eq_true rfl⟩) (pv_Po hI hE hT t0) rfl rfl hl.1 rfl (lv_room (Nat.le_of_ble_eq_true rfl)) d_Po_sendWhatMay_71 ⟨Nat.le_of_ble_eq_true rfl, Nat.le_of_ble_eq_true rfl⟩) (fun H locs f hI hT => ?_)
              refine lv_iinc (v := nI (k + 1)) (lv' := [(3, .int (nI (k + 1))), (4, .null), (0, .ref h0), (1, .int (x1)), (2, .ref y2)]) hx hb d_Po_sendWhatMay_74 hl (k := 4) rfl (nI_1 _) (by decide) rfl (fun ls hl => ?_)
              refine lv_goto (tgt := 19) hx hb d_Po_sendWhatMay_77 (by decide) ?_
              exact ih ((k + 1)) _ _ _ _ _ y2 (by omega) (by omega) hI hT (lv_sub hl [2, 3, 4, 0] rfl) ty2
            · exact sm_vret hx hb hr hlk hI ⟨rfl, hT⟩ d_Po_sendWhatMay_68
          · have t_16 := p_10 r_11 rfl
            refine lv_astore (lv' := [(4, .ref r_11), (0, .ref h0), (1, .int (x1)), (2, .ref y2), (3, .int (nI k))]) hx hb d_Po_sendWhatMay_39 hl (by decide) rfl (fun ls hl => ?_)
            refine lv_aload hx hb d_Po_sendWhatMay_41 (lv_at hl 0 rfl) ?_
            refine lv_ifnull hx hb d_Po_sendWhatMay_43 ?_
            refine lv_aload_n hx hb d_Po_sendWhatMay_46 rfl (lv_at hl 1 rfl) ?_
            refine lv_aload_n hx hb d_Po_sendWhatMay_47 rfl (lv_at hl 3 rfl) ?_
            refine lv_aload hx hb d_Po_sendWhatMay_48 (lv_at hl 0 rfl) ?_
            refine sm_v hI (va_runV (As := [.ref y2, .ref r_11]) (rest := []) ⟨hx, hb, hml, hown, hts⟩ (c_Po_tellAnswer l D ca _ _ _ _ hT h0 t0 y2 (Or.inl ⟨_, ty2⟩) r_11 t_16) (kv_Po_tellAnswer hts rfl rfl (hts _ tw_673) ⟨Nat.le_of_ble_eq_true rfl, Nat.le_of_ble_eq_true rfl⟩) (pv_Po hI hE hT t0) rfl rfl hl.1 rfl (lv_room (Nat.le_of_ble_eq_true rfl)) d_Po_sendWhatMay_50 ⟨Nat.le_of_ble_eq_true rfl, Nat.le_of_ble_eq_true rfl⟩) (fun H locs f hI hT => ?_)
            refine lv_goto (tgt := 69) hx hb d_Po_sendWhatMay_53 (by decide) ?_
            refine lv_aload_n hx hb d_Po_sendWhatMay_69 rfl (lv_at hl 1 rfl) ?_
            refine lv_aload_n hx hb d_Po_sendWhatMay_70 rfl (lv_at hl 3 rfl) ?_
            refine sm_v hI (va_runV (As := [.ref y2]) (rest := []) ⟨hx, hb, hml, hown, hts⟩ (c_Po_sendTold l D ca _ _ _ _ hT h0 t0 y2 ty2) (kv_Po_sendTold hts rfl rfl (hts _ tw_740) ⟨Nat.le_of_ble_eq_true rfl, Nat.le_of_ble_eq_true rfl⟩) (pv_Po hI hE hT t0) rfl rfl hl.1 rfl (lv_room (Nat.le_of_ble_eq_true rfl)) d_Po_sendWhatMay_71 ⟨Nat.le_of_ble_eq_true rfl, Nat.le_of_ble_eq_true rfl⟩) (fun H locs f hI hT => ?_)
            refine lv_iinc (v := nI (k + 1)) (lv' := [(3, .int (nI (k + 1))), (4, .ref r_11), (0, .ref h0), (1, .int (x1)), (2, .ref y2)]) hx hb d_Po_sendWhatMay_74 hl (k := 4) rfl (nI_1 _) (by decide) rfl (fun ls hl => ?_)
            refine lv_goto (tgt := 19) hx hb d_Po_sendWhatMay_77 (by decide) ?_
            exact ih ((k + 1)) _ _ _ _ _ y2 (by omega) (by omega) hI hT (lv_sub hl [2, 3, 4, 0] rfl) ty2
  refine lv_iload_n hx hb d_Po_sendWhatMay_0 rfl (lv_at hl 1 rfl) ?_
  refine lv_if_lt (tgt := 9) hx hb d_Po_sendWhatMay_1 (by decide) (fun c_17 => ?_) (fun c_17 => ?_)
  · exact sm_vret hx hb hr hlk hI ⟨rfl, hT⟩ d_Po_sendWhatMay_9
  · refine lv_iload_n hx hb d_Po_sendWhatMay_4 rfl (lv_at hl 1 rfl) ?_
    refine lv_iconst (v := 3) hx hb d_Po_sendWhatMay_5 (by decide) ?_
    refine lv_icmp_lt (tgt := 10) hx hb d_Po_sendWhatMay_6 (by decide) (fun c_18 => ?_) (fun c_18 => ?_)
    · refine lv_aload_n hx hb d_Po_sendWhatMay_10 rfl (lv_at hl 0 rfl) ?_
      refine fg_Po_connections hx hb hts hown hI hT t0 (hts _ tw_365) (fun _ h9 => h9) d_Po_sendWhatMay_11 (fun r_19 t_20 => ?_)
      refine lv_iload_n hx hb d_Po_sendWhatMay_14 rfl (lv_at hl 1 rfl) ?_
      refine lv_topi (fun x_21 e_22 => ?_)
      obtain ⟨j_23, h_24, rfl⟩ : ∃ j : Nat, j < 3 ∧ x_21 = nI j := ix_of (by rw [e_22]; exact c_17) (by rw [e_22]; exact (nl_of c_18)) (by decide)
      refine fa_cns (j := j_23) hx hb hI hT t_20 (by omega) d_Po_sendWhatMay_15 (fun r_25 t_26 => ?_)
      refine lv_astore_n (lv' := [(2, .ref r_25), (0, .ref h0), (1, .int (x1))]) hx hb d_Po_sendWhatMay_16 rfl hl (by decide) rfl (fun ls hl => ?_)
      refine lv_iconst (v := 0) hx hb d_Po_sendWhatMay_17 (by decide) ?_
      refine lv_istore_n (lv' := [(3, .int (0)), (2, .ref r_25), (0, .ref h0), (1, .int (x1))]) hx hb d_Po_sendWhatMay_18 rfl hl (by decide) rfl (fun ls hl => ?_)
      exact hJ_19 _ (0) _ _ _ _ _ r_25 (Nat.le_refl _) (by omega) hI hT (lv_sub hl [2, 3, 1, 0] rfl) t_26
    · exact sm_vret hx hb hr hlk hI ⟨rfl, hT⟩ d_Po_sendWhatMay_9
theorem d_Po_answerClass_0 : decode b_Po_answerClass 0 = .ok (.aload_n 0, 1) := by decide +kernel
theorem d_Po_answerClass_1 : decode b_Po_answerClass 1 = .ok (.getfield 24, 3) := by decide +kernel
theorem d_Po_answerClass_4 : decode b_Po_answerClass 4 = .ok (.getfield 565, 3) := by decide +kernel
theorem d_Po_answerClass_7 : decode b_Po_answerClass 7 = .ok (.invokevirtual 433, 3) := by decide +kernel
theorem d_Po_answerClass_10 : decode b_Po_answerClass 10 = .ok (.astore_n 2, 1) := by decide +kernel
theorem d_Po_answerClass_11 : decode b_Po_answerClass 11 = .ok (.iconst 0, 1) := by decide +kernel
theorem d_Po_answerClass_12 : decode b_Po_answerClass 12 = .ok (.istore_n 3, 1) := by decide +kernel
theorem d_Po_answerClass_13 : decode b_Po_answerClass 13 = .ok (.aload_n 2, 1) := by decide +kernel
theorem d_Po_answerClass_14 : decode b_Po_answerClass 14 = .ok (.ifnull 36, 3) := by decide +kernel
theorem d_Po_answerClass_17 : decode b_Po_answerClass 17 = .ok (.aload_n 0, 1) := by decide +kernel
theorem d_Po_answerClass_18 : decode b_Po_answerClass 18 = .ok (.aload_n 2, 1) := by decide +kernel
theorem d_Po_answerClass_19 : decode b_Po_answerClass 19 = .ok (.invokevirtual 470, 3) := by decide +kernel
theorem d_Po_answerClass_22 : decode b_Po_answerClass 22 = .ok (.iload_n 1, 1) := by decide +kernel
theorem d_Po_answerClass_23 : decode b_Po_answerClass 23 = .ok (.bipush 11, 2) := by decide +kernel
theorem d_Po_answerClass_25 : decode b_Po_answerClass 25 = .ok (.if_icmp .ne 7, 3) := by decide +kernel
theorem d_Po_answerClass_28 : decode b_Po_answerClass 28 = .ok (.iconst 1, 1) := by decide +kernel
theorem d_Po_answerClass_29 : decode b_Po_answerClass 29 = .ok (.goto 4, 3) := by decide +kernel
theorem d_Po_answerClass_32 : decode b_Po_answerClass 32 = .ok (.iconst 0, 1) := by decide +kernel
theorem d_Po_answerClass_33 : decode b_Po_answerClass 33 = .ok (.if_icmp .ne 17, 3) := by decide +kernel
theorem d_Po_answerClass_36 : decode b_Po_answerClass 36 = .ok (.aload_n 0, 1) := by decide +kernel
theorem d_Po_answerClass_37 : decode b_Po_answerClass 37 = .ok (.aload_n 0, 1) := by decide +kernel
theorem d_Po_answerClass_38 : decode b_Po_answerClass 38 = .ok (.getfield 24, 3) := by decide +kernel
theorem d_Po_answerClass_41 : decode b_Po_answerClass 41 = .ok (.aload_n 2, 1) := by decide +kernel
theorem d_Po_answerClass_42 : decode b_Po_answerClass 42 = .ok (.invokevirtual 437, 3) := by decide +kernel
theorem d_Po_answerClass_45 : decode b_Po_answerClass 45 = .ok (.iconst 1, 1) := by decide +kernel
theorem d_Po_answerClass_46 : decode b_Po_answerClass 46 = .ok (.istore_n 3, 1) := by decide +kernel
theorem d_Po_answerClass_47 : decode b_Po_answerClass 47 = .ok (.goto 19, 3) := by decide +kernel
theorem d_Po_answerClass_50 : decode b_Po_answerClass 50 = .ok (.iload_n 1, 1) := by decide +kernel
theorem d_Po_answerClass_51 : decode b_Po_answerClass 51 = .ok (.bipush 10, 2) := by decide +kernel
theorem d_Po_answerClass_53 : decode b_Po_answerClass 53 = .ok (.if_icmp .ne 13, 3) := by decide +kernel
theorem d_Po_answerClass_56 : decode b_Po_answerClass 56 = .ok (.aload_n 0, 1) := by decide +kernel
theorem d_Po_answerClass_57 : decode b_Po_answerClass 57 = .ok (.aload_n 0, 1) := by decide +kernel
theorem d_Po_answerClass_58 : decode b_Po_answerClass 58 = .ok (.getfield 24, 3) := by decide +kernel
theorem d_Po_answerClass_61 : decode b_Po_answerClass 61 = .ok (.iconst 0, 1) := by decide +kernel
theorem d_Po_answerClass_62 : decode b_Po_answerClass 62 = .ok (.invokevirtual 444, 3) := by decide +kernel
theorem d_Po_answerClass_65 : decode b_Po_answerClass 65 = .ok (.istore_n 3, 1) := by decide +kernel
theorem d_Po_answerClass_66 : decode b_Po_answerClass 66 = .ok (.aload_n 0, 1) := by decide +kernel
theorem d_Po_answerClass_67 : decode b_Po_answerClass 67 = .ok (.aload_n 0, 1) := by decide +kernel
theorem d_Po_answerClass_68 : decode b_Po_answerClass 68 = .ok (.getfield 24, 3) := by decide +kernel
theorem d_Po_answerClass_71 : decode b_Po_answerClass 71 = .ok (.getfield 556, 3) := by decide +kernel
theorem d_Po_answerClass_74 : decode b_Po_answerClass 74 = .ok (.iload_n 3, 1) := by decide +kernel
theorem d_Po_answerClass_75 : decode b_Po_answerClass 75 = .ok (.ifCond .eq 8, 3) := by decide +kernel
theorem d_Po_answerClass_78 : decode b_Po_answerClass 78 = .ok (.bipush 8, 2) := by decide +kernel
theorem d_Po_answerClass_80 : decode b_Po_answerClass 80 = .ok (.goto 5, 3) := by decide +kernel
theorem d_Po_answerClass_83 : decode b_Po_answerClass 83 = .ok (.bipush 9, 2) := by decide +kernel
theorem d_Po_answerClass_85 : decode b_Po_answerClass 85 = .ok (.iload_n 3, 1) := by decide +kernel
theorem d_Po_answerClass_86 : decode b_Po_answerClass 86 = .ok (.invokevirtual 551, 3) := by decide +kernel
theorem d_Po_answerClass_89 : decode b_Po_answerClass 89 = .ok (.return_, 1) := by decide +kernel
set_option maxRecDepth 100000 in
set_option maxHeartbeats 4000000 in
theorem c_Po_answerClass (l : Launch) (D : va_G) (ca : Nat → ClassId) (T : ty_e) (L : List Nat) (f0 : Nat → va_E) (sz : Nat) (hT : ok_T ca T L f0) {g0 : List (Int32 × Int32)} (h0 : Nat) (t0 : T h0 = some (ty_po g0)) (x1 : Int32) :
    Met l y_Po_answerClass (Cond.code y_Po_answerClass b_Po_answerClass 4 none :: wg) { frames := 5, cells := 0, slots := 0, locals := 112 } (va_Pc [.ref h0, .int (x1)] (sm_P D cl_all (ty_s ca) ek L f0 sz)) (sm_Qv D (ty_s ca) L f0 sz (fun u => po_m ca T L u)) 0 0 (va_A (va_pl L f0) sz) := by
  refine sm_start (by decide) (Nat.le_of_ble_eq_true rfl) ?_
  intro p e s m below meth c ls hx hb hml hr hlk hnm hts hown hsz hE hI hl
  have hl : lv_has ls 4 [(0, .ref h0), (1, .int (x1))] := hl
  have hJ_66 : ∀ (H : Heap) (locs : List Loc) (f : Nat → va_E) (ls : Array Slot) (y2 : Option Nat) (y3 : Int32), sw_I D cl_all (ty_s ca) (va_A (va_pl L f0) sz) s H locs L f → ok_T ca T L f → lv_has ls 4 [(0, .ref h0), (1, .int (x1)), (2, va_rf y2), (3, .int (y3))] → (∀ b : Nat, y2 = some b → T b = some (ty_an)) → (y3 = 0 ∨ y3 = 1) → W p l e { frames := 5, cells := 0, slots := 0, locals := 112 } s m ([.ref h0, .int (x1)] : List Value).toArray below meth c H locs 0 0 (MQ below (sm_Qv D (ty_s ca) L f0 sz (fun u => po_m ca T L u)) ([.ref h0, .int (x1)] : List Value).toArray s 0 0 (va_A (va_pl L f0) sz)) (F0 m 66 ls []) := by
    intro H locs f ls y2 y3 hI hT hl fy2 py3
    rcases y2 with _ | r_1
    · refine lv_aload_n hx hb d_Po_answerClass_66 rfl (lv_at hl 0 rfl) ?_
      refine lv_aload_n hx hb d_Po_answerClass_67 rfl (lv_at hl 0 rfl) ?_
      refine fg_Po_serialLine hx hb hts hown hI hT t0 (hts _ tw_366) (fun _ h9 => h9) d_Po_answerClass_68 (fun r_2 t_3 => ?_)
      refine fgN_Sr_kept hx hb hts hown hI hT t_3 (va_Nw.use rfl (hE.1 _ tn_116 rfl)) (fun _ h9 => h9) d_Po_answerClass_71 (fun r_4 t_5 => ?_)
      refine lv_iload_n hx hb d_Po_answerClass_74 rfl (lv_at hl 3 rfl) ?_
      refine lv_if_eq (tgt := 83) hx hb d_Po_answerClass_75 (by decide) (fun c_6 => ?_) (fun c_6 => ?_)
      · refine lv_bipush (v := 9) hx hb d_Po_answerClass_83 (by decide) ?_
        refine lv_iload_n hx hb d_Po_answerClass_85 rfl (lv_at hl 3 rfl) ?_
        refine sm_v hI (va_runV (As := [.ref r_4, .int (9), .int (y3)]) (rest := []) ⟨hx, hb, hml, hown, hts⟩ (c_Po_answerSerial l D ca _ _ _ _ hT h0 t0 r_4 t_5 9 y3 py3) (kv_Po_answerSerial hts rfl rfl (hts _ tw_923) ⟨Nat.le_of_ble_eq_true rfl, Nat.le_of_ble_eq_true rfl⟩) (pv_Po hI hE hT t0) rfl rfl hl.1 rfl (lv_room (Nat.le_of_ble_eq_true rfl)) d_Po_answerClass_86 ⟨Nat.le_of_ble_eq_true rfl, Nat.le_of_ble_eq_true rfl⟩) (fun H locs f hI hT => ?_)
        exact sm_vret hx hb hr hlk hI ⟨rfl, hT⟩ d_Po_answerClass_89
      · refine lv_bipush (v := 8) hx hb d_Po_answerClass_78 (by decide) ?_
        refine lv_goto (tgt := 85) hx hb d_Po_answerClass_80 (by decide) ?_
        refine lv_iload_n hx hb d_Po_answerClass_85 rfl (lv_at hl 3 rfl) ?_
        refine sm_v hI (va_runV (As := [.ref r_4, .int (8), .int (y3)]) (rest := []) ⟨hx, hb, hml, hown, hts⟩ (c_Po_answerSerial l D ca _ _ _ _ hT h0 t0 r_4 t_5 8 y3 py3) (kv_Po_answerSerial hts rfl rfl (hts _ tw_923) ⟨Nat.le_of_ble_eq_true rfl, Nat.le_of_ble_eq_true rfl⟩) (pv_Po hI hE hT t0) rfl rfl hl.1 rfl (lv_room (Nat.le_of_ble_eq_true rfl)) d_Po_answerClass_86 ⟨Nat.le_of_ble_eq_true rfl, Nat.le_of_ble_eq_true rfl⟩) (fun H locs f hI hT => ?_)
        exact sm_vret hx hb hr hlk hI ⟨rfl, hT⟩ d_Po_answerClass_89
    · have t_7 := fy2 r_1 rfl
      refine lv_aload_n hx hb d_Po_answerClass_66 rfl (lv_at hl 0 rfl) ?_
      refine lv_aload_n hx hb d_Po_answerClass_67 rfl (lv_at hl 0 rfl) ?_
      refine fg_Po_serialLine hx hb hts hown hI hT t0 (hts _ tw_366) (fun _ h9 => h9) d_Po_answerClass_68 (fun r_8 t_9 => ?_)
      refine fgN_Sr_kept hx hb hts hown hI hT t_9 (va_Nw.use rfl (hE.1 _ tn_116 rfl)) (fun _ h9 => h9) d_Po_answerClass_71 (fun r_10 t_11 => ?_)
      refine lv_iload_n hx hb d_Po_answerClass_74 rfl (lv_at hl 3 rfl) ?_
      refine lv_if_eq (tgt := 83) hx hb d_Po_answerClass_75 (by decide) (fun c_12 => ?_) (fun c_12 => ?_)
      · refine lv_bipush (v := 9) hx hb d_Po_answerClass_83 (by decide) ?_
        refine lv_iload_n hx hb d_Po_answerClass_85 rfl (lv_at hl 3 rfl) ?_
        refine sm_v hI (va_runV (As := [.ref r_10, .int (9), .int (y3)]) (rest := []) ⟨hx, hb, hml, hown, hts⟩ (c_Po_answerSerial l D ca _ _ _ _ hT h0 t0 r_10 t_11 9 y3 py3) (kv_Po_answerSerial hts rfl rfl (hts _ tw_923) ⟨Nat.le_of_ble_eq_true rfl, Nat.le_of_ble_eq_true rfl⟩) (pv_Po hI hE hT t0) rfl rfl hl.1 rfl (lv_room (Nat.le_of_ble_eq_true rfl)) d_Po_answerClass_86 ⟨Nat.le_of_ble_eq_true rfl, Nat.le_of_ble_eq_true rfl⟩) (fun H locs f hI hT => ?_)
        exact sm_vret hx hb hr hlk hI ⟨rfl, hT⟩ d_Po_answerClass_89
      · refine lv_bipush (v := 8) hx hb d_Po_answerClass_78 (by decide) ?_
        refine lv_goto (tgt := 85) hx hb d_Po_answerClass_80 (by decide) ?_
        refine lv_iload_n hx hb d_Po_answerClass_85 rfl (lv_at hl 3 rfl) ?_
        refine sm_v hI (va_runV (As := [.ref r_10, .int (8), .int (y3)]) (rest := []) ⟨hx, hb, hml, hown, hts⟩ (c_Po_answerSerial l D ca _ _ _ _ hT h0 t0 r_10 t_11 8 y3 py3) (kv_Po_answerSerial hts rfl rfl (hts _ tw_923) ⟨Nat.le_of_ble_eq_true rfl, Nat.le_of_ble_eq_true rfl⟩) (pv_Po hI hE hT t0) rfl rfl hl.1 rfl (lv_room (Nat.le_of_ble_eq_true rfl)) d_Po_answerClass_86 ⟨Nat.le_of_ble_eq_true rfl, Nat.le_of_ble_eq_true rfl⟩) (fun H locs f hI hT => ?_)
        exact sm_vret hx hb hr hlk hI ⟨rfl, hT⟩ d_Po_answerClass_89
  have hJ_50 : ∀ (H : Heap) (locs : List Loc) (f : Nat → va_E) (ls : Array Slot) (y2 : Option Nat) (y3 : Int32), sw_I D cl_all (ty_s ca) (va_A (va_pl L f0) sz) s H locs L f → ok_T ca T L f → lv_has ls 4 [(0, .ref h0), (1, .int (x1)), (2, va_rf y2), (3, .int (y3))] → (∀ b : Nat, y2 = some b → T b = some (ty_an)) → (y3 = 0 ∨ y3 = 1) → W p l e { frames := 5, cells := 0, slots := 0, locals := 112 } s m ([.ref h0, .int (x1)] : List Value).toArray below meth c H locs 0 0 (MQ below (sm_Qv D (ty_s ca) L f0 sz (fun u => po_m ca T L u)) ([.ref h0, .int (x1)] : List Value).toArray s 0 0 (va_A (va_pl L f0) sz)) (F0 m 50 ls []) := by
    intro H locs f ls y2 y3 hI hT hl fy2 py3
    rcases y2 with _ | r_13
    · refine lv_iload_n hx hb d_Po_answerClass_50 rfl (lv_at hl 1 rfl) ?_
      refine lv_bipush (v := 10) hx hb d_Po_answerClass_51 (by decide) ?_
      refine lv_icmp_ne (tgt := 66) hx hb d_Po_answerClass_53 (by decide) (fun c_14 => ?_) (fun c_14 => ?_)
      · exact hJ_66 _ _ _ _ none y3 hI hT (lv_sub hl [0, 1, 2, 3] rfl) (fun b h => by cases h) py3
      · refine lv_aload_n hx hb d_Po_answerClass_56 rfl (lv_at hl 0 rfl) ?_
        refine lv_aload_n hx hb d_Po_answerClass_57 rfl (lv_at hl 0 rfl) ?_
        refine fg_Po_serialLine hx hb hts hown hI hT t0 (hts _ tw_366) (fun _ h9 => h9) d_Po_answerClass_58 (fun r_15 t_16 => ?_)
        refine lv_iconst (v := 0) hx hb d_Po_answerClass_61 (by decide) ?_
        refine sm_i hI (va_runV (As := [.ref r_15, .int (0)]) (rest := []) ⟨hx, hb, hml, hown, hts⟩ (c_Po_tellEvent l D ca _ _ _ _ hT h0 t0 r_15 (Or.inr t_16) 0) (kv_Po_tellEvent hts rfl rfl (hts _ tw_726) ⟨Nat.le_of_ble_eq_true rfl, Nat.le_of_ble_eq_true rfl⟩) (pv_Po hI hE hT t0) rfl rfl hl.1 rfl (lv_room (Nat.le_of_ble_eq_true rfl)) d_Po_answerClass_62 ⟨Nat.le_of_ble_eq_true rfl, Nat.le_of_ble_eq_true rfl⟩) (fun x_17 H locs f p_18 hI hT => ?_)
        refine lv_istore_n (lv' := [(3, .int (x_17)), (0, .ref h0), (1, .int (x1)), (2, .null)]) hx hb d_Po_answerClass_65 rfl hl (by decide) rfl (fun ls hl => ?_)
        exact hJ_66 _ _ _ _ none x_17 hI hT (lv_sub hl [1, 2, 3, 0] rfl) (fun b h => by cases h) p_18
    · have t_19 := fy2 r_13 rfl
      refine lv_iload_n hx hb d_Po_answerClass_50 rfl (lv_at hl 1 rfl) ?_
      refine lv_bipush (v := 10) hx hb d_Po_answerClass_51 (by decide) ?_
      refine lv_icmp_ne (tgt := 66) hx hb d_Po_answerClass_53 (by decide) (fun c_20 => ?_) (fun c_20 => ?_)
      · exact hJ_66 _ _ _ _ (some r_13) y3 hI hT (lv_sub hl [0, 1, 2, 3] rfl) (fun b h => by cases h; exact t_19) py3
      · refine lv_aload_n hx hb d_Po_answerClass_56 rfl (lv_at hl 0 rfl) ?_
        refine lv_aload_n hx hb d_Po_answerClass_57 rfl (lv_at hl 0 rfl) ?_
        refine fg_Po_serialLine hx hb hts hown hI hT t0 (hts _ tw_366) (fun _ h9 => h9) d_Po_answerClass_58 (fun r_21 t_22 => ?_)
        refine lv_iconst (v := 0) hx hb d_Po_answerClass_61 (by decide) ?_
        refine sm_i hI (va_runV (As := [.ref r_21, .int (0)]) (rest := []) ⟨hx, hb, hml, hown, hts⟩ (c_Po_tellEvent l D ca _ _ _ _ hT h0 t0 r_21 (Or.inr t_22) 0) (kv_Po_tellEvent hts rfl rfl (hts _ tw_726) ⟨Nat.le_of_ble_eq_true rfl, Nat.le_of_ble_eq_true rfl⟩) (pv_Po hI hE hT t0) rfl rfl hl.1 rfl (lv_room (Nat.le_of_ble_eq_true rfl)) d_Po_answerClass_62 ⟨Nat.le_of_ble_eq_true rfl, Nat.le_of_ble_eq_true rfl⟩) (fun x_23 H locs f p_24 hI hT => ?_)
        refine lv_istore_n (lv' := [(3, .int (x_23)), (0, .ref h0), (1, .int (x1)), (2, .ref r_13)]) hx hb d_Po_answerClass_65 rfl hl (by decide) rfl (fun ls hl => ?_)
        exact hJ_66 _ _ _ _ (some r_13) x_23 hI hT (lv_sub hl [1, 2, 3, 0] rfl) (fun b h => by cases h; exact t_19) p_24
  have hJ_33 : ∀ (H : Heap) (locs : List Loc) (f : Nat → va_E) (ls : Array Slot) (y2 : Nat) (y3 : Int32) (z0 : Int32) (z1 : Int32), sw_I D cl_all (ty_s ca) (va_A (va_pl L f0) sz) s H locs L f → ok_T ca T L f → lv_has ls 4 [(0, .ref h0), (1, .int (x1)), (2, .ref y2), (3, .int (y3))] → (T y2 = some (ty_an)) → (y3 = 0 ∨ y3 = 1) → (z0 = 0 ∨ z0 = 1) → (z1 = 0 ∨ z1 = 1) → W p l e { frames := 5, cells := 0, slots := 0, locals := 112 } s m ([.ref h0, .int (x1)] : List Value).toArray below meth c H locs 0 0 (MQ below (sm_Qv D (ty_s ca) L f0 sz (fun u => po_m ca T L u)) ([.ref h0, .int (x1)] : List Value).toArray s 0 0 (va_A (va_pl L f0) sz)) (F0 m 33 ls [.int (z1), .int (z0)]) := by
    intro H locs f ls y2 y3 z0 z1 hI hT hl ty2 py3 pz0 pz1
    refine lv_icmp_ne (tgt := 50) hx hb d_Po_answerClass_33 (by decide) (fun c_25 => ?_) (fun c_25 => ?_)
    · exact hJ_50 _ _ _ _ (some y2) y3 hI hT (lv_sub hl [0, 1, 2, 3] rfl) (fun b h => by cases h; exact ty2) py3
    · refine lv_aload_n hx hb d_Po_answerClass_36 rfl (lv_at hl 0 rfl) ?_
      refine lv_aload_n hx hb d_Po_answerClass_37 rfl (lv_at hl 0 rfl) ?_
      refine fg_Po_serialLine hx hb hts hown hI hT t0 (hts _ tw_366) (fun _ h9 => h9) d_Po_answerClass_38 (fun r_26 t_27 => ?_)
      refine lv_aload_n hx hb d_Po_answerClass_41 rfl (lv_at hl 2 rfl) ?_
      refine sm_v hI (va_runV (As := [.ref r_26, .ref y2]) (rest := []) ⟨hx, hb, hml, hown, hts⟩ (c_Po_tellAnswer l D ca _ _ _ _ hT h0 t0 r_26 (Or.inr t_27) y2 ty2) (kv_Po_tellAnswer hts rfl rfl (hts _ tw_673) ⟨Nat.le_of_ble_eq_true rfl, Nat.le_of_ble_eq_true rfl⟩) (pv_Po hI hE hT t0) rfl rfl hl.1 rfl (lv_room (Nat.le_of_ble_eq_true rfl)) d_Po_answerClass_42 ⟨Nat.le_of_ble_eq_true rfl, Nat.le_of_ble_eq_true rfl⟩) (fun H locs f hI hT => ?_)
      refine lv_iconst (v := 1) hx hb d_Po_answerClass_45 (by decide) ?_
      refine lv_istore_n (lv' := [(3, .int (1)), (0, .ref h0), (1, .int (x1)), (2, .ref y2)]) hx hb d_Po_answerClass_46 rfl hl (by decide) rfl (fun ls hl => ?_)
      refine lv_goto (tgt := 66) hx hb d_Po_answerClass_47 (by decide) ?_
      exact hJ_66 _ _ _ _ (some y2) 1 hI hT (lv_sub hl [1, 2, 3, 0] rfl) (fun b h => by cases h; exact ty2) (by decide)
  refine lv_aload_n hx hb d_Po_answerClass_0 rfl (lv_at hl 0 rfl) ?_
  refine fg_Po_serialLine hx hb hts hown hI hT t0 (hts _ tw_366) (fun _ h9 => h9) d_Po_answerClass_1 (fun r_28 t_29 => ?_)
  refine fg_Sr_answers hx hb hts hown hI hT t_29 (hts _ tw_142) (fun x9 h9 => u_same (hts _ tw_143) x9 h9) d_Po_answerClass_4 (fun r_30 t_31 => ?_)
  refine sm_qP hI (va_runV (As := []) (rest := []) ⟨hx, hb, hml, hown, hts⟩ (c_As_first l D ca _ _ _ _ hT r_30 t_31) (kv_As_first hts rfl rfl (hts _ tw_665) ⟨Nat.le_of_ble_eq_true rfl, Nat.le_of_ble_eq_true rfl⟩) (pv_As hI hE hT t_31) rfl rfl hl.1 rfl (lv_room (Nat.le_of_ble_eq_true rfl)) d_Po_answerClass_7 ⟨Nat.le_of_ble_eq_true rfl, Nat.le_of_ble_eq_true rfl⟩) (fun o_32 H locs p_33 hI => ?_)
  rcases o_32 with _ | r_34
  · refine lv_astore_nN (lv' := [(2, .null), (0, .ref h0), (1, .int (x1))]) hx hb d_Po_answerClass_10 rfl hl (by decide) rfl (fun ls hl => ?_)
    refine lv_iconst (v := 0) hx hb d_Po_answerClass_11 (by decide) ?_
    refine lv_istore_n (lv' := [(3, .int (0)), (2, .null), (0, .ref h0), (1, .int (x1))]) hx hb d_Po_answerClass_12 rfl hl (by decide) rfl (fun ls hl => ?_)
    refine lv_aload_nN hx hb d_Po_answerClass_13 rfl (lv_at hl 1 rfl) ?_
    refine lv_ifnullN (tgt := 50) hx hb d_Po_answerClass_14 (by decide) ?_
    exact hJ_50 _ _ _ _ none 0 hI hT (lv_sub hl [2, 3, 1, 0] rfl) (fun b h => by cases h) (by decide)
  · have t_35 := p_33 r_34 rfl
    refine lv_astore_n (lv' := [(2, .ref r_34), (0, .ref h0), (1, .int (x1))]) hx hb d_Po_answerClass_10 rfl hl (by decide) rfl (fun ls hl => ?_)
    refine lv_iconst (v := 0) hx hb d_Po_answerClass_11 (by decide) ?_
    refine lv_istore_n (lv' := [(3, .int (0)), (2, .ref r_34), (0, .ref h0), (1, .int (x1))]) hx hb d_Po_answerClass_12 rfl hl (by decide) rfl (fun ls hl => ?_)
    refine lv_aload_n hx hb d_Po_answerClass_13 rfl (lv_at hl 1 rfl) ?_
    refine lv_ifnull hx hb d_Po_answerClass_14 ?_
    refine lv_aload_n hx hb d_Po_answerClass_17 rfl (lv_at hl 2 rfl) ?_
    refine lv_aload_n hx hb d_Po_answerClass_18 rfl (lv_at hl 1 rfl) ?_
    refine sm_iP hI (va_runV (As := [.ref r_34]) (rest := []) ⟨hx, hb, hml, hown, hts⟩ (c_Po_isTelling l D ca _ _ _ _ hT h0 t0 r_34 t_35) (kv_Po_isTelling hts rfl rfl (hts _ tw_677) ⟨Nat.le_of_ble_eq_true rfl, Nat.le_of_ble_eq_true rfl⟩) (pv_Po hI hE hT t0) rfl rfl hl.1 rfl (lv_room (Nat.le_of_ble_eq_true rfl)) d_Po_answerClass_19 ⟨Nat.le_of_ble_eq_true rfl, Nat.le_of_ble_eq_true rfl⟩) (fun x_36 H locs p_37 hI => ?_)
    refine lv_iload_n hx hb d_Po_answerClass_22 rfl (lv_at hl 3 rfl) ?_
    refine lv_bipush (v := 11) hx hb d_Po_answerClass_23 (by decide) ?_
    refine lv_icmp_ne (tgt := 32) hx hb d_Po_answerClass_25 (by decide) (fun c_38 => ?_) (fun c_38 => ?_)
    · refine lv_iconst (v := 0) hx hb d_Po_answerClass_32 (by decide) ?_
      exact hJ_33 _ _ _ _ r_34 0 x_36 0 hI hT (lv_sub hl [2, 3, 1, 0] rfl) t_35 (by decide) p_37 (by decide)
    · refine lv_iconst (v := 1) hx hb d_Po_answerClass_28 (by decide) ?_
      refine lv_goto (tgt := 33) hx hb d_Po_answerClass_29 (by decide) ?_
      exact hJ_33 _ _ _ _ r_34 0 x_36 1 hI hT (lv_sub hl [2, 3, 1, 0] rfl) t_35 (by decide) p_37 (by decide)
theorem d_Cn_numberOf_0 : decode b_Cn_numberOf 0 = .ok (.iload_n 1, 1) := by decide +kernel
theorem d_Cn_numberOf_1 : decode b_Cn_numberOf 1 = .ok (.tableswitch 42 2 4 #[27, 32, 37], 27) := by decide +kernel
theorem d_Cn_numberOf_28 : decode b_Cn_numberOf 28 = .ok (.aload_n 0, 1) := by decide +kernel
theorem d_Cn_numberOf_29 : decode b_Cn_numberOf 29 = .ok (.getfield 55, 3) := by decide +kernel
theorem d_Cn_numberOf_32 : decode b_Cn_numberOf 32 = .ok (.ireturn, 1) := by decide +kernel
theorem d_Cn_numberOf_33 : decode b_Cn_numberOf 33 = .ok (.aload_n 0, 1) := by decide +kernel
theorem d_Cn_numberOf_34 : decode b_Cn_numberOf 34 = .ok (.getfield 52, 3) := by decide +kernel
theorem d_Cn_numberOf_37 : decode b_Cn_numberOf 37 = .ok (.ireturn, 1) := by decide +kernel
theorem d_Cn_numberOf_38 : decode b_Cn_numberOf 38 = .ok (.aload_n 0, 1) := by decide +kernel
theorem d_Cn_numberOf_39 : decode b_Cn_numberOf 39 = .ok (.getfield 40, 3) := by decide +kernel
theorem d_Cn_numberOf_42 : decode b_Cn_numberOf 42 = .ok (.ireturn, 1) := by decide +kernel
theorem d_Cn_numberOf_43 : decode b_Cn_numberOf 43 = .ok (.aload_n 0, 1) := by decide +kernel
theorem d_Cn_numberOf_44 : decode b_Cn_numberOf 44 = .ok (.getfield 58, 3) := by decide +kernel
theorem d_Cn_numberOf_47 : decode b_Cn_numberOf 47 = .ok (.ireturn, 1) := by decide +kernel
set_option maxRecDepth 100000 in
set_option maxHeartbeats 4000000 in
theorem c_Cn_numberOf (l : Launch) (D : va_G) (ca : Nat → ClassId) (T : ty_e) (L : List Nat) (f0 : Nat → va_E) (sz : Nat) (hT : ok_T ca T L f0) {k0 : Nat} (h0 : Nat) (t0 : T h0 = some (ty_cn k0)) (x1 : Int32) :
    Met l y_Cn_numberOf (Cond.code y_Cn_numberOf b_Cn_numberOf 2 (some .int) :: wg) { frames := 0, cells := 0, slots := 0, locals := 0 } (va_Pc [.ref h0, .int (x1)] (sm_P D cl_all (ty_s ca) ek L f0 sz)) (sm_Qi D (ty_s ca) L f0 sz (fun r u => (True) ∧ u = (L, f0))) 0 0 (va_A (va_pl L f0) sz) := by
  refine sm_start (by decide) (Nat.le_of_ble_eq_true rfl) ?_
  intro p e s m below meth c ls hx hb hml hr hlk hnm hts hown hsz hE hI hl
  have hl : lv_has ls 2 [(0, .ref h0), (1, .int (x1))] := hl
  refine lv_iload_n hx hb d_Cn_numberOf_0 rfl (lv_at hl 1 rfl) ?_
  by_cases c_1 : x1.toInt = 2
  · refine lv_tableIn (off := 27) (tgt := 28) hx hb d_Cn_numberOf_1 (by omega) (by omega) (by rw [c_1]; rfl) (by decide) ?_
    refine lv_aload_n hx hb d_Cn_numberOf_28 rfl (lv_at hl 0 rfl) ?_
    refine fg_Cn_nextToSend hx hb hts hown hI hT t0 (hts _ tw_284) (fun _ h9 => h9) d_Cn_numberOf_29 (fun x_2 => ?_)
    exact sm_iret hx hb hr hlk hI ⟨trivial, rfl⟩ d_Cn_numberOf_32
  by_cases c_3 : x1.toInt = 3
  · refine lv_tableIn (off := 32) (tgt := 33) hx hb d_Cn_numberOf_1 (by omega) (by omega) (by rw [c_3]; rfl) (by decide) ?_
    refine lv_aload_n hx hb d_Cn_numberOf_33 rfl (lv_at hl 0 rfl) ?_
    refine fg_Cn_unconfirmed hx hb hts hown hI hT t0 (hts _ tw_286) (fun _ h9 => h9) d_Cn_numberOf_34 (fun x_4 => ?_)
    exact sm_iret hx hb hr hlk hI ⟨trivial, rfl⟩ d_Cn_numberOf_37
  by_cases c_5 : x1.toInt = 4
  · refine lv_tableIn (off := 37) (tgt := 38) hx hb d_Cn_numberOf_1 (by omega) (by omega) (by rw [c_5]; rfl) (by decide) ?_
    refine lv_aload_n hx hb d_Cn_numberOf_38 rfl (lv_at hl 0 rfl) ?_
    refine fg_Cn_nextToCome hx hb hts hown hI hT t0 (hts _ tw_289) (fun _ h9 => h9) d_Cn_numberOf_39 (fun x_6 => ?_)
    exact sm_iret hx hb hr hlk hI ⟨trivial, rfl⟩ d_Cn_numberOf_42
  refine lv_tableOut (tgt := 43) hx hb d_Cn_numberOf_1 (by omega) (by decide) ?_
  refine lv_aload_n hx hb d_Cn_numberOf_43 rfl (lv_at hl 0 rfl) ?_
  refine fg_Cn_came hx hb hts hown hI hT t0 (hts _ tw_291) (fun _ h9 => h9) d_Cn_numberOf_44 (fun x_7 => ?_)
  exact sm_iret hx hb hr hlk hI ⟨trivial, rfl⟩ d_Cn_numberOf_47
theorem d_Po_bytesWanted_0 : decode b_Po_bytesWanted 0 = .ok (.iload_n 0, 1) := by decide +kernel
theorem d_Po_bytesWanted_1 : decode b_Po_bytesWanted 1 = .ok (.lookupswitch 94 #[(45, 85), (46, 85), (50, 89), (100, 85), (101, 85), (102, 83), (103, 91), (104, 87), (105, 85)], 83) := by decide +kernel
theorem d_Po_bytesWanted_84 : decode b_Po_bytesWanted 84 = .ok (.iconst 0, 1) := by decide +kernel
theorem d_Po_bytesWanted_85 : decode b_Po_bytesWanted 85 = .ok (.ireturn, 1) := by decide +kernel
theorem d_Po_bytesWanted_86 : decode b_Po_bytesWanted 86 = .ok (.iconst 1, 1) := by decide +kernel
theorem d_Po_bytesWanted_87 : decode b_Po_bytesWanted 87 = .ok (.ireturn, 1) := by decide +kernel
theorem d_Po_bytesWanted_88 : decode b_Po_bytesWanted 88 = .ok (.iconst 2, 1) := by decide +kernel
theorem d_Po_bytesWanted_89 : decode b_Po_bytesWanted 89 = .ok (.ireturn, 1) := by decide +kernel
theorem d_Po_bytesWanted_90 : decode b_Po_bytesWanted 90 = .ok (.iconst 5, 1) := by decide +kernel
theorem d_Po_bytesWanted_91 : decode b_Po_bytesWanted 91 = .ok (.ireturn, 1) := by decide +kernel
theorem d_Po_bytesWanted_92 : decode b_Po_bytesWanted 92 = .ok (.bipush 7, 2) := by decide +kernel
theorem d_Po_bytesWanted_94 : decode b_Po_bytesWanted 94 = .ok (.ireturn, 1) := by decide +kernel
theorem d_Po_bytesWanted_95 : decode b_Po_bytesWanted 95 = .ok (.iconst (-1), 1) := by decide +kernel
theorem d_Po_bytesWanted_96 : decode b_Po_bytesWanted 96 = .ok (.ireturn, 1) := by decide +kernel
set_option maxRecDepth 100000 in
set_option maxHeartbeats 4000000 in
theorem c_Po_bytesWanted (l : Launch) (D : va_G) (ca : Nat → ClassId) (T : ty_e) (L : List Nat) (f0 : Nat → va_E) (sz : Nat) (hT : ok_T ca T L f0) (x1 : Int32) :
    Met l y_Po_bytesWanted (Cond.code y_Po_bytesWanted b_Po_bytesWanted 1 (some .int) :: wg) { frames := 0, cells := 0, slots := 0, locals := 0 } (va_Pc [.int (x1)] (sm_P D cl_all (ty_s ca) ek L f0 sz)) (sm_Qi D (ty_s ca) L f0 sz (fun r u => (True) ∧ u = (L, f0))) 0 0 (va_A (va_pl L f0) sz) := by
  refine sm_start (by decide) (Nat.le_of_ble_eq_true rfl) ?_
  intro p e s m below meth c ls hx hb hml hr hlk hnm hts hown hsz hE hI hl
  have hl : lv_has ls 1 [(0, .int (x1))] := hl
  refine lv_iload_n hx hb d_Po_bytesWanted_0 rfl (lv_at hl 0 rfl) ?_
  by_cases c_1 : x1 = 45
  · refine lv_lookup (off := 85) (tgt := 86) hx hb d_Po_bytesWanted_1 (by decide) (by rw [c_1]; decide) (by decide) ?_
    refine lv_iconst (v := 1) hx hb d_Po_bytesWanted_86 (by decide) ?_
    exact sm_iret hx hb hr hlk hI ⟨trivial, rfl⟩ d_Po_bytesWanted_87
  by_cases c_2 : x1 = 46
  · refine lv_lookup (off := 85) (tgt := 86) hx hb d_Po_bytesWanted_1 (by decide) (by rw [c_2]; decide) (by decide) ?_
    refine lv_iconst (v := 1) hx hb d_Po_bytesWanted_86 (by decide) ?_
    exact sm_iret hx hb hr hlk hI ⟨trivial, rfl⟩ d_Po_bytesWanted_87
  by_cases c_3 : x1 = 50
  · refine lv_lookup (off := 89) (tgt := 90) hx hb d_Po_bytesWanted_1 (by decide) (by rw [c_3]; decide) (by decide) ?_
    refine lv_iconst (v := 5) hx hb d_Po_bytesWanted_90 (by decide) ?_
    exact sm_iret hx hb hr hlk hI ⟨trivial, rfl⟩ d_Po_bytesWanted_91
  by_cases c_4 : x1 = 100
  · refine lv_lookup (off := 85) (tgt := 86) hx hb d_Po_bytesWanted_1 (by decide) (by rw [c_4]; decide) (by decide) ?_
    refine lv_iconst (v := 1) hx hb d_Po_bytesWanted_86 (by decide) ?_
    exact sm_iret hx hb hr hlk hI ⟨trivial, rfl⟩ d_Po_bytesWanted_87
  by_cases c_5 : x1 = 101
  · refine lv_lookup (off := 85) (tgt := 86) hx hb d_Po_bytesWanted_1 (by decide) (by rw [c_5]; decide) (by decide) ?_
    refine lv_iconst (v := 1) hx hb d_Po_bytesWanted_86 (by decide) ?_
    exact sm_iret hx hb hr hlk hI ⟨trivial, rfl⟩ d_Po_bytesWanted_87
  by_cases c_6 : x1 = 102
  · refine lv_lookup (off := 83) (tgt := 84) hx hb d_Po_bytesWanted_1 (by decide) (by rw [c_6]; decide) (by decide) ?_
    refine lv_iconst (v := 0) hx hb d_Po_bytesWanted_84 (by decide) ?_
    exact sm_iret hx hb hr hlk hI ⟨trivial, rfl⟩ d_Po_bytesWanted_85
  by_cases c_7 : x1 = 103
  · refine lv_lookup (off := 91) (tgt := 92) hx hb d_Po_bytesWanted_1 (by decide) (by rw [c_7]; decide) (by decide) ?_
    refine lv_bipush (v := 7) hx hb d_Po_bytesWanted_92 (by decide) ?_
    exact sm_iret hx hb hr hlk hI ⟨trivial, rfl⟩ d_Po_bytesWanted_94
  by_cases c_8 : x1 = 104
  · refine lv_lookup (off := 87) (tgt := 88) hx hb d_Po_bytesWanted_1 (by decide) (by rw [c_8]; decide) (by decide) ?_
    refine lv_iconst (v := 2) hx hb d_Po_bytesWanted_88 (by decide) ?_
    exact sm_iret hx hb hr hlk hI ⟨trivial, rfl⟩ d_Po_bytesWanted_89
  by_cases c_9 : x1 = 105
  · refine lv_lookup (off := 85) (tgt := 86) hx hb d_Po_bytesWanted_1 (by decide) (by rw [c_9]; decide) (by decide) ?_
    refine lv_iconst (v := 1) hx hb d_Po_bytesWanted_86 (by decide) ?_
    exact sm_iret hx hb hr hlk hI ⟨trivial, rfl⟩ d_Po_bytesWanted_87
  refine lv_lookup (off := 94) (tgt := 95) hx hb d_Po_bytesWanted_1 (by decide) (by show Op.lookupswitch.offset [(45, 85), (46, 85), (50, 89), (100, 85), (101, 85), (102, 83), (103, 91), (104, 87), (105, 85)] _ _ = _; rw [lv_osw c_1 (by decide), lv_osw c_2 (by decide), lv_osw c_3 (by decide), lv_osw c_4 (by decide), lv_osw c_5 (by decide), lv_osw c_6 (by decide), lv_osw c_7 (by decide), lv_osw c_8 (by decide), lv_osw c_9 (by decide)]; rfl) (by decide) ?_
  refine lv_iconst (v := -1) hx hb d_Po_bytesWanted_95 (by decide) ?_
  exact sm_iret hx hb hr hlk hI ⟨trivial, rfl⟩ d_Po_bytesWanted_96
