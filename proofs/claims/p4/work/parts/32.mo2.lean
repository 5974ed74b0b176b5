/-! the reference: numbers, bytes told (written by wip/tools) -/
theorem d_Mo_in_0 : decode b_Mo_in 0 = .ok (.lload_n 0, 1) := by decide +kernel
theorem d_Mo_in_1 : decode b_Mo_in 1 = .ok (.lload_n 2, 1) := by decide +kernel
theorem d_Mo_in_2 : decode b_Mo_in 2 = .ok (.lcmp, 1) := by decide +kernel
theorem d_Mo_in_3 : decode b_Mo_in 3 = .ok (.ifCond .lt 14, 3) := by decide +kernel
theorem d_Mo_in_6 : decode b_Mo_in 6 = .ok (.lload_n 0, 1) := by decide +kernel
theorem d_Mo_in_7 : decode b_Mo_in 7 = .ok (.lload 4, 2) := by decide +kernel
theorem d_Mo_in_9 : decode b_Mo_in 9 = .ok (.lcmp, 1) := by decide +kernel
theorem d_Mo_in_10 : decode b_Mo_in 10 = .ok (.ifCond .gt 7, 3) := by decide +kernel
theorem d_Mo_in_13 : decode b_Mo_in 13 = .ok (.iconst 1, 1) := by decide +kernel
theorem d_Mo_in_14 : decode b_Mo_in 14 = .ok (.goto 4, 3) := by decide +kernel
theorem d_Mo_in_17 : decode b_Mo_in 17 = .ok (.iconst 0, 1) := by decide +kernel
theorem d_Mo_in_18 : decode b_Mo_in 18 = .ok (.ireturn, 1) := by decide +kernel
set_option maxRecDepth 100000 in
set_option maxHeartbeats 4000000 in
theorem c_Mo_in (l : Launch) (D : va_G) (ca : Nat → ClassId) (L : List Nat) (f0 : Nat → va_E) (sz : Nat) (x1 : Int64) (x2 : Int64) (x3 : Int64) :
    Met l y_Mo_in (Cond.code y_Mo_in b_Mo_in 6 (some .boolean) :: wg) { frames := 0, cells := 0, slots := 0, locals := 0 } (va_Pc [.long (x1), .long (x2), .long (x3)] (sm_P D cl_all (ty_s ca) ek L f0 sz)) (sm_Qi D (ty_s ca) L f0 sz (fun r u => ((r = 0 ∨ r = 1) ∧ (r = 1 ↔ (x2 ≤ x1 ∧ x1 ≤ x3))) ∧ u = (L, f0))) 0 0 (va_A (va_pl L f0) sz) := by
  refine sm_start (by decide) (Nat.le_of_ble_eq_true rfl) ?_
  intro p e s m below meth c ls hx hb hml hr hlk hnm hts hown hsz hE hI hl
  have hl : lv_has ls 6 [(0, .long (x1)), (2, .long (x2)), (4, .long (x3))] := hl
  refine lv_lload_n hx hb d_Mo_in_0 rfl (lv_at hl 0 rfl) ?_
  refine lv_lload_n hx hb d_Mo_in_1 rfl (lv_at hl 1 rfl) ?_
  refine W.lcmp hx hb d_Mo_in_2 ?_
  refine lv_topi (fun x_1 e_2 => ?_)
  refine lv_if_lt (tgt := 17) hx hb d_Mo_in_3 (by decide) (fun c_3 => ?_) (fun c_3 => ?_)
  · refine lv_iconst (v := 0) hx hb d_Mo_in_17 (by decide) ?_
    exact sm_zret hx hb hr hlk hI (by decide) ⟨⟨(by decide), ⟨fun h => absurd h (by decide), fun h => absurd h.1 (cm_lt e_2 c_3)⟩⟩, rfl⟩ d_Mo_in_18
  · refine lv_lload_n hx hb d_Mo_in_6 rfl (lv_at hl 0 rfl) ?_
    refine lv_lload hx hb d_Mo_in_7 (lv_at hl 2 rfl) ?_
    refine W.lcmp hx hb d_Mo_in_9 ?_
    refine lv_topi (fun x_4 e_5 => ?_)
    refine lv_if_gt (tgt := 17) hx hb d_Mo_in_10 (by decide) (fun c_6 => ?_) (fun c_6 => ?_)
    · refine lv_iconst (v := 0) hx hb d_Mo_in_17 (by decide) ?_
      exact sm_zret hx hb hr hlk hI (by decide) ⟨⟨(by decide), ⟨fun h => absurd h (by decide), fun h => absurd h.2 (cm_gt e_5 c_6)⟩⟩, rfl⟩ d_Mo_in_18
    · refine lv_iconst (v := 1) hx hb d_Mo_in_13 (by decide) ?_
      refine lv_goto (tgt := 18) hx hb d_Mo_in_14 (by decide) ?_
      exact sm_zret hx hb hr hlk hI (by decide) ⟨⟨(by decide), ⟨fun _ => ⟨cm_ge e_2 c_3, cm_le e_5 c_6⟩, fun _ => rfl⟩⟩, rfl⟩ d_Mo_in_18
theorem d_Mo_thrown_0 : decode b_Mo_thrown 0 = .ok (.aload_n 0, 1) := by decide +kernel
theorem d_Mo_thrown_1 : decode b_Mo_thrown 1 = .ok (.getfield 179, 3) := by decide +kernel
theorem d_Mo_thrown_4 : decode b_Mo_thrown 4 = .ok (.ireturn, 1) := by decide +kernel
set_option maxRecDepth 100000 in
set_option maxHeartbeats 4000000 in
theorem c_Mo_thrown (l : Launch) (D : va_G) (ca : Nat → ClassId) (ad : Nat → Nat) (L : List Nat) (f0 : Nat → va_E) (sz : Nat) (σ0 : mq_S) (hM : mq_B ca ad σ0 L f0)  :
    Met l y_Mo_thrown (Cond.code y_Mo_thrown b_Mo_thrown 1 (some .int) :: wg) { frames := 0, cells := 0, slots := 0, locals := 0 } (va_Pc [.ref (ad 71)] (sm_P D cl_all (ty_s ca) ek L f0 sz)) (sm_Qi D (ty_s ca) L f0 sz (fun r u => (True) ∧ u = (L, f0))) 0 0 (va_A (va_pl L f0) sz) := by
  refine sm_start (by decide) (Nat.le_of_ble_eq_true rfl) ?_
  intro p e s m below meth c ls hx hb hml hr hlk hnm hts hown hsz hE hI hl
  have hl : lv_has ls 1 [(0, .ref (ad 71))] := hl
  refine lv_aload_n hx hb d_Mo_thrown_0 rfl (lv_at hl 0 rfl) ?_
  obtain ⟨x_1, e_2⟩ : ∃ z, σ0.1 0 = z := ⟨_, rfl⟩
  refine mq_get (k := 0) (v := .int (x_1)) hx hb hts hown hI hM (by decide) (congrArg (fun z => some (Value.int z)) e_2) rfl (hts _ tw_1169) d_Mo_thrown_1 ?_
  exact sm_iret hx hb hr hlk hI ⟨trivial, rfl⟩ d_Mo_thrown_4
theorem d_Mo_isValue_0 : decode b_Mo_isValue 0 = .ok (.iload_n 0, 1) := by decide +kernel
theorem d_Mo_isValue_1 : decode b_Mo_isValue 1 = .ok (.ifCond .ne 13, 3) := by decide +kernel
theorem d_Mo_isValue_4 : decode b_Mo_isValue 4 = .ok (.iload_n 1, 1) := by decide +kernel
theorem d_Mo_isValue_5 : decode b_Mo_isValue 5 = .ok (.i2l, 1) := by decide +kernel
theorem d_Mo_isValue_6 : decode b_Mo_isValue 6 = .ok (.lconst 0, 1) := by decide +kernel
theorem d_Mo_isValue_7 : decode b_Mo_isValue 7 = .ok (.lconst 1, 1) := by decide +kernel
theorem d_Mo_isValue_8 : decode b_Mo_isValue 8 = .ok (.invokestatic 187, 3) := by decide +kernel
theorem d_Mo_isValue_11 : decode b_Mo_isValue 11 = .ok (.goto 63, 3) := by decide +kernel
theorem d_Mo_isValue_14 : decode b_Mo_isValue 14 = .ok (.iload_n 0, 1) := by decide +kernel
theorem d_Mo_isValue_15 : decode b_Mo_isValue 15 = .ok (.iconst 1, 1) := by decide +kernel
theorem d_Mo_isValue_16 : decode b_Mo_isValue 16 = .ok (.if_icmp .ne 15, 3) := by decide +kernel
theorem d_Mo_isValue_19 : decode b_Mo_isValue 19 = .ok (.iload_n 1, 1) := by decide +kernel
theorem d_Mo_isValue_20 : decode b_Mo_isValue 20 = .ok (.i2l, 1) := by decide +kernel
theorem d_Mo_isValue_21 : decode b_Mo_isValue 21 = .ok (.lconst 0, 1) := by decide +kernel
theorem d_Mo_isValue_22 : decode b_Mo_isValue 22 = .ok (.ldc2_w 194, 3) := by decide +kernel
theorem d_Mo_isValue_25 : decode b_Mo_isValue 25 = .ok (.invokestatic 187, 3) := by decide +kernel
theorem d_Mo_isValue_28 : decode b_Mo_isValue 28 = .ok (.goto 46, 3) := by decide +kernel
theorem d_Mo_isValue_31 : decode b_Mo_isValue 31 = .ok (.iload_n 0, 1) := by decide +kernel
theorem d_Mo_isValue_32 : decode b_Mo_isValue 32 = .ok (.iconst 2, 1) := by decide +kernel
theorem d_Mo_isValue_33 : decode b_Mo_isValue 33 = .ok (.if_icmp .ne 17, 3) := by decide +kernel
theorem d_Mo_isValue_36 : decode b_Mo_isValue 36 = .ok (.iload_n 1, 1) := by decide +kernel
theorem d_Mo_isValue_37 : decode b_Mo_isValue 37 = .ok (.i2l, 1) := by decide +kernel
theorem d_Mo_isValue_38 : decode b_Mo_isValue 38 = .ok (.ldc2_w 196, 3) := by decide +kernel
theorem d_Mo_isValue_41 : decode b_Mo_isValue 41 = .ok (.ldc2_w 198, 3) := by decide +kernel
theorem d_Mo_isValue_44 : decode b_Mo_isValue 44 = .ok (.invokestatic 187, 3) := by decide +kernel
theorem d_Mo_isValue_47 : decode b_Mo_isValue 47 = .ok (.goto 27, 3) := by decide +kernel
theorem d_Mo_isValue_50 : decode b_Mo_isValue 50 = .ok (.iload_n 0, 1) := by decide +kernel
theorem d_Mo_isValue_51 : decode b_Mo_isValue 51 = .ok (.iconst 4, 1) := by decide +kernel
theorem d_Mo_isValue_52 : decode b_Mo_isValue 52 = .ok (.if_icmp .gt 17, 3) := by decide +kernel
theorem d_Mo_isValue_55 : decode b_Mo_isValue 55 = .ok (.iload_n 1, 1) := by decide +kernel
theorem d_Mo_isValue_56 : decode b_Mo_isValue 56 = .ok (.i2l, 1) := by decide +kernel
theorem d_Mo_isValue_57 : decode b_Mo_isValue 57 = .ok (.ldc2_w 200, 3) := by decide +kernel
theorem d_Mo_isValue_60 : decode b_Mo_isValue 60 = .ok (.ldc2_w 202, 3) := by decide +kernel
theorem d_Mo_isValue_63 : decode b_Mo_isValue 63 = .ok (.invokestatic 187, 3) := by decide +kernel
theorem d_Mo_isValue_66 : decode b_Mo_isValue 66 = .ok (.ifCond .eq 7, 3) := by decide +kernel
theorem d_Mo_isValue_69 : decode b_Mo_isValue 69 = .ok (.iconst 1, 1) := by decide +kernel
theorem d_Mo_isValue_70 : decode b_Mo_isValue 70 = .ok (.goto 4, 3) := by decide +kernel
theorem d_Mo_isValue_73 : decode b_Mo_isValue 73 = .ok (.iconst 0, 1) := by decide +kernel
theorem d_Mo_isValue_74 : decode b_Mo_isValue 74 = .ok (.ireturn, 1) := by decide +kernel
set_option maxRecDepth 100000 in
set_option maxHeartbeats 4000000 in
theorem c_Mo_isValue (l : Launch) (D : va_G) (ca : Nat → ClassId) (L : List Nat) (f0 : Nat → va_E) (sz : Nat) (x1 : Int32) (x2 : Int32) :
    Met l y_Mo_isValue (Cond.code y_Mo_isValue b_Mo_isValue 2 (some .boolean) :: wg) { frames := 1, cells := 0, slots := 0, locals := 25 } (va_Pc [.int (x1), .int (x2)] (sm_P D cl_all (ty_s ca) ek L f0 sz)) (sm_Qi D (ty_s ca) L f0 sz (fun r u => (r = 0 ∨ r = 1) ∧ u = (L, f0))) 0 0 (va_A (va_pl L f0) sz) := by
  refine sm_start (by decide) (Nat.le_of_ble_eq_true rfl) ?_
  intro p e s m below meth c ls hx hb hml hr hlk hnm hts hown hsz hE hI hl
  have hl : lv_has ls 2 [(0, .int (x1)), (1, .int (x2))] := hl
  refine lv_iload_n hx hb d_Mo_isValue_0 rfl (lv_at hl 0 rfl) ?_
  refine lv_if_ne (tgt := 14) hx hb d_Mo_isValue_1 (by decide) (fun c_1 => ?_) (fun c_1 => ?_)
  · refine lv_iload_n hx hb d_Mo_isValue_14 rfl (lv_at hl 0 rfl) ?_
    refine lv_iconst (v := 1) hx hb d_Mo_isValue_15 (by decide) ?_
    refine lv_icmp_ne (tgt := 31) hx hb d_Mo_isValue_16 (by decide) (fun c_2 => ?_) (fun c_2 => ?_)
    · refine lv_iload_n hx hb d_Mo_isValue_31 rfl (lv_at hl 0 rfl) ?_
      refine lv_iconst (v := 2) hx hb d_Mo_isValue_32 (by decide) ?_
      refine lv_icmp_ne (tgt := 50) hx hb d_Mo_isValue_33 (by decide) (fun c_3 => ?_) (fun c_3 => ?_)
      · refine lv_iload_n hx hb d_Mo_isValue_50 rfl (lv_at hl 0 rfl) ?_
        refine lv_iconst (v := 4) hx hb d_Mo_isValue_51 (by decide) ?_
        refine lv_icmp_gt (tgt := 69) hx hb d_Mo_isValue_52 (by decide) (fun c_4 => ?_) (fun c_4 => ?_)
        · refine lv_iconst (v := 1) hx hb d_Mo_isValue_69 (by decide) ?_
          refine lv_goto (tgt := 74) hx hb d_Mo_isValue_70 (by decide) ?_
          exact sm_zret hx hb hr hlk hI (by decide) ⟨(by decide), rfl⟩ d_Mo_isValue_74
        · refine lv_iload_n hx hb d_Mo_isValue_55 rfl (lv_at hl 1 rfl) ?_
          refine lv_i2l hx hb d_Mo_isValue_56 rfl ?_
          refine lv_topl (fun x_5 e_6 => ?_)
          refine lv_ldc2 (v := (-32768)) hx hb hown (hts _ tw_1408) d_Mo_isValue_57 ?_
          refine lv_ldc2 (v := 32767) hx hb hown (hts _ tw_1409) d_Mo_isValue_60 ?_
          refine sm_iP hI (va_runS (As := [.long (x_5), .long ((-32768)), .long (32767)]) (rest := []) ⟨hx, hb, hml, hown, hts⟩ (c_Mo_in l D ca L _ _ x_5 ((-32768)) 32767) (ks_Mo_in hts rfl rfl (hts _ tw_1393) ⟨Nat.le_of_ble_eq_true rfl, Nat.le_of_ble_eq_true rfl⟩) (sm_preS hI hE) rfl rfl hl.1 rfl (lv_room (Nat.le_of_ble_eq_true rfl)) d_Mo_isValue_63 ⟨Nat.le_of_ble_eq_true rfl, Nat.le_of_ble_eq_true rfl⟩) (fun x_8 H locs p_7 hI => ?_)
          refine lv_if_eq (tgt := 73) hx hb d_Mo_isValue_66 (by decide) (fun c_9 => ?_) (fun c_9 => ?_)
          · refine lv_iconst (v := 0) hx hb d_Mo_isValue_73 (by decide) ?_
            exact sm_zret hx hb hr hlk hI (by decide) ⟨(by decide), rfl⟩ d_Mo_isValue_74
          · refine lv_iconst (v := 1) hx hb d_Mo_isValue_69 (by decide) ?_
            refine lv_goto (tgt := 74) hx hb d_Mo_isValue_70 (by decide) ?_
            exact sm_zret hx hb hr hlk hI (by decide) ⟨(by decide), rfl⟩ d_Mo_isValue_74
      · refine lv_iload_n hx hb d_Mo_isValue_36 rfl (lv_at hl 1 rfl) ?_
        refine lv_i2l hx hb d_Mo_isValue_37 rfl ?_
        refine lv_topl (fun x_10 e_11 => ?_)
        refine lv_ldc2 (v := (-64)) hx hb hown (hts _ tw_1406) d_Mo_isValue_38 ?_
        refine lv_ldc2 (v := 63) hx hb hown (hts _ tw_1407) d_Mo_isValue_41 ?_
        refine sm_iP hI (va_runS (As := [.long (x_10), .long ((-64)), .long (63)]) (rest := []) ⟨hx, hb, hml, hown, hts⟩ (c_Mo_in l D ca L _ _ x_10 ((-64)) 63) (ks_Mo_in hts rfl rfl (hts _ tw_1393) ⟨Nat.le_of_ble_eq_true rfl, Nat.le_of_ble_eq_true rfl⟩) (sm_preS hI hE) rfl rfl hl.1 rfl (lv_room (Nat.le_of_ble_eq_true rfl)) d_Mo_isValue_44 ⟨Nat.le_of_ble_eq_true rfl, Nat.le_of_ble_eq_true rfl⟩) (fun x_13 H locs p_12 hI => ?_)
        refine lv_goto (tgt := 74) hx hb d_Mo_isValue_47 (by decide) ?_
        exact sm_zret hx hb hr hlk hI p_12.1 ⟨p_12.1, rfl⟩ d_Mo_isValue_74
    · refine lv_iload_n hx hb d_Mo_isValue_19 rfl (lv_at hl 1 rfl) ?_
      refine lv_i2l hx hb d_Mo_isValue_20 rfl ?_
      refine lv_topl (fun x_14 e_15 => ?_)
      refine lv_lconst (v := 0) hx hb d_Mo_isValue_21 (by decide) ?_
      refine lv_ldc2 (v := 3) hx hb hown (hts _ tw_1405) d_Mo_isValue_22 ?_
      refine sm_iP hI (va_runS (As := [.long (x_14), .long (0), .long (3)]) (rest := []) ⟨hx, hb, hml, hown, hts⟩ (c_Mo_in l D ca L _ _ x_14 0 3) (ks_Mo_in hts rfl rfl (hts _ tw_1393) ⟨Nat.le_of_ble_eq_true rfl, Nat.le_of_ble_eq_true rfl⟩) (sm_preS hI hE) rfl rfl hl.1 rfl (lv_room (Nat.le_of_ble_eq_true rfl)) d_Mo_isValue_25 ⟨Nat.le_of_ble_eq_true rfl, Nat.le_of_ble_eq_true rfl⟩) (fun x_17 H locs p_16 hI => ?_)
      refine lv_goto (tgt := 74) hx hb d_Mo_isValue_28 (by decide) ?_
      exact sm_zret hx hb hr hlk hI p_16.1 ⟨p_16.1, rfl⟩ d_Mo_isValue_74
  · refine lv_iload_n hx hb d_Mo_isValue_4 rfl (lv_at hl 1 rfl) ?_
    refine lv_i2l hx hb d_Mo_isValue_5 rfl ?_
    refine lv_topl (fun x_18 e_19 => ?_)
    refine lv_lconst (v := 0) hx hb d_Mo_isValue_6 (by decide) ?_
    refine lv_lconst (v := 1) hx hb d_Mo_isValue_7 (by decide) ?_
    refine sm_iP hI (va_runS (As := [.long (x_18), .long (0), .long (1)]) (rest := []) ⟨hx, hb, hml, hown, hts⟩ (c_Mo_in l D ca L _ _ x_18 0 1) (ks_Mo_in hts rfl rfl (hts _ tw_1393) ⟨Nat.le_of_ble_eq_true rfl, Nat.le_of_ble_eq_true rfl⟩) (sm_preS hI hE) rfl rfl hl.1 rfl (lv_room (Nat.le_of_ble_eq_true rfl)) d_Mo_isValue_8 ⟨Nat.le_of_ble_eq_true rfl, Nat.le_of_ble_eq_true rfl⟩) (fun x_21 H locs p_20 hI => ?_)
    refine lv_goto (tgt := 74) hx hb d_Mo_isValue_11 (by decide) ?_
    exact sm_zret hx hb hr hlk hI p_20.1 ⟨p_20.1, rfl⟩ d_Mo_isValue_74
theorem d_Mo_daysOf_0 : decode b_Mo_daysOf 0 = .ok (.iload_n 1, 1) := by decide +kernel
theorem d_Mo_daysOf_1 : decode b_Mo_daysOf 1 = .ok (.iconst 2, 1) := by decide +kernel
theorem d_Mo_daysOf_2 : decode b_Mo_daysOf 2 = .ok (.if_icmp .ne 34, 3) := by decide +kernel
theorem d_Mo_daysOf_5 : decode b_Mo_daysOf 5 = .ok (.iload_n 0, 1) := by decide +kernel
theorem d_Mo_daysOf_6 : decode b_Mo_daysOf 6 = .ok (.iconst 4, 1) := by decide +kernel
theorem d_Mo_daysOf_7 : decode b_Mo_daysOf 7 = .ok (.irem, 1) := by decide +kernel
theorem d_Mo_daysOf_8 : decode b_Mo_daysOf 8 = .ok (.ifCond .ne 23, 3) := by decide +kernel
theorem d_Mo_daysOf_11 : decode b_Mo_daysOf 11 = .ok (.iload_n 0, 1) := by decide +kernel
theorem d_Mo_daysOf_12 : decode b_Mo_daysOf 12 = .ok (.bipush 100, 2) := by decide +kernel
theorem d_Mo_daysOf_14 : decode b_Mo_daysOf 14 = .ok (.irem, 1) := by decide +kernel
theorem d_Mo_daysOf_15 : decode b_Mo_daysOf 15 = .ok (.ifCond .ne 11, 3) := by decide +kernel
theorem d_Mo_daysOf_18 : decode b_Mo_daysOf 18 = .ok (.iload_n 0, 1) := by decide +kernel
theorem d_Mo_daysOf_19 : decode b_Mo_daysOf 19 = .ok (.sipush 400, 3) := by decide +kernel
theorem d_Mo_daysOf_22 : decode b_Mo_daysOf 22 = .ok (.irem, 1) := by decide +kernel
theorem d_Mo_daysOf_23 : decode b_Mo_daysOf 23 = .ok (.ifCond .ne 8, 3) := by decide +kernel
theorem d_Mo_daysOf_26 : decode b_Mo_daysOf 26 = .ok (.bipush 29, 2) := by decide +kernel
theorem d_Mo_daysOf_28 : decode b_Mo_daysOf 28 = .ok (.goto 38, 3) := by decide +kernel
theorem d_Mo_daysOf_31 : decode b_Mo_daysOf 31 = .ok (.bipush 28, 2) := by decide +kernel
theorem d_Mo_daysOf_33 : decode b_Mo_daysOf 33 = .ok (.goto 33, 3) := by decide +kernel
theorem d_Mo_daysOf_36 : decode b_Mo_daysOf 36 = .ok (.iload_n 1, 1) := by decide +kernel
theorem d_Mo_daysOf_37 : decode b_Mo_daysOf 37 = .ok (.iconst 4, 1) := by decide +kernel
theorem d_Mo_daysOf_38 : decode b_Mo_daysOf 38 = .ok (.if_icmp .eq 21, 3) := by decide +kernel
theorem d_Mo_daysOf_41 : decode b_Mo_daysOf 41 = .ok (.iload_n 1, 1) := by decide +kernel
theorem d_Mo_daysOf_42 : decode b_Mo_daysOf 42 = .ok (.bipush 6, 2) := by decide +kernel
theorem d_Mo_daysOf_44 : decode b_Mo_daysOf 44 = .ok (.if_icmp .eq 15, 3) := by decide +kernel
theorem d_Mo_daysOf_47 : decode b_Mo_daysOf 47 = .ok (.iload_n 1, 1) := by decide +kernel
theorem d_Mo_daysOf_48 : decode b_Mo_daysOf 48 = .ok (.bipush 9, 2) := by decide +kernel
theorem d_Mo_daysOf_50 : decode b_Mo_daysOf 50 = .ok (.if_icmp .eq 9, 3) := by decide +kernel
theorem d_Mo_daysOf_53 : decode b_Mo_daysOf 53 = .ok (.iload_n 1, 1) := by decide +kernel
theorem d_Mo_daysOf_54 : decode b_Mo_daysOf 54 = .ok (.bipush 11, 2) := by decide +kernel
theorem d_Mo_daysOf_56 : decode b_Mo_daysOf 56 = .ok (.if_icmp .ne 8, 3) := by decide +kernel
theorem d_Mo_daysOf_59 : decode b_Mo_daysOf 59 = .ok (.bipush 30, 2) := by decide +kernel
theorem d_Mo_daysOf_61 : decode b_Mo_daysOf 61 = .ok (.goto 5, 3) := by decide +kernel
theorem d_Mo_daysOf_64 : decode b_Mo_daysOf 64 = .ok (.bipush 31, 2) := by decide +kernel
theorem d_Mo_daysOf_66 : decode b_Mo_daysOf 66 = .ok (.ireturn, 1) := by decide +kernel
set_option maxRecDepth 100000 in
set_option maxHeartbeats 4000000 in
theorem c_Mo_daysOf (l : Launch) (D : va_G) (ca : Nat → ClassId) (L : List Nat) (f0 : Nat → va_E) (sz : Nat) (x1 : Int32) (x2 : Int32) :
    Met l y_Mo_daysOf (Cond.code y_Mo_daysOf b_Mo_daysOf 2 (some .int) :: wg) { frames := 0, cells := 0, slots := 0, locals := 0 } (va_Pc [.int (x1), .int (x2)] (sm_P D cl_all (ty_s ca) ek L f0 sz)) (sm_Qi D (ty_s ca) L f0 sz (fun r u => (∃ n : Nat, r = nI n ∧ 28 ≤ n ∧ n ≤ 31) ∧ u = (L, f0))) 0 0 (va_A (va_pl L f0) sz) := by
  refine sm_start (by decide) (Nat.le_of_ble_eq_true rfl) ?_
  intro p e s m below meth c ls hx hb hml hr hlk hnm hts hown hsz hE hI hl
  have hl : lv_has ls 2 [(0, .int (x1)), (1, .int (x2))] := hl
  refine lv_iload_n hx hb d_Mo_daysOf_0 rfl (lv_at hl 1 rfl) ?_
  refine lv_iconst (v := 2) hx hb d_Mo_daysOf_1 (by decide) ?_
  refine lv_icmp_ne (tgt := 36) hx hb d_Mo_daysOf_2 (by decide) (fun c_1 => ?_) (fun c_1 => ?_)
  · refine lv_iload_n hx hb d_Mo_daysOf_36 rfl (lv_at hl 1 rfl) ?_
    refine lv_iconst (v := 4) hx hb d_Mo_daysOf_37 (by decide) ?_
    refine lv_icmp_eq (tgt := 59) hx hb d_Mo_daysOf_38 (by decide) (fun c_2 => ?_) (fun c_2 => ?_)
    · refine lv_bipush (v := 30) hx hb d_Mo_daysOf_59 (by decide) ?_
      refine lv_goto (tgt := 66) hx hb d_Mo_daysOf_61 (by decide) ?_
      exact sm_iret hx hb hr hlk hI ⟨⟨30, rfl, by omega, by omega⟩, rfl⟩ d_Mo_daysOf_66
    · refine lv_iload_n hx hb d_Mo_daysOf_41 rfl (lv_at hl 1 rfl) ?_
      refine lv_bipush (v := 6) hx hb d_Mo_daysOf_42 (by decide) ?_
      refine lv_icmp_eq (tgt := 59) hx hb d_Mo_daysOf_44 (by decide) (fun c_3 => ?_) (fun c_3 => ?_)
      · refine lv_bipush (v := 30) hx hb d_Mo_daysOf_59 (by decide) ?_
        refine lv_goto (tgt := 66) hx hb d_Mo_daysOf_61 (by decide) ?_
        exact sm_iret hx hb hr hlk hI ⟨⟨30, rfl, by omega, by omega⟩, rfl⟩ d_Mo_daysOf_66
      · refine lv_iload_n hx hb d_Mo_daysOf_47 rfl (lv_at hl 1 rfl) ?_
        refine lv_bipush (v := 9) hx hb d_Mo_daysOf_48 (by decide) ?_
        refine lv_icmp_eq (tgt := 59) hx hb d_Mo_daysOf_50 (by decide) (fun c_4 => ?_) (fun c_4 => ?_)
        · refine lv_bipush (v := 30) hx hb d_Mo_daysOf_59 (by decide) ?_
          refine lv_goto (tgt := 66) hx hb d_Mo_daysOf_61 (by decide) ?_
          exact sm_iret hx hb hr hlk hI ⟨⟨30, rfl, by omega, by omega⟩, rfl⟩ d_Mo_daysOf_66
        · refine lv_iload_n hx hb d_Mo_daysOf_53 rfl (lv_at hl 1 rfl) ?_
          refine lv_bipush (v := 11) hx hb d_Mo_daysOf_54 (by decide) ?_
          refine lv_icmp_ne (tgt := 64) hx hb d_Mo_daysOf_56 (by decide) (fun c_5 => ?_) (fun c_5 => ?_)
          · refine lv_bipush (v := 31) hx hb d_Mo_daysOf_64 (by decide) ?_
            exact sm_iret hx hb hr hlk hI ⟨⟨31, rfl, by omega, by omega⟩, rfl⟩ d_Mo_daysOf_66
          · refine lv_bipush (v := 30) hx hb d_Mo_daysOf_59 (by decide) ?_
            refine lv_goto (tgt := 66) hx hb d_Mo_daysOf_61 (by decide) ?_
            exact sm_iret hx hb hr hlk hI ⟨⟨30, rfl, by omega, by omega⟩, rfl⟩ d_Mo_daysOf_66
  · refine lv_iload_n hx hb d_Mo_daysOf_5 rfl (lv_at hl 0 rfl) ?_
    refine lv_iconst (v := 4) hx hb d_Mo_daysOf_6 (by decide) ?_
    refine lv_irem hx hb d_Mo_daysOf_7 (by decide) ?_
    refine lv_topi (fun x_6 e_7 => ?_)
    refine lv_if_ne (tgt := 31) hx hb d_Mo_daysOf_8 (by decide) (fun c_8 => ?_) (fun c_8 => ?_)
    · refine lv_bipush (v := 28) hx hb d_Mo_daysOf_31 (by decide) ?_
      refine lv_goto (tgt := 66) hx hb d_Mo_daysOf_33 (by decide) ?_
      exact sm_iret hx hb hr hlk hI ⟨⟨28, rfl, by omega, by omega⟩, rfl⟩ d_Mo_daysOf_66
    · refine lv_iload_n hx hb d_Mo_daysOf_11 rfl (lv_at hl 0 rfl) ?_
      refine lv_bipush (v := 100) hx hb d_Mo_daysOf_12 (by decide) ?_
      refine lv_irem hx hb d_Mo_daysOf_14 (by decide) ?_
      refine lv_topi (fun x_9 e_10 => ?_)
      refine lv_if_ne (tgt := 26) hx hb d_Mo_daysOf_15 (by decide) (fun c_11 => ?_) (fun c_11 => ?_)
      · refine lv_bipush (v := 29) hx hb d_Mo_daysOf_26 (by decide) ?_
        refine lv_goto (tgt := 66) hx hb d_Mo_daysOf_28 (by decide) ?_
        exact sm_iret hx hb hr hlk hI ⟨⟨29, rfl, by omega, by omega⟩, rfl⟩ d_Mo_daysOf_66
      · refine lv_iload_n hx hb d_Mo_daysOf_18 rfl (lv_at hl 0 rfl) ?_
        refine lv_sipush (v := 400) hx hb d_Mo_daysOf_19 (by decide) ?_
        refine lv_irem hx hb d_Mo_daysOf_22 (by decide) ?_
        refine lv_topi (fun x_12 e_13 => ?_)
        refine lv_if_ne (tgt := 31) hx hb d_Mo_daysOf_23 (by decide) (fun c_14 => ?_) (fun c_14 => ?_)
        · refine lv_bipush (v := 28) hx hb d_Mo_daysOf_31 (by decide) ?_
          refine lv_goto (tgt := 66) hx hb d_Mo_daysOf_33 (by decide) ?_
          exact sm_iret hx hb hr hlk hI ⟨⟨28, rfl, by omega, by omega⟩, rfl⟩ d_Mo_daysOf_66
        · refine lv_bipush (v := 29) hx hb d_Mo_daysOf_26 (by decide) ?_
          refine lv_goto (tgt := 66) hx hb d_Mo_daysOf_28 (by decide) ?_
          exact sm_iret hx hb hr hlk hI ⟨⟨29, rfl, by omega, by omega⟩, rfl⟩ d_Mo_daysOf_66
theorem d_Mo_typeOf_0 : decode b_Mo_typeOf 0 = .ok (.iload_n 0, 1) := by decide +kernel
theorem d_Mo_typeOf_1 : decode b_Mo_typeOf 1 = .ok (.ifCond .ne 7, 3) := by decide +kernel
theorem d_Mo_typeOf_4 : decode b_Mo_typeOf 4 = .ok (.iconst 1, 1) := by decide +kernel
theorem d_Mo_typeOf_5 : decode b_Mo_typeOf 5 = .ok (.goto 53, 3) := by decide +kernel
theorem d_Mo_typeOf_8 : decode b_Mo_typeOf 8 = .ok (.iload_n 0, 1) := by decide +kernel
theorem d_Mo_typeOf_9 : decode b_Mo_typeOf 9 = .ok (.iconst 1, 1) := by decide +kernel
theorem d_Mo_typeOf_10 : decode b_Mo_typeOf 10 = .ok (.if_icmp .ne 7, 3) := by decide +kernel
theorem d_Mo_typeOf_13 : decode b_Mo_typeOf 13 = .ok (.iconst 3, 1) := by decide +kernel
theorem d_Mo_typeOf_14 : decode b_Mo_typeOf 14 = .ok (.goto 44, 3) := by decide +kernel
theorem d_Mo_typeOf_17 : decode b_Mo_typeOf 17 = .ok (.iload_n 0, 1) := by decide +kernel
theorem d_Mo_typeOf_18 : decode b_Mo_typeOf 18 = .ok (.iconst 2, 1) := by decide +kernel
theorem d_Mo_typeOf_19 : decode b_Mo_typeOf 19 = .ok (.if_icmp .ne 7, 3) := by decide +kernel
theorem d_Mo_typeOf_22 : decode b_Mo_typeOf 22 = .ok (.iconst 5, 1) := by decide +kernel
theorem d_Mo_typeOf_23 : decode b_Mo_typeOf 23 = .ok (.goto 35, 3) := by decide +kernel
theorem d_Mo_typeOf_26 : decode b_Mo_typeOf 26 = .ok (.iload_n 0, 1) := by decide +kernel
theorem d_Mo_typeOf_27 : decode b_Mo_typeOf 27 = .ok (.iconst 3, 1) := by decide +kernel
theorem d_Mo_typeOf_28 : decode b_Mo_typeOf 28 = .ok (.if_icmp .ne 8, 3) := by decide +kernel
theorem d_Mo_typeOf_31 : decode b_Mo_typeOf 31 = .ok (.bipush 9, 2) := by decide +kernel
theorem d_Mo_typeOf_33 : decode b_Mo_typeOf 33 = .ok (.goto 25, 3) := by decide +kernel
theorem d_Mo_typeOf_36 : decode b_Mo_typeOf 36 = .ok (.iload_n 0, 1) := by decide +kernel
theorem d_Mo_typeOf_37 : decode b_Mo_typeOf 37 = .ok (.iconst 4, 1) := by decide +kernel
theorem d_Mo_typeOf_38 : decode b_Mo_typeOf 38 = .ok (.if_icmp .ne 8, 3) := by decide +kernel
theorem d_Mo_typeOf_41 : decode b_Mo_typeOf 41 = .ok (.bipush 11, 2) := by decide +kernel
theorem d_Mo_typeOf_43 : decode b_Mo_typeOf 43 = .ok (.goto 15, 3) := by decide +kernel
theorem d_Mo_typeOf_46 : decode b_Mo_typeOf 46 = .ok (.iload_n 0, 1) := by decide +kernel
theorem d_Mo_typeOf_47 : decode b_Mo_typeOf 47 = .ok (.iconst 5, 1) := by decide +kernel
theorem d_Mo_typeOf_48 : decode b_Mo_typeOf 48 = .ok (.if_icmp .ne 8, 3) := by decide +kernel
theorem d_Mo_typeOf_51 : decode b_Mo_typeOf 51 = .ok (.bipush 13, 2) := by decide +kernel
theorem d_Mo_typeOf_53 : decode b_Mo_typeOf 53 = .ok (.goto 5, 3) := by decide +kernel
theorem d_Mo_typeOf_56 : decode b_Mo_typeOf 56 = .ok (.bipush 15, 2) := by decide +kernel
theorem d_Mo_typeOf_58 : decode b_Mo_typeOf 58 = .ok (.ireturn, 1) := by decide +kernel
set_option maxRecDepth 100000 in
set_option maxHeartbeats 4000000 in
theorem c_Mo_typeOf (l : Launch) (D : va_G) (ca : Nat → ClassId) (L : List Nat) (f0 : Nat → va_E) (sz : Nat) (x1 : Int32) :
    Met l y_Mo_typeOf (Cond.code y_Mo_typeOf b_Mo_typeOf 1 (some .int) :: wg) { frames := 0, cells := 0, slots := 0, locals := 0 } (va_Pc [.int (x1)] (sm_P D cl_all (ty_s ca) ek L f0 sz)) (sm_Qi D (ty_s ca) L f0 sz (fun r u => (True) ∧ u = (L, f0))) 0 0 (va_A (va_pl L f0) sz) := by
  refine sm_start (by decide) (Nat.le_of_ble_eq_true rfl) ?_
  intro p e s m below meth c ls hx hb hml hr hlk hnm hts hown hsz hE hI hl
  have hl : lv_has ls 1 [(0, .int (x1))] := hl
  refine lv_iload_n hx hb d_Mo_typeOf_0 rfl (lv_at hl 0 rfl) ?_
  refine lv_if_ne (tgt := 8) hx hb d_Mo_typeOf_1 (by decide) (fun c_1 => ?_) (fun c_1 => ?_)
  · refine lv_iload_n hx hb d_Mo_typeOf_8 rfl (lv_at hl 0 rfl) ?_
    refine lv_iconst (v := 1) hx hb d_Mo_typeOf_9 (by decide) ?_
    refine lv_icmp_ne (tgt := 17) hx hb d_Mo_typeOf_10 (by decide) (fun c_2 => ?_) (fun c_2 => ?_)
    · refine lv_iload_n hx hb d_Mo_typeOf_17 rfl (lv_at hl 0 rfl) ?_
      refine lv_iconst (v := 2) hx hb d_Mo_typeOf_18 (by decide) ?_
      refine lv_icmp_ne (tgt := 26) hx hb d_Mo_typeOf_19 (by decide) (fun c_3 => ?_) (fun c_3 => ?_)
      · refine lv_iload_n hx hb d_Mo_typeOf_26 rfl (lv_at hl 0 rfl) ?_
        refine lv_iconst (v := 3) hx hb d_Mo_typeOf_27 (by decide) ?_
        refine lv_icmp_ne (tgt := 36) hx hb d_Mo_typeOf_28 (by decide) (fun c_4 => ?_) (fun c_4 => ?_)
        · refine lv_iload_n hx hb d_Mo_typeOf_36 rfl (lv_at hl 0 rfl) ?_
          refine lv_iconst (v := 4) hx hb d_Mo_typeOf_37 (by decide) ?_
          refine lv_icmp_ne (tgt := 46) hx hb d_Mo_typeOf_38 (by decide) (fun c_5 => ?_) (fun c_5 => ?_)
          · refine lv_iload_n hx hb d_Mo_typeOf_46 rfl (lv_at hl 0 rfl) ?_
            refine lv_iconst (v := 5) hx hb d_Mo_typeOf_47 (by decide) ?_
            refine lv_icmp_ne (tgt := 56) hx hb d_Mo_typeOf_48 (by decide) (fun c_6 => ?_) (fun c_6 => ?_)
            · refine lv_bipush (v := 15) hx hb d_Mo_typeOf_56 (by decide) ?_
              exact sm_iret hx hb hr hlk hI ⟨trivial, rfl⟩ d_Mo_typeOf_58
            · refine lv_bipush (v := 13) hx hb d_Mo_typeOf_51 (by decide) ?_
              refine lv_goto (tgt := 58) hx hb d_Mo_typeOf_53 (by decide) ?_
              exact sm_iret hx hb hr hlk hI ⟨trivial, rfl⟩ d_Mo_typeOf_58
          · refine lv_bipush (v := 11) hx hb d_Mo_typeOf_41 (by decide) ?_
            refine lv_goto (tgt := 58) hx hb d_Mo_typeOf_43 (by decide) ?_
            exact sm_iret hx hb hr hlk hI ⟨trivial, rfl⟩ d_Mo_typeOf_58
        · refine lv_bipush (v := 9) hx hb d_Mo_typeOf_31 (by decide) ?_
          refine lv_goto (tgt := 58) hx hb d_Mo_typeOf_33 (by decide) ?_
          exact sm_iret hx hb hr hlk hI ⟨trivial, rfl⟩ d_Mo_typeOf_58
      · refine lv_iconst (v := 5) hx hb d_Mo_typeOf_22 (by decide) ?_
        refine lv_goto (tgt := 58) hx hb d_Mo_typeOf_23 (by decide) ?_
        exact sm_iret hx hb hr hlk hI ⟨trivial, rfl⟩ d_Mo_typeOf_58
    · refine lv_iconst (v := 3) hx hb d_Mo_typeOf_13 (by decide) ?_
      refine lv_goto (tgt := 58) hx hb d_Mo_typeOf_14 (by decide) ?_
      exact sm_iret hx hb hr hlk hI ⟨trivial, rfl⟩ d_Mo_typeOf_58
  · refine lv_iconst (v := 1) hx hb d_Mo_typeOf_4 (by decide) ?_
    refine lv_goto (tgt := 58) hx hb d_Mo_typeOf_5 (by decide) ?_
    exact sm_iret hx hb hr hlk hI ⟨trivial, rfl⟩ d_Mo_typeOf_58
theorem d_Mo_objectSizeOf_0 : decode b_Mo_objectSizeOf 0 = .ok (.iload_n 0, 1) := by decide +kernel
theorem d_Mo_objectSizeOf_1 : decode b_Mo_objectSizeOf 1 = .ok (.iconst 2, 1) := by decide +kernel
theorem d_Mo_objectSizeOf_2 : decode b_Mo_objectSizeOf 2 = .ok (.if_icmp .ge 7, 3) := by decide +kernel
theorem d_Mo_objectSizeOf_5 : decode b_Mo_objectSizeOf 5 = .ok (.iconst 1, 1) := by decide +kernel
theorem d_Mo_objectSizeOf_6 : decode b_Mo_objectSizeOf 6 = .ok (.goto 22, 3) := by decide +kernel
theorem d_Mo_objectSizeOf_9 : decode b_Mo_objectSizeOf 9 = .ok (.iload_n 0, 1) := by decide +kernel
theorem d_Mo_objectSizeOf_10 : decode b_Mo_objectSizeOf 10 = .ok (.iconst 2, 1) := by decide +kernel
theorem d_Mo_objectSizeOf_11 : decode b_Mo_objectSizeOf 11 = .ok (.if_icmp .ne 7, 3) := by decide +kernel
theorem d_Mo_objectSizeOf_14 : decode b_Mo_objectSizeOf 14 = .ok (.iconst 2, 1) := by decide +kernel
theorem d_Mo_objectSizeOf_15 : decode b_Mo_objectSizeOf 15 = .ok (.goto 13, 3) := by decide +kernel
theorem d_Mo_objectSizeOf_18 : decode b_Mo_objectSizeOf 18 = .ok (.iload_n 0, 1) := by decide +kernel
theorem d_Mo_objectSizeOf_19 : decode b_Mo_objectSizeOf 19 = .ok (.iconst 5, 1) := by decide +kernel
theorem d_Mo_objectSizeOf_20 : decode b_Mo_objectSizeOf 20 = .ok (.if_icmp .ge 7, 3) := by decide +kernel
theorem d_Mo_objectSizeOf_23 : decode b_Mo_objectSizeOf 23 = .ok (.iconst 3, 1) := by decide +kernel
theorem d_Mo_objectSizeOf_24 : decode b_Mo_objectSizeOf 24 = .ok (.goto 4, 3) := by decide +kernel
theorem d_Mo_objectSizeOf_27 : decode b_Mo_objectSizeOf 27 = .ok (.iconst 5, 1) := by decide +kernel
theorem d_Mo_objectSizeOf_28 : decode b_Mo_objectSizeOf 28 = .ok (.ireturn, 1) := by decide +kernel
set_option maxRecDepth 100000 in
set_option maxHeartbeats 4000000 in
theorem c_Mo_objectSizeOf (l : Launch) (D : va_G) (ca : Nat → ClassId) (L : List Nat) (f0 : Nat → va_E) (sz : Nat) (x1 : Int32) :
    Met l y_Mo_objectSizeOf (Cond.code y_Mo_objectSizeOf b_Mo_objectSizeOf 1 (some .int) :: wg) { frames := 0, cells := 0, slots := 0, locals := 0 } (va_Pc [.int (x1)] (sm_P D cl_all (ty_s ca) ek L f0 sz)) (sm_Qi D (ty_s ca) L f0 sz (fun r u => (∃ n : Nat, r = nI n ∧ 1 ≤ n ∧ n ≤ 5) ∧ u = (L, f0))) 0 0 (va_A (va_pl L f0) sz) := by
  refine sm_start (by decide) (Nat.le_of_ble_eq_true rfl) ?_
  intro p e s m below meth c ls hx hb hml hr hlk hnm hts hown hsz hE hI hl
  have hl : lv_has ls 1 [(0, .int (x1))] := hl
  refine lv_iload_n hx hb d_Mo_objectSizeOf_0 rfl (lv_at hl 0 rfl) ?_
  refine lv_iconst (v := 2) hx hb d_Mo_objectSizeOf_1 (by decide) ?_
  refine lv_icmp_ge (tgt := 9) hx hb d_Mo_objectSizeOf_2 (by decide) (fun c_1 => ?_) (fun c_1 => ?_)
  · refine lv_iload_n hx hb d_Mo_objectSizeOf_9 rfl (lv_at hl 0 rfl) ?_
    refine lv_iconst (v := 2) hx hb d_Mo_objectSizeOf_10 (by decide) ?_
    refine lv_icmp_ne (tgt := 18) hx hb d_Mo_objectSizeOf_11 (by decide) (fun c_2 => ?_) (fun c_2 => ?_)
    · refine lv_iload_n hx hb d_Mo_objectSizeOf_18 rfl (lv_at hl 0 rfl) ?_
      refine lv_iconst (v := 5) hx hb d_Mo_objectSizeOf_19 (by decide) ?_
      refine lv_icmp_ge (tgt := 27) hx hb d_Mo_objectSizeOf_20 (by decide) (fun c_3 => ?_) (fun c_3 => ?_)
      · refine lv_iconst (v := 5) hx hb d_Mo_objectSizeOf_27 (by decide) ?_
        exact sm_iret hx hb hr hlk hI ⟨⟨5, rfl, by omega, by omega⟩, rfl⟩ d_Mo_objectSizeOf_28
      · refine lv_iconst (v := 3) hx hb d_Mo_objectSizeOf_23 (by decide) ?_
        refine lv_goto (tgt := 28) hx hb d_Mo_objectSizeOf_24 (by decide) ?_
        exact sm_iret hx hb hr hlk hI ⟨⟨3, rfl, by omega, by omega⟩, rfl⟩ d_Mo_objectSizeOf_28
    · refine lv_iconst (v := 2) hx hb d_Mo_objectSizeOf_14 (by decide) ?_
      refine lv_goto (tgt := 28) hx hb d_Mo_objectSizeOf_15 (by decide) ?_
      exact sm_iret hx hb hr hlk hI ⟨⟨2, rfl, by omega, by omega⟩, rfl⟩ d_Mo_objectSizeOf_28
  · refine lv_iconst (v := 1) hx hb d_Mo_objectSizeOf_5 (by decide) ?_
    refine lv_goto (tgt := 28) hx hb d_Mo_objectSizeOf_6 (by decide) ?_
    exact sm_iret hx hb hr hlk hI ⟨⟨1, rfl, by omega, by omega⟩, rfl⟩ d_Mo_objectSizeOf_28
theorem d_Mo_payload_0 : decode b_Mo_payload 0 = .ok (.iload_n 0, 1) := by decide +kernel
theorem d_Mo_payload_1 : decode b_Mo_payload 1 = .ok (.bipush 50, 2) := by decide +kernel
theorem d_Mo_payload_3 : decode b_Mo_payload 3 = .ok (.if_icmp .ne 7, 3) := by decide +kernel
theorem d_Mo_payload_6 : decode b_Mo_payload 6 = .ok (.iconst 5, 1) := by decide +kernel
theorem d_Mo_payload_7 : decode b_Mo_payload 7 = .ok (.goto 35, 3) := by decide +kernel
theorem d_Mo_payload_10 : decode b_Mo_payload 10 = .ok (.iload_n 0, 1) := by decide +kernel
theorem d_Mo_payload_11 : decode b_Mo_payload 11 = .ok (.bipush 102, 2) := by decide +kernel
theorem d_Mo_payload_13 : decode b_Mo_payload 13 = .ok (.if_icmp .ne 7, 3) := by decide +kernel
theorem d_Mo_payload_16 : decode b_Mo_payload 16 = .ok (.iconst 0, 1) := by decide +kernel
theorem d_Mo_payload_17 : decode b_Mo_payload 17 = .ok (.goto 25, 3) := by decide +kernel
theorem d_Mo_payload_20 : decode b_Mo_payload 20 = .ok (.iload_n 0, 1) := by decide +kernel
theorem d_Mo_payload_21 : decode b_Mo_payload 21 = .ok (.bipush 103, 2) := by decide +kernel
theorem d_Mo_payload_23 : decode b_Mo_payload 23 = .ok (.if_icmp .ne 8, 3) := by decide +kernel
theorem d_Mo_payload_26 : decode b_Mo_payload 26 = .ok (.bipush 7, 2) := by decide +kernel
theorem d_Mo_payload_28 : decode b_Mo_payload 28 = .ok (.goto 14, 3) := by decide +kernel
theorem d_Mo_payload_31 : decode b_Mo_payload 31 = .ok (.iload_n 0, 1) := by decide +kernel
theorem d_Mo_payload_32 : decode b_Mo_payload 32 = .ok (.bipush 104, 2) := by decide +kernel
theorem d_Mo_payload_34 : decode b_Mo_payload 34 = .ok (.if_icmp .ne 7, 3) := by decide +kernel
theorem d_Mo_payload_37 : decode b_Mo_payload 37 = .ok (.iconst 2, 1) := by decide +kernel
theorem d_Mo_payload_38 : decode b_Mo_payload 38 = .ok (.goto 4, 3) := by decide +kernel
theorem d_Mo_payload_41 : decode b_Mo_payload 41 = .ok (.iconst 1, 1) := by decide +kernel
theorem d_Mo_payload_42 : decode b_Mo_payload 42 = .ok (.ireturn, 1) := by decide +kernel
set_option maxRecDepth 100000 in
set_option maxHeartbeats 4000000 in
theorem c_Mo_payload (l : Launch) (D : va_G) (ca : Nat → ClassId) (L : List Nat) (f0 : Nat → va_E) (sz : Nat) (x1 : Int32) :
    Met l y_Mo_payload (Cond.code y_Mo_payload b_Mo_payload 1 (some .int) :: wg) { frames := 0, cells := 0, slots := 0, locals := 0 } (va_Pc [.int (x1)] (sm_P D cl_all (ty_s ca) ek L f0 sz)) (sm_Qi D (ty_s ca) L f0 sz (fun r u => (∃ n : Nat, r = nI n ∧ 0 ≤ n ∧ n ≤ 7) ∧ u = (L, f0))) 0 0 (va_A (va_pl L f0) sz) := by
  refine sm_start (by decide) (Nat.le_of_ble_eq_true rfl) ?_
  intro p e s m below meth c ls hx hb hml hr hlk hnm hts hown hsz hE hI hl
  have hl : lv_has ls 1 [(0, .int (x1))] := hl
  refine lv_iload_n hx hb d_Mo_payload_0 rfl (lv_at hl 0 rfl) ?_
  refine lv_bipush (v := 50) hx hb d_Mo_payload_1 (by decide) ?_
  refine lv_icmp_ne (tgt := 10) hx hb d_Mo_payload_3 (by decide) (fun c_1 => ?_) (fun c_1 => ?_)
  · refine lv_iload_n hx hb d_Mo_payload_10 rfl (lv_at hl 0 rfl) ?_
    refine lv_bipush (v := 102) hx hb d_Mo_payload_11 (by decide) ?_
    refine lv_icmp_ne (tgt := 20) hx hb d_Mo_payload_13 (by decide) (fun c_2 => ?_) (fun c_2 => ?_)
    · refine lv_iload_n hx hb d_Mo_payload_20 rfl (lv_at hl 0 rfl) ?_
      refine lv_bipush (v := 103) hx hb d_Mo_payload_21 (by decide) ?_
      refine lv_icmp_ne (tgt := 31) hx hb d_Mo_payload_23 (by decide) (fun c_3 => ?_) (fun c_3 => ?_)
      · refine lv_iload_n hx hb d_Mo_payload_31 rfl (lv_at hl 0 rfl) ?_
        refine lv_bipush (v := 104) hx hb d_Mo_payload_32 (by decide) ?_
        refine lv_icmp_ne (tgt := 41) hx hb d_Mo_payload_34 (by decide) (fun c_4 => ?_) (fun c_4 => ?_)
        · refine lv_iconst (v := 1) hx hb d_Mo_payload_41 (by decide) ?_
          exact sm_iret hx hb hr hlk hI ⟨⟨1, rfl, by omega, by omega⟩, rfl⟩ d_Mo_payload_42
        · refine lv_iconst (v := 2) hx hb d_Mo_payload_37 (by decide) ?_
          refine lv_goto (tgt := 42) hx hb d_Mo_payload_38 (by decide) ?_
          exact sm_iret hx hb hr hlk hI ⟨⟨2, rfl, by omega, by omega⟩, rfl⟩ d_Mo_payload_42
      · refine lv_bipush (v := 7) hx hb d_Mo_payload_26 (by decide) ?_
        refine lv_goto (tgt := 42) hx hb d_Mo_payload_28 (by decide) ?_
        exact sm_iret hx hb hr hlk hI ⟨⟨7, rfl, by omega, by omega⟩, rfl⟩ d_Mo_payload_42
    · refine lv_iconst (v := 0) hx hb d_Mo_payload_16 (by decide) ?_
      refine lv_goto (tgt := 42) hx hb d_Mo_payload_17 (by decide) ?_
      exact sm_iret hx hb hr hlk hI ⟨⟨0, rfl, by omega, by omega⟩, rfl⟩ d_Mo_payload_42
  · refine lv_iconst (v := 5) hx hb d_Mo_payload_6 (by decide) ?_
    refine lv_goto (tgt := 42) hx hb d_Mo_payload_7 (by decide) ?_
    exact sm_iret hx hb hr hlk hI ⟨⟨5, rfl, by omega, by omega⟩, rfl⟩ d_Mo_payload_42
theorem d_Mo_says_0 : decode b_Mo_says 0 = .ok (.aload_n 0, 1) := by decide +kernel
theorem d_Mo_says_1 : decode b_Mo_says 1 = .ok (.iload_n 1, 1) := by decide +kernel
theorem d_Mo_says_2 : decode b_Mo_says 2 = .ok (.ifCond .eq 7, 3) := by decide +kernel
theorem d_Mo_says_5 : decode b_Mo_says 5 = .ok (.iconst 0, 1) := by decide +kernel
theorem d_Mo_says_6 : decode b_Mo_says 6 = .ok (.goto 4, 3) := by decide +kernel
theorem d_Mo_says_9 : decode b_Mo_says 9 = .ok (.iconst 1, 1) := by decide +kernel
theorem d_Mo_says_10 : decode b_Mo_says 10 = .ok (.putfield 179, 3) := by decide +kernel
theorem d_Mo_says_13 : decode b_Mo_says 13 = .ok (.iload_n 1, 1) := by decide +kernel
theorem d_Mo_says_14 : decode b_Mo_says 14 = .ok (.ireturn, 1) := by decide +kernel
set_option maxRecDepth 100000 in
set_option maxHeartbeats 4000000 in
theorem c_Mo_says (l : Launch) (D : va_G) (ca : Nat → ClassId) (ad : Nat → Nat) (L : List Nat) (f0 : Nat → va_E) (sz : Nat) (σ0 : mq_S) (hM : mq_B ca ad σ0 L f0) (x1 : Int32) (p1 : x1 = 0 ∨ x1 = 1) :
    Met l y_Mo_says (Cond.code y_Mo_says b_Mo_says 2 (some .boolean) :: wg) { frames := 0, cells := 0, slots := 0, locals := 0 } (va_Pc [.ref (ad 71), .int (x1)] (sm_P D cl_all (ty_s ca) ek L f0 sz)) (sm_Qi D (ty_s ca) L f0 sz (fun r u => mq_po ca ad L σ0 [0] (fun σ => (r = 0 ∨ r = 1) ∧ True) u)) 0 0 (va_A (va_pl L f0) sz) := by
  refine sm_start (by decide) (Nat.le_of_ble_eq_true rfl) ?_
  intro p e s m below meth c ls hx hb hml hr hlk hnm hts hown hsz hE hI hl
  have hl : lv_has ls 2 [(0, .ref (ad 71)), (1, .int (x1))] := hl
  have hF : mq_fr [0] σ0 σ0 := mq_fr_rf
  refine lv_aload_n hx hb d_Mo_says_0 rfl (lv_at hl 0 rfl) ?_
  refine lv_iload_n hx hb d_Mo_says_1 rfl (lv_at hl 1 rfl) ?_
  refine lv_if_eq (tgt := 9) hx hb d_Mo_says_2 (by decide) (fun c_1 => ?_) (fun c_1 => ?_)
  · refine lv_iconst (v := 1) hx hb d_Mo_says_9 (by decide) ?_
    refine mq_puti (k := 0) (ty := .int) hx hb hts hown hI hM (by decide) rfl rfl (hts _ tw_1169) rfl (by decide +kernel) rfl rfl trivial d_Mo_says_10 (fun H locs f σ_2 e_3 hI hM => ?_)
    have hF := mq_fr_ui hF e_3 rfl
    refine lv_iload_n hx hb d_Mo_says_13 rfl (lv_at hl 1 rfl) ?_
    exact sm_zret hx hb hr hlk hI p1 ⟨σ_2, rfl, hM, hF, ⟨p1, trivial⟩⟩ d_Mo_says_14
  · refine lv_iconst (v := 0) hx hb d_Mo_says_5 (by decide) ?_
    refine lv_goto (tgt := 10) hx hb d_Mo_says_6 (by decide) ?_
    refine mq_puti (k := 0) (ty := .int) hx hb hts hown hI hM (by decide) rfl rfl (hts _ tw_1169) rfl (by decide +kernel) rfl rfl trivial d_Mo_says_10 (fun H locs f σ_4 e_5 hI hM => ?_)
    have hF := mq_fr_ui hF e_5 rfl
    refine lv_iload_n hx hb d_Mo_says_13 rfl (lv_at hl 1 rfl) ?_
    exact sm_zret hx hb hr hlk hI p1 ⟨σ_4, rfl, hM, hF, ⟨p1, trivial⟩⟩ d_Mo_says_14
theorem d_Mo_slot_0 : decode b_Mo_slot 0 = .ok (.iload_n 1, 1) := by decide +kernel
theorem d_Mo_slot_1 : decode b_Mo_slot 1 = .ok (.bipush 16, 2) := by decide +kernel
theorem d_Mo_slot_3 : decode b_Mo_slot 3 = .ok (.imul, 1) := by decide +kernel
theorem d_Mo_slot_4 : decode b_Mo_slot 4 = .ok (.iload_n 2, 1) := by decide +kernel
theorem d_Mo_slot_5 : decode b_Mo_slot 5 = .ok (.iadd, 1) := by decide +kernel
theorem d_Mo_slot_6 : decode b_Mo_slot 6 = .ok (.ireturn, 1) := by decide +kernel
set_option maxRecDepth 100000 in
set_option maxHeartbeats 4000000 in
theorem c_Mo_slot (l : Launch) (D : va_G) (ca : Nat → ClassId) (ad : Nat → Nat) (L : List Nat) (f0 : Nat → va_E) (sz : Nat) (σ0 : mq_S) (hM : mq_B ca ad σ0 L f0) (j1 : Nat) (q1 : j1 ≤ 3) (j2 : Nat) (q2 : j2 ≤ 16) :
    Met l y_Mo_slot (Cond.code y_Mo_slot b_Mo_slot 3 (some .int) :: wg) { frames := 0, cells := 0, slots := 0, locals := 0 } (va_Pc [.ref (ad 71), .int (nI j1), .int (nI j2)] (sm_P D cl_all (ty_s ca) ek L f0 sz)) (sm_Qi D (ty_s ca) L f0 sz (fun r u => (r = nI (j1 * 16 + j2)) ∧ u = (L, f0))) 0 0 (va_A (va_pl L f0) sz) := by
  refine sm_start (by decide) (Nat.le_of_ble_eq_true rfl) ?_
  intro p e s m below meth c ls hx hb hml hr hlk hnm hts hown hsz hE hI hl
  have hl : lv_has ls 3 [(0, .ref (ad 71)), (1, .int (nI j1)), (2, .int (nI j2))] := hl
  refine lv_iload_n hx hb d_Mo_slot_0 rfl (lv_at hl 1 rfl) ?_
  refine lv_bipush (v := 16) hx hb d_Mo_slot_1 (by decide) ?_
  refine lv_imul hx hb d_Mo_slot_3 ?_
  refine lv_topi (fun x_1 e_2 => ?_)
  obtain rfl : x_1 = nI (j1 * 16) := by rw [e_2]; exact pk_mul _ _
  refine lv_iload_n hx hb d_Mo_slot_4 rfl (lv_at hl 2 rfl) ?_
  refine lv_iadd hx hb d_Mo_slot_5 ?_
  refine lv_topi (fun x_3 e_4 => ?_)
  obtain rfl : x_3 = nI ((j1 * 16) + j2) := by rw [e_4]; exact nI_add _ _
  exact sm_iret hx hb hr hlk hI ⟨(show _ = nI _ from congrArg nI (by omega)), rfl⟩ d_Mo_slot_6
theorem d_Mo_causeBytes_0 : decode b_Mo_causeBytes 0 = .ok (.iload_n 1, 1) := by decide +kernel
theorem d_Mo_causeBytes_1 : decode b_Mo_causeBytes 1 = .ok (.iconst 3, 1) := by decide +kernel
theorem d_Mo_causeBytes_2 : decode b_Mo_causeBytes 2 = .ok (.if_icmp .ne 10, 3) := by decide +kernel
theorem d_Mo_causeBytes_5 : decode b_Mo_causeBytes 5 = .ok (.aload_n 0, 1) := by decide +kernel
theorem d_Mo_causeBytes_6 : decode b_Mo_causeBytes 6 = .ok (.getfield 96, 3) := by decide +kernel
theorem d_Mo_causeBytes_9 : decode b_Mo_causeBytes 9 = .ok (.goto 4, 3) := by decide +kernel
theorem d_Mo_causeBytes_12 : decode b_Mo_causeBytes 12 = .ok (.iconst 2, 1) := by decide +kernel
theorem d_Mo_causeBytes_13 : decode b_Mo_causeBytes 13 = .ok (.ireturn, 1) := by decide +kernel
set_option maxRecDepth 100000 in
set_option maxHeartbeats 4000000 in
theorem c_Mo_causeBytes (l : Launch) (D : va_G) (ca : Nat → ClassId) (ad : Nat → Nat) (L : List Nat) (f0 : Nat → va_E) (sz : Nat) (σ0 : mq_S) (hM : mq_B ca ad σ0 L f0) (x1 : Int32) :
    Met l y_Mo_causeBytes (Cond.code y_Mo_causeBytes b_Mo_causeBytes 2 (some .int) :: wg) { frames := 0, cells := 0, slots := 0, locals := 0 } (va_Pc [.ref (ad 71), .int (x1)] (sm_P D cl_all (ty_s ca) ek L f0 sz)) (sm_Qi D (ty_s ca) L f0 sz (fun r u => (∃ n : Nat, r = nI n ∧ 1 ≤ n ∧ n ≤ 2 ∧ n = mq_fz σ0 36 x1 2) ∧ u = (L, f0))) 0 0 (va_A (va_pl L f0) sz) := by
  refine sm_start (by decide) (Nat.le_of_ble_eq_true rfl) ?_
  intro p e s m below meth c ls hx hb hml hr hlk hnm hts hown hsz hE hI hl
  have hl : lv_has ls 2 [(0, .ref (ad 71)), (1, .int (x1))] := hl
  refine lv_iload_n hx hb d_Mo_causeBytes_0 rfl (lv_at hl 1 rfl) ?_
  refine lv_iconst (v := 3) hx hb d_Mo_causeBytes_1 (by decide) ?_
  refine lv_icmp_ne (tgt := 12) hx hb d_Mo_causeBytes_2 (by decide) (fun c_1 => ?_) (fun c_1 => ?_)
  · refine lv_iconst (v := 2) hx hb d_Mo_causeBytes_12 (by decide) ?_
    exact sm_iret hx hb hr hlk hI ⟨⟨2, rfl, by omega, by omega, mq_fz0 c_1⟩, rfl⟩ d_Mo_causeBytes_13
  · refine lv_aload_n hx hb d_Mo_causeBytes_5 rfl (lv_at hl 0 rfl) ?_
    obtain ⟨n_2, h_3, h_4, e_5⟩ := hM.2.2.2.2.1 36
    refine mq_get (k := 36) (v := .int (nI n_2)) hx hb hts hown hI hM (by decide) (congrArg (fun z => some (Value.int z)) e_5) rfl (hts _ tw_1205) d_Mo_causeBytes_6 ?_
    refine lv_goto (tgt := 13) hx hb d_Mo_causeBytes_9 (by decide) ?_
    exact sm_iret hx hb hr hlk hI ⟨⟨n_2, rfl, by omega, by omega, mq_fz1 c_1 e_5 (by omega)⟩, rfl⟩ d_Mo_causeBytes_13
theorem d_Mo_stationBytes_0 : decode b_Mo_stationBytes 0 = .ok (.iload_n 1, 1) := by decide +kernel
theorem d_Mo_stationBytes_1 : decode b_Mo_stationBytes 1 = .ok (.iconst 3, 1) := by decide +kernel
theorem d_Mo_stationBytes_2 : decode b_Mo_stationBytes 2 = .ok (.if_icmp .ne 10, 3) := by decide +kernel
theorem d_Mo_stationBytes_5 : decode b_Mo_stationBytes 5 = .ok (.aload_n 0, 1) := by decide +kernel
theorem d_Mo_stationBytes_6 : decode b_Mo_stationBytes 6 = .ok (.getfield 100, 3) := by decide +kernel
theorem d_Mo_stationBytes_9 : decode b_Mo_stationBytes 9 = .ok (.goto 4, 3) := by decide +kernel
theorem d_Mo_stationBytes_12 : decode b_Mo_stationBytes 12 = .ok (.iconst 2, 1) := by decide +kernel
theorem d_Mo_stationBytes_13 : decode b_Mo_stationBytes 13 = .ok (.ireturn, 1) := by decide +kernel
set_option maxRecDepth 100000 in
set_option maxHeartbeats 4000000 in
theorem c_Mo_stationBytes (l : Launch) (D : va_G) (ca : Nat → ClassId) (ad : Nat → Nat) (L : List Nat) (f0 : Nat → va_E) (sz : Nat) (σ0 : mq_S) (hM : mq_B ca ad σ0 L f0) (x1 : Int32) :
    Met l y_Mo_stationBytes (Cond.code y_Mo_stationBytes b_Mo_stationBytes 2 (some .int) :: wg) { frames := 0, cells := 0, slots := 0, locals := 0 } (va_Pc [.ref (ad 71), .int (x1)] (sm_P D cl_all (ty_s ca) ek L f0 sz)) (sm_Qi D (ty_s ca) L f0 sz (fun r u => (∃ n : Nat, r = nI n ∧ 1 ≤ n ∧ n ≤ 2 ∧ n = mq_fz σ0 37 x1 2) ∧ u = (L, f0))) 0 0 (va_A (va_pl L f0) sz) := by
  refine sm_start (by decide) (Nat.le_of_ble_eq_true rfl) ?_
  intro p e s m below meth c ls hx hb hml hr hlk hnm hts hown hsz hE hI hl
  have hl : lv_has ls 2 [(0, .ref (ad 71)), (1, .int (x1))] := hl
  refine lv_iload_n hx hb d_Mo_stationBytes_0 rfl (lv_at hl 1 rfl) ?_
  refine lv_iconst (v := 3) hx hb d_Mo_stationBytes_1 (by decide) ?_
  refine lv_icmp_ne (tgt := 12) hx hb d_Mo_stationBytes_2 (by decide) (fun c_1 => ?_) (fun c_1 => ?_)
  · refine lv_iconst (v := 2) hx hb d_Mo_stationBytes_12 (by decide) ?_
    exact sm_iret hx hb hr hlk hI ⟨⟨2, rfl, by omega, by omega, mq_fz0 c_1⟩, rfl⟩ d_Mo_stationBytes_13
  · refine lv_aload_n hx hb d_Mo_stationBytes_5 rfl (lv_at hl 0 rfl) ?_
    obtain ⟨n_2, h_3, h_4, e_5⟩ := hM.2.2.2.2.1 37
    refine mq_get (k := 37) (v := .int (nI n_2)) hx hb hts hown hI hM (by decide) (congrArg (fun z => some (Value.int z)) e_5) rfl (hts _ tw_1206) d_Mo_stationBytes_6 ?_
    refine lv_goto (tgt := 13) hx hb d_Mo_stationBytes_9 (by decide) ?_
    exact sm_iret hx hb hr hlk hI ⟨⟨n_2, rfl, by omega, by omega, mq_fz1 c_1 e_5 (by omega)⟩, rfl⟩ d_Mo_stationBytes_13
theorem d_Mo_objectBytes_0 : decode b_Mo_objectBytes 0 = .ok (.iload_n 1, 1) := by decide +kernel
theorem d_Mo_objectBytes_1 : decode b_Mo_objectBytes 1 = .ok (.iconst 3, 1) := by decide +kernel
theorem d_Mo_objectBytes_2 : decode b_Mo_objectBytes 2 = .ok (.if_icmp .ne 10, 3) := by decide +kernel
theorem d_Mo_objectBytes_5 : decode b_Mo_objectBytes 5 = .ok (.aload_n 0, 1) := by decide +kernel
theorem d_Mo_objectBytes_6 : decode b_Mo_objectBytes 6 = .ok (.getfield 103, 3) := by decide +kernel
theorem d_Mo_objectBytes_9 : decode b_Mo_objectBytes 9 = .ok (.goto 4, 3) := by decide +kernel
theorem d_Mo_objectBytes_12 : decode b_Mo_objectBytes 12 = .ok (.iconst 3, 1) := by decide +kernel
theorem d_Mo_objectBytes_13 : decode b_Mo_objectBytes 13 = .ok (.ireturn, 1) := by decide +kernel
set_option maxRecDepth 100000 in
set_option maxHeartbeats 4000000 in
theorem c_Mo_objectBytes (l : Launch) (D : va_G) (ca : Nat → ClassId) (ad : Nat → Nat) (L : List Nat) (f0 : Nat → va_E) (sz : Nat) (σ0 : mq_S) (hM : mq_B ca ad σ0 L f0) (x1 : Int32) :
    Met l y_Mo_objectBytes (Cond.code y_Mo_objectBytes b_Mo_objectBytes 2 (some .int) :: wg) { frames := 0, cells := 0, slots := 0, locals := 0 } (va_Pc [.ref (ad 71), .int (x1)] (sm_P D cl_all (ty_s ca) ek L f0 sz)) (sm_Qi D (ty_s ca) L f0 sz (fun r u => (∃ n : Nat, r = nI n ∧ 1 ≤ n ∧ n ≤ 3 ∧ n = mq_fz σ0 38 x1 3) ∧ u = (L, f0))) 0 0 (va_A (va_pl L f0) sz) := by
  refine sm_start (by decide) (Nat.le_of_ble_eq_true rfl) ?_
  intro p e s m below meth c ls hx hb hml hr hlk hnm hts hown hsz hE hI hl
  have hl : lv_has ls 2 [(0, .ref (ad 71)), (1, .int (x1))] := hl
  refine lv_iload_n hx hb d_Mo_objectBytes_0 rfl (lv_at hl 1 rfl) ?_
  refine lv_iconst (v := 3) hx hb d_Mo_objectBytes_1 (by decide) ?_
  refine lv_icmp_ne (tgt := 12) hx hb d_Mo_objectBytes_2 (by decide) (fun c_1 => ?_) (fun c_1 => ?_)
  · refine lv_iconst (v := 3) hx hb d_Mo_objectBytes_12 (by decide) ?_
    exact sm_iret hx hb hr hlk hI ⟨⟨3, rfl, by omega, by omega, mq_fz0 c_1⟩, rfl⟩ d_Mo_objectBytes_13
  · refine lv_aload_n hx hb d_Mo_objectBytes_5 rfl (lv_at hl 0 rfl) ?_
    obtain ⟨n_2, h_3, h_4, e_5⟩ := hM.2.2.2.2.1 38
    refine mq_get (k := 38) (v := .int (nI n_2)) hx hb hts hown hI hM (by decide) (congrArg (fun z => some (Value.int z)) e_5) rfl (hts _ tw_1207) d_Mo_objectBytes_6 ?_
    refine lv_goto (tgt := 13) hx hb d_Mo_objectBytes_9 (by decide) ?_
    exact sm_iret hx hb hr hlk hI ⟨⟨n_2, rfl, by omega, by omega, mq_fz1 c_1 e_5 (by omega)⟩, rfl⟩ d_Mo_objectBytes_13
theorem d_Mo_headBytes_0 : decode b_Mo_headBytes 0 = .ok (.iconst 2, 1) := by decide +kernel
theorem d_Mo_headBytes_1 : decode b_Mo_headBytes 1 = .ok (.aload_n 0, 1) := by decide +kernel
theorem d_Mo_headBytes_2 : decode b_Mo_headBytes 2 = .ok (.iload_n 1, 1) := by decide +kernel
theorem d_Mo_headBytes_3 : decode b_Mo_headBytes 3 = .ok (.invokevirtual 265, 3) := by decide +kernel
theorem d_Mo_headBytes_6 : decode b_Mo_headBytes 6 = .ok (.iadd, 1) := by decide +kernel
theorem d_Mo_headBytes_7 : decode b_Mo_headBytes 7 = .ok (.aload_n 0, 1) := by decide +kernel
theorem d_Mo_headBytes_8 : decode b_Mo_headBytes 8 = .ok (.iload_n 1, 1) := by decide +kernel
theorem d_Mo_headBytes_9 : decode b_Mo_headBytes 9 = .ok (.invokevirtual 269, 3) := by decide +kernel
theorem d_Mo_headBytes_12 : decode b_Mo_headBytes 12 = .ok (.iadd, 1) := by decide +kernel
theorem d_Mo_headBytes_13 : decode b_Mo_headBytes 13 = .ok (.ireturn, 1) := by decide +kernel
set_option maxRecDepth 100000 in
set_option maxHeartbeats 4000000 in
theorem c_Mo_headBytes (l : Launch) (D : va_G) (ca : Nat → ClassId) (ad : Nat → Nat) (L : List Nat) (f0 : Nat → va_E) (sz : Nat) (σ0 : mq_S) (hM : mq_B ca ad σ0 L f0) (x1 : Int32) :
    Met l y_Mo_headBytes (Cond.code y_Mo_headBytes b_Mo_headBytes 2 (some .int) :: wg) { frames := 1, cells := 0, slots := 0, locals := 21 } (va_Pc [.ref (ad 71), .int (x1)] (sm_P D cl_all (ty_s ca) ek L f0 sz)) (sm_Qi D (ty_s ca) L f0 sz (fun r u => (∃ n : Nat, r = nI n ∧ 4 ≤ n ∧ n ≤ 6 ∧ n = 2 + mq_fz σ0 36 x1 2 + mq_fz σ0 37 x1 2) ∧ u = (L, f0))) 0 0 (va_A (va_pl L f0) sz) := by
  refine sm_start (by decide) (Nat.le_of_ble_eq_true rfl) ?_
  intro p e s m below meth c ls hx hb hml hr hlk hnm hts hown hsz hE hI hl
  have hl : lv_has ls 2 [(0, .ref (ad 71)), (1, .int (x1))] := hl
  refine lv_iconst (v := 2) hx hb d_Mo_headBytes_0 (by decide) ?_
  refine lv_aload_n hx hb d_Mo_headBytes_1 rfl (lv_at hl 0 rfl) ?_
  refine lv_iload_n hx hb d_Mo_headBytes_2 rfl (lv_at hl 1 rfl) ?_
  refine sm_iP hI (va_runV (As := [.int (x1)]) (rest := [.int (2)]) ⟨hx, hb, hml, hown, hts⟩ (c_Mo_causeBytes l D ca ad L _ _ _ hM x1) (kv_Mo_causeBytes hts rfl rfl (hts _ tw_1454) ⟨Nat.le_of_ble_eq_true rfl, Nat.le_of_ble_eq_true rfl⟩) (pv_Mo hI hE hM) rfl rfl hl.1 rfl (lv_room (Nat.le_of_ble_eq_true rfl)) d_Mo_headBytes_3 ⟨Nat.le_of_ble_eq_true rfl, Nat.le_of_ble_eq_true rfl⟩) (fun x_2 H locs p_1 hI => ?_)
  obtain ⟨n_3, rfl, h_4, h_5, h_6⟩ := p_1
  refine lv_iadd hx hb d_Mo_headBytes_6 ?_
  refine lv_topi (fun x_7 e_8 => ?_)
  obtain rfl : x_7 = nI (2 + n_3) := by rw [e_8]; exact nI_add _ _
  refine lv_aload_n hx hb d_Mo_headBytes_7 rfl (lv_at hl 0 rfl) ?_
  refine lv_iload_n hx hb d_Mo_headBytes_8 rfl (lv_at hl 1 rfl) ?_
  refine sm_iP hI (va_runV (As := [.int (x1)]) (rest := [.int (nI (2 + n_3))]) ⟨hx, hb, hml, hown, hts⟩ (c_Mo_stationBytes l D ca ad L _ _ _ hM x1) (kv_Mo_stationBytes hts rfl rfl (hts _ tw_1458) ⟨Nat.le_of_ble_eq_true rfl, Nat.le_of_ble_eq_true rfl⟩) (pv_Mo hI hE hM) rfl rfl hl.1 rfl (lv_room (Nat.le_of_ble_eq_true rfl)) d_Mo_headBytes_9 ⟨Nat.le_of_ble_eq_true rfl, Nat.le_of_ble_eq_true rfl⟩) (fun x_10 H locs p_9 hI => ?_)
  obtain ⟨n_11, rfl, h_12, h_13, h_14⟩ := p_9
  refine lv_iadd hx hb d_Mo_headBytes_12 ?_
  refine lv_topi (fun x_15 e_16 => ?_)
  obtain rfl : x_15 = nI ((2 + n_3) + n_11) := by rw [e_16]; exact nI_add _ _
  exact sm_iret hx hb hr hlk hI ⟨⟨((2 + n_3) + n_11), rfl, by omega, by omega, by omega⟩, rfl⟩ d_Mo_headBytes_13
theorem d_Mo_add_0 : decode b_Mo_add 0 = .ok (.aload_n 0, 1) := by decide +kernel
theorem d_Mo_add_1 : decode b_Mo_add 1 = .ok (.getfield 172, 3) := by decide +kernel
theorem d_Mo_add_4 : decode b_Mo_add 4 = .ok (.aload_n 0, 1) := by decide +kernel
theorem d_Mo_add_5 : decode b_Mo_add 5 = .ok (.getfield 219, 3) := by decide +kernel
theorem d_Mo_add_8 : decode b_Mo_add 8 = .ok (.iload_n 1, 1) := by decide +kernel
theorem d_Mo_add_9 : decode b_Mo_add 9 = .ok (.sipush 255, 3) := by decide +kernel
theorem d_Mo_add_12 : decode b_Mo_add 12 = .ok (.iand, 1) := by decide +kernel
theorem d_Mo_add_13 : decode b_Mo_add 13 = .ok (.iastore, 1) := by decide +kernel
theorem d_Mo_add_14 : decode b_Mo_add 14 = .ok (.aload_n 0, 1) := by decide +kernel
theorem d_Mo_add_15 : decode b_Mo_add 15 = .ok (.dup, 1) := by decide +kernel
theorem d_Mo_add_16 : decode b_Mo_add 16 = .ok (.getfield 219, 3) := by decide +kernel
theorem d_Mo_add_19 : decode b_Mo_add 19 = .ok (.iconst 1, 1) := by decide +kernel
theorem d_Mo_add_20 : decode b_Mo_add 20 = .ok (.iadd, 1) := by decide +kernel
theorem d_Mo_add_21 : decode b_Mo_add 21 = .ok (.putfield 219, 3) := by decide +kernel
theorem d_Mo_add_24 : decode b_Mo_add 24 = .ok (.return_, 1) := by decide +kernel
set_option maxRecDepth 100000 in
set_option maxHeartbeats 4000000 in
theorem c_Mo_add (l : Launch) (D : va_G) (ca : Nat → ClassId) (ad : Nat → Nat) (L : List Nat) (f0 : Nat → va_E) (sz : Nat) (σ0 : mq_S) (hM : mq_B ca ad σ0 L f0) (x1 : Int32) (z1 : Nat) (o0 : σ0.1 70 = nI z1) (hz : z1 < 260) :
    Met l y_Mo_add (Cond.code y_Mo_add b_Mo_add 2 none :: wg) { frames := 0, cells := 0, slots := 0, locals := 0 } (va_Pc [.ref (ad 71), .int (x1)] (sm_P D cl_all (ty_s ca) ek L f0 sz)) (sm_Qv D (ty_s ca) L f0 sz (fun u => mq_po ca ad L σ0 [69, 70] (fun σ => σ.1 70 = nI (z1 + 1) ∧ True) u)) 0 0 (va_A (va_pl L f0) sz) := by
  refine sm_start (by decide) (Nat.le_of_ble_eq_true rfl) ?_
  intro p e s m below meth c ls hx hb hml hr hlk hnm hts hown hsz hE hI hl
  have hl : lv_has ls 2 [(0, .ref (ad 71)), (1, .int (x1))] := hl
  have hF : mq_fr [69, 70] σ0 σ0 := mq_fr_rf
  refine lv_aload_n hx hb d_Mo_add_0 rfl (lv_at hl 0 rfl) ?_
  refine mq_get (k := 69) (v := .ref (ad 69)) hx hb hts hown hI hM (by decide) rfl rfl (hts _ tw_1238) d_Mo_add_1 ?_
  refine lv_aload_n hx hb d_Mo_add_4 rfl (lv_at hl 0 rfl) ?_
  refine mq_get (k := 70) (v := .int (nI z1)) hx hb hts hown hI hM (by decide) (congrArg (fun z => some (Value.int z)) o0) rfl (hts _ tw_1239) d_Mo_add_5 ?_
  refine lv_iload_n hx hb d_Mo_add_8 rfl (lv_at hl 1 rfl) ?_
  refine lv_sipush (v := 255) hx hb d_Mo_add_9 (by decide) ?_
  refine lv_iand hx hb d_Mo_add_12 ?_
  refine lv_topi (fun x_1 e_2 => ?_)
  refine mq_iast (k := 69) (j := z1) (x := x_1) hx hb hI hM (by decide) rfl (by show z1 < 260; omega) (by decide) trivial d_Mo_add_13 (fun H locs f σ_3 e_4 hI hM => ?_)
  have hF := mq_fr_ug hF e_4 rfl (Or.inl rfl)
  have o_5 : σ_3.1 70 = nI z1 := by rw [e_4]; exact o0
  refine lv_aload_n hx hb d_Mo_add_14 rfl (lv_at hl 0 rfl) ?_
  refine lv_dup hx hb d_Mo_add_15 rfl ?_
  refine mq_get (k := 70) (v := .int (nI z1)) hx hb hts hown hI hM (by decide) (congrArg (fun z => some (Value.int z)) o_5) rfl (hts _ tw_1239) d_Mo_add_16 ?_
  refine lv_iconst (v := 1) hx hb d_Mo_add_19 (by decide) ?_
  refine lv_iadd hx hb d_Mo_add_20 ?_
  refine lv_topi (fun x_6 e_7 => ?_)
  obtain rfl : x_6 = nI (z1 + 1) := by rw [e_7]; exact nI_add _ _
  refine mq_puti (k := 70) (ty := .int) hx hb hts hown hI hM (by decide) rfl rfl (hts _ tw_1239) rfl (by decide +kernel) rfl rfl ⟨(z1 + 1), by omega, by omega, rfl⟩ d_Mo_add_21 (fun H locs f σ_8 e_9 hI hM => ?_)
  have hF := mq_fr_ui hF e_9 rfl
  have o_10 := mq_uik e_9
  exact sm_vret hx hb hr hlk hI ⟨σ_8, rfl, hM, hF, ⟨(Eq.trans o_10 (congrArg nI (show ((z1 + 1) : Nat) = z1 + 1 by omega))), trivial⟩⟩ d_Mo_add_24
theorem d_Mo_addNumber_0 : decode b_Mo_addNumber 0 = .ok (.iconst 0, 1) := by decide +kernel
theorem d_Mo_addNumber_1 : decode b_Mo_addNumber 1 = .ok (.istore_n 3, 1) := by decide +kernel
theorem d_Mo_addNumber_2 : decode b_Mo_addNumber 2 = .ok (.iload_n 3, 1) := by decide +kernel
theorem d_Mo_addNumber_3 : decode b_Mo_addNumber 3 = .ok (.iload_n 2, 1) := by decide +kernel
theorem d_Mo_addNumber_4 : decode b_Mo_addNumber 4 = .ok (.if_icmp .ge 19, 3) := by decide +kernel
theorem d_Mo_addNumber_7 : decode b_Mo_addNumber 7 = .ok (.aload_n 0, 1) := by decide +kernel
theorem d_Mo_addNumber_8 : decode b_Mo_addNumber 8 = .ok (.iload_n 1, 1) := by decide +kernel
theorem d_Mo_addNumber_9 : decode b_Mo_addNumber 9 = .ok (.bipush 8, 2) := by decide +kernel
theorem d_Mo_addNumber_11 : decode b_Mo_addNumber 11 = .ok (.iload_n 3, 1) := by decide +kernel
theorem d_Mo_addNumber_12 : decode b_Mo_addNumber 12 = .ok (.imul, 1) := by decide +kernel
theorem d_Mo_addNumber_13 : decode b_Mo_addNumber 13 = .ok (.ishr, 1) := by decide +kernel
theorem d_Mo_addNumber_14 : decode b_Mo_addNumber 14 = .ok (.invokevirtual 230, 3) := by decide +kernel
theorem d_Mo_addNumber_17 : decode b_Mo_addNumber 17 = .ok (.iinc 3 1, 3) := by decide +kernel
theorem d_Mo_addNumber_20 : decode b_Mo_addNumber 20 = .ok (.goto (-18), 3) := by decide +kernel
theorem d_Mo_addNumber_23 : decode b_Mo_addNumber 23 = .ok (.return_, 1) := by decide +kernel
set_option maxRecDepth 100000 in
set_option maxHeartbeats 4000000 in
theorem c_Mo_addNumber (l : Launch) (D : va_G) (ca : Nat → ClassId) (ad : Nat → Nat) (L : List Nat) (f0 : Nat → va_E) (sz : Nat) (σ0 : mq_S) (hM : mq_B ca ad σ0 L f0) (x1 : Int32) (j2 : Nat) (q2 : j2 ≤ 4) (z1 : Nat) (o0 : σ0.1 70 = nI z1) (hz : z1 + j2 ≤ 260) :
    Met l y_Mo_addNumber (Cond.code y_Mo_addNumber b_Mo_addNumber 4 none :: wg) { frames := 1, cells := 0, slots := 0, locals := 21 } (va_Pc [.ref (ad 71), .int (x1), .int (nI j2)] (sm_P D cl_all (ty_s ca) ek L f0 sz)) (sm_Qv D (ty_s ca) L f0 sz (fun u => mq_po ca ad L σ0 [69, 70] (fun σ => σ.1 70 = nI (z1 + j2) ∧ True) u)) 0 0 (va_A (va_pl L f0) sz) := by
  refine sm_start (by decide) (Nat.le_of_ble_eq_true rfl) ?_
  intro p e s m below meth c ls hx hb hml hr hlk hnm hts hown hsz hE hI hl
  have hl : lv_has ls 4 [(0, .ref (ad 71)), (1, .int (x1)), (2, .int (nI j2))] := hl
  have hF : mq_fr [69, 70] σ0 σ0 := mq_fr_rf
  have hJ_2 : ∀ (N k : Nat) (H : Heap) (locs : List Loc) (f : Nat → va_E) (σ : mq_S) (ls : Array Slot) , j2 + 1 - k ≤ N → k ≤ j2 → sw_I D cl_all (ty_s ca) (va_A (va_pl L f0) sz) s H locs L f → mq_B ca ad σ L f → mq_fr [69, 70] σ0 σ → lv_has ls 4 [(0, .ref (ad 71)), (1, .int (x1)), (2, .int (nI j2)), (3, .int (nI k))] → (σ.1 70 = nI (z1 + k)) → W p l e { frames := 1, cells := 0, slots := 0, locals := 21 } s m ([.ref (ad 71), .int (x1), .int (nI j2)] : List Value).toArray below meth c H locs 0 0 (MQ below (sm_Qv D (ty_s ca) L f0 sz (fun u => mq_po ca ad L σ0 [69, 70] (fun σ => σ.1 70 = nI (z1 + j2) ∧ True) u)) ([.ref (ad 71), .int (x1), .int (nI j2)] : List Value).toArray s 0 0 (va_A (va_pl L f0) sz)) (F0 m 2 ls []) := by
    intro N
    induction N with
    | zero => intros; omega
    | succ N ih =>
      intro k H locs f σ ls  hN hk hI hM hF hl o90
      refine lv_iload_n hx hb d_Mo_addNumber_2 rfl (lv_at hl 3 rfl) ?_
      refine lv_iload_n hx hb d_Mo_addNumber_3 rfl (lv_at hl 2 rfl) ?_
      refine lv_icmp_ge (tgt := 23) hx hb d_Mo_addNumber_4 (by decide) (fun c_1 => ?_) (fun c_1 => ?_)
      · have k_2 : j2 ≤ k := (nI_leI (a := j2) (b := k) (by omega) (by omega)).mp c_1
        exact sm_vret hx hb hr hlk hI ⟨σ, rfl, hM, hF, ⟨(Eq.trans o90 (congrArg nI (show ((z1 + k) : Nat) = z1 + j2 by omega))), trivial⟩⟩ d_Mo_addNumber_23
      · have k_3 : k < j2 := Nat.lt_of_not_le (fun q => c_1 ((nI_leI (a := j2) (b := k) (by omega) (by omega)).mpr q))
        refine lv_aload_n hx hb d_Mo_addNumber_7 rfl (lv_at hl 0 rfl) ?_
        refine lv_iload_n hx hb d_Mo_addNumber_8 rfl (lv_at hl 1 rfl) ?_
        refine lv_bipush (v := 8) hx hb d_Mo_addNumber_9 (by decide) ?_
        refine lv_iload_n hx hb d_Mo_addNumber_11 rfl (lv_at hl 3 rfl) ?_
        refine lv_imul hx hb d_Mo_addNumber_12 ?_
        refine lv_topi (fun x_4 e_5 => ?_)
        obtain rfl : x_4 = nI (8 * k) := by rw [e_5]; exact pk_mul _ _
        refine lv_ishr hx hb d_Mo_addNumber_13 ?_
        refine lv_topi (fun x_6 e_7 => ?_)
        refine sm_vM hI (va_runV (As := [.int (x_6)]) (rest := []) ⟨hx, hb, hml, hown, hts⟩ (c_Mo_add l D ca ad L _ _ _ hM x_6 ((z1 + k)) o90 (by omega)) (kv_Mo_add hts rfl rfl (hts _ tw_1477) ⟨Nat.le_of_ble_eq_true rfl, Nat.le_of_ble_eq_true rfl⟩) (pv_Mo hI hE hM) rfl rfl hl.1 rfl (lv_room (Nat.le_of_ble_eq_true rfl)) d_Mo_addNumber_14 ⟨Nat.le_of_ble_eq_true rfl, Nat.le_of_ble_eq_true rfl⟩) (fun H locs f σ_9 hI hM hF_10 p_8 => ?_)
        have hF := mq_fr_tr hF hF_10 (by decide)
        obtain ⟨o_11, -⟩ := p_8
        refine lv_iinc (v := nI (k + 1)) (lv' := [(3, .int (nI (k + 1))), (0, .ref (ad 71)), (1, .int (x1)), (2, .int (nI j2))]) hx hb d_Mo_addNumber_17 hl (k := 3) rfl (nI_1 _) (by decide) rfl (fun ls hl => ?_)
        refine lv_goto (tgt := 2) hx hb d_Mo_addNumber_20 (by decide) ?_
        exact ih ((k + 1)) _ _ _ _ _  (by omega) (by omega) hI hM hF (lv_sub hl [1, 2, 3, 0] rfl) (Eq.trans o_11 (congrArg nI (show ((((z1 + k)) + 1) : Nat) = _ by omega)))
  refine lv_iconst (v := 0) hx hb d_Mo_addNumber_0 (by decide) ?_
  refine lv_istore_n (lv' := [(3, .int (0)), (0, .ref (ad 71)), (1, .int (x1)), (2, .int (nI j2))]) hx hb d_Mo_addNumber_1 rfl hl (by decide) rfl (fun ls hl => ?_)
  exact hJ_2 _ (0) _ _ _ _ _  (Nat.le_refl _) (by omega) hI hM hF (lv_sub hl [1, 2, 3, 0] rfl) (Eq.trans o0 (congrArg nI (show (z1 : Nat) = _ by omega)))
theorem d_Mo_begin_0 : decode b_Mo_begin 0 = .ok (.aload_n 0, 1) := by decide +kernel
theorem d_Mo_begin_1 : decode b_Mo_begin 1 = .ok (.iconst 0, 1) := by decide +kernel
theorem d_Mo_begin_2 : decode b_Mo_begin 2 = .ok (.putfield 219, 3) := by decide +kernel
theorem d_Mo_begin_5 : decode b_Mo_begin 5 = .ok (.aload_n 0, 1) := by decide +kernel
theorem d_Mo_begin_6 : decode b_Mo_begin 6 = .ok (.iload_n 2, 1) := by decide +kernel
theorem d_Mo_begin_7 : decode b_Mo_begin 7 = .ok (.invokevirtual 230, 3) := by decide +kernel
theorem d_Mo_begin_10 : decode b_Mo_begin 10 = .ok (.aload_n 0, 1) := by decide +kernel
theorem d_Mo_begin_11 : decode b_Mo_begin 11 = .ok (.iload_n 3, 1) := by decide +kernel
theorem d_Mo_begin_12 : decode b_Mo_begin 12 = .ok (.invokevirtual 230, 3) := by decide +kernel
theorem d_Mo_begin_15 : decode b_Mo_begin 15 = .ok (.aload_n 0, 1) := by decide +kernel
theorem d_Mo_begin_16 : decode b_Mo_begin 16 = .ok (.iload 4, 2) := by decide +kernel
theorem d_Mo_begin_18 : decode b_Mo_begin 18 = .ok (.invokevirtual 230, 3) := by decide +kernel
theorem d_Mo_begin_21 : decode b_Mo_begin 21 = .ok (.aload_n 0, 1) := by decide +kernel
theorem d_Mo_begin_22 : decode b_Mo_begin 22 = .ok (.iload_n 1, 1) := by decide +kernel
theorem d_Mo_begin_23 : decode b_Mo_begin 23 = .ok (.invokevirtual 265, 3) := by decide +kernel
theorem d_Mo_begin_26 : decode b_Mo_begin 26 = .ok (.iconst 2, 1) := by decide +kernel
theorem d_Mo_begin_27 : decode b_Mo_begin 27 = .ok (.if_icmp .ne 9, 3) := by decide +kernel
theorem d_Mo_begin_30 : decode b_Mo_begin 30 = .ok (.aload_n 0, 1) := by decide +kernel
theorem d_Mo_begin_31 : decode b_Mo_begin 31 = .ok (.iload 5, 2) := by decide +kernel
theorem d_Mo_begin_33 : decode b_Mo_begin 33 = .ok (.invokevirtual 230, 3) := by decide +kernel
theorem d_Mo_begin_36 : decode b_Mo_begin 36 = .ok (.aload_n 0, 1) := by decide +kernel
theorem d_Mo_begin_37 : decode b_Mo_begin 37 = .ok (.aload_n 0, 1) := by decide +kernel
theorem d_Mo_begin_38 : decode b_Mo_begin 38 = .ok (.getfield 176, 3) := by decide +kernel
theorem d_Mo_begin_41 : decode b_Mo_begin 41 = .ok (.aload_n 0, 1) := by decide +kernel
theorem d_Mo_begin_42 : decode b_Mo_begin 42 = .ok (.iload_n 1, 1) := by decide +kernel
theorem d_Mo_begin_43 : decode b_Mo_begin 43 = .ok (.invokevirtual 269, 3) := by decide +kernel
theorem d_Mo_begin_46 : decode b_Mo_begin 46 = .ok (.invokevirtual 272, 3) := by decide +kernel
theorem d_Mo_begin_49 : decode b_Mo_begin 49 = .ok (.return_, 1) := by decide +kernel
set_option maxRecDepth 100000 in
set_option maxHeartbeats 4000000 in
theorem c_Mo_begin (l : Launch) (D : va_G) (ca : Nat → ClassId) (ad : Nat → Nat) (L : List Nat) (f0 : Nat → va_E) (sz : Nat) (σ0 : mq_S) (hM : mq_B ca ad σ0 L f0) (x1 : Int32) (x2 : Int32) (x3 : Int32) (x4 : Int32) (x5 : Int32) :
    Met l y_Mo_begin (Cond.code y_Mo_begin b_Mo_begin 6 none :: wg) { frames := 2, cells := 0, slots := 0, locals := 44 } (va_Pc [.ref (ad 71), .int (x1), .int (x2), .int (x3), .int (x4), .int (x5)] (sm_P D cl_all (ty_s ca) ek L f0 sz)) (sm_Qv D (ty_s ca) L f0 sz (fun u => mq_po ca ad L σ0 [69, 70] (fun σ => (∃ n : Nat, 3 ≤ n ∧ n ≤ 6 ∧ σ.1 70 = nI n) ∧ True) u)) 0 0 (va_A (va_pl L f0) sz) := by
  refine sm_start (by decide) (Nat.le_of_ble_eq_true rfl) ?_
  intro p e s m below meth c ls hx hb hml hr hlk hnm hts hown hsz hE hI hl
  have hl : lv_has ls 6 [(0, .ref (ad 71)), (1, .int (x1)), (2, .int (x2)), (3, .int (x3)), (4, .int (x4)), (5, .int (x5))] := hl
  have hF : mq_fr [69, 70] σ0 σ0 := mq_fr_rf
  refine lv_aload_n hx hb d_Mo_begin_0 rfl (lv_at hl 0 rfl) ?_
  refine lv_iconst (v := 0) hx hb d_Mo_begin_1 (by decide) ?_
  refine mq_puti (k := 70) (ty := .int) hx hb hts hown hI hM (by decide) rfl rfl (hts _ tw_1239) rfl (by decide +kernel) rfl rfl ⟨0, by decide, by decide, rfl⟩ d_Mo_begin_2 (fun H locs f σ_1 e_2 hI hM => ?_)
  have hF := mq_fr_ui hF e_2 rfl
  have o_3 := mq_uik e_2
  refine lv_aload_n hx hb d_Mo_begin_5 rfl (lv_at hl 0 rfl) ?_
  refine lv_iload_n hx hb d_Mo_begin_6 rfl (lv_at hl 2 rfl) ?_
  refine sm_vM hI (va_runV (As := [.int (x2)]) (rest := []) ⟨hx, hb, hml, hown, hts⟩ (c_Mo_add l D ca ad L _ _ _ hM x2 (0) o_3 (by omega)) (kv_Mo_add hts rfl rfl (hts _ tw_1477) ⟨Nat.le_of_ble_eq_true rfl, Nat.le_of_ble_eq_true rfl⟩) (pv_Mo hI hE hM) rfl rfl hl.1 rfl (lv_room (Nat.le_of_ble_eq_true rfl)) d_Mo_begin_7 ⟨Nat.le_of_ble_eq_true rfl, Nat.le_of_ble_eq_true rfl⟩) (fun H locs f σ_5 hI hM hF_6 p_4 => ?_)
  have hF := mq_fr_tr hF hF_6 (by decide)
  obtain ⟨o_7, -⟩ := p_4
  refine lv_aload_n hx hb d_Mo_begin_10 rfl (lv_at hl 0 rfl) ?_
  refine lv_iload_n hx hb d_Mo_begin_11 rfl (lv_at hl 3 rfl) ?_
  refine sm_vM hI (va_runV (As := [.int (x3)]) (rest := []) ⟨hx, hb, hml, hown, hts⟩ (c_Mo_add l D ca ad L _ _ _ hM x3 ((0 + 1)) o_7 (by omega)) (kv_Mo_add hts rfl rfl (hts _ tw_1477) ⟨Nat.le_of_ble_eq_true rfl, Nat.le_of_ble_eq_true rfl⟩) (pv_Mo hI hE hM) rfl rfl hl.1 rfl (lv_room (Nat.le_of_ble_eq_true rfl)) d_Mo_begin_12 ⟨Nat.le_of_ble_eq_true rfl, Nat.le_of_ble_eq_true rfl⟩) (fun H locs f σ_9 hI hM hF_10 p_8 => ?_)
  have hF := mq_fr_tr hF hF_10 (by decide)
  obtain ⟨o_11, -⟩ := p_8
  refine lv_aload_n hx hb d_Mo_begin_15 rfl (lv_at hl 0 rfl) ?_
  refine lv_iload hx hb d_Mo_begin_16 (lv_at hl 4 rfl) ?_
  refine sm_vM hI (va_runV (As := [.int (x4)]) (rest := []) ⟨hx, hb, hml, hown, hts⟩ (c_Mo_add l D ca ad L _ _ _ hM x4 ((((0 + 1)) + 1)) o_11 (by omega)) (kv_Mo_add hts rfl rfl (hts _ tw_1477) ⟨Nat.le_of_ble_eq_true rfl, Nat.le_of_ble_eq_true rfl⟩) (pv_Mo hI hE hM) rfl rfl hl.1 rfl (lv_room (Nat.le_of_ble_eq_true rfl)) d_Mo_begin_18 ⟨Nat.le_of_ble_eq_true rfl, Nat.le_of_ble_eq_true rfl⟩) (fun H locs f σ_13 hI hM hF_14 p_12 => ?_)
  have hF := mq_fr_tr hF hF_14 (by decide)
  obtain ⟨o_15, -⟩ := p_12
  refine lv_aload_n hx hb d_Mo_begin_21 rfl (lv_at hl 0 rfl) ?_
  refine lv_iload_n hx hb d_Mo_begin_22 rfl (lv_at hl 1 rfl) ?_
  refine sm_iP hI (va_runV (As := [.int (x1)]) (rest := []) ⟨hx, hb, hml, hown, hts⟩ (c_Mo_causeBytes l D ca ad L _ _ _ hM x1) (kv_Mo_causeBytes hts rfl rfl (hts _ tw_1454) ⟨Nat.le_of_ble_eq_true rfl, Nat.le_of_ble_eq_true rfl⟩) (pv_Mo hI hE hM) rfl rfl hl.1 rfl (lv_room (Nat.le_of_ble_eq_true rfl)) d_Mo_begin_23 ⟨Nat.le_of_ble_eq_true rfl, Nat.le_of_ble_eq_true rfl⟩) (fun x_17 H locs p_16 hI => ?_)
  obtain ⟨n_18, rfl, h_19, h_20, h_21⟩ := p_16
  refine lv_iconst (v := 2) hx hb d_Mo_begin_26 (by decide) ?_
  refine lv_icmp_ne (tgt := 36) hx hb d_Mo_begin_27 (by decide) (fun c_22 => ?_) (fun c_22 => ?_)
  · have k_23 : ¬ n_18 = 2 := (fun q => c_22 ((nI_eq (a := n_18) (b := 2) (by omega) (by omega)).mpr q))
    refine lv_aload_n hx hb d_Mo_begin_36 rfl (lv_at hl 0 rfl) ?_
    refine lv_aload_n hx hb d_Mo_begin_37 rfl (lv_at hl 0 rfl) ?_
    obtain ⟨x_24, e_25⟩ : ∃ z, σ_13.1 1 = z := ⟨_, rfl⟩
    refine mq_get (k := 1) (v := .int (x_24)) hx hb hts hown hI hM (by decide) (congrArg (fun z => some (Value.int z)) e_25) rfl (hts _ tw_1170) d_Mo_begin_38 ?_
    refine lv_aload_n hx hb d_Mo_begin_41 rfl (lv_at hl 0 rfl) ?_
    refine lv_iload_n hx hb d_Mo_begin_42 rfl (lv_at hl 1 rfl) ?_
    refine sm_iP hI (va_runV (As := [.int (x1)]) (rest := [.int (x_24), .ref (ad 71)]) ⟨hx, hb, hml, hown, hts⟩ (c_Mo_stationBytes l D ca ad L _ _ _ hM x1) (kv_Mo_stationBytes hts rfl rfl (hts _ tw_1458) ⟨Nat.le_of_ble_eq_true rfl, Nat.le_of_ble_eq_true rfl⟩) (pv_Mo hI hE hM) rfl rfl hl.1 rfl (lv_room (Nat.le_of_ble_eq_true rfl)) d_Mo_begin_43 ⟨Nat.le_of_ble_eq_true rfl, Nat.le_of_ble_eq_true rfl⟩) (fun x_27 H locs p_26 hI => ?_)
    obtain ⟨n_28, rfl, h_29, h_30, h_31⟩ := p_26
    refine sm_vM hI (va_runV (As := [.int (x_24), .int (nI n_28)]) (rest := []) ⟨hx, hb, hml, hown, hts⟩ (c_Mo_addNumber l D ca ad L _ _ _ hM x_24 (n_28) (by omega) ((((((0 + 1)) + 1)) + 1)) o_15 (by omega)) (kv_Mo_addNumber hts rfl rfl (hts _ tw_1481) ⟨Nat.le_of_ble_eq_true rfl, Nat.le_of_ble_eq_true rfl⟩) (pv_Mo hI hE hM) rfl rfl hl.1 rfl (lv_room (Nat.le_of_ble_eq_true rfl)) d_Mo_begin_46 ⟨Nat.le_of_ble_eq_true rfl, Nat.le_of_ble_eq_true rfl⟩) (fun H locs f σ_33 hI hM hF_34 p_32 => ?_)
    have hF := mq_fr_tr hF hF_34 (by decide)
    obtain ⟨o_35, -⟩ := p_32
    exact sm_vret hx hb hr hlk hI ⟨σ_33, rfl, hM, hF, ⟨⟨(((((((0 + 1)) + 1)) + 1)) + n_28), by omega, by omega, o_35⟩, trivial⟩⟩ d_Mo_begin_49
  · have k_36 : n_18 = 2 := (nI_eq (a := n_18) (b := 2) (by omega) (by omega)).mp c_22
    refine lv_aload_n hx hb d_Mo_begin_30 rfl (lv_at hl 0 rfl) ?_
    refine lv_iload hx hb d_Mo_begin_31 (lv_at hl 5 rfl) ?_
    refine sm_vM hI (va_runV (As := [.int (x5)]) (rest := []) ⟨hx, hb, hml, hown, hts⟩ (c_Mo_add l D ca ad L _ _ _ hM x5 ((((((0 + 1)) + 1)) + 1)) o_15 (by omega)) (kv_Mo_add hts rfl rfl (hts _ tw_1477) ⟨Nat.le_of_ble_eq_true rfl, Nat.le_of_ble_eq_true rfl⟩) (pv_Mo hI hE hM) rfl rfl hl.1 rfl (lv_room (Nat.le_of_ble_eq_true rfl)) d_Mo_begin_33 ⟨Nat.le_of_ble_eq_true rfl, Nat.le_of_ble_eq_true rfl⟩) (fun H locs f σ_38 hI hM hF_39 p_37 => ?_)
    have hF := mq_fr_tr hF hF_39 (by decide)
    obtain ⟨o_40, -⟩ := p_37
    refine lv_aload_n hx hb d_Mo_begin_36 rfl (lv_at hl 0 rfl) ?_
    refine lv_aload_n hx hb d_Mo_begin_37 rfl (lv_at hl 0 rfl) ?_
    obtain ⟨x_41, e_42⟩ : ∃ z, σ_38.1 1 = z := ⟨_, rfl⟩
    refine mq_get (k := 1) (v := .int (x_41)) hx hb hts hown hI hM (by decide) (congrArg (fun z => some (Value.int z)) e_42) rfl (hts _ tw_1170) d_Mo_begin_38 ?_
    refine lv_aload_n hx hb d_Mo_begin_41 rfl (lv_at hl 0 rfl) ?_
    refine lv_iload_n hx hb d_Mo_begin_42 rfl (lv_at hl 1 rfl) ?_
    refine sm_iP hI (va_runV (As := [.int (x1)]) (rest := [.int (x_41), .ref (ad 71)]) ⟨hx, hb, hml, hown, hts⟩ (c_Mo_stationBytes l D ca ad L _ _ _ hM x1) (kv_Mo_stationBytes hts rfl rfl (hts _ tw_1458) ⟨Nat.le_of_ble_eq_true rfl, Nat.le_of_ble_eq_true rfl⟩) (pv_Mo hI hE hM) rfl rfl hl.1 rfl (lv_room (Nat.le_of_ble_eq_true rfl)) d_Mo_begin_43 ⟨Nat.le_of_ble_eq_true rfl, Nat.le_of_ble_eq_true rfl⟩) (fun x_44 H locs p_43 hI => ?_)
    obtain ⟨n_45, rfl, h_46, h_47, h_48⟩ := p_43
    refine sm_vM hI (va_runV (As := [.int (x_41), .int (nI n_45)]) (rest := []) ⟨hx, hb, hml, hown, hts⟩ (c_Mo_addNumber l D ca ad L _ _ _ hM x_41 (n_45) (by omega) ((((((((0 + 1)) + 1)) + 1)) + 1)) o_40 (by omega)) (kv_Mo_addNumber hts rfl rfl (hts _ tw_1481) ⟨Nat.le_of_ble_eq_true rfl, Nat.le_of_ble_eq_true rfl⟩) (pv_Mo hI hE hM) rfl rfl hl.1 rfl (lv_room (Nat.le_of_ble_eq_true rfl)) d_Mo_begin_46 ⟨Nat.le_of_ble_eq_true rfl, Nat.le_of_ble_eq_true rfl⟩) (fun H locs f σ_50 hI hM hF_51 p_49 => ?_)
    have hF := mq_fr_tr hF hF_51 (by decide)
    obtain ⟨o_52, -⟩ := p_49
    exact sm_vret hx hb hr hlk hI ⟨σ_50, rfl, hM, hF, ⟨⟨(((((((((0 + 1)) + 1)) + 1)) + 1)) + n_45), by omega, by omega, o_52⟩, trivial⟩⟩ d_Mo_begin_49
theorem d_Mo_addObject_0 : decode b_Mo_addObject 0 = .ok (.iload_n 1, 1) := by decide +kernel
theorem d_Mo_addObject_1 : decode b_Mo_addObject 1 = .ok (.iconst 2, 1) := by decide +kernel
theorem d_Mo_addObject_2 : decode b_Mo_addObject 2 = .ok (.if_icmp .ge 13, 3) := by decide +kernel
theorem d_Mo_addObject_5 : decode b_Mo_addObject 5 = .ok (.aload_n 0, 1) := by decide +kernel
theorem d_Mo_addObject_6 : decode b_Mo_addObject 6 = .ok (.iload_n 2, 1) := by decide +kernel
theorem d_Mo_addObject_7 : decode b_Mo_addObject 7 = .ok (.iload_n 3, 1) := by decide +kernel
theorem d_Mo_addObject_8 : decode b_Mo_addObject 8 = .ok (.ior, 1) := by decide +kernel
theorem d_Mo_addObject_9 : decode b_Mo_addObject 9 = .ok (.invokevirtual 230, 3) := by decide +kernel
theorem d_Mo_addObject_12 : decode b_Mo_addObject 12 = .ok (.goto 34, 3) := by decide +kernel
theorem d_Mo_addObject_15 : decode b_Mo_addObject 15 = .ok (.iload_n 1, 1) := by decide +kernel
theorem d_Mo_addObject_16 : decode b_Mo_addObject 16 = .ok (.iconst 2, 1) := by decide +kernel
theorem d_Mo_addObject_17 : decode b_Mo_addObject 17 = .ok (.if_icmp .ne 14, 3) := by decide +kernel
theorem d_Mo_addObject_20 : decode b_Mo_addObject 20 = .ok (.aload_n 0, 1) := by decide +kernel
theorem d_Mo_addObject_21 : decode b_Mo_addObject 21 = .ok (.iload_n 2, 1) := by decide +kernel
theorem d_Mo_addObject_22 : decode b_Mo_addObject 22 = .ok (.bipush 127, 2) := by decide +kernel
theorem d_Mo_addObject_24 : decode b_Mo_addObject 24 = .ok (.iand, 1) := by decide +kernel
theorem d_Mo_addObject_25 : decode b_Mo_addObject 25 = .ok (.invokevirtual 230, 3) := by decide +kernel
theorem d_Mo_addObject_28 : decode b_Mo_addObject 28 = .ok (.goto 18, 3) := by decide +kernel
theorem d_Mo_addObject_31 : decode b_Mo_addObject 31 = .ok (.aload_n 0, 1) := by decide +kernel
theorem d_Mo_addObject_32 : decode b_Mo_addObject 32 = .ok (.iload_n 2, 1) := by decide +kernel
theorem d_Mo_addObject_33 : decode b_Mo_addObject 33 = .ok (.iload_n 1, 1) := by decide +kernel
theorem d_Mo_addObject_34 : decode b_Mo_addObject 34 = .ok (.iconst 5, 1) := by decide +kernel
theorem d_Mo_addObject_35 : decode b_Mo_addObject 35 = .ok (.if_icmp .ge 7, 3) := by decide +kernel
theorem d_Mo_addObject_38 : decode b_Mo_addObject 38 = .ok (.iconst 2, 1) := by decide +kernel
theorem d_Mo_addObject_39 : decode b_Mo_addObject 39 = .ok (.goto 4, 3) := by decide +kernel
theorem d_Mo_addObject_42 : decode b_Mo_addObject 42 = .ok (.iconst 4, 1) := by decide +kernel
theorem d_Mo_addObject_43 : decode b_Mo_addObject 43 = .ok (.invokevirtual 272, 3) := by decide +kernel
theorem d_Mo_addObject_46 : decode b_Mo_addObject 46 = .ok (.iload_n 1, 1) := by decide +kernel
theorem d_Mo_addObject_47 : decode b_Mo_addObject 47 = .ok (.iconst 1, 1) := by decide +kernel
theorem d_Mo_addObject_48 : decode b_Mo_addObject 48 = .ok (.if_icmp .le 14, 3) := by decide +kernel
theorem d_Mo_addObject_51 : decode b_Mo_addObject 51 = .ok (.iload_n 1, 1) := by decide +kernel
theorem d_Mo_addObject_52 : decode b_Mo_addObject 52 = .ok (.bipush 6, 2) := by decide +kernel
theorem d_Mo_addObject_54 : decode b_Mo_addObject 54 = .ok (.if_icmp .ge 8, 3) := by decide +kernel
theorem d_Mo_addObject_57 : decode b_Mo_addObject 57 = .ok (.aload_n 0, 1) := by decide +kernel
theorem d_Mo_addObject_58 : decode b_Mo_addObject 58 = .ok (.iload_n 3, 1) := by decide +kernel
theorem d_Mo_addObject_59 : decode b_Mo_addObject 59 = .ok (.invokevirtual 230, 3) := by decide +kernel
theorem d_Mo_addObject_62 : decode b_Mo_addObject 62 = .ok (.iload_n 1, 1) := by decide +kernel
theorem d_Mo_addObject_63 : decode b_Mo_addObject 63 = .ok (.bipush 6, 2) := by decide +kernel
theorem d_Mo_addObject_65 : decode b_Mo_addObject 65 = .ok (.if_icmp .ne 18, 3) := by decide +kernel
theorem d_Mo_addObject_68 : decode b_Mo_addObject 68 = .ok (.aload_n 0, 1) := by decide +kernel
theorem d_Mo_addObject_69 : decode b_Mo_addObject 69 = .ok (.iload 4, 2) := by decide +kernel
theorem d_Mo_addObject_71 : decode b_Mo_addObject 71 = .ok (.bipush 32, 2) := by decide +kernel
theorem d_Mo_addObject_73 : decode b_Mo_addObject 73 = .ok (.irem, 1) := by decide +kernel
theorem d_Mo_addObject_74 : decode b_Mo_addObject 74 = .ok (.iload_n 3, 1) := by decide +kernel
theorem d_Mo_addObject_75 : decode b_Mo_addObject 75 = .ok (.sipush 128, 3) := by decide +kernel
theorem d_Mo_addObject_78 : decode b_Mo_addObject 78 = .ok (.iand, 1) := by decide +kernel
theorem d_Mo_addObject_79 : decode b_Mo_addObject 79 = .ok (.ior, 1) := by decide +kernel
theorem d_Mo_addObject_80 : decode b_Mo_addObject 80 = .ok (.invokevirtual 230, 3) := by decide +kernel
theorem d_Mo_addObject_83 : decode b_Mo_addObject 83 = .ok (.return_, 1) := by decide +kernel
set_option maxRecDepth 100000 in
set_option maxHeartbeats 4000000 in
theorem c_Mo_addObject (l : Launch) (D : va_G) (ca : Nat → ClassId) (ad : Nat → Nat) (L : List Nat) (f0 : Nat → va_E) (sz : Nat) (σ0 : mq_S) (hM : mq_B ca ad σ0 L f0) (x1 : Int32) (x2 : Int32) (x3 : Int32) (x4 : Int32) (z1 : Nat) (o0 : σ0.1 70 = nI z1) (hz : z1 + 5 ≤ 260) :
    Met l y_Mo_addObject (Cond.code y_Mo_addObject b_Mo_addObject 5 none :: wg) { frames := 2, cells := 0, slots := 0, locals := 44 } (va_Pc [.ref (ad 71), .int (x1), .int (x2), .int (x3), .int (x4)] (sm_P D cl_all (ty_s ca) ek L f0 sz)) (sm_Qv D (ty_s ca) L f0 sz (fun u => mq_po ca ad L σ0 [69, 70] (fun σ => (∃ n : Nat, z1 + 1 ≤ n ∧ n ≤ z1 + 5 ∧ σ.1 70 = nI n) ∧ True) u)) 0 0 (va_A (va_pl L f0) sz) := by
  refine sm_start (by decide) (Nat.le_of_ble_eq_true rfl) ?_
  intro p e s m below meth c ls hx hb hml hr hlk hnm hts hown hsz hE hI hl
  have hl : lv_has ls 5 [(0, .ref (ad 71)), (1, .int (x1)), (2, .int (x2)), (3, .int (x3)), (4, .int (x4))] := hl
  have hF : mq_fr [69, 70] σ0 σ0 := mq_fr_rf
  refine lv_iload_n hx hb d_Mo_addObject_0 rfl (lv_at hl 1 rfl) ?_
  refine lv_iconst (v := 2) hx hb d_Mo_addObject_1 (by decide) ?_
  refine lv_icmp_ge (tgt := 15) hx hb d_Mo_addObject_2 (by decide) (fun c_1 => ?_) (fun c_1 => ?_)
  · refine lv_iload_n hx hb d_Mo_addObject_15 rfl (lv_at hl 1 rfl) ?_
    refine lv_iconst (v := 2) hx hb d_Mo_addObject_16 (by decide) ?_
    refine lv_icmp_ne (tgt := 31) hx hb d_Mo_addObject_17 (by decide) (fun c_2 => ?_) (fun c_2 => ?_)
    · refine lv_aload_n hx hb d_Mo_addObject_31 rfl (lv_at hl 0 rfl) ?_
      refine lv_iload_n hx hb d_Mo_addObject_32 rfl (lv_at hl 2 rfl) ?_
      refine lv_iload_n hx hb d_Mo_addObject_33 rfl (lv_at hl 1 rfl) ?_
      refine lv_iconst (v := 5) hx hb d_Mo_addObject_34 (by decide) ?_
      refine lv_icmp_ge (tgt := 42) hx hb d_Mo_addObject_35 (by decide) (fun c_3 => ?_) (fun c_3 => ?_)
      · refine lv_iconst (v := 4) hx hb d_Mo_addObject_42 (by decide) ?_
        refine sm_vM hI (va_runV (As := [.int (x2), .int (4)]) (rest := []) ⟨hx, hb, hml, hown, hts⟩ (c_Mo_addNumber l D ca ad L _ _ _ hM x2 (4) (by omega) (z1) o0 (by omega)) (kv_Mo_addNumber hts rfl rfl (hts _ tw_1481) ⟨Nat.le_of_ble_eq_true rfl, Nat.le_of_ble_eq_true rfl⟩) (pv_Mo hI hE hM) rfl rfl hl.1 rfl (lv_room (Nat.le_of_ble_eq_true rfl)) d_Mo_addObject_43 ⟨Nat.le_of_ble_eq_true rfl, Nat.le_of_ble_eq_true rfl⟩) (fun H locs f σ_5 hI hM hF_6 p_4 => ?_)
        have hF := mq_fr_tr hF hF_6 (by decide)
        obtain ⟨o_7, -⟩ := p_4
        refine lv_iload_n hx hb d_Mo_addObject_46 rfl (lv_at hl 1 rfl) ?_
        refine lv_iconst (v := 1) hx hb d_Mo_addObject_47 (by decide) ?_
        refine lv_icmp_le (tgt := 62) hx hb d_Mo_addObject_48 (by decide) (fun c_8 => ?_) (fun c_8 => ?_)
        · refine lv_iload_n hx hb d_Mo_addObject_62 rfl (lv_at hl 1 rfl) ?_
          refine lv_bipush (v := 6) hx hb d_Mo_addObject_63 (by decide) ?_
          refine lv_icmp_ne (tgt := 83) hx hb d_Mo_addObject_65 (by decide) (fun c_9 => ?_) (fun c_9 => ?_)
          · exact sm_vret hx hb hr hlk hI ⟨σ_5, rfl, hM, hF, ⟨⟨(z1 + 4), by omega, by omega, o_7⟩, trivial⟩⟩ d_Mo_addObject_83
          · refine lv_aload_n hx hb d_Mo_addObject_68 rfl (lv_at hl 0 rfl) ?_
            refine lv_iload hx hb d_Mo_addObject_69 (lv_at hl 4 rfl) ?_
            refine lv_bipush (v := 32) hx hb d_Mo_addObject_71 (by decide) ?_
            refine lv_irem hx hb d_Mo_addObject_73 (by decide) ?_
            refine lv_topi (fun x_10 e_11 => ?_)
            refine lv_iload_n hx hb d_Mo_addObject_74 rfl (lv_at hl 3 rfl) ?_
            refine lv_sipush (v := 128) hx hb d_Mo_addObject_75 (by decide) ?_
            refine lv_iand hx hb d_Mo_addObject_78 ?_
            refine lv_topi (fun x_12 e_13 => ?_)
            refine lv_ior hx hb d_Mo_addObject_79 ?_
            refine lv_topi (fun x_14 e_15 => ?_)
            refine sm_vM hI (va_runV (As := [.int (x_14)]) (rest := []) ⟨hx, hb, hml, hown, hts⟩ (c_Mo_add l D ca ad L _ _ _ hM x_14 ((z1 + 4)) o_7 (by omega)) (kv_Mo_add hts rfl rfl (hts _ tw_1477) ⟨Nat.le_of_ble_eq_true rfl, Nat.le_of_ble_eq_true rfl⟩) (pv_Mo hI hE hM) rfl rfl hl.1 rfl (lv_room (Nat.le_of_ble_eq_true rfl)) d_Mo_addObject_80 ⟨Nat.le_of_ble_eq_true rfl, Nat.le_of_ble_eq_true rfl⟩) (fun H locs f σ_17 hI hM hF_18 p_16 => ?_)
            have hF := mq_fr_tr hF hF_18 (by decide)
            obtain ⟨o_19, -⟩ := p_16
            exact sm_vret hx hb hr hlk hI ⟨σ_17, rfl, hM, hF, ⟨⟨(((z1 + 4)) + 1), by omega, by omega, o_19⟩, trivial⟩⟩ d_Mo_addObject_83
        · refine lv_iload_n hx hb d_Mo_addObject_51 rfl (lv_at hl 1 rfl) ?_
          refine lv_bipush (v := 6) hx hb d_Mo_addObject_52 (by decide) ?_
          refine lv_icmp_ge (tgt := 62) hx hb d_Mo_addObject_54 (by decide) (fun c_20 => ?_) (fun c_20 => ?_)
          · refine lv_iload_n hx hb d_Mo_addObject_62 rfl (lv_at hl 1 rfl) ?_
            refine lv_bipush (v := 6) hx hb d_Mo_addObject_63 (by decide) ?_
            refine lv_icmp_ne (tgt := 83) hx hb d_Mo_addObject_65 (by decide) (fun c_21 => ?_) (fun c_21 => ?_)
            · exact sm_vret hx hb hr hlk hI ⟨σ_5, rfl, hM, hF, ⟨⟨(z1 + 4), by omega, by omega, o_7⟩, trivial⟩⟩ d_Mo_addObject_83
            · refine lv_aload_n hx hb d_Mo_addObject_68 rfl (lv_at hl 0 rfl) ?_
              refine lv_iload hx hb d_Mo_addObject_69 (lv_at hl 4 rfl) ?_
              refine lv_bipush (v := 32) hx hb d_Mo_addObject_71 (by decide) ?_
              refine lv_irem hx hb d_Mo_addObject_73 (by decide) ?_
              refine lv_topi (fun x_22 e_23 => ?_)
              refine lv_iload_n hx hb d_Mo_addObject_74 rfl (lv_at hl 3 rfl) ?_
              refine lv_sipush (v := 128) hx hb d_Mo_addObject_75 (by decide) ?_
              refine lv_iand hx hb d_Mo_addObject_78 ?_
              refine lv_topi (fun x_24 e_25 => ?_)
              refine lv_ior hx hb d_Mo_addObject_79 ?_
              refine lv_topi (fun x_26 e_27 => ?_)
              refine sm_vM hI (va_runV (As := [.int (x_26)]) (rest := []) ⟨hx, hb, hml, hown, hts⟩ (c_Mo_add l D ca ad L _ _ _ hM x_26 ((z1 + 4)) o_7 (by omega)) (kv_Mo_add hts rfl rfl (hts _ tw_1477) ⟨Nat.le_of_ble_eq_true rfl, Nat.le_of_ble_eq_true rfl⟩) (pv_Mo hI hE hM) rfl rfl hl.1 rfl (lv_room (Nat.le_of_ble_eq_true rfl)) d_Mo_addObject_80 ⟨Nat.le_of_ble_eq_true rfl, Nat.le_of_ble_eq_true rfl⟩) (fun H locs f σ_29 hI hM hF_30 p_28 => ?_)
              have hF := mq_fr_tr hF hF_30 (by decide)
              obtain ⟨o_31, -⟩ := p_28
              exact sm_vret hx hb hr hlk hI ⟨σ_29, rfl, hM, hF, ⟨⟨(((z1 + 4)) + 1), by omega, by omega, o_31⟩, trivial⟩⟩ d_Mo_addObject_83
          · refine lv_aload_n hx hb d_Mo_addObject_57 rfl (lv_at hl 0 rfl) ?_
            refine lv_iload_n hx hb d_Mo_addObject_58 rfl (lv_at hl 3 rfl) ?_
            refine sm_vM hI (va_runV (As := [.int (x3)]) (rest := []) ⟨hx, hb, hml, hown, hts⟩ (c_Mo_add l D ca ad L _ _ _ hM x3 ((z1 + 4)) o_7 (by omega)) (kv_Mo_add hts rfl rfl (hts _ tw_1477) ⟨Nat.le_of_ble_eq_true rfl, Nat.le_of_ble_eq_true rfl⟩) (pv_Mo hI hE hM) rfl rfl hl.1 rfl (lv_room (Nat.le_of_ble_eq_true rfl)) d_Mo_addObject_59 ⟨Nat.le_of_ble_eq_true rfl, Nat.le_of_ble_eq_true rfl⟩) (fun H locs f σ_33 hI hM hF_34 p_32 => ?_)
            have hF := mq_fr_tr hF hF_34 (by decide)
            obtain ⟨o_35, -⟩ := p_32
            refine lv_iload_n hx hb d_Mo_addObject_62 rfl (lv_at hl 1 rfl) ?_
            refine lv_bipush (v := 6) hx hb d_Mo_addObject_63 (by decide) ?_
            refine lv_icmp_ne (tgt := 83) hx hb d_Mo_addObject_65 (by decide) (fun c_36 => ?_) (fun c_36 => ?_)
            · exact sm_vret hx hb hr hlk hI ⟨σ_33, rfl, hM, hF, ⟨⟨(((z1 + 4)) + 1), by omega, by omega, o_35⟩, trivial⟩⟩ d_Mo_addObject_83
            · exact absurd (by rw [c_36]; decide) c_20
      · refine lv_iconst (v := 2) hx hb d_Mo_addObject_38 (by decide) ?_
        refine lv_goto (tgt := 43) hx hb d_Mo_addObject_39 (by decide) ?_
        refine sm_vM hI (va_runV (As := [.int (x2), .int (2)]) (rest := []) ⟨hx, hb, hml, hown, hts⟩ (c_Mo_addNumber l D ca ad L _ _ _ hM x2 (2) (by omega) (z1) o0 (by omega)) (kv_Mo_addNumber hts rfl rfl (hts _ tw_1481) ⟨Nat.le_of_ble_eq_true rfl, Nat.le_of_ble_eq_true rfl⟩) (pv_Mo hI hE hM) rfl rfl hl.1 rfl (lv_room (Nat.le_of_ble_eq_true rfl)) d_Mo_addObject_43 ⟨Nat.le_of_ble_eq_true rfl, Nat.le_of_ble_eq_true rfl⟩) (fun H locs f σ_38 hI hM hF_39 p_37 => ?_)
        have hF := mq_fr_tr hF hF_39 (by decide)
        obtain ⟨o_40, -⟩ := p_37
        refine lv_iload_n hx hb d_Mo_addObject_46 rfl (lv_at hl 1 rfl) ?_
        refine lv_iconst (v := 1) hx hb d_Mo_addObject_47 (by decide) ?_
        refine lv_icmp_le (tgt := 62) hx hb d_Mo_addObject_48 (by decide) (fun c_41 => ?_) (fun c_41 => ?_)
        · refine lv_iload_n hx hb d_Mo_addObject_62 rfl (lv_at hl 1 rfl) ?_
          refine lv_bipush (v := 6) hx hb d_Mo_addObject_63 (by decide) ?_
          refine lv_icmp_ne (tgt := 83) hx hb d_Mo_addObject_65 (by decide) (fun c_42 => ?_) (fun c_42 => ?_)
          · exact sm_vret hx hb hr hlk hI ⟨σ_38, rfl, hM, hF, ⟨⟨(z1 + 2), by omega, by omega, o_40⟩, trivial⟩⟩ d_Mo_addObject_83
          · refine lv_aload_n hx hb d_Mo_addObject_68 rfl (lv_at hl 0 rfl) ?_
            refine lv_iload hx hb d_Mo_addObject_69 (lv_at hl 4 rfl) ?_
            refine lv_bipush (v := 32) hx hb d_Mo_addObject_71 (by decide) ?_
            refine lv_irem hx hb d_Mo_addObject_73 (by decide) ?_
            refine lv_topi (fun x_43 e_44 => ?_)
            refine lv_iload_n hx hb d_Mo_addObject_74 rfl (lv_at hl 3 rfl) ?_
            refine lv_sipush (v := 128) hx hb d_Mo_addObject_75 (by decide) ?_
            refine lv_iand hx hb d_Mo_addObject_78 ?_
            refine lv_topi (fun x_45 e_46 => ?_)
            refine lv_ior hx hb d_Mo_addObject_79 ?_
            refine lv_topi (fun x_47 e_48 => ?_)
            refine sm_vM hI (va_runV (As := [.int (x_47)]) (rest := []) ⟨hx, hb, hml, hown, hts⟩ (c_Mo_add l D ca ad L _ _ _ hM x_47 ((z1 + 2)) o_40 (by omega)) (kv_Mo_add hts rfl rfl (hts _ tw_1477) ⟨Nat.le_of_ble_eq_true rfl, Nat.le_of_ble_eq_true rfl⟩) (pv_Mo hI hE hM) rfl rfl hl.1 rfl (lv_room (Nat.le_of_ble_eq_true rfl)) d_Mo_addObject_80 ⟨Nat.le_of_ble_eq_true rfl, Nat.le_of_ble_eq_true rfl⟩) (fun H locs f σ_50 hI hM hF_51 p_49 => ?_)
            have hF := mq_fr_tr hF hF_51 (by decide)
            obtain ⟨o_52, -⟩ := p_49
            exact sm_vret hx hb hr hlk hI ⟨σ_50, rfl, hM, hF, ⟨⟨(((z1 + 2)) + 1), by omega, by omega, o_52⟩, trivial⟩⟩ d_Mo_addObject_83
        · refine lv_iload_n hx hb d_Mo_addObject_51 rfl (lv_at hl 1 rfl) ?_
          refine lv_bipush (v := 6) hx hb d_Mo_addObject_52 (by decide) ?_
          refine lv_icmp_ge (tgt := 62) hx hb d_Mo_addObject_54 (by decide) (fun c_53 => ?_) (fun c_53 => ?_)
          · refine lv_iload_n hx hb d_Mo_addObject_62 rfl (lv_at hl 1 rfl) ?_
            refine lv_bipush (v := 6) hx hb d_Mo_addObject_63 (by decide) ?_
            refine lv_icmp_ne (tgt := 83) hx hb d_Mo_addObject_65 (by decide) (fun c_54 => ?_) (fun c_54 => ?_)
            · exact sm_vret hx hb hr hlk hI ⟨σ_38, rfl, hM, hF, ⟨⟨(z1 + 2), by omega, by omega, o_40⟩, trivial⟩⟩ d_Mo_addObject_83
            · refine lv_aload_n hx hb d_Mo_addObject_68 rfl (lv_at hl 0 rfl) ?_
              refine lv_iload hx hb d_Mo_addObject_69 (lv_at hl 4 rfl) ?_
              refine lv_bipush (v := 32) hx hb d_Mo_addObject_71 (by decide) ?_
              refine lv_irem hx hb d_Mo_addObject_73 (by decide) ?_
              refine lv_topi (fun x_55 e_56 => ?_)
              refine lv_iload_n hx hb d_Mo_addObject_74 rfl (lv_at hl 3 rfl) ?_
              refine lv_sipush (v := 128) hx hb d_Mo_addObject_75 (by decide) ?_
              refine lv_iand hx hb d_Mo_addObject_78 ?_
              refine lv_topi (fun x_57 e_58 => ?_)
              refine lv_ior hx hb d_Mo_addObject_79 ?_
              refine lv_topi (fun x_59 e_60 => ?_)
              refine sm_vM hI (va_runV (As := [.int (x_59)]) (rest := []) ⟨hx, hb, hml, hown, hts⟩ (c_Mo_add l D ca ad L _ _ _ hM x_59 ((z1 + 2)) o_40 (by omega)) (kv_Mo_add hts rfl rfl (hts _ tw_1477) ⟨Nat.le_of_ble_eq_true rfl, Nat.le_of_ble_eq_true rfl⟩) (pv_Mo hI hE hM) rfl rfl hl.1 rfl (lv_room (Nat.le_of_ble_eq_true rfl)) d_Mo_addObject_80 ⟨Nat.le_of_ble_eq_true rfl, Nat.le_of_ble_eq_true rfl⟩) (fun H locs f σ_62 hI hM hF_63 p_61 => ?_)
              have hF := mq_fr_tr hF hF_63 (by decide)
              obtain ⟨o_64, -⟩ := p_61
              exact sm_vret hx hb hr hlk hI ⟨σ_62, rfl, hM, hF, ⟨⟨(((z1 + 2)) + 1), by omega, by omega, o_64⟩, trivial⟩⟩ d_Mo_addObject_83
          · refine lv_aload_n hx hb d_Mo_addObject_57 rfl (lv_at hl 0 rfl) ?_
            refine lv_iload_n hx hb d_Mo_addObject_58 rfl (lv_at hl 3 rfl) ?_
            refine sm_vM hI (va_runV (As := [.int (x3)]) (rest := []) ⟨hx, hb, hml, hown, hts⟩ (c_Mo_add l D ca ad L _ _ _ hM x3 ((z1 + 2)) o_40 (by omega)) (kv_Mo_add hts rfl rfl (hts _ tw_1477) ⟨Nat.le_of_ble_eq_true rfl, Nat.le_of_ble_eq_true rfl⟩) (pv_Mo hI hE hM) rfl rfl hl.1 rfl (lv_room (Nat.le_of_ble_eq_true rfl)) d_Mo_addObject_59 ⟨Nat.le_of_ble_eq_true rfl, Nat.le_of_ble_eq_true rfl⟩) (fun H locs f σ_66 hI hM hF_67 p_65 => ?_)
            have hF := mq_fr_tr hF hF_67 (by decide)
            obtain ⟨o_68, -⟩ := p_65
            refine lv_iload_n hx hb d_Mo_addObject_62 rfl (lv_at hl 1 rfl) ?_
            refine lv_bipush (v := 6) hx hb d_Mo_addObject_63 (by decide) ?_
            refine lv_icmp_ne (tgt := 83) hx hb d_Mo_addObject_65 (by decide) (fun c_69 => ?_) (fun c_69 => ?_)
            · exact sm_vret hx hb hr hlk hI ⟨σ_66, rfl, hM, hF, ⟨⟨(((z1 + 2)) + 1), by omega, by omega, o_68⟩, trivial⟩⟩ d_Mo_addObject_83
            · exact absurd (by rw [c_69]; decide) c_53
    · refine lv_aload_n hx hb d_Mo_addObject_20 rfl (lv_at hl 0 rfl) ?_
      refine lv_iload_n hx hb d_Mo_addObject_21 rfl (lv_at hl 2 rfl) ?_
      refine lv_bipush (v := 127) hx hb d_Mo_addObject_22 (by decide) ?_
      refine lv_iand hx hb d_Mo_addObject_24 ?_
      refine lv_topi (fun x_70 e_71 => ?_)
      refine sm_vM hI (va_runV (As := [.int (x_70)]) (rest := []) ⟨hx, hb, hml, hown, hts⟩ (c_Mo_add l D ca ad L _ _ _ hM x_70 (z1) o0 (by omega)) (kv_Mo_add hts rfl rfl (hts _ tw_1477) ⟨Nat.le_of_ble_eq_true rfl, Nat.le_of_ble_eq_true rfl⟩) (pv_Mo hI hE hM) rfl rfl hl.1 rfl (lv_room (Nat.le_of_ble_eq_true rfl)) d_Mo_addObject_25 ⟨Nat.le_of_ble_eq_true rfl, Nat.le_of_ble_eq_true rfl⟩) (fun H locs f σ_73 hI hM hF_74 p_72 => ?_)
      have hF := mq_fr_tr hF hF_74 (by decide)
      obtain ⟨o_75, -⟩ := p_72
      refine lv_goto (tgt := 46) hx hb d_Mo_addObject_28 (by decide) ?_
      refine lv_iload_n hx hb d_Mo_addObject_46 rfl (lv_at hl 1 rfl) ?_
      refine lv_iconst (v := 1) hx hb d_Mo_addObject_47 (by decide) ?_
      refine lv_icmp_le (tgt := 62) hx hb d_Mo_addObject_48 (by decide) (fun c_76 => ?_) (fun c_76 => ?_)
      · refine lv_iload_n hx hb d_Mo_addObject_62 rfl (lv_at hl 1 rfl) ?_
        refine lv_bipush (v := 6) hx hb d_Mo_addObject_63 (by decide) ?_
        refine lv_icmp_ne (tgt := 83) hx hb d_Mo_addObject_65 (by decide) (fun c_77 => ?_) (fun c_77 => ?_)
        · exact sm_vret hx hb hr hlk hI ⟨σ_73, rfl, hM, hF, ⟨⟨(z1 + 1), by omega, by omega, o_75⟩, trivial⟩⟩ d_Mo_addObject_83
        · refine lv_aload_n hx hb d_Mo_addObject_68 rfl (lv_at hl 0 rfl) ?_
          refine lv_iload hx hb d_Mo_addObject_69 (lv_at hl 4 rfl) ?_
          refine lv_bipush (v := 32) hx hb d_Mo_addObject_71 (by decide) ?_
          refine lv_irem hx hb d_Mo_addObject_73 (by decide) ?_
          refine lv_topi (fun x_78 e_79 => ?_)
          refine lv_iload_n hx hb d_Mo_addObject_74 rfl (lv_at hl 3 rfl) ?_
          refine lv_sipush (v := 128) hx hb d_Mo_addObject_75 (by decide) ?_
          refine lv_iand hx hb d_Mo_addObject_78 ?_
          refine lv_topi (fun x_80 e_81 => ?_)
          refine lv_ior hx hb d_Mo_addObject_79 ?_
          refine lv_topi (fun x_82 e_83 => ?_)
          refine sm_vM hI (va_runV (As := [.int (x_82)]) (rest := []) ⟨hx, hb, hml, hown, hts⟩ (c_Mo_add l D ca ad L _ _ _ hM x_82 ((z1 + 1)) o_75 (by omega)) (kv_Mo_add hts rfl rfl (hts _ tw_1477) ⟨Nat.le_of_ble_eq_true rfl, Nat.le_of_ble_eq_true rfl⟩) (pv_Mo hI hE hM) rfl rfl hl.1 rfl (lv_room (Nat.le_of_ble_eq_true rfl)) d_Mo_addObject_80 ⟨Nat.le_of_ble_eq_true rfl, Nat.le_of_ble_eq_true rfl⟩) (fun H locs f σ_85 hI hM hF_86 p_84 => ?_)
          have hF := mq_fr_tr hF hF_86 (by decide)
          obtain ⟨o_87, -⟩ := p_84
          exact sm_vret hx hb hr hlk hI ⟨σ_85, rfl, hM, hF, ⟨⟨(((z1 + 1)) + 1), by omega, by omega, o_87⟩, trivial⟩⟩ d_Mo_addObject_83
      · refine lv_iload_n hx hb d_Mo_addObject_51 rfl (lv_at hl 1 rfl) ?_
        refine lv_bipush (v := 6) hx hb d_Mo_addObject_52 (by decide) ?_
        refine lv_icmp_ge (tgt := 62) hx hb d_Mo_addObject_54 (by decide) (fun c_88 => ?_) (fun c_88 => ?_)
        · refine lv_iload_n hx hb d_Mo_addObject_62 rfl (lv_at hl 1 rfl) ?_
          refine lv_bipush (v := 6) hx hb d_Mo_addObject_63 (by decide) ?_
          refine lv_icmp_ne (tgt := 83) hx hb d_Mo_addObject_65 (by decide) (fun c_89 => ?_) (fun c_89 => ?_)
          · exact sm_vret hx hb hr hlk hI ⟨σ_73, rfl, hM, hF, ⟨⟨(z1 + 1), by omega, by omega, o_75⟩, trivial⟩⟩ d_Mo_addObject_83
          · refine lv_aload_n hx hb d_Mo_addObject_68 rfl (lv_at hl 0 rfl) ?_
            refine lv_iload hx hb d_Mo_addObject_69 (lv_at hl 4 rfl) ?_
            refine lv_bipush (v := 32) hx hb d_Mo_addObject_71 (by decide) ?_
            refine lv_irem hx hb d_Mo_addObject_73 (by decide) ?_
            refine lv_topi (fun x_90 e_91 => ?_)
            refine lv_iload_n hx hb d_Mo_addObject_74 rfl (lv_at hl 3 rfl) ?_
            refine lv_sipush (v := 128) hx hb d_Mo_addObject_75 (by decide) ?_
            refine lv_iand hx hb d_Mo_addObject_78 ?_
            refine lv_topi (fun x_92 e_93 => ?_)
            refine lv_ior hx hb d_Mo_addObject_79 ?_
            refine lv_topi (fun x_94 e_95 => ?_)
            refine sm_vM hI (va_runV (As := [.int (x_94)]) (rest := []) ⟨hx, hb, hml, hown, hts⟩ (c_Mo_add l D ca ad L _ _ _ hM x_94 ((z1 + 1)) o_75 (by omega)) (kv_Mo_add hts rfl rfl (hts _ tw_1477) ⟨Nat.le_of_ble_eq_true rfl, Nat.le_of_ble_eq_true rfl⟩) (pv_Mo hI hE hM) rfl rfl hl.1 rfl (lv_room (Nat.le_of_ble_eq_true rfl)) d_Mo_addObject_80 ⟨Nat.le_of_ble_eq_true rfl, Nat.le_of_ble_eq_true rfl⟩) (fun H locs f σ_97 hI hM hF_98 p_96 => ?_)
            have hF := mq_fr_tr hF hF_98 (by decide)
            obtain ⟨o_99, -⟩ := p_96
            exact sm_vret hx hb hr hlk hI ⟨σ_97, rfl, hM, hF, ⟨⟨(((z1 + 1)) + 1), by omega, by omega, o_99⟩, trivial⟩⟩ d_Mo_addObject_83
        · refine lv_aload_n hx hb d_Mo_addObject_57 rfl (lv_at hl 0 rfl) ?_
          refine lv_iload_n hx hb d_Mo_addObject_58 rfl (lv_at hl 3 rfl) ?_
          refine sm_vM hI (va_runV (As := [.int (x3)]) (rest := []) ⟨hx, hb, hml, hown, hts⟩ (c_Mo_add l D ca ad L _ _ _ hM x3 ((z1 + 1)) o_75 (by omega)) (kv_Mo_add hts rfl rfl (hts _ tw_1477) ⟨Nat.le_of_ble_eq_true rfl, Nat.le_of_ble_eq_true rfl⟩) (pv_Mo hI hE hM) rfl rfl hl.1 rfl (lv_room (Nat.le_of_ble_eq_true rfl)) d_Mo_addObject_59 ⟨Nat.le_of_ble_eq_true rfl, Nat.le_of_ble_eq_true rfl⟩) (fun H locs f σ_101 hI hM hF_102 p_100 => ?_)
          have hF := mq_fr_tr hF hF_102 (by decide)
          obtain ⟨o_103, -⟩ := p_100
          refine lv_iload_n hx hb d_Mo_addObject_62 rfl (lv_at hl 1 rfl) ?_
          refine lv_bipush (v := 6) hx hb d_Mo_addObject_63 (by decide) ?_
          refine lv_icmp_ne (tgt := 83) hx hb d_Mo_addObject_65 (by decide) (fun c_104 => ?_) (fun c_104 => ?_)
          · exact sm_vret hx hb hr hlk hI ⟨σ_101, rfl, hM, hF, ⟨⟨(((z1 + 1)) + 1), by omega, by omega, o_103⟩, trivial⟩⟩ d_Mo_addObject_83
          · exact absurd (by rw [c_104]; decide) c_88
  · refine lv_aload_n hx hb d_Mo_addObject_5 rfl (lv_at hl 0 rfl) ?_
    refine lv_iload_n hx hb d_Mo_addObject_6 rfl (lv_at hl 2 rfl) ?_
    refine lv_iload_n hx hb d_Mo_addObject_7 rfl (lv_at hl 3 rfl) ?_
    refine lv_ior hx hb d_Mo_addObject_8 ?_
    refine lv_topi (fun x_105 e_106 => ?_)
    refine sm_vM hI (va_runV (As := [.int (x_105)]) (rest := []) ⟨hx, hb, hml, hown, hts⟩ (c_Mo_add l D ca ad L _ _ _ hM x_105 (z1) o0 (by omega)) (kv_Mo_add hts rfl rfl (hts _ tw_1477) ⟨Nat.le_of_ble_eq_true rfl, Nat.le_of_ble_eq_true rfl⟩) (pv_Mo hI hE hM) rfl rfl hl.1 rfl (lv_room (Nat.le_of_ble_eq_true rfl)) d_Mo_addObject_9 ⟨Nat.le_of_ble_eq_true rfl, Nat.le_of_ble_eq_true rfl⟩) (fun H locs f σ_108 hI hM hF_109 p_107 => ?_)
    have hF := mq_fr_tr hF hF_109 (by decide)
    obtain ⟨o_110, -⟩ := p_107
    refine lv_goto (tgt := 46) hx hb d_Mo_addObject_12 (by decide) ?_
    refine lv_iload_n hx hb d_Mo_addObject_46 rfl (lv_at hl 1 rfl) ?_
    refine lv_iconst (v := 1) hx hb d_Mo_addObject_47 (by decide) ?_
    refine lv_icmp_le (tgt := 62) hx hb d_Mo_addObject_48 (by decide) (fun c_111 => ?_) (fun c_111 => ?_)
    · refine lv_iload_n hx hb d_Mo_addObject_62 rfl (lv_at hl 1 rfl) ?_
      refine lv_bipush (v := 6) hx hb d_Mo_addObject_63 (by decide) ?_
      refine lv_icmp_ne (tgt := 83) hx hb d_Mo_addObject_65 (by decide) (fun c_112 => ?_) (fun c_112 => ?_)
      · exact sm_vret hx hb hr hlk hI ⟨σ_108, rfl, hM, hF, ⟨⟨(z1 + 1), by omega, by omega, o_110⟩, trivial⟩⟩ d_Mo_addObject_83
      · refine lv_aload_n hx hb d_Mo_addObject_68 rfl (lv_at hl 0 rfl) ?_
        refine lv_iload hx hb d_Mo_addObject_69 (lv_at hl 4 rfl) ?_
        refine lv_bipush (v := 32) hx hb d_Mo_addObject_71 (by decide) ?_
        refine lv_irem hx hb d_Mo_addObject_73 (by decide) ?_
        refine lv_topi (fun x_113 e_114 => ?_)
        refine lv_iload_n hx hb d_Mo_addObject_74 rfl (lv_at hl 3 rfl) ?_
        refine lv_sipush (v := 128) hx hb d_Mo_addObject_75 (by decide) ?_
        refine lv_iand hx hb d_Mo_addObject_78 ?_
        refine lv_topi (fun x_115 e_116 => ?_)
        refine lv_ior hx hb d_Mo_addObject_79 ?_
        refine lv_topi (fun x_117 e_118 => ?_)
        refine sm_vM hI (va_runV (As := [.int (x_117)]) (rest := []) ⟨hx, hb, hml, hown, hts⟩ (c_Mo_add l D ca ad L _ _ _ hM x_117 ((z1 + 1)) o_110 (by omega)) (kv_Mo_add hts rfl rfl (hts _ tw_1477) ⟨Nat.le_of_ble_eq_true rfl, Nat.le_of_ble_eq_true rfl⟩) (pv_Mo hI hE hM) rfl rfl hl.1 rfl (lv_room (Nat.le_of_ble_eq_true rfl)) d_Mo_addObject_80 ⟨Nat.le_of_ble_eq_true rfl, Nat.le_of_ble_eq_true rfl⟩) (fun H locs f σ_120 hI hM hF_121 p_119 => ?_)
        have hF := mq_fr_tr hF hF_121 (by decide)
        obtain ⟨o_122, -⟩ := p_119
        exact sm_vret hx hb hr hlk hI ⟨σ_120, rfl, hM, hF, ⟨⟨(((z1 + 1)) + 1), by omega, by omega, o_122⟩, trivial⟩⟩ d_Mo_addObject_83
    · refine lv_iload_n hx hb d_Mo_addObject_51 rfl (lv_at hl 1 rfl) ?_
      refine lv_bipush (v := 6) hx hb d_Mo_addObject_52 (by decide) ?_
      refine lv_icmp_ge (tgt := 62) hx hb d_Mo_addObject_54 (by decide) (fun c_123 => ?_) (fun c_123 => ?_)
      · refine lv_iload_n hx hb d_Mo_addObject_62 rfl (lv_at hl 1 rfl) ?_
        refine lv_bipush (v := 6) hx hb d_Mo_addObject_63 (by decide) ?_
        refine lv_icmp_ne (tgt := 83) hx hb d_Mo_addObject_65 (by decide) (fun c_124 => ?_) (fun c_124 => ?_)
        · exact sm_vret hx hb hr hlk hI ⟨σ_108, rfl, hM, hF, ⟨⟨(z1 + 1), by omega, by omega, o_110⟩, trivial⟩⟩ d_Mo_addObject_83
        · refine lv_aload_n hx hb d_Mo_addObject_68 rfl (lv_at hl 0 rfl) ?_
          refine lv_iload hx hb d_Mo_addObject_69 (lv_at hl 4 rfl) ?_
          refine lv_bipush (v := 32) hx hb d_Mo_addObject_71 (by decide) ?_
          refine lv_irem hx hb d_Mo_addObject_73 (by decide) ?_
          refine lv_topi (fun x_125 e_126 => ?_)
          refine lv_iload_n hx hb d_Mo_addObject_74 rfl (lv_at hl 3 rfl) ?_
          refine lv_sipush (v := 128) hx hb d_Mo_addObject_75 (by decide) ?_
          refine lv_iand hx hb d_Mo_addObject_78 ?_
          refine lv_topi (fun x_127 e_128 => ?_)
          refine lv_ior hx hb d_Mo_addObject_79 ?_
          refine lv_topi (fun x_129 e_130 => ?_)
          refine sm_vM hI (va_runV (As := [.int (x_129)]) (rest := []) ⟨hx, hb, hml, hown, hts⟩ (c_Mo_add l D ca ad L _ _ _ hM x_129 ((z1 + 1)) o_110 (by omega)) (kv_Mo_add hts rfl rfl (hts _ tw_1477) ⟨Nat.le_of_ble_eq_true rfl, Nat.le_of_ble_eq_true rfl⟩) (pv_Mo hI hE hM) rfl rfl hl.1 rfl (lv_room (Nat.le_of_ble_eq_true rfl)) d_Mo_addObject_80 ⟨Nat.le_of_ble_eq_true rfl, Nat.le_of_ble_eq_true rfl⟩) (fun H locs f σ_132 hI hM hF_133 p_131 => ?_)
          have hF := mq_fr_tr hF hF_133 (by decide)
          obtain ⟨o_134, -⟩ := p_131
          exact sm_vret hx hb hr hlk hI ⟨σ_132, rfl, hM, hF, ⟨⟨(((z1 + 1)) + 1), by omega, by omega, o_134⟩, trivial⟩⟩ d_Mo_addObject_83
      · refine lv_aload_n hx hb d_Mo_addObject_57 rfl (lv_at hl 0 rfl) ?_
        refine lv_iload_n hx hb d_Mo_addObject_58 rfl (lv_at hl 3 rfl) ?_
        refine sm_vM hI (va_runV (As := [.int (x3)]) (rest := []) ⟨hx, hb, hml, hown, hts⟩ (c_Mo_add l D ca ad L _ _ _ hM x3 ((z1 + 1)) o_110 (by omega)) (kv_Mo_add hts rfl rfl (hts _ tw_1477) ⟨Nat.le_of_ble_eq_true rfl, Nat.le_of_ble_eq_true rfl⟩) (pv_Mo hI hE hM) rfl rfl hl.1 rfl (lv_room (Nat.le_of_ble_eq_true rfl)) d_Mo_addObject_59 ⟨Nat.le_of_ble_eq_true rfl, Nat.le_of_ble_eq_true rfl⟩) (fun H locs f σ_136 hI hM hF_137 p_135 => ?_)
        have hF := mq_fr_tr hF hF_137 (by decide)
        obtain ⟨o_138, -⟩ := p_135
        refine lv_iload_n hx hb d_Mo_addObject_62 rfl (lv_at hl 1 rfl) ?_
        refine lv_bipush (v := 6) hx hb d_Mo_addObject_63 (by decide) ?_
        refine lv_icmp_ne (tgt := 83) hx hb d_Mo_addObject_65 (by decide) (fun c_139 => ?_) (fun c_139 => ?_)
        · exact sm_vret hx hb hr hlk hI ⟨σ_136, rfl, hM, hF, ⟨⟨(((z1 + 1)) + 1), by omega, by omega, o_138⟩, trivial⟩⟩ d_Mo_addObject_83
        · exact absurd (by rw [c_139]; decide) c_123
theorem d_Mo_byteIn_0 : decode b_Mo_byteIn 0 = .ok (.aload_n 0, 1) := by decide +kernel
theorem d_Mo_byteIn_1 : decode b_Mo_byteIn 1 = .ok (.getfield 41, 3) := by decide +kernel
theorem d_Mo_byteIn_4 : decode b_Mo_byteIn 4 = .ok (.iload_n 1, 1) := by decide +kernel
theorem d_Mo_byteIn_5 : decode b_Mo_byteIn 5 = .ok (.sipush 270, 3) := by decide +kernel
theorem d_Mo_byteIn_8 : decode b_Mo_byteIn 8 = .ok (.imul, 1) := by decide +kernel
theorem d_Mo_byteIn_9 : decode b_Mo_byteIn 9 = .ok (.iload_n 2, 1) := by decide +kernel
theorem d_Mo_byteIn_10 : decode b_Mo_byteIn 10 = .ok (.iadd, 1) := by decide +kernel
theorem d_Mo_byteIn_11 : decode b_Mo_byteIn 11 = .ok (.iaload, 1) := by decide +kernel
theorem d_Mo_byteIn_12 : decode b_Mo_byteIn 12 = .ok (.ireturn, 1) := by decide +kernel
set_option maxRecDepth 100000 in
set_option maxHeartbeats 4000000 in
theorem c_Mo_byteIn (l : Launch) (D : va_G) (ca : Nat → ClassId) (ad : Nat → Nat) (L : List Nat) (f0 : Nat → va_E) (sz : Nat) (σ0 : mq_S) (hM : mq_B ca ad σ0 L f0) (j1 : Nat) (q1 : j1 ≤ 3) (j2 : Nat) (q2 : j2 ≤ 269) :
    Met l y_Mo_byteIn (Cond.code y_Mo_byteIn b_Mo_byteIn 3 (some .int) :: wg) { frames := 0, cells := 0, slots := 0, locals := 0 } (va_Pc [.ref (ad 71), .int (nI j1), .int (nI j2)] (sm_P D cl_all (ty_s ca) ek L f0 sz)) (sm_Qi D (ty_s ca) L f0 sz (fun r u => (∃ n : Nat, r = nI n ∧ 0 ≤ n ∧ n ≤ 255 ∧ σ0.2.2.1 17 (j1 * 270 + j2) = nI n) ∧ u = (L, f0))) 0 0 (va_A (va_pl L f0) sz) := by
  refine sm_start (by decide) (Nat.le_of_ble_eq_true rfl) ?_
  intro p e s m below meth c ls hx hb hml hr hlk hnm hts hown hsz hE hI hl
  have hl : lv_has ls 3 [(0, .ref (ad 71)), (1, .int (nI j1)), (2, .int (nI j2))] := hl
  refine lv_aload_n hx hb d_Mo_byteIn_0 rfl (lv_at hl 0 rfl) ?_
  refine mq_get (k := 17) (v := .ref (ad 17)) hx hb hts hown hI hM (by decide) rfl rfl (hts _ tw_1186) d_Mo_byteIn_1 ?_
  refine lv_iload_n hx hb d_Mo_byteIn_4 rfl (lv_at hl 1 rfl) ?_
  refine lv_sipush (v := 270) hx hb d_Mo_byteIn_5 (by decide) ?_
  refine lv_imul hx hb d_Mo_byteIn_8 ?_
  refine lv_topi (fun x_1 e_2 => ?_)
  obtain rfl : x_1 = nI (j1 * 270) := by rw [e_2]; exact pk_mul _ _
  refine lv_iload_n hx hb d_Mo_byteIn_9 rfl (lv_at hl 2 rfl) ?_
  refine lv_iadd hx hb d_Mo_byteIn_10 ?_
  refine lv_topi (fun x_3 e_4 => ?_)
  obtain rfl : x_3 = nI ((j1 * 270) + j2) := by rw [e_4]; exact nI_add _ _
  obtain ⟨n_5, h_6, h_7, e_8⟩ := hM.2.2.2.2.2 17 (((j1 * 270) + j2))
  refine mq_iald (k := 17) (j := ((j1 * 270) + j2)) (v := nI n_5) hx hb hI hM (by decide) rfl (by show ((j1 * 270) + j2) < 1080; omega) (by decide) e_8 d_Mo_byteIn_11 ?_
  exact sm_iret hx hb hr hlk hI ⟨⟨n_5, rfl, by omega, by omega, e_8⟩, rfl⟩ d_Mo_byteIn_12
theorem d_Mo_put_0 : decode b_Mo_put 0 = .ok (.aload_n 0, 1) := by decide +kernel
theorem d_Mo_put_1 : decode b_Mo_put 1 = .ok (.getfield 35, 3) := by decide +kernel
theorem d_Mo_put_4 : decode b_Mo_put 4 = .ok (.iload_n 1, 1) := by decide +kernel
theorem d_Mo_put_5 : decode b_Mo_put 5 = .ok (.sipush 1300, 3) := by decide +kernel
theorem d_Mo_put_8 : decode b_Mo_put 8 = .ok (.imul, 1) := by decide +kernel
theorem d_Mo_put_9 : decode b_Mo_put 9 = .ok (.aload_n 0, 1) := by decide +kernel
theorem d_Mo_put_10 : decode b_Mo_put 10 = .ok (.getfield 38, 3) := by decide +kernel
theorem d_Mo_put_13 : decode b_Mo_put 13 = .ok (.iload_n 1, 1) := by decide +kernel
theorem d_Mo_put_14 : decode b_Mo_put 14 = .ok (.iaload, 1) := by decide +kernel
theorem d_Mo_put_15 : decode b_Mo_put 15 = .ok (.iadd, 1) := by decide +kernel
theorem d_Mo_put_16 : decode b_Mo_put 16 = .ok (.iload_n 2, 1) := by decide +kernel
theorem d_Mo_put_17 : decode b_Mo_put 17 = .ok (.sipush 255, 3) := by decide +kernel
theorem d_Mo_put_20 : decode b_Mo_put 20 = .ok (.iand, 1) := by decide +kernel
theorem d_Mo_put_21 : decode b_Mo_put 21 = .ok (.iastore, 1) := by decide +kernel
theorem d_Mo_put_22 : decode b_Mo_put 22 = .ok (.aload_n 0, 1) := by decide +kernel
theorem d_Mo_put_23 : decode b_Mo_put 23 = .ok (.getfield 38, 3) := by decide +kernel
theorem d_Mo_put_26 : decode b_Mo_put 26 = .ok (.iload_n 1, 1) := by decide +kernel
theorem d_Mo_put_27 : decode b_Mo_put 27 = .ok (.dup2, 1) := by decide +kernel
theorem d_Mo_put_28 : decode b_Mo_put 28 = .ok (.iaload, 1) := by decide +kernel
theorem d_Mo_put_29 : decode b_Mo_put 29 = .ok (.iconst 1, 1) := by decide +kernel
theorem d_Mo_put_30 : decode b_Mo_put 30 = .ok (.iadd, 1) := by decide +kernel
theorem d_Mo_put_31 : decode b_Mo_put 31 = .ok (.iastore, 1) := by decide +kernel
theorem d_Mo_put_32 : decode b_Mo_put 32 = .ok (.return_, 1) := by decide +kernel
set_option maxRecDepth 100000 in
set_option maxHeartbeats 4000000 in
theorem c_Mo_put (l : Launch) (D : va_G) (ca : Nat → ClassId) (ad : Nat → Nat) (L : List Nat) (f0 : Nat → va_E) (sz : Nat) (σ0 : mq_S) (hM : mq_B ca ad σ0 L f0) (j1 : Nat) (q1 : j1 ≤ 3) (x2 : Int32) (z1 : Nat) (o0 : σ0.2.2.1 16 (j1) = nI z1) (hz : z1 < 1299) :
    Met l y_Mo_put (Cond.code y_Mo_put b_Mo_put 3 none :: wg) { frames := 0, cells := 0, slots := 0, locals := 0 } (va_Pc [.ref (ad 71), .int (nI j1), .int (x2)] (sm_P D cl_all (ty_s ca) ek L f0 sz)) (sm_Qv D (ty_s ca) L f0 sz (fun u => mq_po ca ad L σ0 [15, 16] (fun σ => σ.2.2.1 16 (j1) = nI (z1 + 1) ∧ True) u)) 0 0 (va_A (va_pl L f0) sz) := by
  refine sm_start (by decide) (Nat.le_of_ble_eq_true rfl) ?_
  intro p e s m below meth c ls hx hb hml hr hlk hnm hts hown hsz hE hI hl
  have hl : lv_has ls 3 [(0, .ref (ad 71)), (1, .int (nI j1)), (2, .int (x2))] := hl
  have hF : mq_fr [15, 16] σ0 σ0 := mq_fr_rf
  refine lv_aload_n hx hb d_Mo_put_0 rfl (lv_at hl 0 rfl) ?_
  refine mq_get (k := 15) (v := .ref (ad 15)) hx hb hts hown hI hM (by decide) rfl rfl (hts _ tw_1184) d_Mo_put_1 ?_
  refine lv_iload_n hx hb d_Mo_put_4 rfl (lv_at hl 1 rfl) ?_
  refine lv_sipush (v := 1300) hx hb d_Mo_put_5 (by decide) ?_
  refine lv_imul hx hb d_Mo_put_8 ?_
  refine lv_topi (fun x_1 e_2 => ?_)
  obtain rfl : x_1 = nI (j1 * 1300) := by rw [e_2]; exact pk_mul _ _
  refine lv_aload_n hx hb d_Mo_put_9 rfl (lv_at hl 0 rfl) ?_
  refine mq_get (k := 16) (v := .ref (ad 16)) hx hb hts hown hI hM (by decide) rfl rfl (hts _ tw_1185) d_Mo_put_10 ?_
  refine lv_iload_n hx hb d_Mo_put_13 rfl (lv_at hl 1 rfl) ?_
  refine mq_iald (k := 16) (j := j1) (v := nI z1) hx hb hI hM (by decide) rfl (by show j1 < 4; omega) (by decide) o0 d_Mo_put_14 ?_
  refine lv_iadd hx hb d_Mo_put_15 ?_
  refine lv_topi (fun x_3 e_4 => ?_)
  obtain rfl : x_3 = nI ((j1 * 1300) + z1) := by rw [e_4]; exact nI_add _ _
  refine lv_iload_n hx hb d_Mo_put_16 rfl (lv_at hl 2 rfl) ?_
  refine lv_sipush (v := 255) hx hb d_Mo_put_17 (by decide) ?_
  refine lv_iand hx hb d_Mo_put_20 ?_
  refine lv_topi (fun x_5 e_6 => ?_)
  refine mq_iast (k := 15) (j := ((j1 * 1300) + z1)) (x := x_5) hx hb hI hM (by decide) rfl (by show ((j1 * 1300) + z1) < 5200; omega) (by decide) trivial d_Mo_put_21 (fun H locs f σ_7 e_8 hI hM => ?_)
  have hF := mq_fr_ug hF e_8 rfl (Or.inl rfl)
  have o_9 : σ_7.2.2.1 16 (j1) = nI z1 := by rw [e_8]; exact o0
  refine lv_aload_n hx hb d_Mo_put_22 rfl (lv_at hl 0 rfl) ?_
  refine mq_get (k := 16) (v := .ref (ad 16)) hx hb hts hown hI hM (by decide) rfl rfl (hts _ tw_1185) d_Mo_put_23 ?_
  refine lv_iload_n hx hb d_Mo_put_26 rfl (lv_at hl 1 rfl) ?_
  refine lv_dup2_11 hx hb d_Mo_put_27 rfl rfl ?_
  refine mq_iald (k := 16) (j := j1) (v := nI z1) hx hb hI hM (by decide) rfl (by show j1 < 4; omega) (by decide) o_9 d_Mo_put_28 ?_
  refine lv_iconst (v := 1) hx hb d_Mo_put_29 (by decide) ?_
  refine lv_iadd hx hb d_Mo_put_30 ?_
  refine lv_topi (fun x_10 e_11 => ?_)
  obtain rfl : x_10 = nI (z1 + 1) := by rw [e_11]; exact nI_add _ _
  refine mq_iast (k := 16) (j := j1) (x := nI (z1 + 1)) hx hb hI hM (by decide) rfl (by show j1 < 4; omega) (by decide) ⟨(z1 + 1), by omega, by omega, rfl⟩ d_Mo_put_31 (fun H locs f σ_12 e_13 hI hM => ?_)
  have hF := mq_fr_ug hF e_13 rfl (Or.inl rfl)
  have o_14 := mq_ugj e_13
  exact sm_vret hx hb hr hlk hI ⟨σ_12, rfl, hM, hF, ⟨(Eq.trans o_14 (congrArg nI (show ((z1 + 1) : Nat) = z1 + 1 by omega))), trivial⟩⟩ d_Mo_put_32
theorem d_Mo_unsent_0 : decode b_Mo_unsent 0 = .ok (.iconst 0, 1) := by decide +kernel
theorem d_Mo_unsent_1 : decode b_Mo_unsent 1 = .ok (.istore_n 1, 1) := by decide +kernel
theorem d_Mo_unsent_2 : decode b_Mo_unsent 2 = .ok (.iload_n 1, 1) := by decide +kernel
theorem d_Mo_unsent_3 : decode b_Mo_unsent 3 = .ok (.aload_n 0, 1) := by decide +kernel
theorem d_Mo_unsent_4 : decode b_Mo_unsent 4 = .ok (.getfield 247, 3) := by decide +kernel
theorem d_Mo_unsent_7 : decode b_Mo_unsent 7 = .ok (.if_icmp .ge 20, 3) := by decide +kernel
theorem d_Mo_unsent_10 : decode b_Mo_unsent 10 = .ok (.aload_n 0, 1) := by decide +kernel
theorem d_Mo_unsent_11 : decode b_Mo_unsent 11 = .ok (.getfield 133, 3) := by decide +kernel
theorem d_Mo_unsent_14 : decode b_Mo_unsent 14 = .ok (.iload_n 1, 1) := by decide +kernel
theorem d_Mo_unsent_15 : decode b_Mo_unsent 15 = .ok (.iaload, 1) := by decide +kernel
theorem d_Mo_unsent_16 : decode b_Mo_unsent 16 = .ok (.ifCond .ge 5, 3) := by decide +kernel
theorem d_Mo_unsent_19 : decode b_Mo_unsent 19 = .ok (.iload_n 1, 1) := by decide +kernel
theorem d_Mo_unsent_20 : decode b_Mo_unsent 20 = .ok (.ireturn, 1) := by decide +kernel
theorem d_Mo_unsent_21 : decode b_Mo_unsent 21 = .ok (.iinc 1 1, 3) := by decide +kernel
theorem d_Mo_unsent_24 : decode b_Mo_unsent 24 = .ok (.goto (-22), 3) := by decide +kernel
theorem d_Mo_unsent_27 : decode b_Mo_unsent 27 = .ok (.iconst (-1), 1) := by decide +kernel
theorem d_Mo_unsent_28 : decode b_Mo_unsent 28 = .ok (.ireturn, 1) := by decide +kernel
set_option maxRecDepth 100000 in
set_option maxHeartbeats 4000000 in
theorem c_Mo_unsent (l : Launch) (D : va_G) (ca : Nat → ClassId) (ad : Nat → Nat) (L : List Nat) (f0 : Nat → va_E) (sz : Nat) (σ0 : mq_S) (hM : mq_B ca ad σ0 L f0)  :
    Met l y_Mo_unsent (Cond.code y_Mo_unsent b_Mo_unsent 2 (some .int) :: wg) { frames := 0, cells := 0, slots := 0, locals := 0 } (va_Pc [.ref (ad 71)] (sm_P D cl_all (ty_s ca) ek L f0 sz)) (sm_Qi D (ty_s ca) L f0 sz (fun r u => (r = -1 ∨ ∃ n : Nat, r = nI n ∧ n ≤ 47) ∧ u = (L, f0))) 0 0 (va_A (va_pl L f0) sz) := by
  refine sm_start (by decide) (Nat.le_of_ble_eq_true rfl) ?_
  intro p e s m below meth c ls hx hb hml hr hlk hnm hts hown hsz hE hI hl
  have hl : lv_has ls 2 [(0, .ref (ad 71))] := hl
  have hJ_2 : ∀ (N k : Nat) (H : Heap) (locs : List Loc) (ls : Array Slot) , 48 + 1 - k ≤ N → k ≤ 48 → sw_I D cl_all (ty_s ca) (va_A (va_pl L f0) sz) s H locs L f0 → lv_has ls 2 [(0, .ref (ad 71)), (1, .int (nI k))] → W p l e { frames := 0, cells := 0, slots := 0, locals := 0 } s m ([.ref (ad 71)] : List Value).toArray below meth c H locs 0 0 (MQ below (sm_Qi D (ty_s ca) L f0 sz (fun r u => (r = -1 ∨ ∃ n : Nat, r = nI n ∧ n ≤ 47) ∧ u = (L, f0))) ([.ref (ad 71)] : List Value).toArray s 0 0 (va_A (va_pl L f0) sz)) (F0 m 2 ls []) := by
    intro N
    induction N with
    | zero => intros; omega
    | succ N ih =>
      intro k H locs ls  hN hk hI hl 
      refine lv_iload_n hx hb d_Mo_unsent_2 rfl (lv_at hl 1 rfl) ?_
      refine lv_aload_n hx hb d_Mo_unsent_3 rfl (lv_at hl 0 rfl) ?_
      obtain ⟨n_1, h_2, h_3, e_4⟩ := hM.2.2.2.2.1 43
      refine mq_get (k := 43) (v := .int (nI n_1)) hx hb hts hown hI hM (by decide) (congrArg (fun z => some (Value.int z)) e_4) rfl (hts _ tw_1212) d_Mo_unsent_4 ?_
      refine lv_icmp_ge (tgt := 27) hx hb d_Mo_unsent_7 (by decide) (fun c_5 => ?_) (fun c_5 => ?_)
      · have k_6 : n_1 ≤ k := (nI_leI (a := n_1) (b := k) (by omega) (by omega)).mp c_5
        refine lv_iconst (v := -1) hx hb d_Mo_unsent_27 (by decide) ?_
        exact sm_iret hx hb hr hlk hI ⟨(Or.inl rfl), rfl⟩ d_Mo_unsent_28
      · have k_7 : k < n_1 := Nat.lt_of_not_le (fun q => c_5 ((nI_leI (a := n_1) (b := k) (by omega) (by omega)).mpr q))
        refine lv_aload_n hx hb d_Mo_unsent_10 rfl (lv_at hl 0 rfl) ?_
        refine mq_get (k := 52) (v := .ref (ad 52)) hx hb hts hown hI hM (by decide) rfl rfl (hts _ tw_1221) d_Mo_unsent_11 ?_
        refine lv_iload_n hx hb d_Mo_unsent_14 rfl (lv_at hl 1 rfl) ?_
        obtain ⟨x_8, e_9⟩ : ∃ z, σ0.2.2.1 52 (k) = z := ⟨_, rfl⟩
        refine mq_iald (k := 52) (j := k) (v := x_8) hx hb hI hM (by decide) rfl (by show k < 48; omega) (by decide) e_9 d_Mo_unsent_15 ?_
        refine lv_if_ge (tgt := 21) hx hb d_Mo_unsent_16 (by decide) (fun c_10 => ?_) (fun c_10 => ?_)
        · refine lv_iinc (v := nI (k + 1)) (lv' := [(1, .int (nI (k + 1))), (0, .ref (ad 71))]) hx hb d_Mo_unsent_21 hl (k := 1) rfl (nI_1 _) (by decide) rfl (fun ls hl => ?_)
          refine lv_goto (tgt := 2) hx hb d_Mo_unsent_24 (by decide) ?_
          exact ih ((k + 1)) _ _ _  (by omega) (by omega) hI (lv_sub hl [1, 0] rfl) 
        · refine lv_iload_n hx hb d_Mo_unsent_19 rfl (lv_at hl 1 rfl) ?_
          exact sm_iret hx hb hr hlk hI ⟨(Or.inr ⟨k, rfl, by omega⟩), rfl⟩ d_Mo_unsent_20
  refine lv_iconst (v := 0) hx hb d_Mo_unsent_0 (by decide) ?_
  refine lv_istore_n (lv' := [(1, .int (0)), (0, .ref (ad 71))]) hx hb d_Mo_unsent_1 rfl hl (by decide) rfl (fun ls hl => ?_)
  exact hJ_2 _ (0) _ _ _  (Nat.le_refl _) (by omega) hI (lv_sub hl [1, 0] rfl) 
theorem d_Mo_pointAt_0 : decode b_Mo_pointAt 0 = .ok (.iconst 0, 1) := by decide +kernel
theorem d_Mo_pointAt_1 : decode b_Mo_pointAt 1 = .ok (.istore_n 2, 1) := by decide +kernel
theorem d_Mo_pointAt_2 : decode b_Mo_pointAt 2 = .ok (.iload_n 2, 1) := by decide +kernel
theorem d_Mo_pointAt_3 : decode b_Mo_pointAt 3 = .ok (.aload_n 0, 1) := by decide +kernel
theorem d_Mo_pointAt_4 : decode b_Mo_pointAt 4 = .ok (.getfield 182, 3) := by decide +kernel
theorem d_Mo_pointAt_7 : decode b_Mo_pointAt 7 = .ok (.if_icmp .ge 21, 3) := by decide +kernel
theorem d_Mo_pointAt_10 : decode b_Mo_pointAt 10 = .ok (.aload_n 0, 1) := by decide +kernel
theorem d_Mo_pointAt_11 : decode b_Mo_pointAt 11 = .ok (.getfield 7, 3) := by decide +kernel
theorem d_Mo_pointAt_14 : decode b_Mo_pointAt 14 = .ok (.iload_n 2, 1) := by decide +kernel
theorem d_Mo_pointAt_15 : decode b_Mo_pointAt 15 = .ok (.iaload, 1) := by decide +kernel
theorem d_Mo_pointAt_16 : decode b_Mo_pointAt 16 = .ok (.iload_n 1, 1) := by decide +kernel
theorem d_Mo_pointAt_17 : decode b_Mo_pointAt 17 = .ok (.if_icmp .ne 5, 3) := by decide +kernel
theorem d_Mo_pointAt_20 : decode b_Mo_pointAt 20 = .ok (.iload_n 2, 1) := by decide +kernel
theorem d_Mo_pointAt_21 : decode b_Mo_pointAt 21 = .ok (.ireturn, 1) := by decide +kernel
theorem d_Mo_pointAt_22 : decode b_Mo_pointAt 22 = .ok (.iinc 2 1, 3) := by decide +kernel
theorem d_Mo_pointAt_25 : decode b_Mo_pointAt 25 = .ok (.goto (-23), 3) := by decide +kernel
theorem d_Mo_pointAt_28 : decode b_Mo_pointAt 28 = .ok (.iconst (-1), 1) := by decide +kernel
theorem d_Mo_pointAt_29 : decode b_Mo_pointAt 29 = .ok (.ireturn, 1) := by decide +kernel
set_option maxRecDepth 100000 in
set_option maxHeartbeats 4000000 in
theorem c_Mo_pointAt (l : Launch) (D : va_G) (ca : Nat → ClassId) (ad : Nat → Nat) (L : List Nat) (f0 : Nat → va_E) (sz : Nat) (σ0 : mq_S) (hM : mq_B ca ad σ0 L f0) (x1 : Int32) :
    Met l y_Mo_pointAt (Cond.code y_Mo_pointAt b_Mo_pointAt 3 (some .int) :: wg) { frames := 0, cells := 0, slots := 0, locals := 0 } (va_Pc [.ref (ad 71), .int (x1)] (sm_P D cl_all (ty_s ca) ek L f0 sz)) (sm_Qi D (ty_s ca) L f0 sz (fun r u => (r = -1 ∨ ∃ n : Nat, r = nI n ∧ n ≤ 31) ∧ u = (L, f0))) 0 0 (va_A (va_pl L f0) sz) := by
  refine sm_start (by decide) (Nat.le_of_ble_eq_true rfl) ?_
  intro p e s m below meth c ls hx hb hml hr hlk hnm hts hown hsz hE hI hl
  have hl : lv_has ls 3 [(0, .ref (ad 71)), (1, .int (x1))] := hl
  have hJ_2 : ∀ (N k : Nat) (H : Heap) (locs : List Loc) (ls : Array Slot) , 32 + 1 - k ≤ N → k ≤ 32 → sw_I D cl_all (ty_s ca) (va_A (va_pl L f0) sz) s H locs L f0 → lv_has ls 3 [(0, .ref (ad 71)), (1, .int (x1)), (2, .int (nI k))] → W p l e { frames := 0, cells := 0, slots := 0, locals := 0 } s m ([.ref (ad 71), .int (x1)] : List Value).toArray below meth c H locs 0 0 (MQ below (sm_Qi D (ty_s ca) L f0 sz (fun r u => (r = -1 ∨ ∃ n : Nat, r = nI n ∧ n ≤ 31) ∧ u = (L, f0))) ([.ref (ad 71), .int (x1)] : List Value).toArray s 0 0 (va_A (va_pl L f0) sz)) (F0 m 2 ls []) := by
    intro N
    induction N with
    | zero => intros; omega
    | succ N ih =>
      intro k H locs ls  hN hk hI hl 
      refine lv_iload_n hx hb d_Mo_pointAt_2 rfl (lv_at hl 2 rfl) ?_
      refine lv_aload_n hx hb d_Mo_pointAt_3 rfl (lv_at hl 0 rfl) ?_
      obtain ⟨n_1, h_2, h_3, e_4⟩ := hM.2.2.2.2.1 2
      refine mq_get (k := 2) (v := .int (nI n_1)) hx hb hts hown hI hM (by decide) (congrArg (fun z => some (Value.int z)) e_4) rfl (hts _ tw_1171) d_Mo_pointAt_4 ?_
      refine lv_icmp_ge (tgt := 28) hx hb d_Mo_pointAt_7 (by decide) (fun c_5 => ?_) (fun c_5 => ?_)
      · have k_6 : n_1 ≤ k := (nI_leI (a := n_1) (b := k) (by omega) (by omega)).mp c_5
        refine lv_iconst (v := -1) hx hb d_Mo_pointAt_28 (by decide) ?_
        exact sm_iret hx hb hr hlk hI ⟨(Or.inl rfl), rfl⟩ d_Mo_pointAt_29
      · have k_7 : k < n_1 := Nat.lt_of_not_le (fun q => c_5 ((nI_leI (a := n_1) (b := k) (by omega) (by omega)).mpr q))
        refine lv_aload_n hx hb d_Mo_pointAt_10 rfl (lv_at hl 0 rfl) ?_
        refine mq_get (k := 3) (v := .ref (ad 3)) hx hb hts hown hI hM (by decide) rfl rfl (hts _ tw_1172) d_Mo_pointAt_11 ?_
        refine lv_iload_n hx hb d_Mo_pointAt_14 rfl (lv_at hl 2 rfl) ?_
        obtain ⟨x_8, e_9⟩ : ∃ z, σ0.2.2.1 3 (k) = z := ⟨_, rfl⟩
        refine mq_iald (k := 3) (j := k) (v := x_8) hx hb hI hM (by decide) rfl (by show k < 32; omega) (by decide) e_9 d_Mo_pointAt_15 ?_
        refine lv_iload_n hx hb d_Mo_pointAt_16 rfl (lv_at hl 1 rfl) ?_
        refine lv_icmp_ne (tgt := 22) hx hb d_Mo_pointAt_17 (by decide) (fun c_10 => ?_) (fun c_10 => ?_)
        · refine lv_iinc (v := nI (k + 1)) (lv' := [(2, .int (nI (k + 1))), (0, .ref (ad 71)), (1, .int (x1))]) hx hb d_Mo_pointAt_22 hl (k := 2) rfl (nI_1 _) (by decide) rfl (fun ls hl => ?_)
          refine lv_goto (tgt := 2) hx hb d_Mo_pointAt_25 (by decide) ?_
          exact ih ((k + 1)) _ _ _  (by omega) (by omega) hI (lv_sub hl [1, 2, 0] rfl) 
        · refine lv_iload_n hx hb d_Mo_pointAt_20 rfl (lv_at hl 2 rfl) ?_
          exact sm_iret hx hb hr hlk hI ⟨(Or.inr ⟨k, rfl, by omega⟩), rfl⟩ d_Mo_pointAt_21
  refine lv_iconst (v := 0) hx hb d_Mo_pointAt_0 (by decide) ?_
  refine lv_istore_n (lv' := [(2, .int (0)), (0, .ref (ad 71)), (1, .int (x1))]) hx hb d_Mo_pointAt_1 rfl hl (by decide) rfl (fun ls hl => ?_)
  exact hJ_2 _ (0) _ _ _  (Nat.le_refl _) (by omega) hI (lv_sub hl [1, 2, 0] rfl) 
theorem d_Mo_isSelected_0 : decode b_Mo_isSelected 0 = .ok (.aload_n 0, 1) := by decide +kernel
theorem d_Mo_isSelected_1 : decode b_Mo_isSelected 1 = .ok (.getfield 166, 3) := by decide +kernel
theorem d_Mo_isSelected_4 : decode b_Mo_isSelected 4 = .ok (.ifCond .lt 23, 3) := by decide +kernel
theorem d_Mo_isSelected_7 : decode b_Mo_isSelected 7 = .ok (.aload_n 0, 1) := by decide +kernel
theorem d_Mo_isSelected_8 : decode b_Mo_isSelected 8 = .ok (.getfield 282, 3) := by decide +kernel
theorem d_Mo_isSelected_11 : decode b_Mo_isSelected 11 = .ok (.aload_n 0, 1) := by decide +kernel
theorem d_Mo_isSelected_12 : decode b_Mo_isSelected 12 = .ok (.getfield 479, 3) := by decide +kernel
theorem d_Mo_isSelected_15 : decode b_Mo_isSelected 15 = .ok (.lsub, 1) := by decide +kernel
theorem d_Mo_isSelected_16 : decode b_Mo_isSelected 16 = .ok (.ldc2_w 356, 3) := by decide +kernel
theorem d_Mo_isSelected_19 : decode b_Mo_isSelected 19 = .ok (.lcmp, 1) := by decide +kernel
theorem d_Mo_isSelected_20 : decode b_Mo_isSelected 20 = .ok (.ifCond .ge 7, 3) := by decide +kernel
theorem d_Mo_isSelected_23 : decode b_Mo_isSelected 23 = .ok (.iconst 1, 1) := by decide +kernel
theorem d_Mo_isSelected_24 : decode b_Mo_isSelected 24 = .ok (.goto 4, 3) := by decide +kernel
theorem d_Mo_isSelected_27 : decode b_Mo_isSelected 27 = .ok (.iconst 0, 1) := by decide +kernel
theorem d_Mo_isSelected_28 : decode b_Mo_isSelected 28 = .ok (.ireturn, 1) := by decide +kernel
set_option maxRecDepth 100000 in
set_option maxHeartbeats 4000000 in
theorem c_Mo_isSelected (l : Launch) (D : va_G) (ca : Nat → ClassId) (ad : Nat → Nat) (L : List Nat) (f0 : Nat → va_E) (sz : Nat) (σ0 : mq_S) (hM : mq_B ca ad σ0 L f0)  :
    Met l y_Mo_isSelected (Cond.code y_Mo_isSelected b_Mo_isSelected 1 (some .boolean) :: wg) { frames := 0, cells := 0, slots := 0, locals := 0 } (va_Pc [.ref (ad 71)] (sm_P D cl_all (ty_s ca) ek L f0 sz)) (sm_Qi D (ty_s ca) L f0 sz (fun r u => (r = 0 ∨ r = 1) ∧ u = (L, f0))) 0 0 (va_A (va_pl L f0) sz) := by
  refine sm_start (by decide) (Nat.le_of_ble_eq_true rfl) ?_
  intro p e s m below meth c ls hx hb hml hr hlk hnm hts hown hsz hE hI hl
  have hl : lv_has ls 1 [(0, .ref (ad 71))] := hl
  refine lv_aload_n hx hb d_Mo_isSelected_0 rfl (lv_at hl 0 rfl) ?_
  obtain ⟨x_1, e_2⟩ : ∃ z, σ0.1 65 = z := ⟨_, rfl⟩
  refine mq_get (k := 65) (v := .int (x_1)) hx hb hts hown hI hM (by decide) (congrArg (fun z => some (Value.int z)) e_2) rfl (hts _ tw_1234) d_Mo_isSelected_1 ?_
  refine lv_if_lt (tgt := 27) hx hb d_Mo_isSelected_4 (by decide) (fun c_3 => ?_) (fun c_3 => ?_)
  · refine lv_iconst (v := 0) hx hb d_Mo_isSelected_27 (by decide) ?_
    exact sm_zret hx hb hr hlk hI (by decide) ⟨(by decide), rfl⟩ d_Mo_isSelected_28
  · refine lv_aload_n hx hb d_Mo_isSelected_7 rfl (lv_at hl 0 rfl) ?_
    refine mq_get (k := 12) (v := .long (σ0.2.1 12)) hx hb hts hown hI hM (by decide) rfl rfl (hts _ tw_1181) d_Mo_isSelected_8 ?_
    refine lv_topl (fun x_4 e_5 => ?_)
    refine lv_aload_n hx hb d_Mo_isSelected_11 rfl (lv_at hl 0 rfl) ?_
    refine mq_get (k := 67) (v := .long (σ0.2.1 67)) hx hb hts hown hI hM (by decide) rfl rfl (hts _ tw_1236) d_Mo_isSelected_12 ?_
    refine lv_topl (fun x_6 e_7 => ?_)
    refine lv_lsub hx hb d_Mo_isSelected_15 ?_
    refine lv_topl (fun x_8 e_9 => ?_)
    refine lv_ldc2 (v := 10000) hx hb hown (hts _ tw_1560) d_Mo_isSelected_16 ?_
    refine W.lcmp hx hb d_Mo_isSelected_19 ?_
    refine lv_topi (fun x_10 e_11 => ?_)
    refine lv_if_ge (tgt := 27) hx hb d_Mo_isSelected_20 (by decide) (fun c_12 => ?_) (fun c_12 => ?_)
    · refine lv_iconst (v := 0) hx hb d_Mo_isSelected_27 (by decide) ?_
      exact sm_zret hx hb hr hlk hI (by decide) ⟨(by decide), rfl⟩ d_Mo_isSelected_28
    · refine lv_iconst (v := 1) hx hb d_Mo_isSelected_23 (by decide) ?_
      refine lv_goto (tgt := 28) hx hb d_Mo_isSelected_24 (by decide) ?_
      exact sm_zret hx hb hr hlk hI (by decide) ⟨(by decide), rfl⟩ d_Mo_isSelected_28
theorem d_Mo_opened_0 : decode b_Mo_opened 0 = .ok (.iconst 0, 1) := by decide +kernel
theorem d_Mo_opened_1 : decode b_Mo_opened 1 = .ok (.istore_n 1, 1) := by decide +kernel
theorem d_Mo_opened_2 : decode b_Mo_opened 2 = .ok (.iconst 0, 1) := by decide +kernel
theorem d_Mo_opened_3 : decode b_Mo_opened 3 = .ok (.istore_n 2, 1) := by decide +kernel
theorem d_Mo_opened_4 : decode b_Mo_opened 4 = .ok (.iload_n 2, 1) := by decide +kernel
theorem d_Mo_opened_5 : decode b_Mo_opened 5 = .ok (.iconst 3, 1) := by decide +kernel
theorem d_Mo_opened_6 : decode b_Mo_opened 6 = .ok (.if_icmp .ge 26, 3) := by decide +kernel
theorem d_Mo_opened_9 : decode b_Mo_opened 9 = .ok (.aload_n 0, 1) := by decide +kernel
theorem d_Mo_opened_10 : decode b_Mo_opened 10 = .ok (.getfield 29, 3) := by decide +kernel
theorem d_Mo_opened_13 : decode b_Mo_opened 13 = .ok (.iload_n 2, 1) := by decide +kernel
theorem d_Mo_opened_14 : decode b_Mo_opened 14 = .ok (.iaload, 1) := by decide +kernel
theorem d_Mo_opened_15 : decode b_Mo_opened 15 = .ok (.ifCond .le 9, 3) := by decide +kernel
theorem d_Mo_opened_18 : decode b_Mo_opened 18 = .ok (.iload_n 1, 1) := by decide +kernel
theorem d_Mo_opened_19 : decode b_Mo_opened 19 = .ok (.iconst 1, 1) := by decide +kernel
theorem d_Mo_opened_20 : decode b_Mo_opened 20 = .ok (.iadd, 1) := by decide +kernel
theorem d_Mo_opened_21 : decode b_Mo_opened 21 = .ok (.goto 4, 3) := by decide +kernel
theorem d_Mo_opened_24 : decode b_Mo_opened 24 = .ok (.iload_n 1, 1) := by decide +kernel
theorem d_Mo_opened_25 : decode b_Mo_opened 25 = .ok (.istore_n 1, 1) := by decide +kernel
theorem d_Mo_opened_26 : decode b_Mo_opened 26 = .ok (.iinc 2 1, 3) := by decide +kernel
theorem d_Mo_opened_29 : decode b_Mo_opened 29 = .ok (.goto (-25), 3) := by decide +kernel
theorem d_Mo_opened_32 : decode b_Mo_opened 32 = .ok (.iload_n 1, 1) := by decide +kernel
theorem d_Mo_opened_33 : decode b_Mo_opened 33 = .ok (.ireturn, 1) := by decide +kernel
set_option maxRecDepth 100000 in
set_option maxHeartbeats 4000000 in
theorem c_Mo_opened (l : Launch) (D : va_G) (ca : Nat → ClassId) (ad : Nat → Nat) (L : List Nat) (f0 : Nat → va_E) (sz : Nat) (σ0 : mq_S) (hM : mq_B ca ad σ0 L f0)  :
    Met l y_Mo_opened (Cond.code y_Mo_opened b_Mo_opened 3 (some .int) :: wg) { frames := 0, cells := 0, slots := 0, locals := 0 } (va_Pc [.ref (ad 71)] (sm_P D cl_all (ty_s ca) ek L f0 sz)) (sm_Qi D (ty_s ca) L f0 sz (fun r u => (True) ∧ u = (L, f0))) 0 0 (va_A (va_pl L f0) sz) := by
  refine sm_start (by decide) (Nat.le_of_ble_eq_true rfl) ?_
  intro p e s m below meth c ls hx hb hml hr hlk hnm hts hown hsz hE hI hl
  have hl : lv_has ls 3 [(0, .ref (ad 71))] := hl
  have hJ_4 : ∀ (N k : Nat) (H : Heap) (locs : List Loc) (ls : Array Slot) (y1 : Int32), 3 + 1 - k ≤ N → k ≤ 3 → sw_I D cl_all (ty_s ca) (va_A (va_pl L f0) sz) s H locs L f0 → lv_has ls 3 [(0, .ref (ad 71)), (1, .int (y1)), (2, .int (nI k))] → W p l e { frames := 0, cells := 0, slots := 0, locals := 0 } s m ([.ref (ad 71)] : List Value).toArray below meth c H locs 0 0 (MQ below (sm_Qi D (ty_s ca) L f0 sz (fun r u => (True) ∧ u = (L, f0))) ([.ref (ad 71)] : List Value).toArray s 0 0 (va_A (va_pl L f0) sz)) (F0 m 4 ls []) := by
    intro N
    induction N with
    | zero => intros; omega
    | succ N ih =>
      intro k H locs ls y1 hN hk hI hl 
      refine lv_iload_n hx hb d_Mo_opened_4 rfl (lv_at hl 2 rfl) ?_
      refine lv_iconst (v := 3) hx hb d_Mo_opened_5 (by decide) ?_
      refine lv_icmp_ge (tgt := 32) hx hb d_Mo_opened_6 (by decide) (fun c_1 => ?_) (fun c_1 => ?_)
      · have k_2 : 3 ≤ k := (nI_leI (a := 3) (b := k) (by omega) (by omega)).mp c_1
        refine lv_iload_n hx hb d_Mo_opened_32 rfl (lv_at hl 1 rfl) ?_
        exact sm_iret hx hb hr hlk hI ⟨trivial, rfl⟩ d_Mo_opened_33
      · have k_3 : k < 3 := Nat.lt_of_not_le (fun q => c_1 ((nI_leI (a := 3) (b := k) (by omega) (by omega)).mpr q))
        refine lv_aload_n hx hb d_Mo_opened_9 rfl (lv_at hl 0 rfl) ?_
        refine mq_get (k := 13) (v := .ref (ad 13)) hx hb hts hown hI hM (by decide) rfl rfl (hts _ tw_1182) d_Mo_opened_10 ?_
        refine lv_iload_n hx hb d_Mo_opened_13 rfl (lv_at hl 2 rfl) ?_
        obtain ⟨x_4, e_5⟩ : ∃ z, σ0.2.2.1 13 (k) = z := ⟨_, rfl⟩
        refine mq_iald (k := 13) (j := k) (v := x_4) hx hb hI hM (by decide) rfl (by show k < 4; omega) (by decide) e_5 d_Mo_opened_14 ?_
        refine lv_if_le (tgt := 24) hx hb d_Mo_opened_15 (by decide) (fun c_6 => ?_) (fun c_6 => ?_)
        · refine lv_iload_n hx hb d_Mo_opened_24 rfl (lv_at hl 1 rfl) ?_
          refine lv_istore_n (lv' := [(1, .int (y1)), (0, .ref (ad 71)), (2, .int (nI k))]) hx hb d_Mo_opened_25 rfl hl (by decide) rfl (fun ls hl => ?_)
          refine lv_iinc (v := nI (k + 1)) (lv' := [(2, .int (nI (k + 1))), (1, .int (y1)), (0, .ref (ad 71))]) hx hb d_Mo_opened_26 hl (k := 2) rfl (nI_1 _) (by decide) rfl (fun ls hl => ?_)
          refine lv_goto (tgt := 4) hx hb d_Mo_opened_29 (by decide) ?_
          exact ih ((k + 1)) _ _ _ y1 (by omega) (by omega) hI (lv_sub hl [2, 1, 0] rfl) 
        · refine lv_iload_n hx hb d_Mo_opened_18 rfl (lv_at hl 1 rfl) ?_
          refine lv_iconst (v := 1) hx hb d_Mo_opened_19 (by decide) ?_
          refine lv_iadd hx hb d_Mo_opened_20 ?_
          refine lv_topi (fun x_7 e_8 => ?_)
          refine lv_goto (tgt := 25) hx hb d_Mo_opened_21 (by decide) ?_
          refine lv_istore_n (lv' := [(1, .int (x_7)), (0, .ref (ad 71)), (2, .int (nI k))]) hx hb d_Mo_opened_25 rfl hl (by decide) rfl (fun ls hl => ?_)
          refine lv_iinc (v := nI (k + 1)) (lv' := [(2, .int (nI (k + 1))), (1, .int (x_7)), (0, .ref (ad 71))]) hx hb d_Mo_opened_26 hl (k := 2) rfl (nI_1 _) (by decide) rfl (fun ls hl => ?_)
          refine lv_goto (tgt := 4) hx hb d_Mo_opened_29 (by decide) ?_
          exact ih ((k + 1)) _ _ _ x_7 (by omega) (by omega) hI (lv_sub hl [2, 1, 0] rfl) 
  refine lv_iconst (v := 0) hx hb d_Mo_opened_0 (by decide) ?_
  refine lv_istore_n (lv' := [(1, .int (0)), (0, .ref (ad 71))]) hx hb d_Mo_opened_1 rfl hl (by decide) rfl (fun ls hl => ?_)
  refine lv_iconst (v := 0) hx hb d_Mo_opened_2 (by decide) ?_
  refine lv_istore_n (lv' := [(2, .int (0)), (1, .int (0)), (0, .ref (ad 71))]) hx hb d_Mo_opened_3 rfl hl (by decide) rfl (fun ls hl => ?_)
  exact hJ_4 _ (0) _ _ _ 0 (Nat.le_refl _) (by omega) hI (lv_sub hl [2, 1, 0] rfl) 
theorem d_Mo_time_0 : decode b_Mo_time 0 = .ok (.aload_n 0, 1) := by decide +kernel
theorem d_Mo_time_1 : decode b_Mo_time 1 = .ok (.iconst 0, 1) := by decide +kernel
theorem d_Mo_time_2 : decode b_Mo_time 2 = .ok (.putfield 179, 3) := by decide +kernel
theorem d_Mo_time_5 : decode b_Mo_time 5 = .ok (.aload_n 0, 1) := by decide +kernel
theorem d_Mo_time_6 : decode b_Mo_time 6 = .ok (.getfield 239, 3) := by decide +kernel
theorem d_Mo_time_9 : decode b_Mo_time 9 = .ok (.lreturn, 1) := by decide +kernel
set_option maxRecDepth 100000 in
set_option maxHeartbeats 4000000 in
theorem c_Mo_time (l : Launch) (D : va_G) (ca : Nat → ClassId) (ad : Nat → Nat) (L : List Nat) (f0 : Nat → va_E) (sz : Nat) (σ0 : mq_S) (hM : mq_B ca ad σ0 L f0)  :
    Met l y_Mo_time (Cond.code y_Mo_time b_Mo_time 1 (some .long) :: wg) { frames := 0, cells := 0, slots := 0, locals := 0 } (va_Pc [.ref (ad 71)] (sm_P D cl_all (ty_s ca) ek L f0 sz)) (sm_Ql D (ty_s ca) L f0 sz (fun r u => mq_po ca ad L σ0 [0] (fun σ => True) u)) 0 0 (va_A (va_pl L f0) sz) := by
  refine sm_start (by decide) (Nat.le_of_ble_eq_true rfl) ?_
  intro p e s m below meth c ls hx hb hml hr hlk hnm hts hown hsz hE hI hl
  have hl : lv_has ls 1 [(0, .ref (ad 71))] := hl
  have hF : mq_fr [0] σ0 σ0 := mq_fr_rf
  refine lv_aload_n hx hb d_Mo_time_0 rfl (lv_at hl 0 rfl) ?_
  refine lv_iconst (v := 0) hx hb d_Mo_time_1 (by decide) ?_
  refine mq_puti (k := 0) (ty := .int) hx hb hts hown hI hM (by decide) rfl rfl (hts _ tw_1169) rfl (by decide +kernel) rfl rfl trivial d_Mo_time_2 (fun H locs f σ_1 e_2 hI hM => ?_)
  have hF := mq_fr_ui hF e_2 rfl
  refine lv_aload_n hx hb d_Mo_time_5 rfl (lv_at hl 0 rfl) ?_
  refine mq_get (k := 10) (v := .long (σ_1.2.1 10)) hx hb hts hown hI hM (by decide) rfl rfl (hts _ tw_1179) d_Mo_time_6 ?_
  refine lv_topl (fun x_3 e_4 => ?_)
  exact sm_lret hx hb hr hlk hI ⟨σ_1, rfl, hM, hF, trivial⟩ d_Mo_time_9
theorem d_Mo_clock_0 : decode b_Mo_clock 0 = .ok (.aload_n 0, 1) := by decide +kernel
theorem d_Mo_clock_1 : decode b_Mo_clock 1 = .ok (.lload_n 1, 1) := by decide +kernel
theorem d_Mo_clock_2 : decode b_Mo_clock 2 = .ok (.lconst 0, 1) := by decide +kernel
theorem d_Mo_clock_3 : decode b_Mo_clock 3 = .ok (.ldc2_w 237, 3) := by decide +kernel
theorem d_Mo_clock_6 : decode b_Mo_clock 6 = .ok (.invokestatic 187, 3) := by decide +kernel
theorem d_Mo_clock_9 : decode b_Mo_clock 9 = .ok (.invokevirtual 208, 3) := by decide +kernel
theorem d_Mo_clock_12 : decode b_Mo_clock 12 = .ok (.ifCond .ne 4, 3) := by decide +kernel
theorem d_Mo_clock_15 : decode b_Mo_clock 15 = .ok (.return_, 1) := by decide +kernel
theorem d_Mo_clock_16 : decode b_Mo_clock 16 = .ok (.aload_n 0, 1) := by decide +kernel
theorem d_Mo_clock_17 : decode b_Mo_clock 17 = .ok (.lload_n 1, 1) := by decide +kernel
theorem d_Mo_clock_18 : decode b_Mo_clock 18 = .ok (.putfield 239, 3) := by decide +kernel
theorem d_Mo_clock_21 : decode b_Mo_clock 21 = .ok (.aload_n 0, 1) := by decide +kernel
theorem d_Mo_clock_22 : decode b_Mo_clock 22 = .ok (.iconst 1, 1) := by decide +kernel
theorem d_Mo_clock_23 : decode b_Mo_clock 23 = .ok (.putfield 243, 3) := by decide +kernel
theorem d_Mo_clock_26 : decode b_Mo_clock 26 = .ok (.return_, 1) := by decide +kernel
set_option maxRecDepth 100000 in
set_option maxHeartbeats 4000000 in
theorem c_Mo_clock (l : Launch) (D : va_G) (ca : Nat → ClassId) (ad : Nat → Nat) (L : List Nat) (f0 : Nat → va_E) (sz : Nat) (σ0 : mq_S) (hM : mq_B ca ad σ0 L f0) (x1 : Int64) :
    Met l y_Mo_clock (Cond.code y_Mo_clock b_Mo_clock 3 none :: wg) { frames := 1, cells := 0, slots := 0, locals := 25 } (va_Pc [.ref (ad 71), .long (x1)] (sm_P D cl_all (ty_s ca) ek L f0 sz)) (sm_Qv D (ty_s ca) L f0 sz (fun u => mq_po ca ad L σ0 [0, 10, 11] (fun σ => True) u)) 0 0 (va_A (va_pl L f0) sz) := by
  refine sm_start (by decide) (Nat.le_of_ble_eq_true rfl) ?_
  intro p e s m below meth c ls hx hb hml hr hlk hnm hts hown hsz hE hI hl
  have hl : lv_has ls 3 [(0, .ref (ad 71)), (1, .long (x1))] := hl
  have hF : mq_fr [0, 10, 11] σ0 σ0 := mq_fr_rf
  refine lv_aload_n hx hb d_Mo_clock_0 rfl (lv_at hl 0 rfl) ?_
  refine lv_lload_n hx hb d_Mo_clock_1 rfl (lv_at hl 1 rfl) ?_
  refine lv_lconst (v := 0) hx hb d_Mo_clock_2 (by decide) ?_
  refine lv_ldc2 (v := 3155759999999) hx hb hown (hts _ tw_1540) d_Mo_clock_3 ?_
  refine sm_iP hI (va_runS (As := [.long (x1), .long (0), .long (3155759999999)]) (rest := [.ref (ad 71)]) ⟨hx, hb, hml, hown, hts⟩ (c_Mo_in l D ca L _ _ x1 0 3155759999999) (ks_Mo_in hts rfl rfl (hts _ tw_1393) ⟨Nat.le_of_ble_eq_true rfl, Nat.le_of_ble_eq_true rfl⟩) (sm_preS hI hE) rfl rfl hl.1 rfl (lv_room (Nat.le_of_ble_eq_true rfl)) d_Mo_clock_6 ⟨Nat.le_of_ble_eq_true rfl, Nat.le_of_ble_eq_true rfl⟩) (fun x_2 H locs p_1 hI => ?_)
  refine sm_iM hI (va_runV (As := [.int (x_2)]) (rest := []) ⟨hx, hb, hml, hown, hts⟩ (c_Mo_says l D ca ad L _ _ _ hM x_2 p_1.1) (kv_Mo_says hts rfl rfl (hts _ tw_1410) ⟨Nat.le_of_ble_eq_true rfl, Nat.le_of_ble_eq_true rfl⟩) (pv_Mo hI hE hM) rfl rfl hl.1 rfl (lv_room (Nat.le_of_ble_eq_true rfl)) d_Mo_clock_9 ⟨Nat.le_of_ble_eq_true rfl, Nat.le_of_ble_eq_true rfl⟩) (fun x_6 H locs f σ_4 hI hM hF_5 p_3 => ?_)
  have hF := mq_fr_tr hF hF_5 (by decide)
  obtain ⟨p_7, -⟩ := p_3
  refine lv_if_ne (tgt := 16) hx hb d_Mo_clock_12 (by decide) (fun c_8 => ?_) (fun c_8 => ?_)
  · refine lv_aload_n hx hb d_Mo_clock_16 rfl (lv_at hl 0 rfl) ?_
    refine lv_lload_n hx hb d_Mo_clock_17 rfl (lv_at hl 1 rfl) ?_
    refine mq_putj (k := 10) hx hb hts hown hI hM (by decide) rfl rfl (hts _ tw_1179) rfl (by decide +kernel) d_Mo_clock_18 (fun H locs f σ_9 e_10 hI hM => ?_)
    have hF := mq_fr_uj hF e_10 rfl
    refine lv_aload_n hx hb d_Mo_clock_21 rfl (lv_at hl 0 rfl) ?_
    refine lv_iconst (v := 1) hx hb d_Mo_clock_22 (by decide) ?_
    refine mq_puti (k := 11) (ty := .boolean) hx hb hts hown hI hM (by decide) rfl rfl (hts _ tw_1180) rfl (by decide +kernel) (nz_n (by decide)) (nz_f (by decide)) (mq_okz (by decide)) d_Mo_clock_23 (fun H locs f σ_11 e_12 hI hM => ?_)
    have hF := mq_fr_ui hF e_12 rfl
    exact sm_vret hx hb hr hlk hI ⟨σ_11, rfl, hM, hF, trivial⟩ d_Mo_clock_26
  · exact sm_vret hx hb hr hlk hI ⟨σ_4, rfl, hM, hF, trivial⟩ d_Mo_clock_15
