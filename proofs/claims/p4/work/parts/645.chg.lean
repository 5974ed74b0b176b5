/-! what a change answers (out of the printed contracts, by wip/tools/chg.py) -/
set_option maxRecDepth 100000 in
set_option maxHeartbeats 4000000 in
theorem c_Pt_isCommand2 (l : Launch) (D : va_G) (ca : Nat → ClassId) (T : ty_e) (L : List Nat) (f0 : Nat → va_E) (sz : Nat) (hT : ok_T ca T L f0) {q0 : Int32 × Int32} (h0 : Nat) (t0 : T h0 = some (ty_pt q0)) :
    Met l y_Pt_isCommand (Cond.code y_Pt_isCommand b_Pt_isCommand 1 (some .boolean) :: wg) { frames := 0, cells := 0, slots := 0, locals := 0 } (va_Pc [.ref h0] (sm_P D cl_all (ty_s ca) ek L f0 sz)) (sm_Qi D (ty_s ca) L f0 sz (fun r u => ((r = 0 ∨ r = 1) ∧ (r = 0 → q0.2.toInt ≤ 6) ∧ (¬ r = 0 → ¬ q0.2.toInt ≤ 6)) ∧ u = (L, f0))) 0 0 (va_A (va_pl L f0) sz) := by
  refine sm_start (by decide) (Nat.le_of_ble_eq_true rfl) ?_
  intro p e s m below meth c ls hx hb hml hr hlk hnm hts hown hsz hE hI hl
  have hl : lv_has ls 1 [(0, .ref h0)] := hl
  refine lv_aload_n hx hb d_Pt_isCommand_0 rfl (lv_at hl 0 rfl) ?_
  refine fg_Pt_kind hx hb hts hown hI hT t0 (hts _ tw_520) (fun _ h9 => h9) d_Pt_isCommand_1 (fun h_1 => ?_)
  refine lv_bipush (v := 7) hx hb d_Pt_isCommand_4 (by decide) ?_
  refine lv_icmp_lt (tgt := 13) hx hb d_Pt_isCommand_6 (by decide) (fun c_2 => ?_) (fun c_2 => ?_)
  · refine lv_iconst (v := 0) hx hb d_Pt_isCommand_13 (by decide) ?_
    exact sm_zret hx hb hr hlk hI (by decide) ⟨⟨Or.inl rfl, fun _ => kd_lt c_2, fun h => absurd rfl h⟩, rfl⟩ d_Pt_isCommand_14
  · refine lv_iconst (v := 1) hx hb d_Pt_isCommand_9 (by decide) ?_
    refine lv_goto (tgt := 14) hx hb d_Pt_isCommand_10 (by decide) ?_
    exact sm_zret hx hb hr hlk hI (by decide) ⟨⟨Or.inr rfl, fun h => absurd h (by decide), fun _ h => c_2 (Int32.lt_iff_toInt_lt.mpr (by have e1 : (7 : Int32).toInt = 7 := rfl; omega))⟩, rfl⟩ d_Pt_isCommand_14
set_option maxRecDepth 100000 in
set_option maxHeartbeats 4000000 in
theorem c_Pt_mayBe2 (l : Launch) (D : va_G) (ca : Nat → ClassId) (T : ty_e) (L : List Nat) (f0 : Nat → va_E) (sz : Nat) (hT : ok_T ca T L f0) {q0 : Int32 × Int32} (h0 : Nat) (t0 : T h0 = some (ty_pt q0)) (x1 : Int32) (x2 : Int32) :
    Met l y_Pt_mayBe (Cond.code y_Pt_mayBe b_Pt_mayBe 4 (some .boolean) :: wg) { frames := 1, cells := 0, slots := 0, locals := 20 } (va_Pc [.ref h0, .int (x1), .int (x2)] (sm_P D cl_all (ty_s ca) ek L f0 sz)) (sm_Qi D (ty_s ca) L f0 sz (fun r u => ((r = 0 ∨ r = 1) ∧ (r = 1 ↔ mb_ok q0.2 x1 x2)) ∧ u = (L, f0))) 0 0 (va_A (va_pl L f0) sz) := by
  refine sm_start (by decide) (Nat.le_of_ble_eq_true rfl) ?_
  intro p e s m below meth c ls hx hb hml hr hlk hnm hts hown hsz hE hI hl
  have hl : lv_has ls 4 [(0, .ref h0), (1, .int (x1)), (2, .int (x2))] := hl
  have hJ_25 : ∀ (H : Heap) (locs : List Loc) (ls : Array Slot) (z0 : Int32), z0 = qb q0.2 → sw_I D cl_all (ty_s ca) (va_A (va_pl L f0) sz) s H locs L f0 → lv_has ls 4 [(0, .ref h0), (1, .int (x1)), (2, .int (x2))] → W p l e { frames := 1, cells := 0, slots := 0, locals := 20 } s m ([.ref h0, .int (x1), .int (x2)] : List Value).toArray below meth c H locs 0 0 (MQ below (sm_Qi D (ty_s ca) L f0 sz (fun r u => ((r = 0 ∨ r = 1) ∧ (r = 1 ↔ mb_ok q0.2 x1 x2)) ∧ u = (L, f0))) ([.ref h0, .int (x1), .int (x2)] : List Value).toArray s 0 0 (va_A (va_pl L f0) sz)) (F0 m 25 ls [.int (z0)]) := by
    intro H locs ls z0 hz hI hl 
    refine lv_istore_n (lv' := [(3, .int (z0)), (0, .ref h0), (1, .int (x1)), (2, .int (x2))]) hx hb d_Pt_mayBe_25 rfl hl (by decide) rfl (fun ls hl => ?_)
    refine lv_aload_n hx hb d_Pt_mayBe_26 rfl (lv_at hl 1 rfl) ?_
    refine sm_iP hI (va_runV (As := []) (rest := []) ⟨hx, hb, hml, hown, hts⟩ (c_Pt_isCommand2 l D ca _ _ _ _ hT h0 t0) (kv_Pt_isCommand hts rfl rfl (hts _ tw_596) ⟨Nat.le_of_ble_eq_true rfl, Nat.le_of_ble_eq_true rfl⟩) (pv_Pt hI hE hT t0) rfl rfl hl.1 rfl (lv_room (Nat.le_of_ble_eq_true rfl)) d_Pt_mayBe_27 ⟨Nat.le_of_ble_eq_true rfl, Nat.le_of_ble_eq_true rfl⟩) (fun x_1 H locs p_2 hI => ?_)
    refine lv_if_ne (tgt := 41) hx hb d_Pt_mayBe_30 (by decide) (fun c_3 => ?_) (fun c_3 => ?_)
    · refine lv_iconst (v := 0) hx hb d_Pt_mayBe_41 (by decide) ?_
      exact sm_zret hx hb hr hlk hI (by decide) ⟨⟨Or.inl rfl, iff_of_false (by decide) (fun h9 => p_2.2.2 c_3 h9.1)⟩, rfl⟩ d_Pt_mayBe_42
    · refine lv_iload_n hx hb d_Pt_mayBe_33 rfl (lv_at hl 3 rfl) ?_
      refine lv_iload_n hx hb d_Pt_mayBe_34 rfl (lv_at hl 0 rfl) ?_
      refine lv_iconst (v := -1) hx hb d_Pt_mayBe_35 (by decide) ?_
      refine lv_ixor hx hb d_Pt_mayBe_36 ?_
      refine lv_topi (fun x_4 e_5 => ?_)
      refine lv_iand hx hb d_Pt_mayBe_37 ?_
      refine lv_topi (fun x_6 e_7 => ?_)
      refine lv_if_eq (tgt := 43) hx hb d_Pt_mayBe_38 (by decide) (fun c_8 => ?_) (fun c_8 => ?_)
      · refine lv_iload_n hx hb d_Pt_mayBe_43 rfl (lv_at hl 2 rfl) ?_
        obtain ⟨b_9, hz_10, ht_11⟩ := hE.2.2.2.1 2 (by decide)
        refine va_getsN hx hb hz_10 hI.2.2.1 hown (va_Nw.use rfl (hE.1 _ tn_597 rfl)) (fun _ h9 => h9) d_Pt_mayBe_44 ?_
        refine lv_aload_n hx hb d_Pt_mayBe_47 rfl (lv_at hl 1 rfl) ?_
        refine fg_Pt_kind hx hb hts hown hI hT t0 (hts _ tw_520) (fun _ h9 => h9) d_Pt_mayBe_48 (fun h_12 => ?_)
        refine lv_topi (fun x_13 e_14 => ?_)
        obtain ⟨j_15, h_16, rfl⟩ : ∃ j : Nat, j < 7 ∧ x_13 = nI j := ix_le (by rw [e_14]; exact h_12.1) (by rw [e_14]; have := p_2.2.1 c_3; omega) (by decide)
        refine fa_tb (i := 2) (j := j_15) hx hb hI ht_11 (by show j_15 < 7; omega) (by decide) d_Pt_mayBe_51 ?_
        refine lv_topi (fun x_19 e_20 => ?_)
        refine lv_icmp_lt (tgt := 71) hx hb d_Pt_mayBe_52 (by decide) (fun c_21 => ?_) (fun c_21 => ?_)
        · refine lv_iconst (v := 0) hx hb d_Pt_mayBe_71 (by decide) ?_
          exact sm_zret hx hb hr hlk hI (by decide) ⟨⟨Or.inl rfl, iff_of_false (by decide) (fun h9 => tb_lo h_16 e_14 e_20 c_21 h9.2.1)⟩, rfl⟩ d_Pt_mayBe_72
        · refine lv_iload_n hx hb d_Pt_mayBe_55 rfl (lv_at hl 2 rfl) ?_
          obtain ⟨b_22, hz_23, ht_24⟩ := hE.2.2.2.1 3 (by decide)
          refine va_getsN hx hb hz_23 hI.2.2.1 hown (va_Nw.use rfl (hE.1 _ tn_599 rfl)) (fun _ h9 => h9) d_Pt_mayBe_56 ?_
          refine lv_aload_n hx hb d_Pt_mayBe_59 rfl (lv_at hl 1 rfl) ?_
          refine fg_Pt_kind hx hb hts hown hI hT t0 (hts _ tw_520) (fun _ h9 => h9) d_Pt_mayBe_60 (fun h_25 => ?_)
          refine lv_topi (fun x_26 e_27 => ?_)
          obtain ⟨j_28, h_29, rfl⟩ : ∃ j : Nat, j < 7 ∧ x_26 = nI j := ix_le (by rw [e_27]; exact h_25.1) (by rw [e_27]; have := p_2.2.1 c_3; omega) (by decide)
          refine fa_tb (i := 3) (j := j_28) hx hb hI ht_24 (by show j_28 < 7; omega) (by decide) d_Pt_mayBe_63 ?_
          refine lv_topi (fun x_32 e_33 => ?_)
          refine lv_icmp_gt (tgt := 71) hx hb d_Pt_mayBe_64 (by decide) (fun c_34 => ?_) (fun c_34 => ?_)
          · refine lv_iconst (v := 0) hx hb d_Pt_mayBe_71 (by decide) ?_
            exact sm_zret hx hb hr hlk hI (by decide) ⟨⟨Or.inl rfl, iff_of_false (by decide) (fun h9 => tb_hi h_29 e_27 e_33 c_34 h9.2.1)⟩, rfl⟩ d_Pt_mayBe_72
          · refine lv_iconst (v := 1) hx hb d_Pt_mayBe_67 (by decide) ?_
            refine lv_goto (tgt := 72) hx hb d_Pt_mayBe_68 (by decide) ?_
            exact sm_zret hx hb hr hlk hI (by decide) ⟨⟨Or.inr rfl, iff_of_true rfl ⟨p_2.2.1 c_3, tb_ok h_16 e_14 e_20 c_21 h_29 e_27 e_33 c_34, by rw [← hz, ← e_5, ← e_7]; exact c_8⟩⟩, rfl⟩ d_Pt_mayBe_72
      · refine lv_iconst (v := 0) hx hb d_Pt_mayBe_41 (by decide) ?_
        exact sm_zret hx hb hr hlk hI (by decide) ⟨⟨Or.inl rfl, iff_of_false (by decide) (mb_nq hz.symm e_5 e_7 c_8)⟩, rfl⟩ d_Pt_mayBe_42
  refine lv_aload_n hx hb d_Pt_mayBe_0 rfl (lv_at hl 0 rfl) ?_
  refine fg_Pt_kind hx hb hts hown hI hT t0 (hts _ tw_520) (fun _ h9 => h9) d_Pt_mayBe_1 (fun h_35 => ?_)
  refine lv_iconst (v := 2) hx hb d_Pt_mayBe_4 (by decide) ?_
  refine lv_icmp_lt (tgt := 22) hx hb d_Pt_mayBe_5 (by decide) (fun c_36 => ?_) (fun c_36 => ?_)
  · refine lv_sipush (v := 240) hx hb d_Pt_mayBe_22 (by decide) ?_
    exact hJ_25 _ _ _ 240 ((qb_c1 c_36).symm) hI (lv_sub hl [0, 1, 2] rfl) 
  · refine lv_aload_n hx hb d_Pt_mayBe_8 rfl (lv_at hl 0 rfl) ?_
    refine fg_Pt_kind hx hb hts hown hI hT t0 (hts _ tw_520) (fun _ h9 => h9) d_Pt_mayBe_9 (fun h_37 => ?_)
    refine lv_iconst (v := 5) hx hb d_Pt_mayBe_12 (by decide) ?_
    refine lv_icmp_gt (tgt := 22) hx hb d_Pt_mayBe_13 (by decide) (fun c_38 => ?_) (fun c_38 => ?_)
    · refine lv_sipush (v := 240) hx hb d_Pt_mayBe_22 (by decide) ?_
      exact hJ_25 _ _ _ 240 ((qb_c5 c_38).symm) hI (lv_sub hl [0, 1, 2] rfl) 
    · refine lv_sipush (v := 241) hx hb d_Pt_mayBe_16 (by decide) ?_
      refine lv_goto (tgt := 25) hx hb d_Pt_mayBe_19 (by decide) ?_
      exact hJ_25 _ _ _ 241 ((qb_cm c_36 c_38).symm) hI (lv_sub hl [0, 1, 2] rfl) 
set_option maxRecDepth 100000 in
set_option maxHeartbeats 4000000 in
theorem c_Mo_isValue2 (l : Launch) (D : va_G) (ca : Nat → ClassId) (L : List Nat) (f0 : Nat → va_E) (sz : Nat) (x1 : Int32) (x2 : Int32) :
    Met l y_Mo_isValue (Cond.code y_Mo_isValue b_Mo_isValue 2 (some .boolean) :: wg) { frames := 1, cells := 0, slots := 0, locals := 25 } (va_Pc [.int (x1), .int (x2)] (sm_P D cl_all (ty_s ca) ek L f0 sz)) (sm_Qi D (ty_s ca) L f0 sz (fun r u => ((r = 0 ∨ r = 1) ∧ (r = 1 ↔ mval x1 x2)) ∧ u = (L, f0))) 0 0 (va_A (va_pl L f0) sz) := by
  refine sm_start (by decide) (Nat.le_of_ble_eq_true rfl) ?_
  intro p e s m below meth c ls hx hb hml hr hlk hnm hts hown hsz hE hI hl
  have hl : lv_has ls 2 [(0, .int (x1)), (1, .int (x2))] := hl
  refine lv_iload_n hx hb d_Mo_isValue_0 rfl (lv_at hl 0 rfl) ?_
  refine lv_if_ne (tgt := 14) hx hb d_Mo_isValue_1 (by decide) (fun c_1 => ?_) (fun c_1 => ?_)
  · refine lv_iload_n hx hb d_Mo_isValue_14 rfl (lv_at hl 0 rfl) ?_
    refine lv_iconst (v := 1) hx hb d_Mo_isValue_15 (by decide) ?_
    refine lv_icmp_ne (tgt := 31) hx hb d_Mo_isValue_16 (by decide) (fun c_2 => ?_) (fun c_2 => ?_)
    · refine lv_iload_n hx hb d_Mo_isValue_31 rfl (lv_at hl 0 rfl) ?_
      refine lv_iconst (v := 2) hx hb d_Mo_isValue_32 (by decide) ?_
      refine lv_icmp_ne (tgt := 50) hx hb d_Mo_isValue_33 (by decide) (fun c_3 => ?_) (fun c_3 => ?_)
      · refine lv_iload_n hx hb d_Mo_isValue_50 rfl (lv_at hl 0 rfl) ?_
        refine lv_iconst (v := 4) hx hb d_Mo_isValue_51 (by decide) ?_
        refine lv_icmp_gt (tgt := 69) hx hb d_Mo_isValue_52 (by decide) (fun c_4 => ?_) (fun c_4 => ?_)
        · refine lv_iconst (v := 1) hx hb d_Mo_isValue_69 (by decide) ?_
          refine lv_goto (tgt := 74) hx hb d_Mo_isValue_70 (by decide) ?_
          exact sm_zret hx hb hr hlk hI (by decide) ⟨⟨Or.inr rfl, iff_of_true rfl (iv_t c_1 c_2 c_3 c_4)⟩, rfl⟩ d_Mo_isValue_74
        · refine lv_iload_n hx hb d_Mo_isValue_55 rfl (lv_at hl 1 rfl) ?_
          refine lv_i2l hx hb d_Mo_isValue_56 rfl ?_
          refine lv_topl (fun x_5 e_6 => ?_)
          refine lv_ldc2 (v := (-32768)) hx hb hown (hts _ tw_1408) d_Mo_isValue_57 ?_
          refine lv_ldc2 (v := 32767) hx hb hown (hts _ tw_1409) d_Mo_isValue_60 ?_
          refine sm_iP hI (va_runS (As := [.long (x_5), .long ((-32768)), .long (32767)]) (rest := []) ⟨hx, hb, hml, hown, hts⟩ (c_Mo_in l D ca L _ _ x_5 ((-32768)) 32767) (ks_Mo_in hts rfl rfl (hts _ tw_1393) ⟨Nat.le_of_ble_eq_true rfl, Nat.le_of_ble_eq_true rfl⟩) (sm_preS hI hE) rfl rfl hl.1 rfl (lv_room (Nat.le_of_ble_eq_true rfl)) d_Mo_isValue_63 ⟨Nat.le_of_ble_eq_true rfl, Nat.le_of_ble_eq_true rfl⟩) (fun x_8 H locs p_7 hI => ?_)
          refine lv_if_eq (tgt := 73) hx hb d_Mo_isValue_66 (by decide) (fun c_9 => ?_) (fun c_9 => ?_)
          · refine lv_iconst (v := 0) hx hb d_Mo_isValue_73 (by decide) ?_
            exact sm_zret hx hb hr hlk hI (by decide) ⟨⟨Or.inl rfl, iff_of_false (by decide) (fun h9 => absurd (c_9.symm.trans ((p_7.2.trans ((in_i e_6 (by decide) (by decide)).trans (iv_3 c_1 c_2 c_3 c_4))).mpr h9)) (by decide))⟩, rfl⟩ d_Mo_isValue_74
          · refine lv_iconst (v := 1) hx hb d_Mo_isValue_69 (by decide) ?_
            refine lv_goto (tgt := 74) hx hb d_Mo_isValue_70 (by decide) ?_
            exact sm_zret hx hb hr hlk hI (by decide) ⟨⟨Or.inr rfl, iff_of_true rfl ((p_7.2.trans ((in_i e_6 (by decide) (by decide)).trans (iv_3 c_1 c_2 c_3 c_4))).mp (p_7.1.resolve_left c_9))⟩, rfl⟩ d_Mo_isValue_74
      · refine lv_iload_n hx hb d_Mo_isValue_36 rfl (lv_at hl 1 rfl) ?_
        refine lv_i2l hx hb d_Mo_isValue_37 rfl ?_
        refine lv_topl (fun x_10 e_11 => ?_)
        refine lv_ldc2 (v := (-64)) hx hb hown (hts _ tw_1406) d_Mo_isValue_38 ?_
        refine lv_ldc2 (v := 63) hx hb hown (hts _ tw_1407) d_Mo_isValue_41 ?_
        refine sm_iP hI (va_runS (As := [.long (x_10), .long ((-64)), .long (63)]) (rest := []) ⟨hx, hb, hml, hown, hts⟩ (c_Mo_in l D ca L _ _ x_10 ((-64)) 63) (ks_Mo_in hts rfl rfl (hts _ tw_1393) ⟨Nat.le_of_ble_eq_true rfl, Nat.le_of_ble_eq_true rfl⟩) (sm_preS hI hE) rfl rfl hl.1 rfl (lv_room (Nat.le_of_ble_eq_true rfl)) d_Mo_isValue_44 ⟨Nat.le_of_ble_eq_true rfl, Nat.le_of_ble_eq_true rfl⟩) (fun x_13 H locs p_12 hI => ?_)
        refine lv_goto (tgt := 74) hx hb d_Mo_isValue_47 (by decide) ?_
        exact sm_zret hx hb hr hlk hI p_12.1 ⟨⟨p_12.1, p_12.2.trans ((in_i e_11 (by decide) (by decide)).trans (iv_2 c_1 c_2 c_3))⟩, rfl⟩ d_Mo_isValue_74
    · refine lv_iload_n hx hb d_Mo_isValue_19 rfl (lv_at hl 1 rfl) ?_
      refine lv_i2l hx hb d_Mo_isValue_20 rfl ?_
      refine lv_topl (fun x_14 e_15 => ?_)
      refine lv_lconst (v := 0) hx hb d_Mo_isValue_21 (by decide) ?_
      refine lv_ldc2 (v := 3) hx hb hown (hts _ tw_1405) d_Mo_isValue_22 ?_
      refine sm_iP hI (va_runS (As := [.long (x_14), .long (0), .long (3)]) (rest := []) ⟨hx, hb, hml, hown, hts⟩ (c_Mo_in l D ca L _ _ x_14 0 3) (ks_Mo_in hts rfl rfl (hts _ tw_1393) ⟨Nat.le_of_ble_eq_true rfl, Nat.le_of_ble_eq_true rfl⟩) (sm_preS hI hE) rfl rfl hl.1 rfl (lv_room (Nat.le_of_ble_eq_true rfl)) d_Mo_isValue_25 ⟨Nat.le_of_ble_eq_true rfl, Nat.le_of_ble_eq_true rfl⟩) (fun x_17 H locs p_16 hI => ?_)
      refine lv_goto (tgt := 74) hx hb d_Mo_isValue_28 (by decide) ?_
      exact sm_zret hx hb hr hlk hI p_16.1 ⟨⟨p_16.1, p_16.2.trans ((in_i e_15 (by decide) (by decide)).trans (iv_1 c_1 c_2))⟩, rfl⟩ d_Mo_isValue_74
  · refine lv_iload_n hx hb d_Mo_isValue_4 rfl (lv_at hl 1 rfl) ?_
    refine lv_i2l hx hb d_Mo_isValue_5 rfl ?_
    refine lv_topl (fun x_18 e_19 => ?_)
    refine lv_lconst (v := 0) hx hb d_Mo_isValue_6 (by decide) ?_
    refine lv_lconst (v := 1) hx hb d_Mo_isValue_7 (by decide) ?_
    refine sm_iP hI (va_runS (As := [.long (x_18), .long (0), .long (1)]) (rest := []) ⟨hx, hb, hml, hown, hts⟩ (c_Mo_in l D ca L _ _ x_18 0 1) (ks_Mo_in hts rfl rfl (hts _ tw_1393) ⟨Nat.le_of_ble_eq_true rfl, Nat.le_of_ble_eq_true rfl⟩) (sm_preS hI hE) rfl rfl hl.1 rfl (lv_room (Nat.le_of_ble_eq_true rfl)) d_Mo_isValue_8 ⟨Nat.le_of_ble_eq_true rfl, Nat.le_of_ble_eq_true rfl⟩) (fun x_21 H locs p_20 hI => ?_)
    refine lv_goto (tgt := 74) hx hb d_Mo_isValue_11 (by decide) ?_
    exact sm_zret hx hb hr hlk hI p_20.1 ⟨⟨p_20.1, p_20.2.trans ((in_i e_19 (by decide) (by decide)).trans (iv_0 c_1))⟩, rfl⟩ d_Mo_isValue_74
set_option maxRecDepth 100000 in
set_option maxHeartbeats 4000000 in
theorem c_Mo_change2 (l : Launch) (D : va_G) (ca : Nat → ClassId) (ad : Nat → Nat) (L : List Nat) (f0 : Nat → va_E) (sz : Nat) (σ0 : mq_S) (hM : mq_B ca ad σ0 L f0) (x1 : Int32) (x2 : Int32) (x3 : Int32) (x4 : Int32) (p4 : x4 = 0 ∨ x4 = 1) (u0 : IH σ0) (g : List (Int32 × Int32)) (hR : RR g σ0) :
    Met l y_Mo_change (Cond.code y_Mo_change b_Mo_change 8 none :: wg) { frames := 7, cells := 0, slots := 0, locals := 166 } (va_Pc [.ref (ad 71), .int (x1), .int (x2), .int (x3), .int (x4)] (sm_P D cl_all (ty_s ca) ek L f0 sz)) (sm_Qv D (ty_s ca) L f0 sz (fun u => mq_po ca ad L σ0 [0, 7, 8, 13, 14, 15, 16, 18, 19, 22, 23, 24, 25, 30, 31, 32, 33, 34, 42, 43, 44, 45, 46, 47, 48, 49, 50, 51, 52, 53, 54, 55, 65, 69, 70] (fun σ => IH σ ∧ ch_res g x1 x2 x3 σ) u)) 0 0 (va_A (va_pl L f0) sz) := by
  refine sm_start (by decide) (Nat.le_of_ble_eq_true rfl) ?_
  intro p e s m below meth c ls hx hb hml hr hlk hnm hts hown hsz hE hI hl
  have hl : lv_has ls 8 [(0, .ref (ad 71)), (1, .int (x1)), (2, .int (x2)), (3, .int (x3)), (4, .int (x4))] := hl
  have hF : mq_fr [0, 7, 8, 13, 14, 15, 16, 18, 19, 22, 23, 24, 25, 30, 31, 32, 33, 34, 42, 43, 44, 45, 46, 47, 48, 49, 50, 51, 52, 53, 54, 55, 65, 69, 70] σ0 σ0 := mq_fr_rf
  refine lv_iload_n hx hb d_Mo_change_0 rfl (lv_at hl 1 rfl) ?_
  refine lv_i2l hx hb d_Mo_change_1 rfl ?_
  refine lv_topl (fun x_1 e_2 => ?_)
  refine lv_lconst (v := 0) hx hb d_Mo_change_2 (by decide) ?_
  refine lv_aload_n hx hb d_Mo_change_3 rfl (lv_at hl 0 rfl) ?_
  obtain ⟨n_3, h_4, h_5, e_6⟩ := hM.2.2.2.2.1 2
  refine mq_get (k := 2) (v := .int (nI n_3)) hx hb hts hown hI hM (by decide) (congrArg (fun z => some (Value.int z)) e_6) rfl (hts _ tw_1171) d_Mo_change_4 ?_
  refine lv_iconst (v := 1) hx hb d_Mo_change_7 (by decide) ?_
  refine lv_isub hx hb d_Mo_change_8 ?_
  refine lv_topi (fun x_7 e_8 => ?_)
  refine lv_i2l hx hb d_Mo_change_9 rfl ?_
  refine lv_topl (fun x_9 e_10 => ?_)
  refine sm_iP hI (va_runS (As := [.long (x_1), .long (0), .long (x_9)]) (rest := []) ⟨hx, hb, hml, hown, hts⟩ (c_Mo_in l D ca L _ _ x_1 0 x_9) (ks_Mo_in hts rfl rfl (hts _ tw_1393) ⟨Nat.le_of_ble_eq_true rfl, Nat.le_of_ble_eq_true rfl⟩) (sm_preS hI hE) rfl rfl hl.1 rfl (lv_room (Nat.le_of_ble_eq_true rfl)) d_Mo_change_10 ⟨Nat.le_of_ble_eq_true rfl, Nat.le_of_ble_eq_true rfl⟩) (fun x_12 H locs p_11 hI => ?_)
  rcases jn_int (lo := 0) (hi := ((n_3 : Nat) : Int) - 1) p_11 e_2 (by decide) (by rw [e_10, Int32.toInt_toInt64, e_8]; exact nI_p1 (by omega)) (by omega) with ⟨rfl, j_14, h_15, h_16, e_17⟩ | ⟨rfl, h_13⟩
  · rw [e_17] at hl
    refine lv_if_eq (tgt := 51) hx hb d_Mo_change_13 (by decide) (fun c_18 => ?_) (fun c_18 => ?_)
    · exact absurd c_18 (by decide)
    · refine lv_aload_n hx hb d_Mo_change_16 rfl (lv_at hl 0 rfl) ?_
      refine mq_get (k := 4) (v := .ref (ad 4)) hx hb hts hown hI hM (by decide) rfl rfl (hts _ tw_1173) d_Mo_change_17 ?_
      refine lv_iload_n hx hb d_Mo_change_20 rfl (lv_at hl 1 rfl) ?_
      refine lv_i2l hx hb d_Mo_change_21 rfl ?_
      refine lv_topl (fun x_19 e_20 => ?_)
      refine lv_lconst (v := 0) hx hb d_Mo_change_22 (by decide) ?_
      refine lv_aload_n hx hb d_Mo_change_23 rfl (lv_at hl 0 rfl) ?_
      refine mq_get (k := 2) (v := .int (nI n_3)) hx hb hts hown hI hM (by decide) (congrArg (fun z => some (Value.int z)) e_6) rfl (hts _ tw_1171) d_Mo_change_24 ?_
      refine lv_iconst (v := 1) hx hb d_Mo_change_27 (by decide) ?_
      refine lv_isub hx hb d_Mo_change_28 ?_
      refine lv_topi (fun x_21 e_22 => ?_)
      refine lv_i2l hx hb d_Mo_change_29 rfl ?_
      refine lv_topl (fun x_23 e_24 => ?_)
      refine sm_iP hI (va_runS (As := [.long (x_19), .long (0), .long (x_23)]) (rest := [.ref (ad 4)]) ⟨hx, hb, hml, hown, hts⟩ (c_Mo_in l D ca L _ _ x_19 0 x_23) (ks_Mo_in hts rfl rfl (hts _ tw_1393) ⟨Nat.le_of_ble_eq_true rfl, Nat.le_of_ble_eq_true rfl⟩) (sm_preS hI hE) rfl rfl hl.1 rfl (lv_room (Nat.le_of_ble_eq_true rfl)) d_Mo_change_30 ⟨Nat.le_of_ble_eq_true rfl, Nat.le_of_ble_eq_true rfl⟩) (fun x_26 H locs p_25 hI => ?_)
      rcases jn_nat (n := j_14) (lo := 0) (hi := ((n_3 : Nat) : Int) - 1) p_25 e_20 (by decide) (by rw [e_24, Int32.toInt_toInt64, e_22]; exact nI_p1 (by omega)) (by omega) with ⟨rfl, h_27⟩ | ⟨rfl, h_27⟩
      · refine lv_if_eq (tgt := 40) hx hb d_Mo_change_33 (by decide) (fun c_32 => ?_) (fun c_32 => ?_)
        · exact absurd c_32 (by decide)
        · refine lv_iload_n hx hb d_Mo_change_36 rfl (lv_at hl 1 rfl) ?_
          refine lv_goto (tgt := 41) hx hb d_Mo_change_37 (by decide) ?_
          obtain ⟨x_33, e_34⟩ : ∃ z, σ0.2.2.1 4 (j_14) = z := ⟨_, rfl⟩
          refine mq_iald (k := 4) (j := j_14) (v := x_33) hx hb hI hM (by decide) rfl (by show j_14 < 32; omega) (by decide) e_34 d_Mo_change_41 ?_
          refine lv_bipush (v := 7) hx hb d_Mo_change_42 (by decide) ?_
          refine lv_icmp_ge (tgt := 51) hx hb d_Mo_change_44 (by decide) (fun c_35 => ?_) (fun c_35 => ?_)
          · refine lv_iconst (v := 0) hx hb d_Mo_change_51 (by decide) ?_
            refine lv_istore (lv' := [(5, .int (0)), (0, .ref (ad 71)), (1, .int (nI j_14)), (2, .int (x2)), (3, .int (x3)), (4, .int (x4))]) hx hb d_Mo_change_52 hl (by decide) rfl (fun ls hl => ?_)
            refine lv_iload hx hb d_Mo_change_54 (lv_at hl 0 rfl) ?_
            refine lv_if_eq (tgt := 68) hx hb d_Mo_change_56 (by decide) (fun c_36 => ?_) (fun c_36 => ?_)
            · refine lv_iconst (v := 0) hx hb d_Mo_change_68 (by decide) ?_
              refine lv_istore (lv' := [(6, .int (0)), (5, .int (0)), (0, .ref (ad 71)), (1, .int (nI j_14)), (2, .int (x2)), (3, .int (x3)), (4, .int (x4))]) hx hb d_Mo_change_69 hl (by decide) rfl (fun ls hl => ?_)
              refine lv_iload hx hb d_Mo_change_71 (lv_at hl 0 rfl) ?_
              refine lv_iconst (v := 1) hx hb d_Mo_change_73 (by decide) ?_
              refine lv_icmp_le (tgt := 90) hx hb d_Mo_change_74 (by decide) (fun c_37 => ?_) (fun c_37 => ?_)
              · refine lv_sipush (v := 240) hx hb d_Mo_change_90 (by decide) ?_
                refine lv_istore (lv' := [(7, .int (240)), (6, .int (0)), (5, .int (0)), (0, .ref (ad 71)), (1, .int (nI j_14)), (2, .int (x2)), (3, .int (x3)), (4, .int (x4))]) hx hb d_Mo_change_93 hl (by decide) rfl (fun ls hl => ?_)
                refine lv_aload_n hx hb d_Mo_change_95 rfl (lv_at hl 3 rfl) ?_
                refine lv_iload hx hb d_Mo_change_96 (lv_at hl 2 rfl) ?_
                refine lv_if_eq (tgt := 123) hx hb d_Mo_change_98 (by decide) (fun c_38 => ?_) (fun c_38 => ?_)
                · refine lv_iconst (v := 0) hx hb d_Mo_change_123 (by decide) ?_
                  refine sm_iM hI (va_runV (As := [.int (0)]) (rest := []) ⟨hx, hb, hml, hown, hts⟩ (c_Mo_says2 l D ca ad L _ _ _ hM 0 (by decide)) (kv_Mo_says hts rfl rfl (hts _ tw_1410) ⟨Nat.le_of_ble_eq_true rfl, Nat.le_of_ble_eq_true rfl⟩) (pv_Mo hI hE hM) rfl rfl hl.1 rfl (lv_room (Nat.le_of_ble_eq_true rfl)) d_Mo_change_124 ⟨Nat.le_of_ble_eq_true rfl, Nat.le_of_ble_eq_true rfl⟩) (fun x_42 H locs f σ_40 hI hM hF_41 p_39 => ?_)
                  have hF := mq_fr_tr hF hF_41 (by decide)
                  have o_43 : σ_40.1 2 = nI n_3 := mq_fi hF_41 (by decide) e_6
                  have u_44 := IH_fr hF_41 (by decide) u0
                  obtain ⟨p_46, o_45, -⟩ := p_39
                  have p_46 := p_46.symm
                  subst p_46
                  refine lv_if_ne (tgt := 131) hx hb d_Mo_change_127 (by decide) (fun c_47 => ?_) (fun c_47 => ?_)
                  · exact absurd c_47 (by decide)
                  · exact sm_vret hx hb hr hlk hI ⟨σ_40, rfl, hM, hF, ⟨u_44, (Or.inr ⟨(ch_k hR e_17 (by omega) e_34 (mb_n7 c_35)), o_45.trans (if_pos rfl)⟩)⟩⟩ d_Mo_change_130
                · exact absurd c_38 (by decide)
              · exact absurd c_37 (by decide)
            · exact absurd c_36 (by decide)
          · refine lv_iconst (v := 1) hx hb d_Mo_change_47 (by decide) ?_
            refine lv_goto (tgt := 52) hx hb d_Mo_change_48 (by decide) ?_
            refine lv_istore (lv' := [(5, .int (1)), (0, .ref (ad 71)), (1, .int (nI j_14)), (2, .int (x2)), (3, .int (x3)), (4, .int (x4))]) hx hb d_Mo_change_52 hl (by decide) rfl (fun ls hl => ?_)
            refine lv_iload hx hb d_Mo_change_54 (lv_at hl 0 rfl) ?_
            refine lv_if_eq (tgt := 68) hx hb d_Mo_change_56 (by decide) (fun c_48 => ?_) (fun c_48 => ?_)
            · exact absurd c_48 (by decide)
            · refine lv_aload_n hx hb d_Mo_change_59 rfl (lv_at hl 1 rfl) ?_
              refine mq_get (k := 4) (v := .ref (ad 4)) hx hb hts hown hI hM (by decide) rfl rfl (hts _ tw_1173) d_Mo_change_60 ?_
              refine lv_iload_n hx hb d_Mo_change_63 rfl (lv_at hl 2 rfl) ?_
              obtain ⟨x_49, e_50⟩ : ∃ z, σ0.2.2.1 4 (j_14) = z := ⟨_, rfl⟩
              refine mq_iald (k := 4) (j := j_14) (v := x_49) hx hb hI hM (by decide) rfl (by show j_14 < 32; omega) (by decide) e_50 d_Mo_change_64 ?_
              refine lv_goto (tgt := 69) hx hb d_Mo_change_65 (by decide) ?_
              refine lv_istore (lv' := [(6, .int (x_49)), (5, .int (1)), (0, .ref (ad 71)), (1, .int (nI j_14)), (2, .int (x2)), (3, .int (x3)), (4, .int (x4))]) hx hb d_Mo_change_69 hl (by decide) rfl (fun ls hl => ?_)
              refine lv_iload hx hb d_Mo_change_71 (lv_at hl 0 rfl) ?_
              refine lv_iconst (v := 1) hx hb d_Mo_change_73 (by decide) ?_
              refine lv_icmp_le (tgt := 90) hx hb d_Mo_change_74 (by decide) (fun c_51 => ?_) (fun c_51 => ?_)
              · refine lv_sipush (v := 240) hx hb d_Mo_change_90 (by decide) ?_
                refine lv_istore (lv' := [(7, .int (240)), (6, .int (x_49)), (5, .int (1)), (0, .ref (ad 71)), (1, .int (nI j_14)), (2, .int (x2)), (3, .int (x3)), (4, .int (x4))]) hx hb d_Mo_change_93 hl (by decide) rfl (fun ls hl => ?_)
                refine lv_aload_n hx hb d_Mo_change_95 rfl (lv_at hl 3 rfl) ?_
                refine lv_iload hx hb d_Mo_change_96 (lv_at hl 2 rfl) ?_
                refine lv_if_eq (tgt := 123) hx hb d_Mo_change_98 (by decide) (fun c_52 => ?_) (fun c_52 => ?_)
                · exact absurd c_52 (by decide)
                · refine lv_iload hx hb d_Mo_change_101 (lv_at hl 1 rfl) ?_
                  refine lv_iload_n hx hb d_Mo_change_103 rfl (lv_at hl 5 rfl) ?_
                  refine sm_iP hI (va_runS (As := [.int (x_49), .int (x2)]) (rest := [.ref (ad 71)]) ⟨hx, hb, hml, hown, hts⟩ (c_Mo_isValue2 l D ca L _ _ x_49 x2) (ks_Mo_isValue hts rfl rfl (hts _ tw_1402) ⟨Nat.le_of_ble_eq_true rfl, Nat.le_of_ble_eq_true rfl⟩) (sm_preS hI hE) rfl rfl hl.1 rfl (lv_room (Nat.le_of_ble_eq_true rfl)) d_Mo_change_104 ⟨Nat.le_of_ble_eq_true rfl, Nat.le_of_ble_eq_true rfl⟩) (fun x_54 H locs p_53 hI => ?_)
                  refine lv_if_eq (tgt := 123) hx hb d_Mo_change_107 (by decide) (fun c_55 => ?_) (fun c_55 => ?_)
                  · refine lv_iconst (v := 0) hx hb d_Mo_change_123 (by decide) ?_
                    refine sm_iM hI (va_runV (As := [.int (0)]) (rest := []) ⟨hx, hb, hml, hown, hts⟩ (c_Mo_says2 l D ca ad L _ _ _ hM 0 (by decide)) (kv_Mo_says hts rfl rfl (hts _ tw_1410) ⟨Nat.le_of_ble_eq_true rfl, Nat.le_of_ble_eq_true rfl⟩) (pv_Mo hI hE hM) rfl rfl hl.1 rfl (lv_room (Nat.le_of_ble_eq_true rfl)) d_Mo_change_124 ⟨Nat.le_of_ble_eq_true rfl, Nat.le_of_ble_eq_true rfl⟩) (fun x_59 H locs f σ_57 hI hM hF_58 p_56 => ?_)
                    have hF := mq_fr_tr hF hF_58 (by decide)
                    have o_60 : σ_57.1 2 = nI n_3 := mq_fi hF_58 (by decide) e_6
                    have u_61 := IH_fr hF_58 (by decide) u0
                    obtain ⟨p_63, o_62, -⟩ := p_56
                    have p_63 := p_63.symm
                    subst p_63
                    refine lv_if_ne (tgt := 131) hx hb d_Mo_change_127 (by decide) (fun c_64 => ?_) (fun c_64 => ?_)
                    · exact absurd c_64 (by decide)
                    · exact sm_vret hx hb hr hlk hI ⟨σ_57, rfl, hM, hF, ⟨u_61, (Or.inr ⟨(ch_k hR e_17 (by omega) e_50 (mb_nv p_53 c_55)), o_62.trans (if_pos rfl)⟩)⟩⟩ d_Mo_change_130
                  · refine lv_iload_n hx hb d_Mo_change_110 rfl (lv_at hl 6 rfl) ?_
                    refine lv_iload hx hb d_Mo_change_111 (lv_at hl 0 rfl) ?_
                    refine lv_iconst (v := -1) hx hb d_Mo_change_113 (by decide) ?_
                    refine lv_ixor hx hb d_Mo_change_114 ?_
                    refine lv_topi (fun x_65 e_66 => ?_)
                    refine lv_iand hx hb d_Mo_change_115 ?_
                    refine lv_topi (fun x_67 e_68 => ?_)
                    refine lv_if_ne (tgt := 123) hx hb d_Mo_change_116 (by decide) (fun c_69 => ?_) (fun c_69 => ?_)
                    · refine lv_iconst (v := 0) hx hb d_Mo_change_123 (by decide) ?_
                      refine sm_iM hI (va_runV (As := [.int (0)]) (rest := []) ⟨hx, hb, hml, hown, hts⟩ (c_Mo_says2 l D ca ad L _ _ _ hM 0 (by decide)) (kv_Mo_says hts rfl rfl (hts _ tw_1410) ⟨Nat.le_of_ble_eq_true rfl, Nat.le_of_ble_eq_true rfl⟩) (pv_Mo hI hE hM) rfl rfl hl.1 rfl (lv_room (Nat.le_of_ble_eq_true rfl)) d_Mo_change_124 ⟨Nat.le_of_ble_eq_true rfl, Nat.le_of_ble_eq_true rfl⟩) (fun x_73 H locs f σ_71 hI hM hF_72 p_70 => ?_)
                      have hF := mq_fr_tr hF hF_72 (by decide)
                      have o_74 : σ_71.1 2 = nI n_3 := mq_fi hF_72 (by decide) e_6
                      have u_75 := IH_fr hF_72 (by decide) u0
                      obtain ⟨p_77, o_76, -⟩ := p_70
                      have p_77 := p_77.symm
                      subst p_77
                      refine lv_if_ne (tgt := 131) hx hb d_Mo_change_127 (by decide) (fun c_78 => ?_) (fun c_78 => ?_)
                      · exact absurd c_78 (by decide)
                      · exact sm_vret hx hb hr hlk hI ⟨σ_71, rfl, hM, hF, ⟨u_75, (Or.inr ⟨(ch_k hR e_17 (by omega) e_50 (mb_nq (qb_1 c_51) e_66 e_68 c_69)), o_76.trans (if_pos rfl)⟩)⟩⟩ d_Mo_change_130
                    · refine lv_iconst (v := 1) hx hb d_Mo_change_119 (by decide) ?_
                      refine lv_goto (tgt := 124) hx hb d_Mo_change_120 (by decide) ?_
                      refine sm_iM hI (va_runV (As := [.int (1)]) (rest := []) ⟨hx, hb, hml, hown, hts⟩ (c_Mo_says2 l D ca ad L _ _ _ hM 1 (by decide)) (kv_Mo_says hts rfl rfl (hts _ tw_1410) ⟨Nat.le_of_ble_eq_true rfl, Nat.le_of_ble_eq_true rfl⟩) (pv_Mo hI hE hM) rfl rfl hl.1 rfl (lv_room (Nat.le_of_ble_eq_true rfl)) d_Mo_change_124 ⟨Nat.le_of_ble_eq_true rfl, Nat.le_of_ble_eq_true rfl⟩) (fun x_82 H locs f σ_80 hI hM hF_81 p_79 => ?_)
                      have hF := mq_fr_tr hF hF_81 (by decide)
                      have o_83 : σ_80.1 2 = nI n_3 := mq_fi hF_81 (by decide) e_6
                      have u_84 := IH_fr hF_81 (by decide) u0
                      obtain ⟨p_86, o_85, -⟩ := p_79
                      have p_86 := p_86.symm
                      subst p_86
                      refine lv_if_ne (tgt := 131) hx hb d_Mo_change_127 (by decide) (fun c_87 => ?_) (fun c_87 => ?_)
                      · refine lv_aload_n hx hb d_Mo_change_131 rfl (lv_at hl 3 rfl) ?_
                        refine mq_get (k := 7) (v := .ref (ad 7)) hx hb hts hown hI hM (by decide) rfl rfl (hts _ tw_1176) d_Mo_change_132 ?_
                        refine lv_iload_n hx hb d_Mo_change_135 rfl (lv_at hl 4 rfl) ?_
                        refine lv_iload_n hx hb d_Mo_change_136 rfl (lv_at hl 5 rfl) ?_
                        refine mq_iast (k := 7) (j := j_14) (x := x2) hx hb hI hM (by decide) rfl (by show j_14 < 32; omega) (by decide) trivial d_Mo_change_137 (fun H locs f σ_88 e_89 hI hM => ?_)
                        have hF := mq_fr_ug hF e_89 rfl (Or.inl rfl)
                        have o_90 : σ_88.1 2 = nI n_3 := by rw [e_89]; exact o_83
                        have o_91 : σ_88.1 0 = if 1 = 0 then 1 else 0 := by rw [e_89]; exact o_85
                        have u_92 := IH_fr (mq_fr_ug (X := [7]) mq_fr_rf e_89 rfl (Or.inl rfl)) (by decide) u_84
                        refine lv_aload_n hx hb d_Mo_change_138 rfl (lv_at hl 3 rfl) ?_
                        refine mq_get (k := 8) (v := .ref (ad 8)) hx hb hts hown hI hM (by decide) rfl rfl (hts _ tw_1177) d_Mo_change_139 ?_
                        refine lv_iload_n hx hb d_Mo_change_142 rfl (lv_at hl 4 rfl) ?_
                        refine lv_iload_n hx hb d_Mo_change_143 rfl (lv_at hl 6 rfl) ?_
                        refine mq_iast (k := 8) (j := j_14) (x := x3) hx hb hI hM (by decide) rfl (by show j_14 < 32; omega) (by decide) trivial d_Mo_change_144 (fun H locs f σ_93 e_94 hI hM => ?_)
                        have hF := mq_fr_ug hF e_94 rfl (Or.inl rfl)
                        have o_95 : σ_93.1 2 = nI n_3 := by rw [e_94]; exact o_90
                        have o_96 : σ_93.1 0 = if 1 = 0 then 1 else 0 := by rw [e_94]; exact o_91
                        have u_97 := IH_fr (mq_fr_ug (X := [8]) mq_fr_rf e_94 rfl (Or.inl rfl)) (by decide) u_92
                        refine lv_iload hx hb d_Mo_change_145 (lv_at hl 7 rfl) ?_
                        refine lv_if_eq (tgt := 155) hx hb d_Mo_change_147 (by decide) (fun c_98 => ?_) (fun c_98 => ?_)
                        · refine lv_aload_n hx hb d_Mo_change_155 rfl (lv_at hl 3 rfl) ?_
                          refine sm_vM hI (va_runV (As := []) (rest := []) ⟨hx, hb, hml, hown, hts⟩ (c_Mo_sendAll l D ca ad L _ _ _ hM u_97) (kv_Mo_sendAll hts rfl rfl (hts _ tw_1422) ⟨Nat.le_of_ble_eq_true rfl, Nat.le_of_ble_eq_true rfl⟩) (pv_Mo hI hE hM) rfl rfl hl.1 rfl (lv_room (Nat.le_of_ble_eq_true rfl)) d_Mo_change_156 ⟨Nat.le_of_ble_eq_true rfl, Nat.le_of_ble_eq_true rfl⟩) (fun H locs f σ_100 hI hM hF_101 p_99 => ?_)
                          have hF := mq_fr_tr hF hF_101 (by decide)
                          have o_102 : σ_100.1 2 = nI n_3 := mq_fi hF_101 (by decide) o_95
                          have o_103 : σ_100.1 0 = if 1 = 0 then 1 else 0 := mq_fi hF_101 (by decide) o_96
                          obtain ⟨u_104, -⟩ := p_99
                          exact sm_vret hx hb hr hlk hI ⟨σ_100, rfl, hM, hF, ⟨u_104, (Or.inl ⟨(ch_p hR e_6 (by omega) e_17 (by omega) e_50 (mb_y e_34 e_50 c_35 p_53 c_55 (qb_1 c_51) e_66 e_68 c_69)), o_103.trans (if_neg (by decide))⟩)⟩⟩ d_Mo_change_159
                        · refine lv_aload_n hx hb d_Mo_change_150 rfl (lv_at hl 3 rfl) ?_
                          refine lv_iload_n hx hb d_Mo_change_151 rfl (lv_at hl 4 rfl) ?_
                          refine sm_vM hI (va_runV (As := [.int (nI j_14)]) (rest := []) ⟨hx, hb, hml, hown, hts⟩ (c_Mo_newEvent l D ca ad L _ _ _ hM (j_14) (by omega)) (kv_Mo_newEvent hts rfl rfl (hts _ tw_1414) ⟨Nat.le_of_ble_eq_true rfl, Nat.le_of_ble_eq_true rfl⟩) (pv_Mo hI hE hM) rfl rfl hl.1 rfl (lv_room (Nat.le_of_ble_eq_true rfl)) d_Mo_change_152 ⟨Nat.le_of_ble_eq_true rfl, Nat.le_of_ble_eq_true rfl⟩) (fun H locs f σ_106 hI hM hF_107 p_105 => ?_)
                          have hF := mq_fr_tr hF hF_107 (by decide)
                          have o_108 : σ_106.1 2 = nI n_3 := mq_fi hF_107 (by decide) o_95
                          have o_109 : σ_106.1 0 = if 1 = 0 then 1 else 0 := mq_fi hF_107 (by decide) o_96
                          have u_110 := IH_fr hF_107 (by decide) u_97
                          refine lv_aload_n hx hb d_Mo_change_155 rfl (lv_at hl 3 rfl) ?_
                          refine sm_vM hI (va_runV (As := []) (rest := []) ⟨hx, hb, hml, hown, hts⟩ (c_Mo_sendAll l D ca ad L _ _ _ hM u_110) (kv_Mo_sendAll hts rfl rfl (hts _ tw_1422) ⟨Nat.le_of_ble_eq_true rfl, Nat.le_of_ble_eq_true rfl⟩) (pv_Mo hI hE hM) rfl rfl hl.1 rfl (lv_room (Nat.le_of_ble_eq_true rfl)) d_Mo_change_156 ⟨Nat.le_of_ble_eq_true rfl, Nat.le_of_ble_eq_true rfl⟩) (fun H locs f σ_112 hI hM hF_113 p_111 => ?_)
                          have hF := mq_fr_tr hF hF_113 (by decide)
                          have o_114 : σ_112.1 2 = nI n_3 := mq_fi hF_113 (by decide) o_108
                          have o_115 : σ_112.1 0 = if 1 = 0 then 1 else 0 := mq_fi hF_113 (by decide) o_109
                          obtain ⟨u_116, -⟩ := p_111
                          exact sm_vret hx hb hr hlk hI ⟨σ_112, rfl, hM, hF, ⟨u_116, (Or.inl ⟨(ch_p hR e_6 (by omega) e_17 (by omega) e_50 (mb_y e_34 e_50 c_35 p_53 c_55 (qb_1 c_51) e_66 e_68 c_69)), o_115.trans (if_neg (by decide))⟩)⟩⟩ d_Mo_change_159
                      · exact absurd c_87 (by decide)
              · refine lv_iload hx hb d_Mo_change_77 (lv_at hl 0 rfl) ?_
                refine lv_bipush (v := 6) hx hb d_Mo_change_79 (by decide) ?_
                refine lv_icmp_ge (tgt := 90) hx hb d_Mo_change_81 (by decide) (fun c_117 => ?_) (fun c_117 => ?_)
                · refine lv_sipush (v := 240) hx hb d_Mo_change_90 (by decide) ?_
                  refine lv_istore (lv' := [(7, .int (240)), (6, .int (x_49)), (5, .int (1)), (0, .ref (ad 71)), (1, .int (nI j_14)), (2, .int (x2)), (3, .int (x3)), (4, .int (x4))]) hx hb d_Mo_change_93 hl (by decide) rfl (fun ls hl => ?_)
                  refine lv_aload_n hx hb d_Mo_change_95 rfl (lv_at hl 3 rfl) ?_
                  refine lv_iload hx hb d_Mo_change_96 (lv_at hl 2 rfl) ?_
                  refine lv_if_eq (tgt := 123) hx hb d_Mo_change_98 (by decide) (fun c_118 => ?_) (fun c_118 => ?_)
                  · exact absurd c_118 (by decide)
                  · refine lv_iload hx hb d_Mo_change_101 (lv_at hl 1 rfl) ?_
                    refine lv_iload_n hx hb d_Mo_change_103 rfl (lv_at hl 5 rfl) ?_
                    refine sm_iP hI (va_runS (As := [.int (x_49), .int (x2)]) (rest := [.ref (ad 71)]) ⟨hx, hb, hml, hown, hts⟩ (c_Mo_isValue2 l D ca L _ _ x_49 x2) (ks_Mo_isValue hts rfl rfl (hts _ tw_1402) ⟨Nat.le_of_ble_eq_true rfl, Nat.le_of_ble_eq_true rfl⟩) (sm_preS hI hE) rfl rfl hl.1 rfl (lv_room (Nat.le_of_ble_eq_true rfl)) d_Mo_change_104 ⟨Nat.le_of_ble_eq_true rfl, Nat.le_of_ble_eq_true rfl⟩) (fun x_120 H locs p_119 hI => ?_)
                    refine lv_if_eq (tgt := 123) hx hb d_Mo_change_107 (by decide) (fun c_121 => ?_) (fun c_121 => ?_)
                    · refine lv_iconst (v := 0) hx hb d_Mo_change_123 (by decide) ?_
                      refine sm_iM hI (va_runV (As := [.int (0)]) (rest := []) ⟨hx, hb, hml, hown, hts⟩ (c_Mo_says2 l D ca ad L _ _ _ hM 0 (by decide)) (kv_Mo_says hts rfl rfl (hts _ tw_1410) ⟨Nat.le_of_ble_eq_true rfl, Nat.le_of_ble_eq_true rfl⟩) (pv_Mo hI hE hM) rfl rfl hl.1 rfl (lv_room (Nat.le_of_ble_eq_true rfl)) d_Mo_change_124 ⟨Nat.le_of_ble_eq_true rfl, Nat.le_of_ble_eq_true rfl⟩) (fun x_125 H locs f σ_123 hI hM hF_124 p_122 => ?_)
                      have hF := mq_fr_tr hF hF_124 (by decide)
                      have o_126 : σ_123.1 2 = nI n_3 := mq_fi hF_124 (by decide) e_6
                      have u_127 := IH_fr hF_124 (by decide) u0
                      obtain ⟨p_129, o_128, -⟩ := p_122
                      have p_129 := p_129.symm
                      subst p_129
                      refine lv_if_ne (tgt := 131) hx hb d_Mo_change_127 (by decide) (fun c_130 => ?_) (fun c_130 => ?_)
                      · exact absurd c_130 (by decide)
                      · exact sm_vret hx hb hr hlk hI ⟨σ_123, rfl, hM, hF, ⟨u_127, (Or.inr ⟨(ch_k hR e_17 (by omega) e_50 (mb_nv p_119 c_121)), o_128.trans (if_pos rfl)⟩)⟩⟩ d_Mo_change_130
                    · refine lv_iload_n hx hb d_Mo_change_110 rfl (lv_at hl 6 rfl) ?_
                      refine lv_iload hx hb d_Mo_change_111 (lv_at hl 0 rfl) ?_
                      refine lv_iconst (v := -1) hx hb d_Mo_change_113 (by decide) ?_
                      refine lv_ixor hx hb d_Mo_change_114 ?_
                      refine lv_topi (fun x_131 e_132 => ?_)
                      refine lv_iand hx hb d_Mo_change_115 ?_
                      refine lv_topi (fun x_133 e_134 => ?_)
                      refine lv_if_ne (tgt := 123) hx hb d_Mo_change_116 (by decide) (fun c_135 => ?_) (fun c_135 => ?_)
                      · refine lv_iconst (v := 0) hx hb d_Mo_change_123 (by decide) ?_
                        refine sm_iM hI (va_runV (As := [.int (0)]) (rest := []) ⟨hx, hb, hml, hown, hts⟩ (c_Mo_says2 l D ca ad L _ _ _ hM 0 (by decide)) (kv_Mo_says hts rfl rfl (hts _ tw_1410) ⟨Nat.le_of_ble_eq_true rfl, Nat.le_of_ble_eq_true rfl⟩) (pv_Mo hI hE hM) rfl rfl hl.1 rfl (lv_room (Nat.le_of_ble_eq_true rfl)) d_Mo_change_124 ⟨Nat.le_of_ble_eq_true rfl, Nat.le_of_ble_eq_true rfl⟩) (fun x_139 H locs f σ_137 hI hM hF_138 p_136 => ?_)
                        have hF := mq_fr_tr hF hF_138 (by decide)
                        have o_140 : σ_137.1 2 = nI n_3 := mq_fi hF_138 (by decide) e_6
                        have u_141 := IH_fr hF_138 (by decide) u0
                        obtain ⟨p_143, o_142, -⟩ := p_136
                        have p_143 := p_143.symm
                        subst p_143
                        refine lv_if_ne (tgt := 131) hx hb d_Mo_change_127 (by decide) (fun c_144 => ?_) (fun c_144 => ?_)
                        · exact absurd c_144 (by decide)
                        · exact sm_vret hx hb hr hlk hI ⟨σ_137, rfl, hM, hF, ⟨u_141, (Or.inr ⟨(ch_k hR e_17 (by omega) e_50 (mb_nq (qb_6 c_117) e_132 e_134 c_135)), o_142.trans (if_pos rfl)⟩)⟩⟩ d_Mo_change_130
                      · refine lv_iconst (v := 1) hx hb d_Mo_change_119 (by decide) ?_
                        refine lv_goto (tgt := 124) hx hb d_Mo_change_120 (by decide) ?_
                        refine sm_iM hI (va_runV (As := [.int (1)]) (rest := []) ⟨hx, hb, hml, hown, hts⟩ (c_Mo_says2 l D ca ad L _ _ _ hM 1 (by decide)) (kv_Mo_says hts rfl rfl (hts _ tw_1410) ⟨Nat.le_of_ble_eq_true rfl, Nat.le_of_ble_eq_true rfl⟩) (pv_Mo hI hE hM) rfl rfl hl.1 rfl (lv_room (Nat.le_of_ble_eq_true rfl)) d_Mo_change_124 ⟨Nat.le_of_ble_eq_true rfl, Nat.le_of_ble_eq_true rfl⟩) (fun x_148 H locs f σ_146 hI hM hF_147 p_145 => ?_)
                        have hF := mq_fr_tr hF hF_147 (by decide)
                        have o_149 : σ_146.1 2 = nI n_3 := mq_fi hF_147 (by decide) e_6
                        have u_150 := IH_fr hF_147 (by decide) u0
                        obtain ⟨p_152, o_151, -⟩ := p_145
                        have p_152 := p_152.symm
                        subst p_152
                        refine lv_if_ne (tgt := 131) hx hb d_Mo_change_127 (by decide) (fun c_153 => ?_) (fun c_153 => ?_)
                        · refine lv_aload_n hx hb d_Mo_change_131 rfl (lv_at hl 3 rfl) ?_
                          refine mq_get (k := 7) (v := .ref (ad 7)) hx hb hts hown hI hM (by decide) rfl rfl (hts _ tw_1176) d_Mo_change_132 ?_
                          refine lv_iload_n hx hb d_Mo_change_135 rfl (lv_at hl 4 rfl) ?_
                          refine lv_iload_n hx hb d_Mo_change_136 rfl (lv_at hl 5 rfl) ?_
                          refine mq_iast (k := 7) (j := j_14) (x := x2) hx hb hI hM (by decide) rfl (by show j_14 < 32; omega) (by decide) trivial d_Mo_change_137 (fun H locs f σ_154 e_155 hI hM => ?_)
                          have hF := mq_fr_ug hF e_155 rfl (Or.inl rfl)
                          have o_156 : σ_154.1 2 = nI n_3 := by rw [e_155]; exact o_149
                          have o_157 : σ_154.1 0 = if 1 = 0 then 1 else 0 := by rw [e_155]; exact o_151
                          have u_158 := IH_fr (mq_fr_ug (X := [7]) mq_fr_rf e_155 rfl (Or.inl rfl)) (by decide) u_150
                          refine lv_aload_n hx hb d_Mo_change_138 rfl (lv_at hl 3 rfl) ?_
                          refine mq_get (k := 8) (v := .ref (ad 8)) hx hb hts hown hI hM (by decide) rfl rfl (hts _ tw_1177) d_Mo_change_139 ?_
                          refine lv_iload_n hx hb d_Mo_change_142 rfl (lv_at hl 4 rfl) ?_
                          refine lv_iload_n hx hb d_Mo_change_143 rfl (lv_at hl 6 rfl) ?_
                          refine mq_iast (k := 8) (j := j_14) (x := x3) hx hb hI hM (by decide) rfl (by show j_14 < 32; omega) (by decide) trivial d_Mo_change_144 (fun H locs f σ_159 e_160 hI hM => ?_)
                          have hF := mq_fr_ug hF e_160 rfl (Or.inl rfl)
                          have o_161 : σ_159.1 2 = nI n_3 := by rw [e_160]; exact o_156
                          have o_162 : σ_159.1 0 = if 1 = 0 then 1 else 0 := by rw [e_160]; exact o_157
                          have u_163 := IH_fr (mq_fr_ug (X := [8]) mq_fr_rf e_160 rfl (Or.inl rfl)) (by decide) u_158
                          refine lv_iload hx hb d_Mo_change_145 (lv_at hl 7 rfl) ?_
                          refine lv_if_eq (tgt := 155) hx hb d_Mo_change_147 (by decide) (fun c_164 => ?_) (fun c_164 => ?_)
                          · refine lv_aload_n hx hb d_Mo_change_155 rfl (lv_at hl 3 rfl) ?_
                            refine sm_vM hI (va_runV (As := []) (rest := []) ⟨hx, hb, hml, hown, hts⟩ (c_Mo_sendAll l D ca ad L _ _ _ hM u_163) (kv_Mo_sendAll hts rfl rfl (hts _ tw_1422) ⟨Nat.le_of_ble_eq_true rfl, Nat.le_of_ble_eq_true rfl⟩) (pv_Mo hI hE hM) rfl rfl hl.1 rfl (lv_room (Nat.le_of_ble_eq_true rfl)) d_Mo_change_156 ⟨Nat.le_of_ble_eq_true rfl, Nat.le_of_ble_eq_true rfl⟩) (fun H locs f σ_166 hI hM hF_167 p_165 => ?_)
                            have hF := mq_fr_tr hF hF_167 (by decide)
                            have o_168 : σ_166.1 2 = nI n_3 := mq_fi hF_167 (by decide) o_161
                            have o_169 : σ_166.1 0 = if 1 = 0 then 1 else 0 := mq_fi hF_167 (by decide) o_162
                            obtain ⟨u_170, -⟩ := p_165
                            exact sm_vret hx hb hr hlk hI ⟨σ_166, rfl, hM, hF, ⟨u_170, (Or.inl ⟨(ch_p hR e_6 (by omega) e_17 (by omega) e_50 (mb_y e_34 e_50 c_35 p_119 c_121 (qb_6 c_117) e_132 e_134 c_135)), o_169.trans (if_neg (by decide))⟩)⟩⟩ d_Mo_change_159
                          · refine lv_aload_n hx hb d_Mo_change_150 rfl (lv_at hl 3 rfl) ?_
                            refine lv_iload_n hx hb d_Mo_change_151 rfl (lv_at hl 4 rfl) ?_
                            refine sm_vM hI (va_runV (As := [.int (nI j_14)]) (rest := []) ⟨hx, hb, hml, hown, hts⟩ (c_Mo_newEvent l D ca ad L _ _ _ hM (j_14) (by omega)) (kv_Mo_newEvent hts rfl rfl (hts _ tw_1414) ⟨Nat.le_of_ble_eq_true rfl, Nat.le_of_ble_eq_true rfl⟩) (pv_Mo hI hE hM) rfl rfl hl.1 rfl (lv_room (Nat.le_of_ble_eq_true rfl)) d_Mo_change_152 ⟨Nat.le_of_ble_eq_true rfl, Nat.le_of_ble_eq_true rfl⟩) (fun H locs f σ_172 hI hM hF_173 p_171 => ?_)
                            have hF := mq_fr_tr hF hF_173 (by decide)
                            have o_174 : σ_172.1 2 = nI n_3 := mq_fi hF_173 (by decide) o_161
                            have o_175 : σ_172.1 0 = if 1 = 0 then 1 else 0 := mq_fi hF_173 (by decide) o_162
                            have u_176 := IH_fr hF_173 (by decide) u_163
                            refine lv_aload_n hx hb d_Mo_change_155 rfl (lv_at hl 3 rfl) ?_
                            refine sm_vM hI (va_runV (As := []) (rest := []) ⟨hx, hb, hml, hown, hts⟩ (c_Mo_sendAll l D ca ad L _ _ _ hM u_176) (kv_Mo_sendAll hts rfl rfl (hts _ tw_1422) ⟨Nat.le_of_ble_eq_true rfl, Nat.le_of_ble_eq_true rfl⟩) (pv_Mo hI hE hM) rfl rfl hl.1 rfl (lv_room (Nat.le_of_ble_eq_true rfl)) d_Mo_change_156 ⟨Nat.le_of_ble_eq_true rfl, Nat.le_of_ble_eq_true rfl⟩) (fun H locs f σ_178 hI hM hF_179 p_177 => ?_)
                            have hF := mq_fr_tr hF hF_179 (by decide)
                            have o_180 : σ_178.1 2 = nI n_3 := mq_fi hF_179 (by decide) o_174
                            have o_181 : σ_178.1 0 = if 1 = 0 then 1 else 0 := mq_fi hF_179 (by decide) o_175
                            obtain ⟨u_182, -⟩ := p_177
                            exact sm_vret hx hb hr hlk hI ⟨σ_178, rfl, hM, hF, ⟨u_182, (Or.inl ⟨(ch_p hR e_6 (by omega) e_17 (by omega) e_50 (mb_y e_34 e_50 c_35 p_119 c_121 (qb_6 c_117) e_132 e_134 c_135)), o_181.trans (if_neg (by decide))⟩)⟩⟩ d_Mo_change_159
                        · exact absurd c_153 (by decide)
                · refine lv_sipush (v := 241) hx hb d_Mo_change_84 (by decide) ?_
                  refine lv_goto (tgt := 93) hx hb d_Mo_change_87 (by decide) ?_
                  refine lv_istore (lv' := [(7, .int (241)), (6, .int (x_49)), (5, .int (1)), (0, .ref (ad 71)), (1, .int (nI j_14)), (2, .int (x2)), (3, .int (x3)), (4, .int (x4))]) hx hb d_Mo_change_93 hl (by decide) rfl (fun ls hl => ?_)
                  refine lv_aload_n hx hb d_Mo_change_95 rfl (lv_at hl 3 rfl) ?_
                  refine lv_iload hx hb d_Mo_change_96 (lv_at hl 2 rfl) ?_
                  refine lv_if_eq (tgt := 123) hx hb d_Mo_change_98 (by decide) (fun c_183 => ?_) (fun c_183 => ?_)
                  · exact absurd c_183 (by decide)
                  · refine lv_iload hx hb d_Mo_change_101 (lv_at hl 1 rfl) ?_
                    refine lv_iload_n hx hb d_Mo_change_103 rfl (lv_at hl 5 rfl) ?_
                    refine sm_iP hI (va_runS (As := [.int (x_49), .int (x2)]) (rest := [.ref (ad 71)]) ⟨hx, hb, hml, hown, hts⟩ (c_Mo_isValue2 l D ca L _ _ x_49 x2) (ks_Mo_isValue hts rfl rfl (hts _ tw_1402) ⟨Nat.le_of_ble_eq_true rfl, Nat.le_of_ble_eq_true rfl⟩) (sm_preS hI hE) rfl rfl hl.1 rfl (lv_room (Nat.le_of_ble_eq_true rfl)) d_Mo_change_104 ⟨Nat.le_of_ble_eq_true rfl, Nat.le_of_ble_eq_true rfl⟩) (fun x_185 H locs p_184 hI => ?_)
                    refine lv_if_eq (tgt := 123) hx hb d_Mo_change_107 (by decide) (fun c_186 => ?_) (fun c_186 => ?_)
                    · refine lv_iconst (v := 0) hx hb d_Mo_change_123 (by decide) ?_
                      refine sm_iM hI (va_runV (As := [.int (0)]) (rest := []) ⟨hx, hb, hml, hown, hts⟩ (c_Mo_says2 l D ca ad L _ _ _ hM 0 (by decide)) (kv_Mo_says hts rfl rfl (hts _ tw_1410) ⟨Nat.le_of_ble_eq_true rfl, Nat.le_of_ble_eq_true rfl⟩) (pv_Mo hI hE hM) rfl rfl hl.1 rfl (lv_room (Nat.le_of_ble_eq_true rfl)) d_Mo_change_124 ⟨Nat.le_of_ble_eq_true rfl, Nat.le_of_ble_eq_true rfl⟩) (fun x_190 H locs f σ_188 hI hM hF_189 p_187 => ?_)
                      have hF := mq_fr_tr hF hF_189 (by decide)
                      have o_191 : σ_188.1 2 = nI n_3 := mq_fi hF_189 (by decide) e_6
                      have u_192 := IH_fr hF_189 (by decide) u0
                      obtain ⟨p_194, o_193, -⟩ := p_187
                      have p_194 := p_194.symm
                      subst p_194
                      refine lv_if_ne (tgt := 131) hx hb d_Mo_change_127 (by decide) (fun c_195 => ?_) (fun c_195 => ?_)
                      · exact absurd c_195 (by decide)
                      · exact sm_vret hx hb hr hlk hI ⟨σ_188, rfl, hM, hF, ⟨u_192, (Or.inr ⟨(ch_k hR e_17 (by omega) e_50 (mb_nv p_184 c_186)), o_193.trans (if_pos rfl)⟩)⟩⟩ d_Mo_change_130
                    · refine lv_iload_n hx hb d_Mo_change_110 rfl (lv_at hl 6 rfl) ?_
                      refine lv_iload hx hb d_Mo_change_111 (lv_at hl 0 rfl) ?_
                      refine lv_iconst (v := -1) hx hb d_Mo_change_113 (by decide) ?_
                      refine lv_ixor hx hb d_Mo_change_114 ?_
                      refine lv_topi (fun x_196 e_197 => ?_)
                      refine lv_iand hx hb d_Mo_change_115 ?_
                      refine lv_topi (fun x_198 e_199 => ?_)
                      refine lv_if_ne (tgt := 123) hx hb d_Mo_change_116 (by decide) (fun c_200 => ?_) (fun c_200 => ?_)
                      · refine lv_iconst (v := 0) hx hb d_Mo_change_123 (by decide) ?_
                        refine sm_iM hI (va_runV (As := [.int (0)]) (rest := []) ⟨hx, hb, hml, hown, hts⟩ (c_Mo_says2 l D ca ad L _ _ _ hM 0 (by decide)) (kv_Mo_says hts rfl rfl (hts _ tw_1410) ⟨Nat.le_of_ble_eq_true rfl, Nat.le_of_ble_eq_true rfl⟩) (pv_Mo hI hE hM) rfl rfl hl.1 rfl (lv_room (Nat.le_of_ble_eq_true rfl)) d_Mo_change_124 ⟨Nat.le_of_ble_eq_true rfl, Nat.le_of_ble_eq_true rfl⟩) (fun x_204 H locs f σ_202 hI hM hF_203 p_201 => ?_)
                        have hF := mq_fr_tr hF hF_203 (by decide)
                        have o_205 : σ_202.1 2 = nI n_3 := mq_fi hF_203 (by decide) e_6
                        have u_206 := IH_fr hF_203 (by decide) u0
                        obtain ⟨p_208, o_207, -⟩ := p_201
                        have p_208 := p_208.symm
                        subst p_208
                        refine lv_if_ne (tgt := 131) hx hb d_Mo_change_127 (by decide) (fun c_209 => ?_) (fun c_209 => ?_)
                        · exact absurd c_209 (by decide)
                        · exact sm_vret hx hb hr hlk hI ⟨σ_202, rfl, hM, hF, ⟨u_206, (Or.inr ⟨(ch_k hR e_17 (by omega) e_50 (mb_nq (qb_m c_51 c_117) e_197 e_199 c_200)), o_207.trans (if_pos rfl)⟩)⟩⟩ d_Mo_change_130
                      · refine lv_iconst (v := 1) hx hb d_Mo_change_119 (by decide) ?_
                        refine lv_goto (tgt := 124) hx hb d_Mo_change_120 (by decide) ?_
                        refine sm_iM hI (va_runV (As := [.int (1)]) (rest := []) ⟨hx, hb, hml, hown, hts⟩ (c_Mo_says2 l D ca ad L _ _ _ hM 1 (by decide)) (kv_Mo_says hts rfl rfl (hts _ tw_1410) ⟨Nat.le_of_ble_eq_true rfl, Nat.le_of_ble_eq_true rfl⟩) (pv_Mo hI hE hM) rfl rfl hl.1 rfl (lv_room (Nat.le_of_ble_eq_true rfl)) d_Mo_change_124 ⟨Nat.le_of_ble_eq_true rfl, Nat.le_of_ble_eq_true rfl⟩) (fun x_213 H locs f σ_211 hI hM hF_212 p_210 => ?_)
                        have hF := mq_fr_tr hF hF_212 (by decide)
                        have o_214 : σ_211.1 2 = nI n_3 := mq_fi hF_212 (by decide) e_6
                        have u_215 := IH_fr hF_212 (by decide) u0
                        obtain ⟨p_217, o_216, -⟩ := p_210
                        have p_217 := p_217.symm
                        subst p_217
                        refine lv_if_ne (tgt := 131) hx hb d_Mo_change_127 (by decide) (fun c_218 => ?_) (fun c_218 => ?_)
                        · refine lv_aload_n hx hb d_Mo_change_131 rfl (lv_at hl 3 rfl) ?_
                          refine mq_get (k := 7) (v := .ref (ad 7)) hx hb hts hown hI hM (by decide) rfl rfl (hts _ tw_1176) d_Mo_change_132 ?_
                          refine lv_iload_n hx hb d_Mo_change_135 rfl (lv_at hl 4 rfl) ?_
                          refine lv_iload_n hx hb d_Mo_change_136 rfl (lv_at hl 5 rfl) ?_
                          refine mq_iast (k := 7) (j := j_14) (x := x2) hx hb hI hM (by decide) rfl (by show j_14 < 32; omega) (by decide) trivial d_Mo_change_137 (fun H locs f σ_219 e_220 hI hM => ?_)
                          have hF := mq_fr_ug hF e_220 rfl (Or.inl rfl)
                          have o_221 : σ_219.1 2 = nI n_3 := by rw [e_220]; exact o_214
                          have o_222 : σ_219.1 0 = if 1 = 0 then 1 else 0 := by rw [e_220]; exact o_216
                          have u_223 := IH_fr (mq_fr_ug (X := [7]) mq_fr_rf e_220 rfl (Or.inl rfl)) (by decide) u_215
                          refine lv_aload_n hx hb d_Mo_change_138 rfl (lv_at hl 3 rfl) ?_
                          refine mq_get (k := 8) (v := .ref (ad 8)) hx hb hts hown hI hM (by decide) rfl rfl (hts _ tw_1177) d_Mo_change_139 ?_
                          refine lv_iload_n hx hb d_Mo_change_142 rfl (lv_at hl 4 rfl) ?_
                          refine lv_iload_n hx hb d_Mo_change_143 rfl (lv_at hl 6 rfl) ?_
                          refine mq_iast (k := 8) (j := j_14) (x := x3) hx hb hI hM (by decide) rfl (by show j_14 < 32; omega) (by decide) trivial d_Mo_change_144 (fun H locs f σ_224 e_225 hI hM => ?_)
                          have hF := mq_fr_ug hF e_225 rfl (Or.inl rfl)
                          have o_226 : σ_224.1 2 = nI n_3 := by rw [e_225]; exact o_221
                          have o_227 : σ_224.1 0 = if 1 = 0 then 1 else 0 := by rw [e_225]; exact o_222
                          have u_228 := IH_fr (mq_fr_ug (X := [8]) mq_fr_rf e_225 rfl (Or.inl rfl)) (by decide) u_223
                          refine lv_iload hx hb d_Mo_change_145 (lv_at hl 7 rfl) ?_
                          refine lv_if_eq (tgt := 155) hx hb d_Mo_change_147 (by decide) (fun c_229 => ?_) (fun c_229 => ?_)
                          · refine lv_aload_n hx hb d_Mo_change_155 rfl (lv_at hl 3 rfl) ?_
                            refine sm_vM hI (va_runV (As := []) (rest := []) ⟨hx, hb, hml, hown, hts⟩ (c_Mo_sendAll l D ca ad L _ _ _ hM u_228) (kv_Mo_sendAll hts rfl rfl (hts _ tw_1422) ⟨Nat.le_of_ble_eq_true rfl, Nat.le_of_ble_eq_true rfl⟩) (pv_Mo hI hE hM) rfl rfl hl.1 rfl (lv_room (Nat.le_of_ble_eq_true rfl)) d_Mo_change_156 ⟨Nat.le_of_ble_eq_true rfl, Nat.le_of_ble_eq_true rfl⟩) (fun H locs f σ_231 hI hM hF_232 p_230 => ?_)
                            have hF := mq_fr_tr hF hF_232 (by decide)
                            have o_233 : σ_231.1 2 = nI n_3 := mq_fi hF_232 (by decide) o_226
                            have o_234 : σ_231.1 0 = if 1 = 0 then 1 else 0 := mq_fi hF_232 (by decide) o_227
                            obtain ⟨u_235, -⟩ := p_230
                            exact sm_vret hx hb hr hlk hI ⟨σ_231, rfl, hM, hF, ⟨u_235, (Or.inl ⟨(ch_p hR e_6 (by omega) e_17 (by omega) e_50 (mb_y e_34 e_50 c_35 p_184 c_186 (qb_m c_51 c_117) e_197 e_199 c_200)), o_234.trans (if_neg (by decide))⟩)⟩⟩ d_Mo_change_159
                          · refine lv_aload_n hx hb d_Mo_change_150 rfl (lv_at hl 3 rfl) ?_
                            refine lv_iload_n hx hb d_Mo_change_151 rfl (lv_at hl 4 rfl) ?_
                            refine sm_vM hI (va_runV (As := [.int (nI j_14)]) (rest := []) ⟨hx, hb, hml, hown, hts⟩ (c_Mo_newEvent l D ca ad L _ _ _ hM (j_14) (by omega)) (kv_Mo_newEvent hts rfl rfl (hts _ tw_1414) ⟨Nat.le_of_ble_eq_true rfl, Nat.le_of_ble_eq_true rfl⟩) (pv_Mo hI hE hM) rfl rfl hl.1 rfl (lv_room (Nat.le_of_ble_eq_true rfl)) d_Mo_change_152 ⟨Nat.le_of_ble_eq_true rfl, Nat.le_of_ble_eq_true rfl⟩) (fun H locs f σ_237 hI hM hF_238 p_236 => ?_)
                            have hF := mq_fr_tr hF hF_238 (by decide)
                            have o_239 : σ_237.1 2 = nI n_3 := mq_fi hF_238 (by decide) o_226
                            have o_240 : σ_237.1 0 = if 1 = 0 then 1 else 0 := mq_fi hF_238 (by decide) o_227
                            have u_241 := IH_fr hF_238 (by decide) u_228
                            refine lv_aload_n hx hb d_Mo_change_155 rfl (lv_at hl 3 rfl) ?_
                            refine sm_vM hI (va_runV (As := []) (rest := []) ⟨hx, hb, hml, hown, hts⟩ (c_Mo_sendAll l D ca ad L _ _ _ hM u_241) (kv_Mo_sendAll hts rfl rfl (hts _ tw_1422) ⟨Nat.le_of_ble_eq_true rfl, Nat.le_of_ble_eq_true rfl⟩) (pv_Mo hI hE hM) rfl rfl hl.1 rfl (lv_room (Nat.le_of_ble_eq_true rfl)) d_Mo_change_156 ⟨Nat.le_of_ble_eq_true rfl, Nat.le_of_ble_eq_true rfl⟩) (fun H locs f σ_243 hI hM hF_244 p_242 => ?_)
                            have hF := mq_fr_tr hF hF_244 (by decide)
                            have o_245 : σ_243.1 2 = nI n_3 := mq_fi hF_244 (by decide) o_239
                            have o_246 : σ_243.1 0 = if 1 = 0 then 1 else 0 := mq_fi hF_244 (by decide) o_240
                            obtain ⟨u_247, -⟩ := p_242
                            exact sm_vret hx hb hr hlk hI ⟨σ_243, rfl, hM, hF, ⟨u_247, (Or.inl ⟨(ch_p hR e_6 (by omega) e_17 (by omega) e_50 (mb_y e_34 e_50 c_35 p_184 c_186 (qb_m c_51 c_117) e_197 e_199 c_200)), o_246.trans (if_neg (by decide))⟩)⟩⟩ d_Mo_change_159
                        · exact absurd c_218 (by decide)
      · omega
  · refine lv_if_eq (tgt := 51) hx hb d_Mo_change_13 (by decide) (fun c_248 => ?_) (fun c_248 => ?_)
    · refine lv_iconst (v := 0) hx hb d_Mo_change_51 (by decide) ?_
      refine lv_istore (lv' := [(5, .int (0)), (0, .ref (ad 71)), (1, .int (x1)), (2, .int (x2)), (3, .int (x3)), (4, .int (x4))]) hx hb d_Mo_change_52 hl (by decide) rfl (fun ls hl => ?_)
      refine lv_iload hx hb d_Mo_change_54 (lv_at hl 0 rfl) ?_
      refine lv_if_eq (tgt := 68) hx hb d_Mo_change_56 (by decide) (fun c_249 => ?_) (fun c_249 => ?_)
      · refine lv_iconst (v := 0) hx hb d_Mo_change_68 (by decide) ?_
        refine lv_istore (lv' := [(6, .int (0)), (5, .int (0)), (0, .ref (ad 71)), (1, .int (x1)), (2, .int (x2)), (3, .int (x3)), (4, .int (x4))]) hx hb d_Mo_change_69 hl (by decide) rfl (fun ls hl => ?_)
        refine lv_iload hx hb d_Mo_change_71 (lv_at hl 0 rfl) ?_
        refine lv_iconst (v := 1) hx hb d_Mo_change_73 (by decide) ?_
        refine lv_icmp_le (tgt := 90) hx hb d_Mo_change_74 (by decide) (fun c_250 => ?_) (fun c_250 => ?_)
        · refine lv_sipush (v := 240) hx hb d_Mo_change_90 (by decide) ?_
          refine lv_istore (lv' := [(7, .int (240)), (6, .int (0)), (5, .int (0)), (0, .ref (ad 71)), (1, .int (x1)), (2, .int (x2)), (3, .int (x3)), (4, .int (x4))]) hx hb d_Mo_change_93 hl (by decide) rfl (fun ls hl => ?_)
          refine lv_aload_n hx hb d_Mo_change_95 rfl (lv_at hl 3 rfl) ?_
          refine lv_iload hx hb d_Mo_change_96 (lv_at hl 2 rfl) ?_
          refine lv_if_eq (tgt := 123) hx hb d_Mo_change_98 (by decide) (fun c_251 => ?_) (fun c_251 => ?_)
          · refine lv_iconst (v := 0) hx hb d_Mo_change_123 (by decide) ?_
            refine sm_iM hI (va_runV (As := [.int (0)]) (rest := []) ⟨hx, hb, hml, hown, hts⟩ (c_Mo_says2 l D ca ad L _ _ _ hM 0 (by decide)) (kv_Mo_says hts rfl rfl (hts _ tw_1410) ⟨Nat.le_of_ble_eq_true rfl, Nat.le_of_ble_eq_true rfl⟩) (pv_Mo hI hE hM) rfl rfl hl.1 rfl (lv_room (Nat.le_of_ble_eq_true rfl)) d_Mo_change_124 ⟨Nat.le_of_ble_eq_true rfl, Nat.le_of_ble_eq_true rfl⟩) (fun x_255 H locs f σ_253 hI hM hF_254 p_252 => ?_)
            have hF := mq_fr_tr hF hF_254 (by decide)
            have o_256 : σ_253.1 2 = nI n_3 := mq_fi hF_254 (by decide) e_6
            have u_257 := IH_fr hF_254 (by decide) u0
            obtain ⟨p_259, o_258, -⟩ := p_252
            have p_259 := p_259.symm
            subst p_259
            refine lv_if_ne (tgt := 131) hx hb d_Mo_change_127 (by decide) (fun c_260 => ?_) (fun c_260 => ?_)
            · exact absurd c_260 (by decide)
            · exact sm_vret hx hb hr hlk hI ⟨σ_253, rfl, hM, hF, ⟨u_257, (Or.inr ⟨(ch_a hR e_6 (by omega) h_13), o_258.trans (if_pos rfl)⟩)⟩⟩ d_Mo_change_130
          · exact absurd c_251 (by decide)
        · exact absurd c_250 (by decide)
      · exact absurd c_249 (by decide)
    · exact absurd c_248 (by decide)
set_option maxRecDepth 100000 in
set_option maxHeartbeats 4000000 in
theorem c_Po_change2 (l : Launch) (D : va_G) (ca : Nat → ClassId) (T : ty_e) (L : List Nat) (f0 : Nat → va_E) (sz : Nat) (hT : ok_T ca T L f0) {g0 : List (Int32 × Int32)} (h0 : Nat) (t0 : T h0 = some (ty_po g0)) (x1 : Int32) (x2 : Int32) (x3 : Int32) (x4 : Int32) (p4 : x4 = 0 ∨ x4 = 1) (hfl : l.flags = Jvm.pinnedFlags ++ [Jvm.noTraceFlag]) :
    MetO l y_Po_change (Cond.code y_Po_change b_Po_change 6 none :: wg) { frames := 6, cells := 1, slots := 6, locals := 119 } (va_Pc [.ref h0, .int (x1), .int (x2), .int (x3), .int (x4)] (sm_P D cl_all (ty_s ca) ek3 L f0 sz)) (sm_Qv D (ty_s ca) L f0 sz (fun u => ch_ok g0 x1 x2 x3 ∧ po_m ca T L u)) (sm_Qt D (ty_s ca) L f0 sz (fun X u => (¬ ch_ok g0 x1 x2 x3) ∧ po_m ca T L u) [xIA]) 1 6 (va_A (va_pl L f0) sz) := by
  refine sm_startO (by decide) (Nat.le_of_ble_eq_true rfl) ?_
  intro p e s m below meth c ls hx hb hml hr hlk hno hts hown hsz hE3 hI hl
  have hE := hE3.1.1
  have hl : lv_has ls 6 [(0, .ref h0), (1, .int (x1)), (2, .int (x2)), (3, .int (x3)), (4, .int (x4))] := hl
  have hg := po_len hT t0
  refine lv_iload_n hx hb d_Po_change_0 rfl (lv_at hl 1 rfl) ?_
  refine lv_if_lt (tgt := 24) hx hb d_Po_change_1 (by decide) (fun c_1 => ?_) (fun c_1 => ?_)
  · exact sm_thr (k := 109) (n := 30) hx hb hts hown hlk hno hfl hE3 hI (hl.1.trans hml.symm) (by decide) (fun _ _ _ h1 h2 => oa_IA h1 h2) tw_425 tw_426 tw_16 tn_591 ⟨cg_1 hg c_1, rfl, hT⟩ (by decide) (Nat.le_of_ble_eq_true rfl) (Nat.le_of_ble_eq_true rfl) (Nat.le_of_ble_eq_true rfl) (Nat.le_of_ble_eq_true rfl) (Nat.le_of_ble_eq_true rfl) (Nat.le_of_ble_eq_true rfl) d_Po_change_24 d_Po_change_27 (Or.inl ⟨d_Po_change_28, rfl⟩) d_Po_change_30 d_Po_change_33
  · refine lv_iload_n hx hb d_Po_change_4 rfl (lv_at hl 1 rfl) ?_
    refine lv_aload_n hx hb d_Po_change_5 rfl (lv_at hl 0 rfl) ?_
    refine fg_Po_pointCount hx hb hts hown hI hT t0 (hts _ tw_364) (fun _ h9 => h9) d_Po_change_6 (fun h_2 => ?_)
    refine lv_icmp_ge (tgt := 24) hx hb d_Po_change_9 (by decide) (fun c_3 => ?_) (fun c_3 => ?_)
    · exact sm_thr (k := 109) (n := 30) hx hb hts hown hlk hno hfl hE3 hI (hl.1.trans hml.symm) (by decide) (fun _ _ _ h1 h2 => oa_IA h1 h2) tw_425 tw_426 tw_16 tn_591 ⟨cg_2 hg c_3, rfl, hT⟩ (by decide) (Nat.le_of_ble_eq_true rfl) (Nat.le_of_ble_eq_true rfl) (Nat.le_of_ble_eq_true rfl) (Nat.le_of_ble_eq_true rfl) (Nat.le_of_ble_eq_true rfl) (Nat.le_of_ble_eq_true rfl) d_Po_change_24 d_Po_change_27 (Or.inl ⟨d_Po_change_28, rfl⟩) d_Po_change_30 d_Po_change_33
    · obtain ⟨n_4, h_5, rfl⟩ : ∃ n : Nat, n < g0.length ∧ x1 = nI n := (nb_ge hg c_1 c_3)
      refine lv_aload_n hx hb d_Po_change_12 rfl (lv_at hl 0 rfl) ?_
      refine fg_Po_points hx hb hts hown hI hT t0 (hts _ tw_363) (fun _ h9 => h9) d_Po_change_13 (fun r_6 t_7 => ?_)
      refine lv_iload_n hx hb d_Po_change_16 rfl (lv_at hl 1 rfl) ?_
      obtain ⟨q_8, h_9⟩ : ∃ z, g0[n_4]? = some z := ⟨_, List.getElem?_eq_getElem (by omega)⟩
      refine fa_pts (j := n_4) hx hb hI hT t_7 h_9 (by omega) d_Po_change_17 (fun r_10 t_11 => ?_)
      refine sm_iP hI (va_runV (As := []) (rest := []) ⟨hx, hb, hml, hown, hts⟩ (c_Pt_isCommand2 l D ca _ _ _ _ hT r_10 t_11) (kv_Pt_isCommand hts rfl rfl (hts _ tw_587) ⟨Nat.le_of_ble_eq_true rfl, Nat.le_of_ble_eq_true rfl⟩) (pv_Pt hI hE hT t_11) rfl rfl hl.1 rfl (lv_room (Nat.le_of_ble_eq_true rfl)) d_Po_change_18 ⟨Nat.le_of_ble_eq_true rfl, Nat.le_of_ble_eq_true rfl⟩) (fun x_12 H locs p_13 hI => ?_)
      refine lv_if_eq (tgt := 34) hx hb d_Po_change_21 (by decide) (fun c_14 => ?_) (fun c_14 => ?_)
      · refine lv_aload_n hx hb d_Po_change_34 rfl (lv_at hl 0 rfl) ?_
        refine fg_Po_points hx hb hts hown hI hT t0 (hts _ tw_363) (fun _ h9 => h9) d_Po_change_35 (fun r_15 t_16 => ?_)
        refine lv_iload_n hx hb d_Po_change_38 rfl (lv_at hl 1 rfl) ?_
        obtain ⟨q_17, h_18⟩ : ∃ z, g0[n_4]? = some z := ⟨_, List.getElem?_eq_getElem (by omega)⟩
        refine fa_pts (j := n_4) hx hb hI hT t_16 h_18 (by omega) d_Po_change_39 (fun r_19 t_20 => ?_)
        refine lv_astore (lv' := [(5, .ref r_19), (0, .ref h0), (1, .int (nI n_4)), (2, .int (x2)), (3, .int (x3)), (4, .int (x4))]) hx hb d_Po_change_40 hl (by decide) rfl (fun ls hl => ?_)
        refine lv_aload hx hb d_Po_change_42 (lv_at hl 0 rfl) ?_
        refine lv_iload_n hx hb d_Po_change_44 rfl (lv_at hl 3 rfl) ?_
        refine lv_iload_n hx hb d_Po_change_45 rfl (lv_at hl 4 rfl) ?_
        refine sm_iP hI (va_runV (As := [.int (x2), .int (x3)]) (rest := []) ⟨hx, hb, hml, hown, hts⟩ (c_Pt_mayBe2 l D ca _ _ _ _ hT r_19 t_20 x2 x3) (kv_Pt_mayBe hts rfl rfl (hts _ tw_592) ⟨Nat.le_of_ble_eq_true rfl, Nat.le_of_ble_eq_true rfl⟩) (pv_Pt hI hE hT t_20) rfl rfl hl.1 rfl (lv_room (Nat.le_of_ble_eq_true rfl)) d_Po_change_46 ⟨Nat.le_of_ble_eq_true rfl, Nat.le_of_ble_eq_true rfl⟩) (fun x_21 H locs p_22 hI => ?_)
        refine lv_if_ne (tgt := 62) hx hb d_Po_change_49 (by decide) (fun c_23 => ?_) (fun c_23 => ?_)
        · refine lv_aload hx hb d_Po_change_62 (lv_at hl 0 rfl) ?_
          refine lv_iload_n hx hb d_Po_change_64 rfl (lv_at hl 3 rfl) ?_
          refine fpN_Pt_value hx hb hts hown hI hT t_20 (va_Nw.use rfl (hE.1 _ tn_527 rfl)) (fun _ h9 => h9) d_Po_change_65 (fun H locs f hI hT => ?_)
          refine lv_aload hx hb d_Po_change_68 (lv_at hl 0 rfl) ?_
          refine lv_iload_n hx hb d_Po_change_70 rfl (lv_at hl 4 rfl) ?_
          refine fpN_Pt_quality hx hb hts hown hI hT t_20 (va_Nw.use rfl (hE.1 _ tn_529 rfl)) (fun _ h9 => h9) d_Po_change_71 (fun H locs f hI hT => ?_)
          refine lv_iload hx hb d_Po_change_74 (lv_at hl 5 rfl) ?_
          refine lv_if_eq (tgt := 93) hx hb d_Po_change_76 (by decide) (fun c_24 => ?_) (fun c_24 => ?_)
          · refine W.mono (fun _ h => Or.inl h) (W.widen (k := 1) (n := 6) (by decide) (by decide) ?_)
            exact sm_vret hx hb hr hlk hI ⟨⟨n_4, q_17, rfl, h_18, p_22.2.mp (p_22.1.resolve_left c_23)⟩, rfl, hT⟩ d_Po_change_93
          · refine lv_aload_n hx hb d_Po_change_79 rfl (lv_at hl 1 rfl) ?_
            refine lv_aload hx hb d_Po_change_80 (lv_at hl 0 rfl) ?_
            refine sm_v hI (va_runV (As := [.ref r_19]) (rest := []) ⟨hx, hb, hml, hown, hts⟩ (c_Po_makeEvent l D ca _ _ _ _ hT h0 t0 r_19 t_20 (by obtain rfl := Option.some.inj (h_9.symm.trans h_18); exact p_13.2.1 c_14)) (kv_Po_makeEvent hts rfl rfl (hts _ tw_602) ⟨Nat.le_of_ble_eq_true rfl, Nat.le_of_ble_eq_true rfl⟩) (pv_Po hI hE hT t0) rfl rfl hl.1 rfl (lv_room (Nat.le_of_ble_eq_true rfl)) d_Po_change_82 ⟨Nat.le_of_ble_eq_true rfl, Nat.le_of_ble_eq_true rfl⟩) (fun H locs f hI hT => ?_)
            refine lv_aload_n hx hb d_Po_change_85 rfl (lv_at hl 1 rfl) ?_
            refine lv_aload_n hx hb d_Po_change_86 rfl (lv_at hl 1 rfl) ?_
            refine sm_iP hI (va_runV (As := []) (rest := [.ref h0]) ⟨hx, hb, hml, hown, hts⟩ (c_Po_activeLine l D ca _ _ _ _ hT h0 t0) (kv_Po_activeLine hts rfl rfl (hts _ tw_653) ⟨Nat.le_of_ble_eq_true rfl, Nat.le_of_ble_eq_true rfl⟩) (pv_Po hI hE hT t0) rfl rfl hl.1 rfl (lv_room (Nat.le_of_ble_eq_true rfl)) d_Po_change_87 ⟨Nat.le_of_ble_eq_true rfl, Nat.le_of_ble_eq_true rfl⟩) (fun x_25 H locs p_26 hI => ?_)
            refine sm_v hI (va_runV (As := [.int (x_25)]) (rest := []) ⟨hx, hb, hml, hown, hts⟩ (c_Po_sendWhatMay l D ca _ _ _ _ hT h0 t0 x_25) (kv_Po_sendWhatMay hts rfl rfl (hts _ tw_657) ⟨Nat.le_of_ble_eq_true rfl, Nat.le_of_ble_eq_true rfl⟩) (pv_Po hI hE hT t0) rfl rfl hl.1 rfl (lv_room (Nat.le_of_ble_eq_true rfl)) d_Po_change_90 ⟨Nat.le_of_ble_eq_true rfl, Nat.le_of_ble_eq_true rfl⟩) (fun H locs f hI hT => ?_)
            refine W.mono (fun _ h => Or.inl h) (W.widen (k := 1) (n := 6) (by decide) (by decide) ?_)
            exact sm_vret hx hb hr hlk hI ⟨⟨n_4, q_17, rfl, h_18, p_22.2.mp (p_22.1.resolve_left c_23)⟩, rfl, hT⟩ d_Po_change_93
        · exact sm_thr (k := 115) (n := 58) hx hb hts hown hlk hno hfl hE3 hI (hl.1.trans hml.symm) (by decide) (fun _ _ _ h1 h2 => oa_IA h1 h2) tw_425 tw_426 tw_16 tn_601 ⟨cg_k hg h_5 h_18 (fun h9 => absurd (c_23.symm.trans (p_22.2.mpr h9)) (by decide)), rfl, hT⟩ (by decide) (Nat.le_of_ble_eq_true rfl) (Nat.le_of_ble_eq_true rfl) (Nat.le_of_ble_eq_true rfl) (Nat.le_of_ble_eq_true rfl) (Nat.le_of_ble_eq_true rfl) (Nat.le_of_ble_eq_true rfl) d_Po_change_52 d_Po_change_55 (Or.inl ⟨d_Po_change_56, rfl⟩) d_Po_change_58 d_Po_change_61
      · exact sm_thr (k := 109) (n := 30) hx hb hts hown hlk hno hfl hE3 hI (hl.1.trans hml.symm) (by decide) (fun _ _ _ h1 h2 => oa_IA h1 h2) tw_425 tw_426 tw_16 tn_591 ⟨cg_k hg h_5 h_9 (fun h9 => p_13.2.2 c_14 h9.1), rfl, hT⟩ (by decide) (Nat.le_of_ble_eq_true rfl) (Nat.le_of_ble_eq_true rfl) (Nat.le_of_ble_eq_true rfl) (Nat.le_of_ble_eq_true rfl) (Nat.le_of_ble_eq_true rfl) (Nat.le_of_ble_eq_true rfl) d_Po_change_24 d_Po_change_27 (Or.inl ⟨d_Po_change_28, rfl⟩) d_Po_change_30 d_Po_change_33
