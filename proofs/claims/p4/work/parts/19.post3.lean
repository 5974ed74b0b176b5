/-! TelecontrolPost: points and times (written by wip/tools) -/
theorem d_Pt_mayBe_0 : decode b_Pt_mayBe 0 = .ok (.aload_n 0, 1) := by decide +kernel
theorem d_Pt_mayBe_1 : decode b_Pt_mayBe 1 = .ok (.getfield 15, 3) := by decide +kernel
theorem d_Pt_mayBe_4 : decode b_Pt_mayBe 4 = .ok (.iconst 2, 1) := by decide +kernel
theorem d_Pt_mayBe_5 : decode b_Pt_mayBe 5 = .ok (.if_icmp .lt 17, 3) := by decide +kernel
theorem d_Pt_mayBe_8 : decode b_Pt_mayBe 8 = .ok (.aload_n 0, 1) := by decide +kernel
theorem d_Pt_mayBe_9 : decode b_Pt_mayBe 9 = .ok (.getfield 15, 3) := by decide +kernel
theorem d_Pt_mayBe_12 : decode b_Pt_mayBe 12 = .ok (.iconst 5, 1) := by decide +kernel
theorem d_Pt_mayBe_13 : decode b_Pt_mayBe 13 = .ok (.if_icmp .gt 9, 3) := by decide +kernel
theorem d_Pt_mayBe_16 : decode b_Pt_mayBe 16 = .ok (.sipush 241, 3) := by decide +kernel
theorem d_Pt_mayBe_19 : decode b_Pt_mayBe 19 = .ok (.goto 6, 3) := by decide +kernel
theorem d_Pt_mayBe_22 : decode b_Pt_mayBe 22 = .ok (.sipush 240, 3) := by decide +kernel
theorem d_Pt_mayBe_25 : decode b_Pt_mayBe 25 = .ok (.istore_n 3, 1) := by decide +kernel
theorem d_Pt_mayBe_26 : decode b_Pt_mayBe 26 = .ok (.aload_n 0, 1) := by decide +kernel
theorem d_Pt_mayBe_27 : decode b_Pt_mayBe 27 = .ok (.invokevirtual 25, 3) := by decide +kernel
theorem d_Pt_mayBe_30 : decode b_Pt_mayBe 30 = .ok (.ifCond .ne 11, 3) := by decide +kernel
theorem d_Pt_mayBe_33 : decode b_Pt_mayBe 33 = .ok (.iload_n 2, 1) := by decide +kernel
theorem d_Pt_mayBe_34 : decode b_Pt_mayBe 34 = .ok (.iload_n 3, 1) := by decide +kernel
theorem d_Pt_mayBe_35 : decode b_Pt_mayBe 35 = .ok (.iconst (-1), 1) := by decide +kernel
theorem d_Pt_mayBe_36 : decode b_Pt_mayBe 36 = .ok (.ixor, 1) := by decide +kernel
theorem d_Pt_mayBe_37 : decode b_Pt_mayBe 37 = .ok (.iand, 1) := by decide +kernel
theorem d_Pt_mayBe_38 : decode b_Pt_mayBe 38 = .ok (.ifCond .eq 5, 3) := by decide +kernel
theorem d_Pt_mayBe_41 : decode b_Pt_mayBe 41 = .ok (.iconst 0, 1) := by decide +kernel
theorem d_Pt_mayBe_42 : decode b_Pt_mayBe 42 = .ok (.ireturn, 1) := by decide +kernel
theorem d_Pt_mayBe_43 : decode b_Pt_mayBe 43 = .ok (.iload_n 1, 1) := by decide +kernel
theorem d_Pt_mayBe_44 : decode b_Pt_mayBe 44 = .ok (.getstatic 29, 3) := by decide +kernel
theorem d_Pt_mayBe_47 : decode b_Pt_mayBe 47 = .ok (.aload_n 0, 1) := by decide +kernel
theorem d_Pt_mayBe_48 : decode b_Pt_mayBe 48 = .ok (.getfield 15, 3) := by decide +kernel
theorem d_Pt_mayBe_51 : decode b_Pt_mayBe 51 = .ok (.iaload, 1) := by decide +kernel
theorem d_Pt_mayBe_52 : decode b_Pt_mayBe 52 = .ok (.if_icmp .lt 19, 3) := by decide +kernel
theorem d_Pt_mayBe_55 : decode b_Pt_mayBe 55 = .ok (.iload_n 1, 1) := by decide +kernel
theorem d_Pt_mayBe_56 : decode b_Pt_mayBe 56 = .ok (.getstatic 33, 3) := by decide +kernel
theorem d_Pt_mayBe_59 : decode b_Pt_mayBe 59 = .ok (.aload_n 0, 1) := by decide +kernel
theorem d_Pt_mayBe_60 : decode b_Pt_mayBe 60 = .ok (.getfield 15, 3) := by decide +kernel
theorem d_Pt_mayBe_63 : decode b_Pt_mayBe 63 = .ok (.iaload, 1) := by decide +kernel
theorem d_Pt_mayBe_64 : decode b_Pt_mayBe 64 = .ok (.if_icmp .gt 7, 3) := by decide +kernel
theorem d_Pt_mayBe_67 : decode b_Pt_mayBe 67 = .ok (.iconst 1, 1) := by decide +kernel
theorem d_Pt_mayBe_68 : decode b_Pt_mayBe 68 = .ok (.goto 4, 3) := by decide +kernel
theorem d_Pt_mayBe_71 : decode b_Pt_mayBe 71 = .ok (.iconst 0, 1) := by decide +kernel
theorem d_Pt_mayBe_72 : decode b_Pt_mayBe 72 = .ok (.ireturn, 1) := by decide +kernel
set_option maxRecDepth 100000 in
set_option maxHeartbeats 4000000 in
theorem c_Pt_mayBe (l : Launch) (D : va_G) (ca : Nat → ClassId) (T : ty_e) (L : List Nat) (f0 : Nat → va_E) (sz : Nat) (hT : ok_T ca T L f0) {q0 : Int32 × Int32} (h0 : Nat) (t0 : T h0 = some (ty_pt q0)) (x1 : Int32) (x2 : Int32) :
    Met l y_Pt_mayBe (Cond.code y_Pt_mayBe b_Pt_mayBe 4 (some .boolean) :: wg) { frames := 1, cells := 0, slots := 0, locals := 20 } (va_Pc [.ref h0, .int (x1), .int (x2)] (sm_P D cl_all (ty_s ca) ek L f0 sz)) (sm_Qi D (ty_s ca) L f0 sz (fun r u => (r = 0 ∨ r = 1) ∧ u = (L, f0))) 0 0 (va_A (va_pl L f0) sz) := by
  refine sm_start (by decide) (Nat.le_of_ble_eq_true rfl) ?_
  intro p e s m below meth c ls hx hb hml hr hlk hnm hts hown hsz hE hI hl
  have hl : lv_has ls 4 [(0, .ref h0), (1, .int (x1)), (2, .int (x2))] := hl
  have hJ_25 : ∀ (H : Heap) (locs : List Loc) (ls : Array Slot) (z0 : Int32), sw_I D cl_all (ty_s ca) (va_A (va_pl L f0) sz) s H locs L f0 → lv_has ls 4 [(0, .ref h0), (1, .int (x1)), (2, .int (x2))] → W p l e { frames := 1, cells := 0, slots := 0, locals := 20 } s m ([.ref h0, .int (x1), .int (x2)] : List Value).toArray below meth c H locs 0 0 (MQ below (sm_Qi D (ty_s ca) L f0 sz (fun r u => (r = 0 ∨ r = 1) ∧ u = (L, f0))) ([.ref h0, .int (x1), .int (x2)] : List Value).toArray s 0 0 (va_A (va_pl L f0) sz)) (F0 m 25 ls [.int (z0)]) := by
    intro H locs ls z0 hI hl 
    refine lv_istore_n (lv' := [(3, .int (z0)), (0, .ref h0), (1, .int (x1)), (2, .int (x2))]) hx hb d_Pt_mayBe_25 rfl hl (by decide) rfl (fun ls hl => ?_)
    refine lv_aload_n hx hb d_Pt_mayBe_26 rfl (lv_at hl 1 rfl) ?_
    refine sm_iP hI (va_runV (As := []) (rest := []) ⟨hx, hb, hml, hown, hts⟩ (c_Pt_isCommand l D ca _ _ _ _ hT h0 t0) (kv_Pt_isCommand hts rfl rfl (hts _ tw_596) ⟨Nat.le_of_ble_eq_true rfl, Nat.le_of_ble_eq_true rfl⟩) (pv_Pt hI hE hT t0) rfl rfl hl.1 rfl (lv_room (Nat.le_of_ble_eq_true rfl)) d_Pt_mayBe_27 ⟨Nat.le_of_ble_eq_true rfl, Nat.le_of_ble_eq_true rfl⟩) (fun x_1 H locs p_2 hI => ?_)
    refine lv_if_ne (tgt := 41) hx hb d_Pt_mayBe_30 (by decide) (fun c_3 => ?_) (fun c_3 => ?_)
    · refine lv_iconst (v := 0) hx hb d_Pt_mayBe_41 (by decide) ?_
      exact sm_zret hx hb hr hlk hI (by decide) ⟨(by decide), rfl⟩ d_Pt_mayBe_42
    · refine lv_iload_n hx hb d_Pt_mayBe_33 rfl (lv_at hl 3 rfl) ?_
      refine lv_iload_n hx hb d_Pt_mayBe_34 rfl (lv_at hl 0 rfl) ?_
      refine lv_iconst (v := -1) hx hb d_Pt_mayBe_35 (by decide) ?_
      refine lv_ixor hx hb d_Pt_mayBe_36 ?_
      refine lv_topi (fun x_4 e_5 => ?_)
      refine lv_iand hx hb d_Pt_mayBe_37 ?_
      refine lv_topi (fun x_6 e_7 => ?_)
      refine lv_if_eq (tgt := 43) hx hb d_Pt_mayBe_38 (by decide) (fun c_8 => ?_) (fun c_8 => ?_)
      · refine lv_iload_n hx hb d_Pt_mayBe_43 rfl (lv_at hl 2 rfl) ?_
        obtain ⟨b_9, hz_10, ht_11⟩ := hE.2.2.2.1 2 (by decide)
        refine va_getsN hx hb hz_10 hI.2.2.1 hown (va_Nw.use rfl (hE.1 _ tn_597 rfl)) (fun _ h9 => h9) d_Pt_mayBe_44 ?_
        refine lv_aload_n hx hb d_Pt_mayBe_47 rfl (lv_at hl 1 rfl) ?_
        refine fg_Pt_kind hx hb hts hown hI hT t0 (hts _ tw_520) (fun _ h9 => h9) d_Pt_mayBe_48 (fun h_12 => ?_)
        refine lv_topi (fun x_13 e_14 => ?_)
        obtain ⟨j_15, h_16, rfl⟩ : ∃ j : Nat, j < 7 ∧ x_13 = nI j := ix_le (by rw [e_14]; exact h_12.1) (by rw [e_14]; have := p_2.2 c_3; omega) (by decide)
        refine fa_tb (i := 2) (j := j_15) hx hb hI ht_11 (by show j_15 < 7; omega) (by decide) d_Pt_mayBe_51 ?_
        refine lv_topi (fun x_19 e_20 => ?_)
        refine lv_icmp_lt (tgt := 71) hx hb d_Pt_mayBe_52 (by decide) (fun c_21 => ?_) (fun c_21 => ?_)
        · refine lv_iconst (v := 0) hx hb d_Pt_mayBe_71 (by decide) ?_
          exact sm_zret hx hb hr hlk hI (by decide) ⟨(by decide), rfl⟩ d_Pt_mayBe_72
        · refine lv_iload_n hx hb d_Pt_mayBe_55 rfl (lv_at hl 2 rfl) ?_
          obtain ⟨b_22, hz_23, ht_24⟩ := hE.2.2.2.1 3 (by decide)
          refine va_getsN hx hb hz_23 hI.2.2.1 hown (va_Nw.use rfl (hE.1 _ tn_599 rfl)) (fun _ h9 => h9) d_Pt_mayBe_56 ?_
          refine lv_aload_n hx hb d_Pt_mayBe_59 rfl (lv_at hl 1 rfl) ?_
          refine fg_Pt_kind hx hb hts hown hI hT t0 (hts _ tw_520) (fun _ h9 => h9) d_Pt_mayBe_60 (fun h_25 => ?_)
          refine lv_topi (fun x_26 e_27 => ?_)
          obtain ⟨j_28, h_29, rfl⟩ : ∃ j : Nat, j < 7 ∧ x_26 = nI j := ix_le (by rw [e_27]; exact h_25.1) (by rw [e_27]; have := p_2.2 c_3; omega) (by decide)
          refine fa_tb (i := 3) (j := j_28) hx hb hI ht_24 (by show j_28 < 7; omega) (by decide) d_Pt_mayBe_63 ?_
          refine lv_topi (fun x_32 e_33 => ?_)
          refine lv_icmp_gt (tgt := 71) hx hb d_Pt_mayBe_64 (by decide) (fun c_34 => ?_) (fun c_34 => ?_)
          · refine lv_iconst (v := 0) hx hb d_Pt_mayBe_71 (by decide) ?_
            exact sm_zret hx hb hr hlk hI (by decide) ⟨(by decide), rfl⟩ d_Pt_mayBe_72
          · refine lv_iconst (v := 1) hx hb d_Pt_mayBe_67 (by decide) ?_
            refine lv_goto (tgt := 72) hx hb d_Pt_mayBe_68 (by decide) ?_
            exact sm_zret hx hb hr hlk hI (by decide) ⟨(by decide), rfl⟩ d_Pt_mayBe_72
      · refine lv_iconst (v := 0) hx hb d_Pt_mayBe_41 (by decide) ?_
        exact sm_zret hx hb hr hlk hI (by decide) ⟨(by decide), rfl⟩ d_Pt_mayBe_42
  refine lv_aload_n hx hb d_Pt_mayBe_0 rfl (lv_at hl 0 rfl) ?_
  refine fg_Pt_kind hx hb hts hown hI hT t0 (hts _ tw_520) (fun _ h9 => h9) d_Pt_mayBe_1 (fun h_35 => ?_)
  refine lv_iconst (v := 2) hx hb d_Pt_mayBe_4 (by decide) ?_
  refine lv_icmp_lt (tgt := 22) hx hb d_Pt_mayBe_5 (by decide) (fun c_36 => ?_) (fun c_36 => ?_)
  · refine lv_sipush (v := 240) hx hb d_Pt_mayBe_22 (by decide) ?_
    exact hJ_25 _ _ _ 240 hI (lv_sub hl [0, 1, 2] rfl) 
  · refine lv_aload_n hx hb d_Pt_mayBe_8 rfl (lv_at hl 0 rfl) ?_
    refine fg_Pt_kind hx hb hts hown hI hT t0 (hts _ tw_520) (fun _ h9 => h9) d_Pt_mayBe_9 (fun h_37 => ?_)
    refine lv_iconst (v := 5) hx hb d_Pt_mayBe_12 (by decide) ?_
    refine lv_icmp_gt (tgt := 22) hx hb d_Pt_mayBe_13 (by decide) (fun c_38 => ?_) (fun c_38 => ?_)
    · refine lv_sipush (v := 240) hx hb d_Pt_mayBe_22 (by decide) ?_
      exact hJ_25 _ _ _ 240 hI (lv_sub hl [0, 1, 2] rfl) 
    · refine lv_sipush (v := 241) hx hb d_Pt_mayBe_16 (by decide) ?_
      refine lv_goto (tgt := 25) hx hb d_Pt_mayBe_19 (by decide) ?_
      exact hJ_25 _ _ _ 241 hI (lv_sub hl [0, 1, 2] rfl) 
theorem d_Po_daysOfMonth_0 : decode b_Po_daysOfMonth 0 = .ok (.iload_n 0, 1) := by decide +kernel
theorem d_Po_daysOfMonth_1 : decode b_Po_daysOfMonth 1 = .ok (.ifCond .lt 11, 3) := by decide +kernel
theorem d_Po_daysOfMonth_4 : decode b_Po_daysOfMonth 4 = .ok (.iload_n 0, 1) := by decide +kernel
theorem d_Po_daysOfMonth_5 : decode b_Po_daysOfMonth 5 = .ok (.getstatic 687, 3) := by decide +kernel
theorem d_Po_daysOfMonth_8 : decode b_Po_daysOfMonth 8 = .ok (.arraylength, 1) := by decide +kernel
theorem d_Po_daysOfMonth_9 : decode b_Po_daysOfMonth 9 = .ok (.if_icmp .lt 6, 3) := by decide +kernel
theorem d_Po_daysOfMonth_12 : decode b_Po_daysOfMonth 12 = .ok (.bipush 31, 2) := by decide +kernel
theorem d_Po_daysOfMonth_14 : decode b_Po_daysOfMonth 14 = .ok (.ireturn, 1) := by decide +kernel
theorem d_Po_daysOfMonth_15 : decode b_Po_daysOfMonth 15 = .ok (.iload_n 0, 1) := by decide +kernel
theorem d_Po_daysOfMonth_16 : decode b_Po_daysOfMonth 16 = .ok (.iconst 1, 1) := by decide +kernel
theorem d_Po_daysOfMonth_17 : decode b_Po_daysOfMonth 17 = .ok (.if_icmp .ne 15, 3) := by decide +kernel
theorem d_Po_daysOfMonth_20 : decode b_Po_daysOfMonth 20 = .ok (.iload_n 1, 1) := by decide +kernel
theorem d_Po_daysOfMonth_21 : decode b_Po_daysOfMonth 21 = .ok (.invokestatic 684, 3) := by decide +kernel
theorem d_Po_daysOfMonth_24 : decode b_Po_daysOfMonth 24 = .ok (.ifCond .eq 8, 3) := by decide +kernel
theorem d_Po_daysOfMonth_27 : decode b_Po_daysOfMonth 27 = .ok (.bipush 29, 2) := by decide +kernel
theorem d_Po_daysOfMonth_29 : decode b_Po_daysOfMonth 29 = .ok (.goto 8, 3) := by decide +kernel
theorem d_Po_daysOfMonth_32 : decode b_Po_daysOfMonth 32 = .ok (.getstatic 687, 3) := by decide +kernel
theorem d_Po_daysOfMonth_35 : decode b_Po_daysOfMonth 35 = .ok (.iload_n 0, 1) := by decide +kernel
theorem d_Po_daysOfMonth_36 : decode b_Po_daysOfMonth 36 = .ok (.iaload, 1) := by decide +kernel
theorem d_Po_daysOfMonth_37 : decode b_Po_daysOfMonth 37 = .ok (.ireturn, 1) := by decide +kernel
set_option maxRecDepth 100000 in
set_option maxHeartbeats 4000000 in
theorem c_Po_daysOfMonth (l : Launch) (D : va_G) (ca : Nat → ClassId) (T : ty_e) (L : List Nat) (f0 : Nat → va_E) (sz : Nat) (hT : ok_T ca T L f0) (x1 : Int32) (x2 : Int32) :
    Met l y_Po_daysOfMonth (Cond.code y_Po_daysOfMonth b_Po_daysOfMonth 2 (some .int) :: wg) { frames := 1, cells := 0, slots := 0, locals := 20 } (va_Pc [.int (x1), .int (x2)] (sm_P D cl_all (ty_s ca) ek L f0 sz)) (sm_Qi D (ty_s ca) L f0 sz (fun r u => (True) ∧ u = (L, f0))) 0 0 (va_A (va_pl L f0) sz) := by
  refine sm_start (by decide) (Nat.le_of_ble_eq_true rfl) ?_
  intro p e s m below meth c ls hx hb hml hr hlk hnm hts hown hsz hE hI hl
  have hl : lv_has ls 2 [(0, .int (x1)), (1, .int (x2))] := hl
  refine lv_iload_n hx hb d_Po_daysOfMonth_0 rfl (lv_at hl 0 rfl) ?_
  refine lv_if_lt (tgt := 12) hx hb d_Po_daysOfMonth_1 (by decide) (fun c_1 => ?_) (fun c_1 => ?_)
  · refine lv_bipush (v := 31) hx hb d_Po_daysOfMonth_12 (by decide) ?_
    exact sm_iret hx hb hr hlk hI ⟨trivial, rfl⟩ d_Po_daysOfMonth_14
  · refine lv_iload_n hx hb d_Po_daysOfMonth_4 rfl (lv_at hl 0 rfl) ?_
    obtain ⟨b_2, hz_3, ht_4⟩ := hE.2.2.2.1 5 (by decide)
    refine va_gets hx hb hz_3 hI.2.2.1 hown (hts _ tw_647) (fun _ h9 => h9) d_Po_daysOfMonth_5 ?_
    refine va_tlen (v := nI 12) hx hb ht_4 hI.2.2.1 rfl d_Po_daysOfMonth_8 ?_
    refine lv_icmp_lt (tgt := 15) hx hb d_Po_daysOfMonth_9 (by decide) (fun c_5 => ?_) (fun c_5 => ?_)
    · refine lv_iload_n hx hb d_Po_daysOfMonth_15 rfl (lv_at hl 0 rfl) ?_
      refine lv_iconst (v := 1) hx hb d_Po_daysOfMonth_16 (by decide) ?_
      refine lv_icmp_ne (tgt := 32) hx hb d_Po_daysOfMonth_17 (by decide) (fun c_6 => ?_) (fun c_6 => ?_)
      · obtain ⟨b_7, hz_8, ht_9⟩ := hE.2.2.2.1 5 (by decide)
        refine va_gets hx hb hz_8 hI.2.2.1 hown (hts _ tw_647) (fun _ h9 => h9) d_Po_daysOfMonth_32 ?_
        refine lv_iload_n hx hb d_Po_daysOfMonth_35 rfl (lv_at hl 0 rfl) ?_
        refine lv_topi (fun x_10 e_11 => ?_)
        obtain ⟨j_12, h_13, rfl⟩ : ∃ j : Nat, j < 12 ∧ x_10 = nI j := ix_of (by rw [e_11]; exact c_1) (by rw [e_11]; exact nl_of c_5) (by decide)
        refine fa_tb (i := 5) (j := j_12) hx hb hI ht_9 (by show j_12 < 12; omega) (by decide) d_Po_daysOfMonth_36 ?_
        refine lv_topi (fun x_16 e_17 => ?_)
        exact sm_iret hx hb hr hlk hI ⟨trivial, rfl⟩ d_Po_daysOfMonth_37
      · refine lv_iload_n hx hb d_Po_daysOfMonth_20 rfl (lv_at hl 1 rfl) ?_
        refine sm_iP hI (va_runS (As := [.int (x2)]) (rest := []) ⟨hx, hb, hml, hown, hts⟩ (c_Po_isLeap l D ca _ _ _ _ hT x2) (ks_Po_isLeap hts rfl rfl (hts _ tw_641) ⟨Nat.le_of_ble_eq_true rfl, Nat.le_of_ble_eq_true rfl⟩) (sm_preS hI hE) rfl rfl hl.1 rfl (lv_room (Nat.le_of_ble_eq_true rfl)) d_Po_daysOfMonth_21 ⟨Nat.le_of_ble_eq_true rfl, Nat.le_of_ble_eq_true rfl⟩) (fun x_18 H locs p_19 hI => ?_)
        refine lv_if_eq (tgt := 32) hx hb d_Po_daysOfMonth_24 (by decide) (fun c_20 => ?_) (fun c_20 => ?_)
        · obtain ⟨b_21, hz_22, ht_23⟩ := hE.2.2.2.1 5 (by decide)
          refine va_gets hx hb hz_22 hI.2.2.1 hown (hts _ tw_647) (fun _ h9 => h9) d_Po_daysOfMonth_32 ?_
          refine lv_iload_n hx hb d_Po_daysOfMonth_35 rfl (lv_at hl 0 rfl) ?_
          refine lv_topi (fun x_24 e_25 => ?_)
          obtain ⟨j_26, h_27, rfl⟩ : ∃ j : Nat, j < 12 ∧ x_24 = nI j := ix_of (by rw [e_25]; exact c_1) (by rw [e_25]; exact nl_of c_5) (by decide)
          refine fa_tb (i := 5) (j := j_26) hx hb hI ht_23 (by show j_26 < 12; omega) (by decide) d_Po_daysOfMonth_36 ?_
          refine lv_topi (fun x_30 e_31 => ?_)
          exact sm_iret hx hb hr hlk hI ⟨trivial, rfl⟩ d_Po_daysOfMonth_37
        · refine lv_bipush (v := 29) hx hb d_Po_daysOfMonth_27 (by decide) ?_
          refine lv_goto (tgt := 37) hx hb d_Po_daysOfMonth_29 (by decide) ?_
          exact sm_iret hx hb hr hlk hI ⟨trivial, rfl⟩ d_Po_daysOfMonth_37
    · refine lv_bipush (v := 31) hx hb d_Po_daysOfMonth_12 (by decide) ?_
      exact sm_iret hx hb hr hlk hI ⟨trivial, rfl⟩ d_Po_daysOfMonth_14
theorem d_Po_nextToTell_0 : decode b_Po_nextToTell 0 = .ok (.aconst_null, 1) := by decide +kernel
theorem d_Po_nextToTell_1 : decode b_Po_nextToTell 1 = .ok (.astore_n 2, 1) := by decide +kernel
theorem d_Po_nextToTell_2 : decode b_Po_nextToTell 2 = .ok (.iconst 0, 1) := by decide +kernel
theorem d_Po_nextToTell_3 : decode b_Po_nextToTell 3 = .ok (.istore_n 3, 1) := by decide +kernel
theorem d_Po_nextToTell_4 : decode b_Po_nextToTell 4 = .ok (.iload_n 3, 1) := by decide +kernel
theorem d_Po_nextToTell_5 : decode b_Po_nextToTell 5 = .ok (.aload_n 0, 1) := by decide +kernel
theorem d_Po_nextToTell_6 : decode b_Po_nextToTell 6 = .ok (.getfield 77, 3) := by decide +kernel
theorem d_Po_nextToTell_9 : decode b_Po_nextToTell 9 = .ok (.if_icmp .ge 57, 3) := by decide +kernel
theorem d_Po_nextToTell_12 : decode b_Po_nextToTell 12 = .ok (.aload_n 0, 1) := by decide +kernel
theorem d_Po_nextToTell_13 : decode b_Po_nextToTell 13 = .ok (.getfield 11, 3) := by decide +kernel
theorem d_Po_nextToTell_16 : decode b_Po_nextToTell 16 = .ok (.iload_n 3, 1) := by decide +kernel
theorem d_Po_nextToTell_17 : decode b_Po_nextToTell 17 = .ok (.aaload, 1) := by decide +kernel
theorem d_Po_nextToTell_18 : decode b_Po_nextToTell 18 = .ok (.astore 4, 2) := by decide +kernel
theorem d_Po_nextToTell_20 : decode b_Po_nextToTell 20 = .ok (.aload 4, 2) := by decide +kernel
theorem d_Po_nextToTell_22 : decode b_Po_nextToTell 22 = .ok (.getfield 289, 3) := by decide +kernel
theorem d_Po_nextToTell_25 : decode b_Po_nextToTell 25 = .ok (.aload_n 1, 1) := by decide +kernel
theorem d_Po_nextToTell_26 : decode b_Po_nextToTell 26 = .ok (.getfield 510, 3) := by decide +kernel
theorem d_Po_nextToTell_29 : decode b_Po_nextToTell 29 = .ok (.if_icmp .le 31, 3) := by decide +kernel
theorem d_Po_nextToTell_32 : decode b_Po_nextToTell 32 = .ok (.aload_n 1, 1) := by decide +kernel
theorem d_Po_nextToTell_33 : decode b_Po_nextToTell 33 = .ok (.aload 4, 2) := by decide +kernel
theorem d_Po_nextToTell_35 : decode b_Po_nextToTell 35 = .ok (.invokevirtual 513, 3) := by decide +kernel
theorem d_Po_nextToTell_38 : decode b_Po_nextToTell 38 = .ok (.ifCond .eq 22, 3) := by decide +kernel
theorem d_Po_nextToTell_41 : decode b_Po_nextToTell 41 = .ok (.aload_n 2, 1) := by decide +kernel
theorem d_Po_nextToTell_42 : decode b_Po_nextToTell 42 = .ok (.ifnull 15, 3) := by decide +kernel
theorem d_Po_nextToTell_45 : decode b_Po_nextToTell 45 = .ok (.aload 4, 2) := by decide +kernel
theorem d_Po_nextToTell_47 : decode b_Po_nextToTell 47 = .ok (.getfield 289, 3) := by decide +kernel
theorem d_Po_nextToTell_50 : decode b_Po_nextToTell 50 = .ok (.aload_n 2, 1) := by decide +kernel
theorem d_Po_nextToTell_51 : decode b_Po_nextToTell 51 = .ok (.getfield 289, 3) := by decide +kernel
theorem d_Po_nextToTell_54 : decode b_Po_nextToTell 54 = .ok (.if_icmp .ge 6, 3) := by decide +kernel
theorem d_Po_nextToTell_57 : decode b_Po_nextToTell 57 = .ok (.aload 4, 2) := by decide +kernel
theorem d_Po_nextToTell_59 : decode b_Po_nextToTell 59 = .ok (.astore_n 2, 1) := by decide +kernel
theorem d_Po_nextToTell_60 : decode b_Po_nextToTell 60 = .ok (.iinc 3 1, 3) := by decide +kernel
theorem d_Po_nextToTell_63 : decode b_Po_nextToTell 63 = .ok (.goto (-59), 3) := by decide +kernel
theorem d_Po_nextToTell_66 : decode b_Po_nextToTell 66 = .ok (.aload_n 2, 1) := by decide +kernel
theorem d_Po_nextToTell_67 : decode b_Po_nextToTell 67 = .ok (.areturn, 1) := by decide +kernel
set_option maxRecDepth 100000 in
set_option maxHeartbeats 4000000 in
theorem c_Po_nextToTell (l : Launch) (D : va_G) (ca : Nat → ClassId) (T : ty_e) (L : List Nat) (f0 : Nat → va_E) (sz : Nat) (hT : ok_T ca T L f0) {g0 : List (Int32 × Int32)} (h0 : Nat) (t0 : T h0 = some (ty_po g0)) (x1 : Nat) (t1 : T x1 = some (ty_an)) :
    Met l y_Po_nextToTell (Cond.code y_Po_nextToTell b_Po_nextToTell 5 (some (.object "TelecontrolPost$Point")) :: wg) { frames := 1, cells := 0, slots := 0, locals := 22 } (va_Pc [.ref h0, .ref x1] (sm_P D cl_all (ty_s ca) ek L f0 sz)) (sm_Qq D (ty_s ca) L f0 sz (fun r u => (∀ b : Nat, r = some b → ∃ q : Int32 × Int32, T b = some (ty_pt q) ∧ q.2.toInt ≤ 6) ∧ u = (L, f0))) 0 0 (va_A (va_pl L f0) sz) := by
  refine sm_start (by decide) (Nat.le_of_ble_eq_true rfl) ?_
  intro p e s m below meth c ls hx hb hml hr hlk hnm hts hown hsz hE hI hl
  have hl : lv_has ls 5 [(0, .ref h0), (1, .ref x1)] := hl
  have hJ_4 : ∀ (N k : Nat) (H : Heap) (locs : List Loc) (ls : Array Slot) (y2 : Option Nat), 32 + 1 - k ≤ N → k ≤ 32 → sw_I D cl_all (ty_s ca) (va_A (va_pl L f0) sz) s H locs L f0 → lv_has ls 5 [(0, .ref h0), (1, .ref x1), (2, va_rf y2), (3, .int (nI k))] → (∀ b : Nat, y2 = some b → ∃ q : Int32 × Int32, T b = some (ty_pt q) ∧ q.2.toInt ≤ 6) → W p l e { frames := 1, cells := 0, slots := 0, locals := 22 } s m ([.ref h0, .ref x1] : List Value).toArray below meth c H locs 0 0 (MQ below (sm_Qq D (ty_s ca) L f0 sz (fun r u => (∀ b : Nat, r = some b → ∃ q : Int32 × Int32, T b = some (ty_pt q) ∧ q.2.toInt ≤ 6) ∧ u = (L, f0))) ([.ref h0, .ref x1] : List Value).toArray s 0 0 (va_A (va_pl L f0) sz)) (F0 m 4 ls []) := by
    intro N
    induction N with
    | zero => intros; omega
    | succ N ih =>
      intro k H locs ls y2 hN hk hI hl fy2
      rcases y2 with _ | r_1
      · refine lv_iload_n hx hb d_Po_nextToTell_4 rfl (lv_at hl 3 rfl) ?_
        refine lv_aload_n hx hb d_Po_nextToTell_5 rfl (lv_at hl 0 rfl) ?_
        refine fg_Po_pointCount hx hb hts hown hI hT t0 (hts _ tw_364) (fun _ h9 => h9) d_Po_nextToTell_6 (fun h_2 => ?_)
        refine lv_icmp_ge (tgt := 66) hx hb d_Po_nextToTell_9 (by decide) (fun c_3 => ?_) (fun c_3 => ?_)
        · have k_4 : g0.length ≤ k := (nI_leI (a := g0.length) (b := k) (by omega) (by omega)).mp c_3
          refine lv_aload_nN hx hb d_Po_nextToTell_66 rfl (lv_at hl 2 rfl) ?_
          exact sm_qret (v := none) hx hb hr (Or.inl ⟨_, rfl⟩) hlk hI ⟨(fun b h => by cases h), rfl⟩ d_Po_nextToTell_67
        · have k_5 : k < g0.length := Nat.lt_of_not_le (fun q => c_3 ((nI_leI (a := g0.length) (b := k) (by omega) (by omega)).mpr q))
          refine lv_aload_n hx hb d_Po_nextToTell_12 rfl (lv_at hl 0 rfl) ?_
          refine fg_Po_points hx hb hts hown hI hT t0 (hts _ tw_363) (fun _ h9 => h9) d_Po_nextToTell_13 (fun r_6 t_7 => ?_)
          refine lv_iload_n hx hb d_Po_nextToTell_16 rfl (lv_at hl 3 rfl) ?_
          obtain ⟨q_8, h_9⟩ : ∃ z, g0[k]? = some z := ⟨_, List.getElem?_eq_getElem (by omega)⟩
          refine fa_pts (j := k) hx hb hI hT t_7 h_9 (by omega) d_Po_nextToTell_17 (fun r_10 t_11 => ?_)
          refine lv_astore (lv' := [(4, .ref r_10), (0, .ref h0), (1, .ref x1), (2, .null), (3, .int (nI k))]) hx hb d_Po_nextToTell_18 hl (by decide) rfl (fun ls hl => ?_)
          refine lv_aload hx hb d_Po_nextToTell_20 (lv_at hl 0 rfl) ?_
          refine fgN_Pt_address hx hb hts hown hI hT t_11 (va_Nw.use rfl (hE.1 _ tn_519 rfl)) (fun _ h9 => h9) d_Po_nextToTell_22 (fun h_12 => ?_)
          refine lv_aload_n hx hb d_Po_nextToTell_25 rfl (lv_at hl 2 rfl) ?_
          refine fgN_An_lastTold hx hb hts hown hI hT t1 (va_Nw.use rfl (hE.1 _ tn_84 rfl)) (fun _ h9 => h9) d_Po_nextToTell_26 (fun x_13 => ?_)
          refine lv_icmp_le (tgt := 60) hx hb d_Po_nextToTell_29 (by decide) (fun c_14 => ?_) (fun c_14 => ?_)
          · refine lv_iinc (v := nI (k + 1)) (lv' := [(3, .int (nI (k + 1))), (4, .ref r_10), (0, .ref h0), (1, .ref x1), (2, .null)]) hx hb d_Po_nextToTell_60 hl (k := 4) rfl (nI_1 _) (by decide) rfl (fun ls hl => ?_)
            refine lv_goto (tgt := 4) hx hb d_Po_nextToTell_63 (by decide) ?_
            exact ih ((k + 1)) _ _ _ none (by omega) (by omega) hI (lv_sub hl [2, 3, 4, 0] rfl) (fun b h => by cases h)
          · refine lv_aload_n hx hb d_Po_nextToTell_32 rfl (lv_at hl 2 rfl) ?_
            refine lv_aload hx hb d_Po_nextToTell_33 (lv_at hl 0 rfl) ?_
            refine sm_iP hI (va_runV (As := [.ref r_10]) (rest := []) ⟨hx, hb, hml, hown, hts⟩ (c_An_asksFor l D ca _ _ _ _ hT x1 t1 r_10 t_11) (kv_An_asksFor hts rfl rfl (hts _ tw_685) ⟨Nat.le_of_ble_eq_true rfl, Nat.le_of_ble_eq_true rfl⟩) (pv_An hI hE hT t1) rfl rfl hl.1 rfl (lv_room (Nat.le_of_ble_eq_true rfl)) d_Po_nextToTell_35 ⟨Nat.le_of_ble_eq_true rfl, Nat.le_of_ble_eq_true rfl⟩) (fun x_15 H locs p_16 hI => ?_)
            refine lv_if_eq (tgt := 60) hx hb d_Po_nextToTell_38 (by decide) (fun c_17 => ?_) (fun c_17 => ?_)
            · refine lv_iinc (v := nI (k + 1)) (lv' := [(3, .int (nI (k + 1))), (4, .ref r_10), (0, .ref h0), (1, .ref x1), (2, .null)]) hx hb d_Po_nextToTell_60 hl (k := 4) rfl (nI_1 _) (by decide) rfl (fun ls hl => ?_)
              refine lv_goto (tgt := 4) hx hb d_Po_nextToTell_63 (by decide) ?_
              exact ih ((k + 1)) _ _ _ none (by omega) (by omega) hI (lv_sub hl [2, 3, 4, 0] rfl) (fun b h => by cases h)
            · have h_18 := p_16.2 (p_16.1.resolve_left c_17)
              refine lv_aload_nN hx hb d_Po_nextToTell_41 rfl (lv_at hl 3 rfl) ?_
              refine lv_ifnullN (tgt := 57) hx hb d_Po_nextToTell_42 (by decide) ?_
              refine lv_aload hx hb d_Po_nextToTell_57 (lv_at hl 0 rfl) ?_
              refine lv_astore_n (lv' := [(2, .ref r_10), (4, .ref r_10), (0, .ref h0), (1, .ref x1), (3, .int (nI k))]) hx hb d_Po_nextToTell_59 rfl hl (by decide) rfl (fun ls hl => ?_)
              refine lv_iinc (v := nI (k + 1)) (lv' := [(3, .int (nI (k + 1))), (2, .ref r_10), (4, .ref r_10), (0, .ref h0), (1, .ref x1)]) hx hb d_Po_nextToTell_60 hl (k := 4) rfl (nI_1 _) (by decide) rfl (fun ls hl => ?_)
              refine lv_goto (tgt := 4) hx hb d_Po_nextToTell_63 (by decide) ?_
              exact ih ((k + 1)) _ _ _ (some r_10) (by omega) (by omega) hI (lv_sub hl [3, 4, 1, 0] rfl) (fun b h => by cases h; exact ⟨_, t_11, h_18⟩)
      · obtain ⟨q_20, t_19, h_21⟩ := fy2 r_1 rfl
        refine lv_iload_n hx hb d_Po_nextToTell_4 rfl (lv_at hl 3 rfl) ?_
        refine lv_aload_n hx hb d_Po_nextToTell_5 rfl (lv_at hl 0 rfl) ?_
        refine fg_Po_pointCount hx hb hts hown hI hT t0 (hts _ tw_364) (fun _ h9 => h9) d_Po_nextToTell_6 (fun h_22 => ?_)
        refine lv_icmp_ge (tgt := 66) hx hb d_Po_nextToTell_9 (by decide) (fun c_23 => ?_) (fun c_23 => ?_)
        · have k_24 : g0.length ≤ k := (nI_leI (a := g0.length) (b := k) (by omega) (by omega)).mp c_23
          refine lv_aload_n hx hb d_Po_nextToTell_66 rfl (lv_at hl 2 rfl) ?_
          exact sm_qret (v := some r_1) hx hb hr (Or.inl ⟨_, rfl⟩) hlk hI ⟨(fun b h => by cases h; exact ⟨_, t_19, h_21⟩), rfl⟩ d_Po_nextToTell_67
        · have k_25 : k < g0.length := Nat.lt_of_not_le (fun q => c_23 ((nI_leI (a := g0.length) (b := k) (by omega) (by omega)).mpr q))
          refine lv_aload_n hx hb d_Po_nextToTell_12 rfl (lv_at hl 0 rfl) ?_
          refine fg_Po_points hx hb hts hown hI hT t0 (hts _ tw_363) (fun _ h9 => h9) d_Po_nextToTell_13 (fun r_26 t_27 => ?_)
          refine lv_iload_n hx hb d_Po_nextToTell_16 rfl (lv_at hl 3 rfl) ?_
          obtain ⟨q_28, h_29⟩ : ∃ z, g0[k]? = some z := ⟨_, List.getElem?_eq_getElem (by omega)⟩
          refine fa_pts (j := k) hx hb hI hT t_27 h_29 (by omega) d_Po_nextToTell_17 (fun r_30 t_31 => ?_)
          refine lv_astore (lv' := [(4, .ref r_30), (0, .ref h0), (1, .ref x1), (2, .ref r_1), (3, .int (nI k))]) hx hb d_Po_nextToTell_18 hl (by decide) rfl (fun ls hl => ?_)
          refine lv_aload hx hb d_Po_nextToTell_20 (lv_at hl 0 rfl) ?_
          refine fgN_Pt_address hx hb hts hown hI hT t_31 (va_Nw.use rfl (hE.1 _ tn_519 rfl)) (fun _ h9 => h9) d_Po_nextToTell_22 (fun h_32 => ?_)
          refine lv_aload_n hx hb d_Po_nextToTell_25 rfl (lv_at hl 2 rfl) ?_
          refine fgN_An_lastTold hx hb hts hown hI hT t1 (va_Nw.use rfl (hE.1 _ tn_84 rfl)) (fun _ h9 => h9) d_Po_nextToTell_26 (fun x_33 => ?_)
          refine lv_icmp_le (tgt := 60) hx hb d_Po_nextToTell_29 (by decide) (fun c_34 => ?_) (fun c_34 => ?_)
          · refine lv_iinc (v := nI (k + 1)) (lv' := [(3, .int (nI (k + 1))), (4, .ref r_30), (0, .ref h0), (1, .ref x1), (2, .ref r_1)]) hx hb d_Po_nextToTell_60 hl (k := 4) rfl (nI_1 _) (by decide) rfl (fun ls hl => ?_)
            refine lv_goto (tgt := 4) hx hb d_Po_nextToTell_63 (by decide) ?_
            exact ih ((k + 1)) _ _ _ (some r_1) (by omega) (by omega) hI (lv_sub hl [2, 3, 4, 0] rfl) (fun b h => by cases h; exact ⟨_, t_19, h_21⟩)
          · refine lv_aload_n hx hb d_Po_nextToTell_32 rfl (lv_at hl 2 rfl) ?_
            refine lv_aload hx hb d_Po_nextToTell_33 (lv_at hl 0 rfl) ?_
            refine sm_iP hI (va_runV (As := [.ref r_30]) (rest := []) ⟨hx, hb, hml, hown, hts⟩ (c_An_asksFor l D ca _ _ _ _ hT x1 t1 r_30 t_31) (kv_An_asksFor hts rfl rfl (hts _ tw_685) ⟨Nat.le_of_ble_eq_true rfl, Nat.le_of_ble_eq_true rfl⟩) (pv_An hI hE hT t1) rfl rfl hl.1 rfl (lv_room (Nat.le_of_ble_eq_true rfl)) d_Po_nextToTell_35 ⟨Nat.le_of_ble_eq_true rfl, Nat.le_of_ble_eq_true rfl⟩) (fun x_35 H locs p_36 hI => ?_)
            refine lv_if_eq (tgt := 60) hx hb d_Po_nextToTell_38 (by decide) (fun c_37 => ?_) (fun c_37 => ?_)
            · refine lv_iinc (v := nI (k + 1)) (lv' := [(3, .int (nI (k + 1))), (4, .ref r_30), (0, .ref h0), (1, .ref x1), (2, .ref r_1)]) hx hb d_Po_nextToTell_60 hl (k := 4) rfl (nI_1 _) (by decide) rfl (fun ls hl => ?_)
              refine lv_goto (tgt := 4) hx hb d_Po_nextToTell_63 (by decide) ?_
              exact ih ((k + 1)) _ _ _ (some r_1) (by omega) (by omega) hI (lv_sub hl [2, 3, 4, 0] rfl) (fun b h => by cases h; exact ⟨_, t_19, h_21⟩)
            · have h_38 := p_36.2 (p_36.1.resolve_left c_37)
              refine lv_aload_n hx hb d_Po_nextToTell_41 rfl (lv_at hl 3 rfl) ?_
              refine lv_ifnull hx hb d_Po_nextToTell_42 ?_
              refine lv_aload hx hb d_Po_nextToTell_45 (lv_at hl 0 rfl) ?_
              refine fgN_Pt_address hx hb hts hown hI hT t_31 (va_Nw.use rfl (hE.1 _ tn_519 rfl)) (fun _ h9 => h9) d_Po_nextToTell_47 (fun h_39 => ?_)
              refine lv_aload_n hx hb d_Po_nextToTell_50 rfl (lv_at hl 3 rfl) ?_
              refine fgN_Pt_address hx hb hts hown hI hT t_19 (va_Nw.use rfl (hE.1 _ tn_519 rfl)) (fun _ h9 => h9) d_Po_nextToTell_51 (fun h_40 => ?_)
              refine lv_icmp_ge (tgt := 60) hx hb d_Po_nextToTell_54 (by decide) (fun c_41 => ?_) (fun c_41 => ?_)
              · refine lv_iinc (v := nI (k + 1)) (lv' := [(3, .int (nI (k + 1))), (4, .ref r_30), (0, .ref h0), (1, .ref x1), (2, .ref r_1)]) hx hb d_Po_nextToTell_60 hl (k := 4) rfl (nI_1 _) (by decide) rfl (fun ls hl => ?_)
                refine lv_goto (tgt := 4) hx hb d_Po_nextToTell_63 (by decide) ?_
                exact ih ((k + 1)) _ _ _ (some r_1) (by omega) (by omega) hI (lv_sub hl [2, 3, 4, 0] rfl) (fun b h => by cases h; exact ⟨_, t_19, h_21⟩)
              · refine lv_aload hx hb d_Po_nextToTell_57 (lv_at hl 0 rfl) ?_
                refine lv_astore_n (lv' := [(2, .ref r_30), (4, .ref r_30), (0, .ref h0), (1, .ref x1), (3, .int (nI k))]) hx hb d_Po_nextToTell_59 rfl hl (by decide) rfl (fun ls hl => ?_)
                refine lv_iinc (v := nI (k + 1)) (lv' := [(3, .int (nI (k + 1))), (2, .ref r_30), (4, .ref r_30), (0, .ref h0), (1, .ref x1)]) hx hb d_Po_nextToTell_60 hl (k := 4) rfl (nI_1 _) (by decide) rfl (fun ls hl => ?_)
                refine lv_goto (tgt := 4) hx hb d_Po_nextToTell_63 (by decide) ?_
                exact ih ((k + 1)) _ _ _ (some r_30) (by omega) (by omega) hI (lv_sub hl [3, 4, 1, 0] rfl) (fun b h => by cases h; exact ⟨_, t_31, h_38⟩)
  refine lv_null hx hb d_Po_nextToTell_0 ?_
  refine lv_astore_nN (lv' := [(2, .null), (0, .ref h0), (1, .ref x1)]) hx hb d_Po_nextToTell_1 rfl hl (by decide) rfl (fun ls hl => ?_)
  refine lv_iconst (v := 0) hx hb d_Po_nextToTell_2 (by decide) ?_
  refine lv_istore_n (lv' := [(3, .int (0)), (2, .null), (0, .ref h0), (1, .ref x1)]) hx hb d_Po_nextToTell_3 rfl hl (by decide) rfl (fun ls hl => ?_)
  exact hJ_4 _ (0) _ _ _ none (Nat.le_refl _) (by omega) hI (lv_sub hl [2, 3, 1, 0] rfl) (fun b h => by cases h)
theorem d_Po_isTelling_0 : decode b_Po_isTelling 0 = .ok (.aload_n 1, 1) := by decide +kernel
theorem d_Po_isTelling_1 : decode b_Po_isTelling 1 = .ok (.ifnull 29, 3) := by decide +kernel
theorem d_Po_isTelling_4 : decode b_Po_isTelling 4 = .ok (.aload_n 1, 1) := by decide +kernel
theorem d_Po_isTelling_5 : decode b_Po_isTelling 5 = .ok (.getfield 482, 3) := by decide +kernel
theorem d_Po_isTelling_8 : decode b_Po_isTelling 8 = .ok (.ifCond .eq 22, 3) := by decide +kernel
theorem d_Po_isTelling_11 : decode b_Po_isTelling 11 = .ok (.aload_n 1, 1) := by decide +kernel
theorem d_Po_isTelling_12 : decode b_Po_isTelling 12 = .ok (.getfield 485, 3) := by decide +kernel
theorem d_Po_isTelling_15 : decode b_Po_isTelling 15 = .ok (.ifCond .eq 15, 3) := by decide +kernel
theorem d_Po_isTelling_18 : decode b_Po_isTelling 18 = .ok (.aload_n 0, 1) := by decide +kernel
theorem d_Po_isTelling_19 : decode b_Po_isTelling 19 = .ok (.aload_n 1, 1) := by decide +kernel
theorem d_Po_isTelling_20 : decode b_Po_isTelling 20 = .ok (.invokevirtual 493, 3) := by decide +kernel
theorem d_Po_isTelling_23 : decode b_Po_isTelling 23 = .ok (.ifnull 7, 3) := by decide +kernel
theorem d_Po_isTelling_26 : decode b_Po_isTelling 26 = .ok (.iconst 1, 1) := by decide +kernel
theorem d_Po_isTelling_27 : decode b_Po_isTelling 27 = .ok (.goto 4, 3) := by decide +kernel
theorem d_Po_isTelling_30 : decode b_Po_isTelling 30 = .ok (.iconst 0, 1) := by decide +kernel
theorem d_Po_isTelling_31 : decode b_Po_isTelling 31 = .ok (.ireturn, 1) := by decide +kernel
set_option maxRecDepth 100000 in
set_option maxHeartbeats 4000000 in
theorem c_Po_isTelling (l : Launch) (D : va_G) (ca : Nat → ClassId) (T : ty_e) (L : List Nat) (f0 : Nat → va_E) (sz : Nat) (hT : ok_T ca T L f0) {g0 : List (Int32 × Int32)} (h0 : Nat) (t0 : T h0 = some (ty_po g0)) (x1 : Nat) (t1 : T x1 = some (ty_an)) :
    Met l y_Po_isTelling (Cond.code y_Po_isTelling b_Po_isTelling 2 (some .boolean) :: wg) { frames := 2, cells := 0, slots := 0, locals := 46 } (va_Pc [.ref h0, .ref x1] (sm_P D cl_all (ty_s ca) ek L f0 sz)) (sm_Qi D (ty_s ca) L f0 sz (fun r u => (r = 0 ∨ r = 1) ∧ u = (L, f0))) 0 0 (va_A (va_pl L f0) sz) := by
  refine sm_start (by decide) (Nat.le_of_ble_eq_true rfl) ?_
  intro p e s m below meth c ls hx hb hml hr hlk hnm hts hown hsz hE hI hl
  have hl : lv_has ls 2 [(0, .ref h0), (1, .ref x1)] := hl
  refine lv_aload_n hx hb d_Po_isTelling_0 rfl (lv_at hl 1 rfl) ?_
  refine lv_ifnull hx hb d_Po_isTelling_1 ?_
  refine lv_aload_n hx hb d_Po_isTelling_4 rfl (lv_at hl 1 rfl) ?_
  refine fgN_An_interrogates hx hb hts hown hI hT t1 (va_Nw.use rfl (hE.1 _ tn_76 rfl)) (fun _ h9 => h9) d_Po_isTelling_5 (fun x_1 p_2 => ?_)
  refine lv_if_eq (tgt := 30) hx hb d_Po_isTelling_8 (by decide) (fun c_3 => ?_) (fun c_3 => ?_)
  · refine lv_iconst (v := 0) hx hb d_Po_isTelling_30 (by decide) ?_
    exact sm_zret hx hb hr hlk hI (by decide) ⟨(by decide), rfl⟩ d_Po_isTelling_31
  · refine lv_aload_n hx hb d_Po_isTelling_11 rfl (lv_at hl 1 rfl) ?_
    refine fgN_An_begun hx hb hts hown hI hT t1 (va_Nw.use rfl (hE.1 _ tn_80 rfl)) (fun _ h9 => h9) d_Po_isTelling_12 (fun x_4 p_5 => ?_)
    refine lv_if_eq (tgt := 30) hx hb d_Po_isTelling_15 (by decide) (fun c_6 => ?_) (fun c_6 => ?_)
    · refine lv_iconst (v := 0) hx hb d_Po_isTelling_30 (by decide) ?_
      exact sm_zret hx hb hr hlk hI (by decide) ⟨(by decide), rfl⟩ d_Po_isTelling_31
    · refine lv_aload_n hx hb d_Po_isTelling_18 rfl (lv_at hl 0 rfl) ?_
      refine lv_aload_n hx hb d_Po_isTelling_19 rfl (lv_at hl 1 rfl) ?_
      refine sm_qP hI (va_runV (As := [.ref x1]) (rest := []) ⟨hx, hb, hml, hown, hts⟩ (c_Po_nextToTell l D ca _ _ _ _ hT h0 t0 x1 t1) (kv_Po_nextToTell hts rfl rfl (hts _ tw_681) ⟨Nat.le_of_ble_eq_true rfl, Nat.le_of_ble_eq_true rfl⟩) (pv_Po hI hE hT t0) rfl rfl hl.1 rfl (lv_room (Nat.le_of_ble_eq_true rfl)) d_Po_isTelling_20 ⟨Nat.le_of_ble_eq_true rfl, Nat.le_of_ble_eq_true rfl⟩) (fun o_7 H locs p_8 hI => ?_)
      rcases o_7 with _ | r_9
      · refine lv_ifnullN (tgt := 30) hx hb d_Po_isTelling_23 (by decide) ?_
        refine lv_iconst (v := 0) hx hb d_Po_isTelling_30 (by decide) ?_
        exact sm_zret hx hb hr hlk hI (by decide) ⟨(by decide), rfl⟩ d_Po_isTelling_31
      · obtain ⟨q_11, t_10, h_12⟩ := p_8 r_9 rfl
        refine lv_ifnull hx hb d_Po_isTelling_23 ?_
        refine lv_iconst (v := 1) hx hb d_Po_isTelling_26 (by decide) ?_
        refine lv_goto (tgt := 31) hx hb d_Po_isTelling_27 (by decide) ?_
        exact sm_zret hx hb hr hlk hI (by decide) ⟨(by decide), rfl⟩ d_Po_isTelling_31
theorem d_Po_interrogationGoesOn_0 : decode b_Po_interrogationGoesOn 0 = .ok (.iconst 0, 1) := by decide +kernel
theorem d_Po_interrogationGoesOn_1 : decode b_Po_interrogationGoesOn 1 = .ok (.istore_n 2, 1) := by decide +kernel
theorem d_Po_interrogationGoesOn_2 : decode b_Po_interrogationGoesOn 2 = .ok (.iload_n 2, 1) := by decide +kernel
theorem d_Po_interrogationGoesOn_3 : decode b_Po_interrogationGoesOn 3 = .ok (.aload_n 1, 1) := by decide +kernel
theorem d_Po_interrogationGoesOn_4 : decode b_Po_interrogationGoesOn 4 = .ok (.getfield 263, 3) := by decide +kernel
theorem d_Po_interrogationGoesOn_7 : decode b_Po_interrogationGoesOn 7 = .ok (.getfield 267, 3) := by decide +kernel
theorem d_Po_interrogationGoesOn_10 : decode b_Po_interrogationGoesOn 10 = .ok (.if_icmp .ge 42, 3) := by decide +kernel
theorem d_Po_interrogationGoesOn_13 : decode b_Po_interrogationGoesOn 13 = .ok (.aload_n 1, 1) := by decide +kernel
theorem d_Po_interrogationGoesOn_14 : decode b_Po_interrogationGoesOn 14 = .ok (.getfield 263, 3) := by decide +kernel
theorem d_Po_interrogationGoesOn_17 : decode b_Po_interrogationGoesOn 17 = .ok (.iload_n 2, 1) := by decide +kernel
theorem d_Po_interrogationGoesOn_18 : decode b_Po_interrogationGoesOn 18 = .ok (.invokevirtual 627, 3) := by decide +kernel
theorem d_Po_interrogationGoesOn_21 : decode b_Po_interrogationGoesOn 21 = .ok (.astore_n 3, 1) := by decide +kernel
theorem d_Po_interrogationGoesOn_22 : decode b_Po_interrogationGoesOn 22 = .ok (.aload_n 3, 1) := by decide +kernel
theorem d_Po_interrogationGoesOn_23 : decode b_Po_interrogationGoesOn 23 = .ok (.getfield 482, 3) := by decide +kernel
theorem d_Po_interrogationGoesOn_26 : decode b_Po_interrogationGoesOn 26 = .ok (.ifCond .eq 20, 3) := by decide +kernel
theorem d_Po_interrogationGoesOn_29 : decode b_Po_interrogationGoesOn 29 = .ok (.aload_n 3, 1) := by decide +kernel
theorem d_Po_interrogationGoesOn_30 : decode b_Po_interrogationGoesOn 30 = .ok (.getfield 485, 3) := by decide +kernel
theorem d_Po_interrogationGoesOn_33 : decode b_Po_interrogationGoesOn 33 = .ok (.ifCond .eq 11, 3) := by decide +kernel
theorem d_Po_interrogationGoesOn_36 : decode b_Po_interrogationGoesOn 36 = .ok (.aload_n 0, 1) := by decide +kernel
theorem d_Po_interrogationGoesOn_37 : decode b_Po_interrogationGoesOn 37 = .ok (.aload_n 3, 1) := by decide +kernel
theorem d_Po_interrogationGoesOn_38 : decode b_Po_interrogationGoesOn 38 = .ok (.invokevirtual 493, 3) := by decide +kernel
theorem d_Po_interrogationGoesOn_41 : decode b_Po_interrogationGoesOn 41 = .ok (.ifnull 5, 3) := by decide +kernel
theorem d_Po_interrogationGoesOn_44 : decode b_Po_interrogationGoesOn 44 = .ok (.iconst 1, 1) := by decide +kernel
theorem d_Po_interrogationGoesOn_45 : decode b_Po_interrogationGoesOn 45 = .ok (.ireturn, 1) := by decide +kernel
theorem d_Po_interrogationGoesOn_46 : decode b_Po_interrogationGoesOn 46 = .ok (.iinc 2 1, 3) := by decide +kernel
theorem d_Po_interrogationGoesOn_49 : decode b_Po_interrogationGoesOn 49 = .ok (.goto (-47), 3) := by decide +kernel
theorem d_Po_interrogationGoesOn_52 : decode b_Po_interrogationGoesOn 52 = .ok (.iconst 0, 1) := by decide +kernel
theorem d_Po_interrogationGoesOn_53 : decode b_Po_interrogationGoesOn 53 = .ok (.ireturn, 1) := by decide +kernel
set_option maxRecDepth 100000 in
set_option maxHeartbeats 4000000 in
theorem c_Po_interrogationGoesOn (l : Launch) (D : va_G) (ca : Nat → ClassId) (T : ty_e) (L : List Nat) (f0 : Nat → va_E) (sz : Nat) (hT : ok_T ca T L f0) {g0 : List (Int32 × Int32)} (h0 : Nat) (t0 : T h0 = some (ty_po g0)) (x1 : Nat) (t1 : is_li T x1) :
    Met l y_Po_interrogationGoesOn (Cond.code y_Po_interrogationGoesOn b_Po_interrogationGoesOn 4 (some .boolean) :: wg) { frames := 2, cells := 0, slots := 0, locals := 46 } (va_Pc [.ref h0, .ref x1] (sm_P D cl_all (ty_s ca) ek L f0 sz)) (sm_Qi D (ty_s ca) L f0 sz (fun r u => (r = 0 ∨ r = 1) ∧ u = (L, f0))) 0 0 (va_A (va_pl L f0) sz) := by
  refine sm_start (by decide) (Nat.le_of_ble_eq_true rfl) ?_
  intro p e s m below meth c ls hx hb hml hr hlk hnm hts hown hsz hE hI hl
  have hl : lv_has ls 4 [(0, .ref h0), (1, .ref x1)] := hl
  have hJ_2 : ∀ (N k : Nat) (H : Heap) (locs : List Loc) (ls : Array Slot) , 16 + 1 - k ≤ N → k ≤ 16 → sw_I D cl_all (ty_s ca) (va_A (va_pl L f0) sz) s H locs L f0 → lv_has ls 4 [(0, .ref h0), (1, .ref x1), (2, .int (nI k))] → W p l e { frames := 2, cells := 0, slots := 0, locals := 46 } s m ([.ref h0, .ref x1] : List Value).toArray below meth c H locs 0 0 (MQ below (sm_Qi D (ty_s ca) L f0 sz (fun r u => (r = 0 ∨ r = 1) ∧ u = (L, f0))) ([.ref h0, .ref x1] : List Value).toArray s 0 0 (va_A (va_pl L f0) sz)) (F0 m 2 ls []) := by
    intro N
    induction N with
    | zero => intros; omega
    | succ N ih =>
      intro k H locs ls  hN hk hI hl 
      refine lv_iload_n hx hb d_Po_interrogationGoesOn_2 rfl (lv_at hl 2 rfl) ?_
      refine lv_aload_n hx hb d_Po_interrogationGoesOn_3 rfl (lv_at hl 1 rfl) ?_
      refine fg_Li_answers hx hb hts hown hI hT t1 (hts _ tw_139) (fun _ h9 => h9) d_Po_interrogationGoesOn_4 (fun r_1 t_2 => ?_)
      refine fgN_As_many hx hb hts hown hI hT t_2 (va_Nw.use rfl (hE.1 _ tn_101 rfl)) (fun _ h9 => h9) d_Po_interrogationGoesOn_7 (fun n_3 h_4 => ?_)
      refine lv_icmp_ge (tgt := 52) hx hb d_Po_interrogationGoesOn_10 (by decide) (fun c_5 => ?_) (fun c_5 => ?_)
      · have k_6 : n_3 ≤ k := (nI_leI (a := n_3) (b := k) (by omega) (by omega)).mp c_5
        refine lv_iconst (v := 0) hx hb d_Po_interrogationGoesOn_52 (by decide) ?_
        exact sm_zret hx hb hr hlk hI (by decide) ⟨(by decide), rfl⟩ d_Po_interrogationGoesOn_53
      · have k_7 : k < n_3 := Nat.lt_of_not_le (fun q => c_5 ((nI_leI (a := n_3) (b := k) (by omega) (by omega)).mpr q))
        refine lv_aload_n hx hb d_Po_interrogationGoesOn_13 rfl (lv_at hl 1 rfl) ?_
        refine fg_Li_answers hx hb hts hown hI hT t1 (hts _ tw_139) (fun _ h9 => h9) d_Po_interrogationGoesOn_14 (fun r_8 t_9 => ?_)
        refine lv_iload_n hx hb d_Po_interrogationGoesOn_17 rfl (lv_at hl 2 rfl) ?_
        refine sm_qP hI (va_runV (As := [.int (nI k)]) (rest := []) ⟨hx, hb, hml, hown, hts⟩ (c_As_get l D ca _ _ _ _ hT r_8 t_9 (k) (by omega)) (kv_As_get hts rfl rfl (hts _ tw_1029) ⟨Nat.le_of_ble_eq_true rfl, Nat.le_of_ble_eq_true rfl⟩) (pv_As hI hE hT t_9) rfl rfl hl.1 rfl (lv_room (Nat.le_of_ble_eq_true rfl)) d_Po_interrogationGoesOn_18 ⟨Nat.le_of_ble_eq_true rfl, Nat.le_of_ble_eq_true rfl⟩) (fun o_10 H locs p_11 hI => ?_)
        obtain ⟨r_12, rfl, t_13⟩ := p_11
        refine lv_astore_n (lv' := [(3, .ref r_12), (0, .ref h0), (1, .ref x1), (2, .int (nI k))]) hx hb d_Po_interrogationGoesOn_21 rfl hl (by decide) rfl (fun ls hl => ?_)
        refine lv_aload_n hx hb d_Po_interrogationGoesOn_22 rfl (lv_at hl 0 rfl) ?_
        refine fgN_An_interrogates hx hb hts hown hI hT t_13 (va_Nw.use rfl (hE.1 _ tn_76 rfl)) (fun _ h9 => h9) d_Po_interrogationGoesOn_23 (fun x_14 p_15 => ?_)
        refine lv_if_eq (tgt := 46) hx hb d_Po_interrogationGoesOn_26 (by decide) (fun c_16 => ?_) (fun c_16 => ?_)
        · refine lv_iinc (v := nI (k + 1)) (lv' := [(2, .int (nI (k + 1))), (3, .ref r_12), (0, .ref h0), (1, .ref x1)]) hx hb d_Po_interrogationGoesOn_46 hl (k := 3) rfl (nI_1 _) (by decide) rfl (fun ls hl => ?_)
          refine lv_goto (tgt := 2) hx hb d_Po_interrogationGoesOn_49 (by decide) ?_
          exact ih ((k + 1)) _ _ _  (by omega) (by omega) hI (lv_sub hl [2, 3, 0] rfl) 
        · refine lv_aload_n hx hb d_Po_interrogationGoesOn_29 rfl (lv_at hl 0 rfl) ?_
          refine fgN_An_begun hx hb hts hown hI hT t_13 (va_Nw.use rfl (hE.1 _ tn_80 rfl)) (fun _ h9 => h9) d_Po_interrogationGoesOn_30 (fun x_17 p_18 => ?_)
          refine lv_if_eq (tgt := 44) hx hb d_Po_interrogationGoesOn_33 (by decide) (fun c_19 => ?_) (fun c_19 => ?_)
          · refine lv_iconst (v := 1) hx hb d_Po_interrogationGoesOn_44 (by decide) ?_
            exact sm_zret hx hb hr hlk hI (by decide) ⟨(by decide), rfl⟩ d_Po_interrogationGoesOn_45
          · refine lv_aload_n hx hb d_Po_interrogationGoesOn_36 rfl (lv_at hl 1 rfl) ?_
            refine lv_aload_n hx hb d_Po_interrogationGoesOn_37 rfl (lv_at hl 0 rfl) ?_
            refine sm_qP hI (va_runV (As := [.ref r_12]) (rest := []) ⟨hx, hb, hml, hown, hts⟩ (c_Po_nextToTell l D ca _ _ _ _ hT h0 t0 r_12 t_13) (kv_Po_nextToTell hts rfl rfl (hts _ tw_681) ⟨Nat.le_of_ble_eq_true rfl, Nat.le_of_ble_eq_true rfl⟩) (pv_Po hI hE hT t0) rfl rfl hl.1 rfl (lv_room (Nat.le_of_ble_eq_true rfl)) d_Po_interrogationGoesOn_38 ⟨Nat.le_of_ble_eq_true rfl, Nat.le_of_ble_eq_true rfl⟩) (fun o_20 H locs p_21 hI => ?_)
            rcases o_20 with _ | r_22
            · refine lv_ifnullN (tgt := 46) hx hb d_Po_interrogationGoesOn_41 (by decide) ?_
              refine lv_iinc (v := nI (k + 1)) (lv' := [(2, .int (nI (k + 1))), (3, .ref r_12), (0, .ref h0), (1, .ref x1)]) hx hb d_Po_interrogationGoesOn_46 hl (k := 3) rfl (nI_1 _) (by decide) rfl (fun ls hl => ?_)
              refine lv_goto (tgt := 2) hx hb d_Po_interrogationGoesOn_49 (by decide) ?_
              exact ih ((k + 1)) _ _ _  (by omega) (by omega) hI (lv_sub hl [2, 3, 0] rfl) 
            · obtain ⟨q_24, t_23, h_25⟩ := p_21 r_22 rfl
              refine lv_ifnull hx hb d_Po_interrogationGoesOn_41 ?_
              refine lv_iconst (v := 1) hx hb d_Po_interrogationGoesOn_44 (by decide) ?_
              exact sm_zret hx hb hr hlk hI (by decide) ⟨(by decide), rfl⟩ d_Po_interrogationGoesOn_45
  refine lv_iconst (v := 0) hx hb d_Po_interrogationGoesOn_0 (by decide) ?_
  refine lv_istore_n (lv' := [(2, .int (0)), (0, .ref h0), (1, .ref x1)]) hx hb d_Po_interrogationGoesOn_1 rfl hl (by decide) rfl (fun ls hl => ?_)
  exact hJ_2 _ (0) _ _ _  (Nat.le_refl _) (by omega) hI (lv_sub hl [1, 2, 0] rfl) 
theorem d_Po_hasClassOne_0 : decode b_Po_hasClassOne 0 = .ok (.aload_n 0, 1) := by decide +kernel
theorem d_Po_hasClassOne_1 : decode b_Po_hasClassOne 1 = .ok (.getfield 24, 3) := by decide +kernel
theorem d_Po_hasClassOne_4 : decode b_Po_hasClassOne 4 = .ok (.getfield 565, 3) := by decide +kernel
theorem d_Po_hasClassOne_7 : decode b_Po_hasClassOne 7 = .ok (.invokevirtual 433, 3) := by decide +kernel
theorem d_Po_hasClassOne_10 : decode b_Po_hasClassOne 10 = .ok (.astore_n 1, 1) := by decide +kernel
theorem d_Po_hasClassOne_11 : decode b_Po_hasClassOne 11 = .ok (.aload_n 1, 1) := by decide +kernel
theorem d_Po_hasClassOne_12 : decode b_Po_hasClassOne 12 = .ok (.ifnull 13, 3) := by decide +kernel
theorem d_Po_hasClassOne_15 : decode b_Po_hasClassOne 15 = .ok (.aload_n 0, 1) := by decide +kernel
theorem d_Po_hasClassOne_16 : decode b_Po_hasClassOne 16 = .ok (.aload_n 1, 1) := by decide +kernel
theorem d_Po_hasClassOne_17 : decode b_Po_hasClassOne 17 = .ok (.invokevirtual 470, 3) := by decide +kernel
theorem d_Po_hasClassOne_20 : decode b_Po_hasClassOne 20 = .ok (.ifCond .ne 5, 3) := by decide +kernel
theorem d_Po_hasClassOne_23 : decode b_Po_hasClassOne 23 = .ok (.iconst 1, 1) := by decide +kernel
theorem d_Po_hasClassOne_24 : decode b_Po_hasClassOne 24 = .ok (.ireturn, 1) := by decide +kernel
theorem d_Po_hasClassOne_25 : decode b_Po_hasClassOne 25 = .ok (.aload_n 0, 1) := by decide +kernel
theorem d_Po_hasClassOne_26 : decode b_Po_hasClassOne 26 = .ok (.invokevirtual 127, 3) := by decide +kernel
theorem d_Po_hasClassOne_29 : decode b_Po_hasClassOne 29 = .ok (.iconst 3, 1) := by decide +kernel
theorem d_Po_hasClassOne_30 : decode b_Po_hasClassOne 30 = .ok (.if_icmp .ne 17, 3) := by decide +kernel
theorem d_Po_hasClassOne_33 : decode b_Po_hasClassOne 33 = .ok (.aload_n 0, 1) := by decide +kernel
theorem d_Po_hasClassOne_34 : decode b_Po_hasClassOne 34 = .ok (.getfield 31, 3) := by decide +kernel
theorem d_Po_hasClassOne_37 : decode b_Po_hasClassOne 37 = .ok (.invokevirtual 457, 3) := by decide +kernel
theorem d_Po_hasClassOne_40 : decode b_Po_hasClassOne 40 = .ok (.ifnull 7, 3) := by decide +kernel
theorem d_Po_hasClassOne_43 : decode b_Po_hasClassOne 43 = .ok (.iconst 1, 1) := by decide +kernel
theorem d_Po_hasClassOne_44 : decode b_Po_hasClassOne 44 = .ok (.goto 4, 3) := by decide +kernel
theorem d_Po_hasClassOne_47 : decode b_Po_hasClassOne 47 = .ok (.iconst 0, 1) := by decide +kernel
theorem d_Po_hasClassOne_48 : decode b_Po_hasClassOne 48 = .ok (.ireturn, 1) := by decide +kernel
set_option maxRecDepth 100000 in
set_option maxHeartbeats 4000000 in
theorem c_Po_hasClassOne (l : Launch) (D : va_G) (ca : Nat → ClassId) (T : ty_e) (L : List Nat) (f0 : Nat → va_E) (sz : Nat) (hT : ok_T ca T L f0) {g0 : List (Int32 × Int32)} (h0 : Nat) (t0 : T h0 = some (ty_po g0)) :
    Met l y_Po_hasClassOne (Cond.code y_Po_hasClassOne b_Po_hasClassOne 2 (some .boolean) :: wg) { frames := 3, cells := 0, slots := 0, locals := 67 } (va_Pc [.ref h0] (sm_P D cl_all (ty_s ca) ek L f0 sz)) (sm_Qi D (ty_s ca) L f0 sz (fun r u => (r = 0 ∨ r = 1) ∧ u = (L, f0))) 0 0 (va_A (va_pl L f0) sz) := by
  refine sm_start (by decide) (Nat.le_of_ble_eq_true rfl) ?_
  intro p e s m below meth c ls hx hb hml hr hlk hnm hts hown hsz hE hI hl
  have hl : lv_has ls 2 [(0, .ref h0)] := hl
  have hJ_25 : ∀ (H : Heap) (locs : List Loc) (ls : Array Slot) (y1 : Option Nat), sw_I D cl_all (ty_s ca) (va_A (va_pl L f0) sz) s H locs L f0 → lv_has ls 2 [(0, .ref h0), (1, va_rf y1)] → (∀ b : Nat, y1 = some b → T b = some (ty_an)) → W p l e { frames := 3, cells := 0, slots := 0, locals := 67 } s m ([.ref h0] : List Value).toArray below meth c H locs 0 0 (MQ below (sm_Qi D (ty_s ca) L f0 sz (fun r u => (r = 0 ∨ r = 1) ∧ u = (L, f0))) ([.ref h0] : List Value).toArray s 0 0 (va_A (va_pl L f0) sz)) (F0 m 25 ls []) := by
    intro H locs ls y1 hI hl fy1
    rcases y1 with _ | r_1
    · refine lv_aload_n hx hb d_Po_hasClassOne_25 rfl (lv_at hl 0 rfl) ?_
      refine sm_iP hI (va_runV (As := []) (rest := []) ⟨hx, hb, hml, hown, hts⟩ (c_Po_activeLine l D ca _ _ _ _ hT h0 t0) (kv_Po_activeLine hts rfl rfl (hts _ tw_653) ⟨Nat.le_of_ble_eq_true rfl, Nat.le_of_ble_eq_true rfl⟩) (pv_Po hI hE hT t0) rfl rfl hl.1 rfl (lv_room (Nat.le_of_ble_eq_true rfl)) d_Po_hasClassOne_26 ⟨Nat.le_of_ble_eq_true rfl, Nat.le_of_ble_eq_true rfl⟩) (fun x_2 H locs p_3 hI => ?_)
      refine lv_iconst (v := 3) hx hb d_Po_hasClassOne_29 (by decide) ?_
      refine lv_icmp_ne (tgt := 47) hx hb d_Po_hasClassOne_30 (by decide) (fun c_4 => ?_) (fun c_4 => ?_)
      · refine lv_iconst (v := 0) hx hb d_Po_hasClassOne_47 (by decide) ?_
        exact sm_zret hx hb hr hlk hI (by decide) ⟨(by decide), rfl⟩ d_Po_hasClassOne_48
      · refine lv_aload_n hx hb d_Po_hasClassOne_33 rfl (lv_at hl 0 rfl) ?_
        refine fg_Po_events hx hb hts hown hI hT t0 (hts _ tw_367) (fun _ h9 => h9) d_Po_hasClassOne_34 (fun r_5 t_6 => ?_)
        refine sm_qP hI (va_runV (As := []) (rest := []) ⟨hx, hb, hml, hown, hts⟩ (c_Es_firstUnsent l D ca _ _ _ _ hT r_5 t_6) (kv_Es_firstUnsent hts rfl rfl (hts _ tw_730) ⟨Nat.le_of_ble_eq_true rfl, Nat.le_of_ble_eq_true rfl⟩) (pv_Es hI hE hT t_6) rfl rfl hl.1 rfl (lv_room (Nat.le_of_ble_eq_true rfl)) d_Po_hasClassOne_37 ⟨Nat.le_of_ble_eq_true rfl, Nat.le_of_ble_eq_true rfl⟩) (fun o_7 H locs p_8 hI => ?_)
        rcases o_7 with _ | r_9
        · refine lv_ifnullN (tgt := 47) hx hb d_Po_hasClassOne_40 (by decide) ?_
          refine lv_iconst (v := 0) hx hb d_Po_hasClassOne_47 (by decide) ?_
          exact sm_zret hx hb hr hlk hI (by decide) ⟨(by decide), rfl⟩ d_Po_hasClassOne_48
        · have t_10 := p_8 r_9 rfl
          refine lv_ifnull hx hb d_Po_hasClassOne_40 ?_
          refine lv_iconst (v := 1) hx hb d_Po_hasClassOne_43 (by decide) ?_
          refine lv_goto (tgt := 48) hx hb d_Po_hasClassOne_44 (by decide) ?_
          exact sm_zret hx hb hr hlk hI (by decide) ⟨(by decide), rfl⟩ d_Po_hasClassOne_48
    · have t_11 := fy1 r_1 rfl
      refine lv_aload_n hx hb d_Po_hasClassOne_25 rfl (lv_at hl 0 rfl) ?_
      refine sm_iP hI (va_runV (As := []) (rest := []) ⟨hx, hb, hml, hown, hts⟩ (c_Po_activeLine l D ca _ _ _ _ hT h0 t0) (kv_Po_activeLine hts rfl rfl (hts _ tw_653) ⟨Nat.le_of_ble_eq_true rfl, Nat.le_of_ble_eq_true rfl⟩) (pv_Po hI hE hT t0) rfl rfl hl.1 rfl (lv_room (Nat.le_of_ble_eq_true rfl)) d_Po_hasClassOne_26 ⟨Nat.le_of_ble_eq_true rfl, Nat.le_of_ble_eq_true rfl⟩) (fun x_12 H locs p_13 hI => ?_)
      refine lv_iconst (v := 3) hx hb d_Po_hasClassOne_29 (by decide) ?_
      refine lv_icmp_ne (tgt := 47) hx hb d_Po_hasClassOne_30 (by decide) (fun c_14 => ?_) (fun c_14 => ?_)
      · refine lv_iconst (v := 0) hx hb d_Po_hasClassOne_47 (by decide) ?_
        exact sm_zret hx hb hr hlk hI (by decide) ⟨(by decide), rfl⟩ d_Po_hasClassOne_48
      · refine lv_aload_n hx hb d_Po_hasClassOne_33 rfl (lv_at hl 0 rfl) ?_
        refine fg_Po_events hx hb hts hown hI hT t0 (hts _ tw_367) (fun _ h9 => h9) d_Po_hasClassOne_34 (fun r_15 t_16 => ?_)
        refine sm_qP hI (va_runV (As := []) (rest := []) ⟨hx, hb, hml, hown, hts⟩ (c_Es_firstUnsent l D ca _ _ _ _ hT r_15 t_16) (kv_Es_firstUnsent hts rfl rfl (hts _ tw_730) ⟨Nat.le_of_ble_eq_true rfl, Nat.le_of_ble_eq_true rfl⟩) (pv_Es hI hE hT t_16) rfl rfl hl.1 rfl (lv_room (Nat.le_of_ble_eq_true rfl)) d_Po_hasClassOne_37 ⟨Nat.le_of_ble_eq_true rfl, Nat.le_of_ble_eq_true rfl⟩) (fun o_17 H locs p_18 hI => ?_)
        rcases o_17 with _ | r_19
        · refine lv_ifnullN (tgt := 47) hx hb d_Po_hasClassOne_40 (by decide) ?_
          refine lv_iconst (v := 0) hx hb d_Po_hasClassOne_47 (by decide) ?_
          exact sm_zret hx hb hr hlk hI (by decide) ⟨(by decide), rfl⟩ d_Po_hasClassOne_48
        · have t_20 := p_18 r_19 rfl
          refine lv_ifnull hx hb d_Po_hasClassOne_40 ?_
          refine lv_iconst (v := 1) hx hb d_Po_hasClassOne_43 (by decide) ?_
          refine lv_goto (tgt := 48) hx hb d_Po_hasClassOne_44 (by decide) ?_
          exact sm_zret hx hb hr hlk hI (by decide) ⟨(by decide), rfl⟩ d_Po_hasClassOne_48
  refine lv_aload_n hx hb d_Po_hasClassOne_0 rfl (lv_at hl 0 rfl) ?_
  refine fg_Po_serialLine hx hb hts hown hI hT t0 (hts _ tw_366) (fun _ h9 => h9) d_Po_hasClassOne_1 (fun r_21 t_22 => ?_)
  refine fg_Sr_answers hx hb hts hown hI hT t_22 (hts _ tw_142) (fun x9 h9 => u_same (hts _ tw_143) x9 h9) d_Po_hasClassOne_4 (fun r_23 t_24 => ?_)
  refine sm_qP hI (va_runV (As := []) (rest := []) ⟨hx, hb, hml, hown, hts⟩ (c_As_first l D ca _ _ _ _ hT r_23 t_24) (kv_As_first hts rfl rfl (hts _ tw_665) ⟨Nat.le_of_ble_eq_true rfl, Nat.le_of_ble_eq_true rfl⟩) (pv_As hI hE hT t_24) rfl rfl hl.1 rfl (lv_room (Nat.le_of_ble_eq_true rfl)) d_Po_hasClassOne_7 ⟨Nat.le_of_ble_eq_true rfl, Nat.le_of_ble_eq_true rfl⟩) (fun o_25 H locs p_26 hI => ?_)
  rcases o_25 with _ | r_27
  · refine lv_astore_nN (lv' := [(1, .null), (0, .ref h0)]) hx hb d_Po_hasClassOne_10 rfl hl (by decide) rfl (fun ls hl => ?_)
    refine lv_aload_nN hx hb d_Po_hasClassOne_11 rfl (lv_at hl 0 rfl) ?_
    refine lv_ifnullN (tgt := 25) hx hb d_Po_hasClassOne_12 (by decide) ?_
    exact hJ_25 _ _ _ none hI (lv_sub hl [1, 0] rfl) (fun b h => by cases h)
  · have t_28 := p_26 r_27 rfl
    refine lv_astore_n (lv' := [(1, .ref r_27), (0, .ref h0)]) hx hb d_Po_hasClassOne_10 rfl hl (by decide) rfl (fun ls hl => ?_)
    refine lv_aload_n hx hb d_Po_hasClassOne_11 rfl (lv_at hl 0 rfl) ?_
    refine lv_ifnull hx hb d_Po_hasClassOne_12 ?_
    refine lv_aload_n hx hb d_Po_hasClassOne_15 rfl (lv_at hl 1 rfl) ?_
    refine lv_aload_n hx hb d_Po_hasClassOne_16 rfl (lv_at hl 0 rfl) ?_
    refine sm_iP hI (va_runV (As := [.ref r_27]) (rest := []) ⟨hx, hb, hml, hown, hts⟩ (c_Po_isTelling l D ca _ _ _ _ hT h0 t0 r_27 t_28) (kv_Po_isTelling hts rfl rfl (hts _ tw_677) ⟨Nat.le_of_ble_eq_true rfl, Nat.le_of_ble_eq_true rfl⟩) (pv_Po hI hE hT t0) rfl rfl hl.1 rfl (lv_room (Nat.le_of_ble_eq_true rfl)) d_Po_hasClassOne_17 ⟨Nat.le_of_ble_eq_true rfl, Nat.le_of_ble_eq_true rfl⟩) (fun x_29 H locs p_30 hI => ?_)
    refine lv_if_ne (tgt := 25) hx hb d_Po_hasClassOne_20 (by decide) (fun c_31 => ?_) (fun c_31 => ?_)
    · exact hJ_25 _ _ _ (some r_27) hI (lv_sub hl [1, 0] rfl) (fun b h => by cases h; exact t_28)
    · refine lv_iconst (v := 1) hx hb d_Po_hasClassOne_23 (by decide) ?_
      exact sm_zret hx hb hr hlk hI (by decide) ⟨(by decide), rfl⟩ d_Po_hasClassOne_24
