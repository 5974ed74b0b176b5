/-! Serial, and what lines have in common (written by wip/tools) -/
theorem d_Po_isCounted_0 : decode b_Po_isCounted 0 = .ok (.iload_n 0, 1) := by decide +kernel
theorem d_Po_isCounted_1 : decode b_Po_isCounted 1 = .ok (.iconst 3, 1) := by decide +kernel
theorem d_Po_isCounted_2 : decode b_Po_isCounted 2 = .ok (.if_icmp .eq 15, 3) := by decide +kernel
theorem d_Po_isCounted_5 : decode b_Po_isCounted 5 = .ok (.iload_n 0, 1) := by decide +kernel
theorem d_Po_isCounted_6 : decode b_Po_isCounted 6 = .ok (.bipush 10, 2) := by decide +kernel
theorem d_Po_isCounted_8 : decode b_Po_isCounted 8 = .ok (.if_icmp .eq 9, 3) := by decide +kernel
theorem d_Po_isCounted_11 : decode b_Po_isCounted 11 = .ok (.iload_n 0, 1) := by decide +kernel
theorem d_Po_isCounted_12 : decode b_Po_isCounted 12 = .ok (.bipush 11, 2) := by decide +kernel
theorem d_Po_isCounted_14 : decode b_Po_isCounted 14 = .ok (.if_icmp .ne 7, 3) := by decide +kernel
theorem d_Po_isCounted_17 : decode b_Po_isCounted 17 = .ok (.iconst 1, 1) := by decide +kernel
theorem d_Po_isCounted_18 : decode b_Po_isCounted 18 = .ok (.goto 4, 3) := by decide +kernel
theorem d_Po_isCounted_21 : decode b_Po_isCounted 21 = .ok (.iconst 0, 1) := by decide +kernel
theorem d_Po_isCounted_22 : decode b_Po_isCounted 22 = .ok (.ireturn, 1) := by decide +kernel
set_option maxRecDepth 100000 in
set_option maxHeartbeats 4000000 in
theorem c_Po_isCounted (l : Launch) (D : va_G) (ca : Nat → ClassId) (T : ty_e) (L : List Nat) (f0 : Nat → va_E) (sz : Nat) (hT : ok_T ca T L f0) (x1 : Int32) :
    Met l y_Po_isCounted (Cond.code y_Po_isCounted b_Po_isCounted 1 (some .boolean) :: wg) { frames := 0, cells := 0, slots := 0, locals := 0 } (va_Pc [.int (x1)] (sm_P D cl_all (ty_s ca) ek L f0 sz)) (sm_Qi D (ty_s ca) L f0 sz (fun r u => (r = 0 ∨ r = 1) ∧ u = (L, f0))) 0 0 (va_A (va_pl L f0) sz) := by
  refine sm_start (by decide) (Nat.le_of_ble_eq_true rfl) ?_
  intro p e s m below meth c ls hx hb hml hr hlk hnm hts hown hsz hE hI hl
  have hl : lv_has ls 1 [(0, .int (x1))] := hl
  refine lv_iload_n hx hb d_Po_isCounted_0 rfl (lv_at hl 0 rfl) ?_
  refine lv_iconst (v := 3) hx hb d_Po_isCounted_1 (by decide) ?_
  refine lv_icmp_eq (tgt := 17) hx hb d_Po_isCounted_2 (by decide) (fun c_1 => ?_) (fun c_1 => ?_)
  · refine lv_iconst (v := 1) hx hb d_Po_isCounted_17 (by decide) ?_
    refine lv_goto (tgt := 22) hx hb d_Po_isCounted_18 (by decide) ?_
    exact sm_zret hx hb hr hlk hI (by decide) ⟨(by decide), rfl⟩ d_Po_isCounted_22
  · refine lv_iload_n hx hb d_Po_isCounted_5 rfl (lv_at hl 0 rfl) ?_
    refine lv_bipush (v := 10) hx hb d_Po_isCounted_6 (by decide) ?_
    refine lv_icmp_eq (tgt := 17) hx hb d_Po_isCounted_8 (by decide) (fun c_2 => ?_) (fun c_2 => ?_)
    · refine lv_iconst (v := 1) hx hb d_Po_isCounted_17 (by decide) ?_
      refine lv_goto (tgt := 22) hx hb d_Po_isCounted_18 (by decide) ?_
      exact sm_zret hx hb hr hlk hI (by decide) ⟨(by decide), rfl⟩ d_Po_isCounted_22
    · refine lv_iload_n hx hb d_Po_isCounted_11 rfl (lv_at hl 0 rfl) ?_
      refine lv_bipush (v := 11) hx hb d_Po_isCounted_12 (by decide) ?_
      refine lv_icmp_ne (tgt := 21) hx hb d_Po_isCounted_14 (by decide) (fun c_3 => ?_) (fun c_3 => ?_)
      · refine lv_iconst (v := 0) hx hb d_Po_isCounted_21 (by decide) ?_
        exact sm_zret hx hb hr hlk hI (by decide) ⟨(by decide), rfl⟩ d_Po_isCounted_22
      · refine lv_iconst (v := 1) hx hb d_Po_isCounted_17 (by decide) ?_
        refine lv_goto (tgt := 22) hx hb d_Po_isCounted_18 (by decide) ?_
        exact sm_zret hx hb hr hlk hI (by decide) ⟨(by decide), rfl⟩ d_Po_isCounted_22
theorem d_Sr_isShort_0 : decode b_Sr_isShort 0 = .ok (.aload_n 0, 1) := by decide +kernel
theorem d_Sr_isShort_1 : decode b_Sr_isShort 1 = .ok (.getfield 49, 3) := by decide +kernel
theorem d_Sr_isShort_4 : decode b_Sr_isShort 4 = .ok (.iconst 0, 1) := by decide +kernel
theorem d_Sr_isShort_5 : decode b_Sr_isShort 5 = .ok (.invokevirtual 52, 3) := by decide +kernel
theorem d_Sr_isShort_8 : decode b_Sr_isShort 8 = .ok (.bipush 16, 2) := by decide +kernel
theorem d_Sr_isShort_10 : decode b_Sr_isShort 10 = .ok (.if_icmp .ne 7, 3) := by decide +kernel
theorem d_Sr_isShort_13 : decode b_Sr_isShort 13 = .ok (.iconst 1, 1) := by decide +kernel
theorem d_Sr_isShort_14 : decode b_Sr_isShort 14 = .ok (.goto 4, 3) := by decide +kernel
theorem d_Sr_isShort_17 : decode b_Sr_isShort 17 = .ok (.iconst 0, 1) := by decide +kernel
theorem d_Sr_isShort_18 : decode b_Sr_isShort 18 = .ok (.ireturn, 1) := by decide +kernel
set_option maxRecDepth 100000 in
set_option maxHeartbeats 4000000 in
theorem c_Sr_isShort (l : Launch) (D : va_G) (ca : Nat → ClassId) (T : ty_e) (L : List Nat) (f0 : Nat → va_E) (sz : Nat) (hT : ok_T ca T L f0) (h0 : Nat) (t0 : T h0 = some (ty_sr)) :
    Met l y_Sr_isShort (Cond.code y_Sr_isShort b_Sr_isShort 1 (some .boolean) :: wg) { frames := 1, cells := 0, slots := 0, locals := 21 } (va_Pc [.ref h0] (sm_P D cl_all (ty_s ca) ek L f0 sz)) (sm_Qi D (ty_s ca) L f0 sz (fun r u => (r = 0 ∨ r = 1) ∧ u = (L, f0))) 0 0 (va_A (va_pl L f0) sz) := by
  refine sm_start (by decide) (Nat.le_of_ble_eq_true rfl) ?_
  intro p e s m below meth c ls hx hb hml hr hlk hnm hts hown hsz hE hI hl
  have hl : lv_has ls 1 [(0, .ref h0)] := hl
  refine lv_aload_n hx hb d_Sr_isShort_0 rfl (lv_at hl 0 rfl) ?_
  refine fg_Sr_heard hx hb hts hown hI hT t0 (hts _ tw_133) (fun x9 h9 => u_same (hts _ tw_134) x9 h9) d_Sr_isShort_1 (fun r_1 t_2 => ?_)
  refine lv_iconst (v := 0) hx hb d_Sr_isShort_4 (by decide) ?_
  refine sm_iP hI (va_runV (As := [.int (0)]) (rest := []) ⟨hx, hb, hml, hown, hts⟩ (c_Br_at l D ca _ _ _ _ hT r_1 t_2 0) (kv_Br_at hts rfl rfl (hts _ tw_842) ⟨Nat.le_of_ble_eq_true rfl, Nat.le_of_ble_eq_true rfl⟩) (pv_Br hI hE hT t_2) rfl rfl hl.1 rfl (lv_room (Nat.le_of_ble_eq_true rfl)) d_Sr_isShort_5 ⟨Nat.le_of_ble_eq_true rfl, Nat.le_of_ble_eq_true rfl⟩) (fun x_3 H locs p_4 hI => ?_)
  refine lv_bipush (v := 16) hx hb d_Sr_isShort_8 (by decide) ?_
  refine lv_icmp_ne (tgt := 17) hx hb d_Sr_isShort_10 (by decide) (fun c_5 => ?_) (fun c_5 => ?_)
  · refine lv_iconst (v := 0) hx hb d_Sr_isShort_17 (by decide) ?_
    exact sm_zret hx hb hr hlk hI (by decide) ⟨(by decide), rfl⟩ d_Sr_isShort_18
  · refine lv_iconst (v := 1) hx hb d_Sr_isShort_13 (by decide) ?_
    refine lv_goto (tgt := 18) hx hb d_Sr_isShort_14 (by decide) ?_
    exact sm_zret hx hb hr hlk hI (by decide) ⟨(by decide), rfl⟩ d_Sr_isShort_18
theorem d_Sr_frameLength_0 : decode b_Sr_frameLength 0 = .ok (.aload_n 0, 1) := by decide +kernel
theorem d_Sr_frameLength_1 : decode b_Sr_frameLength 1 = .ok (.invokevirtual 56, 3) := by decide +kernel
theorem d_Sr_frameLength_4 : decode b_Sr_frameLength 4 = .ok (.ifCond .eq 7, 3) := by decide +kernel
theorem d_Sr_frameLength_7 : decode b_Sr_frameLength 7 = .ok (.iconst 5, 1) := by decide +kernel
theorem d_Sr_frameLength_8 : decode b_Sr_frameLength 8 = .ok (.goto 14, 3) := by decide +kernel
theorem d_Sr_frameLength_11 : decode b_Sr_frameLength 11 = .ok (.aload_n 0, 1) := by decide +kernel
theorem d_Sr_frameLength_12 : decode b_Sr_frameLength 12 = .ok (.getfield 49, 3) := by decide +kernel
theorem d_Sr_frameLength_15 : decode b_Sr_frameLength 15 = .ok (.iconst 1, 1) := by decide +kernel
theorem d_Sr_frameLength_16 : decode b_Sr_frameLength 16 = .ok (.invokevirtual 52, 3) := by decide +kernel
theorem d_Sr_frameLength_19 : decode b_Sr_frameLength 19 = .ok (.bipush 6, 2) := by decide +kernel
theorem d_Sr_frameLength_21 : decode b_Sr_frameLength 21 = .ok (.iadd, 1) := by decide +kernel
theorem d_Sr_frameLength_22 : decode b_Sr_frameLength 22 = .ok (.ireturn, 1) := by decide +kernel
set_option maxRecDepth 100000 in
set_option maxHeartbeats 4000000 in
theorem c_Sr_frameLength (l : Launch) (D : va_G) (ca : Nat → ClassId) (T : ty_e) (L : List Nat) (f0 : Nat → va_E) (sz : Nat) (hT : ok_T ca T L f0) (h0 : Nat) (t0 : T h0 = some (ty_sr)) :
    Met l y_Sr_frameLength (Cond.code y_Sr_frameLength b_Sr_frameLength 1 (some .int) :: wg) { frames := 2, cells := 0, slots := 0, locals := 41 } (va_Pc [.ref h0] (sm_P D cl_all (ty_s ca) ek L f0 sz)) (sm_Qi D (ty_s ca) L f0 sz (fun r u => (True) ∧ u = (L, f0))) 0 0 (va_A (va_pl L f0) sz) := by
  refine sm_start (by decide) (Nat.le_of_ble_eq_true rfl) ?_
  intro p e s m below meth c ls hx hb hml hr hlk hnm hts hown hsz hE hI hl
  have hl : lv_has ls 1 [(0, .ref h0)] := hl
  refine lv_aload_n hx hb d_Sr_frameLength_0 rfl (lv_at hl 0 rfl) ?_
  refine sm_iP hI (va_runV (As := []) (rest := []) ⟨hx, hb, hml, hown, hts⟩ (c_Sr_isShort l D ca _ _ _ _ hT h0 t0) (kv_Sr_isShort hts rfl rfl (hts _ tw_843) ⟨Nat.le_of_ble_eq_true rfl, Nat.le_of_ble_eq_true rfl⟩) (pv_Sr hI hE hT t0) rfl rfl hl.1 rfl (lv_room (Nat.le_of_ble_eq_true rfl)) d_Sr_frameLength_1 ⟨Nat.le_of_ble_eq_true rfl, Nat.le_of_ble_eq_true rfl⟩) (fun x_1 H locs p_2 hI => ?_)
  refine lv_if_eq (tgt := 11) hx hb d_Sr_frameLength_4 (by decide) (fun c_3 => ?_) (fun c_3 => ?_)
  · refine lv_aload_n hx hb d_Sr_frameLength_11 rfl (lv_at hl 0 rfl) ?_
    refine fg_Sr_heard hx hb hts hown hI hT t0 (hts _ tw_133) (fun x9 h9 => u_same (hts _ tw_134) x9 h9) d_Sr_frameLength_12 (fun r_4 t_5 => ?_)
    refine lv_iconst (v := 1) hx hb d_Sr_frameLength_15 (by decide) ?_
    refine sm_iP hI (va_runV (As := [.int (1)]) (rest := []) ⟨hx, hb, hml, hown, hts⟩ (c_Br_at l D ca _ _ _ _ hT r_4 t_5 1) (kv_Br_at hts rfl rfl (hts _ tw_842) ⟨Nat.le_of_ble_eq_true rfl, Nat.le_of_ble_eq_true rfl⟩) (pv_Br hI hE hT t_5) rfl rfl hl.1 rfl (lv_room (Nat.le_of_ble_eq_true rfl)) d_Sr_frameLength_16 ⟨Nat.le_of_ble_eq_true rfl, Nat.le_of_ble_eq_true rfl⟩) (fun x_6 H locs p_7 hI => ?_)
    refine lv_bipush (v := 6) hx hb d_Sr_frameLength_19 (by decide) ?_
    refine lv_iadd hx hb d_Sr_frameLength_21 ?_
    refine lv_topi (fun x_8 e_9 => ?_)
    exact sm_iret hx hb hr hlk hI ⟨trivial, rfl⟩ d_Sr_frameLength_22
  · refine lv_iconst (v := 5) hx hb d_Sr_frameLength_7 (by decide) ?_
    refine lv_goto (tgt := 22) hx hb d_Sr_frameLength_8 (by decide) ?_
    exact sm_iret hx hb hr hlk hI ⟨trivial, rfl⟩ d_Sr_frameLength_22
theorem d_Sr_control_0 : decode b_Sr_control 0 = .ok (.aload_n 0, 1) := by decide +kernel
theorem d_Sr_control_1 : decode b_Sr_control 1 = .ok (.getfield 49, 3) := by decide +kernel
theorem d_Sr_control_4 : decode b_Sr_control 4 = .ok (.aload_n 0, 1) := by decide +kernel
theorem d_Sr_control_5 : decode b_Sr_control 5 = .ok (.invokevirtual 56, 3) := by decide +kernel
theorem d_Sr_control_8 : decode b_Sr_control 8 = .ok (.ifCond .eq 7, 3) := by decide +kernel
theorem d_Sr_control_11 : decode b_Sr_control 11 = .ok (.iconst 1, 1) := by decide +kernel
theorem d_Sr_control_12 : decode b_Sr_control 12 = .ok (.goto 4, 3) := by decide +kernel
theorem d_Sr_control_15 : decode b_Sr_control 15 = .ok (.iconst 4, 1) := by decide +kernel
theorem d_Sr_control_16 : decode b_Sr_control 16 = .ok (.invokevirtual 52, 3) := by decide +kernel
theorem d_Sr_control_19 : decode b_Sr_control 19 = .ok (.ireturn, 1) := by decide +kernel
set_option maxRecDepth 100000 in
set_option maxHeartbeats 4000000 in
theorem c_Sr_control (l : Launch) (D : va_G) (ca : Nat → ClassId) (T : ty_e) (L : List Nat) (f0 : Nat → va_E) (sz : Nat) (hT : ok_T ca T L f0) (h0 : Nat) (t0 : T h0 = some (ty_sr)) :
    Met l y_Sr_control (Cond.code y_Sr_control b_Sr_control 1 (some .int) :: wg) { frames := 2, cells := 0, slots := 0, locals := 41 } (va_Pc [.ref h0] (sm_P D cl_all (ty_s ca) ek L f0 sz)) (sm_Qi D (ty_s ca) L f0 sz (fun r u => (True) ∧ u = (L, f0))) 0 0 (va_A (va_pl L f0) sz) := by
  refine sm_start (by decide) (Nat.le_of_ble_eq_true rfl) ?_
  intro p e s m below meth c ls hx hb hml hr hlk hnm hts hown hsz hE hI hl
  have hl : lv_has ls 1 [(0, .ref h0)] := hl
  refine lv_aload_n hx hb d_Sr_control_0 rfl (lv_at hl 0 rfl) ?_
  refine fg_Sr_heard hx hb hts hown hI hT t0 (hts _ tw_133) (fun x9 h9 => u_same (hts _ tw_134) x9 h9) d_Sr_control_1 (fun r_1 t_2 => ?_)
  refine lv_aload_n hx hb d_Sr_control_4 rfl (lv_at hl 0 rfl) ?_
  refine sm_iP hI (va_runV (As := []) (rest := [.ref r_1]) ⟨hx, hb, hml, hown, hts⟩ (c_Sr_isShort l D ca _ _ _ _ hT h0 t0) (kv_Sr_isShort hts rfl rfl (hts _ tw_843) ⟨Nat.le_of_ble_eq_true rfl, Nat.le_of_ble_eq_true rfl⟩) (pv_Sr hI hE hT t0) rfl rfl hl.1 rfl (lv_room (Nat.le_of_ble_eq_true rfl)) d_Sr_control_5 ⟨Nat.le_of_ble_eq_true rfl, Nat.le_of_ble_eq_true rfl⟩) (fun x_3 H locs p_4 hI => ?_)
  refine lv_if_eq (tgt := 15) hx hb d_Sr_control_8 (by decide) (fun c_5 => ?_) (fun c_5 => ?_)
  · refine lv_iconst (v := 4) hx hb d_Sr_control_15 (by decide) ?_
    refine sm_iP hI (va_runV (As := [.int (4)]) (rest := []) ⟨hx, hb, hml, hown, hts⟩ (c_Br_at l D ca _ _ _ _ hT r_1 t_2 4) (kv_Br_at hts rfl rfl (hts _ tw_842) ⟨Nat.le_of_ble_eq_true rfl, Nat.le_of_ble_eq_true rfl⟩) (pv_Br hI hE hT t_2) rfl rfl hl.1 rfl (lv_room (Nat.le_of_ble_eq_true rfl)) d_Sr_control_16 ⟨Nat.le_of_ble_eq_true rfl, Nat.le_of_ble_eq_true rfl⟩) (fun x_6 H locs p_7 hI => ?_)
    exact sm_iret hx hb hr hlk hI ⟨trivial, rfl⟩ d_Sr_control_19
  · refine lv_iconst (v := 1) hx hb d_Sr_control_11 (by decide) ?_
    refine lv_goto (tgt := 16) hx hb d_Sr_control_12 (by decide) ?_
    refine sm_iP hI (va_runV (As := [.int (1)]) (rest := []) ⟨hx, hb, hml, hown, hts⟩ (c_Br_at l D ca _ _ _ _ hT r_1 t_2 1) (kv_Br_at hts rfl rfl (hts _ tw_842) ⟨Nat.le_of_ble_eq_true rfl, Nat.le_of_ble_eq_true rfl⟩) (pv_Br hI hE hT t_2) rfl rfl hl.1 rfl (lv_room (Nat.le_of_ble_eq_true rfl)) d_Sr_control_16 ⟨Nat.le_of_ble_eq_true rfl, Nat.le_of_ble_eq_true rfl⟩) (fun x_8 H locs p_9 hI => ?_)
    exact sm_iret hx hb hr hlk hI ⟨trivial, rfl⟩ d_Sr_control_19
theorem d_Sr_frameBit_0 : decode b_Sr_frameBit 0 = .ok (.aload_n 0, 1) := by decide +kernel
theorem d_Sr_frameBit_1 : decode b_Sr_frameBit 1 = .ok (.invokevirtual 71, 3) := by decide +kernel
theorem d_Sr_frameBit_4 : decode b_Sr_frameBit 4 = .ok (.bipush 32, 2) := by decide +kernel
theorem d_Sr_frameBit_6 : decode b_Sr_frameBit 6 = .ok (.iand, 1) := by decide +kernel
theorem d_Sr_frameBit_7 : decode b_Sr_frameBit 7 = .ok (.ireturn, 1) := by decide +kernel
set_option maxRecDepth 100000 in
set_option maxHeartbeats 4000000 in
theorem c_Sr_frameBit (l : Launch) (D : va_G) (ca : Nat → ClassId) (T : ty_e) (L : List Nat) (f0 : Nat → va_E) (sz : Nat) (hT : ok_T ca T L f0) (h0 : Nat) (t0 : T h0 = some (ty_sr)) :
    Met l y_Sr_frameBit (Cond.code y_Sr_frameBit b_Sr_frameBit 1 (some .int) :: wg) { frames := 3, cells := 0, slots := 0, locals := 61 } (va_Pc [.ref h0] (sm_P D cl_all (ty_s ca) ek L f0 sz)) (sm_Qi D (ty_s ca) L f0 sz (fun r u => (True) ∧ u = (L, f0))) 0 0 (va_A (va_pl L f0) sz) := by
  refine sm_start (by decide) (Nat.le_of_ble_eq_true rfl) ?_
  intro p e s m below meth c ls hx hb hml hr hlk hnm hts hown hsz hE hI hl
  have hl : lv_has ls 1 [(0, .ref h0)] := hl
  refine lv_aload_n hx hb d_Sr_frameBit_0 rfl (lv_at hl 0 rfl) ?_
  refine sm_iP hI (va_runV (As := []) (rest := []) ⟨hx, hb, hml, hown, hts⟩ (c_Sr_control l D ca _ _ _ _ hT h0 t0) (kv_Sr_control hts rfl rfl (hts _ tw_876) ⟨Nat.le_of_ble_eq_true rfl, Nat.le_of_ble_eq_true rfl⟩) (pv_Sr hI hE hT t0) rfl rfl hl.1 rfl (lv_room (Nat.le_of_ble_eq_true rfl)) d_Sr_frameBit_1 ⟨Nat.le_of_ble_eq_true rfl, Nat.le_of_ble_eq_true rfl⟩) (fun x_1 H locs p_2 hI => ?_)
  refine lv_bipush (v := 32) hx hb d_Sr_frameBit_4 (by decide) ?_
  refine lv_iand hx hb d_Sr_frameBit_6 ?_
  refine lv_topi (fun x_3 e_4 => ?_)
  exact sm_iret hx hb hr hlk hI ⟨trivial, rfl⟩ d_Sr_frameBit_7
theorem d_Sr_isRepeated_0 : decode b_Sr_isRepeated 0 = .ok (.aload_n 0, 1) := by decide +kernel
theorem d_Sr_isRepeated_1 : decode b_Sr_isRepeated 1 = .ok (.invokevirtual 74, 3) := by decide +kernel
theorem d_Sr_isRepeated_4 : decode b_Sr_isRepeated 4 = .ok (.aload_n 0, 1) := by decide +kernel
theorem d_Sr_isRepeated_5 : decode b_Sr_isRepeated 5 = .ok (.getfield 43, 3) := by decide +kernel
theorem d_Sr_isRepeated_8 : decode b_Sr_isRepeated 8 = .ok (.if_icmp .ne 7, 3) := by decide +kernel
theorem d_Sr_isRepeated_11 : decode b_Sr_isRepeated 11 = .ok (.iconst 1, 1) := by decide +kernel
theorem d_Sr_isRepeated_12 : decode b_Sr_isRepeated 12 = .ok (.goto 4, 3) := by decide +kernel
theorem d_Sr_isRepeated_15 : decode b_Sr_isRepeated 15 = .ok (.iconst 0, 1) := by decide +kernel
theorem d_Sr_isRepeated_16 : decode b_Sr_isRepeated 16 = .ok (.ireturn, 1) := by decide +kernel
set_option maxRecDepth 100000 in
set_option maxHeartbeats 4000000 in
theorem c_Sr_isRepeated (l : Launch) (D : va_G) (ca : Nat → ClassId) (T : ty_e) (L : List Nat) (f0 : Nat → va_E) (sz : Nat) (hT : ok_T ca T L f0) (h0 : Nat) (t0 : T h0 = some (ty_sr)) :
    Met l y_Sr_isRepeated (Cond.code y_Sr_isRepeated b_Sr_isRepeated 1 (some .boolean) :: wg) { frames := 4, cells := 0, slots := 0, locals := 81 } (va_Pc [.ref h0] (sm_P D cl_all (ty_s ca) ek L f0 sz)) (sm_Qi D (ty_s ca) L f0 sz (fun r u => (r = 0 ∨ r = 1) ∧ u = (L, f0))) 0 0 (va_A (va_pl L f0) sz) := by
  refine sm_start (by decide) (Nat.le_of_ble_eq_true rfl) ?_
  intro p e s m below meth c ls hx hb hml hr hlk hnm hts hown hsz hE hI hl
  have hl : lv_has ls 1 [(0, .ref h0)] := hl
  refine lv_aload_n hx hb d_Sr_isRepeated_0 rfl (lv_at hl 0 rfl) ?_
  refine sm_iP hI (va_runV (As := []) (rest := []) ⟨hx, hb, hml, hown, hts⟩ (c_Sr_frameBit l D ca _ _ _ _ hT h0 t0) (kv_Sr_frameBit hts rfl rfl (hts _ tw_888) ⟨Nat.le_of_ble_eq_true rfl, Nat.le_of_ble_eq_true rfl⟩) (pv_Sr hI hE hT t0) rfl rfl hl.1 rfl (lv_room (Nat.le_of_ble_eq_true rfl)) d_Sr_isRepeated_1 ⟨Nat.le_of_ble_eq_true rfl, Nat.le_of_ble_eq_true rfl⟩) (fun x_1 H locs p_2 hI => ?_)
  refine lv_aload_n hx hb d_Sr_isRepeated_4 rfl (lv_at hl 0 rfl) ?_
  refine fg_Sr_latestBit hx hb hts hown hI hT t0 (hts _ tw_113) (fun _ h9 => h9) d_Sr_isRepeated_5 (fun x_3 => ?_)
  refine lv_icmp_ne (tgt := 15) hx hb d_Sr_isRepeated_8 (by decide) (fun c_4 => ?_) (fun c_4 => ?_)
  · refine lv_iconst (v := 0) hx hb d_Sr_isRepeated_15 (by decide) ?_
    exact sm_zret hx hb hr hlk hI (by decide) ⟨(by decide), rfl⟩ d_Sr_isRepeated_16
  · refine lv_iconst (v := 1) hx hb d_Sr_isRepeated_11 (by decide) ?_
    refine lv_goto (tgt := 16) hx hb d_Sr_isRepeated_12 (by decide) ?_
    exact sm_zret hx hb hr hlk hI (by decide) ⟨(by decide), rfl⟩ d_Sr_isRepeated_16
theorem d_Sr_isWholeFrame_0 : decode b_Sr_isWholeFrame 0 = .ok (.aload_n 0, 1) := by decide +kernel
theorem d_Sr_isWholeFrame_1 : decode b_Sr_isWholeFrame 1 = .ok (.getfield 49, 3) := by decide +kernel
theorem d_Sr_isWholeFrame_4 : decode b_Sr_isWholeFrame 4 = .ok (.getfield 60, 3) := by decide +kernel
theorem d_Sr_isWholeFrame_7 : decode b_Sr_isWholeFrame 7 = .ok (.aload_n 0, 1) := by decide +kernel
theorem d_Sr_isWholeFrame_8 : decode b_Sr_isWholeFrame 8 = .ok (.invokevirtual 63, 3) := by decide +kernel
theorem d_Sr_isWholeFrame_11 : decode b_Sr_isWholeFrame 11 = .ok (.if_icmp .ne 7, 3) := by decide +kernel
theorem d_Sr_isWholeFrame_14 : decode b_Sr_isWholeFrame 14 = .ok (.iconst 1, 1) := by decide +kernel
theorem d_Sr_isWholeFrame_15 : decode b_Sr_isWholeFrame 15 = .ok (.goto 4, 3) := by decide +kernel
theorem d_Sr_isWholeFrame_18 : decode b_Sr_isWholeFrame 18 = .ok (.iconst 0, 1) := by decide +kernel
theorem d_Sr_isWholeFrame_19 : decode b_Sr_isWholeFrame 19 = .ok (.ireturn, 1) := by decide +kernel
set_option maxRecDepth 100000 in
set_option maxHeartbeats 4000000 in
theorem c_Sr_isWholeFrame (l : Launch) (D : va_G) (ca : Nat → ClassId) (T : ty_e) (L : List Nat) (f0 : Nat → va_E) (sz : Nat) (hT : ok_T ca T L f0) (h0 : Nat) (t0 : T h0 = some (ty_sr)) :
    Met l y_Sr_isWholeFrame (Cond.code y_Sr_isWholeFrame b_Sr_isWholeFrame 1 (some .boolean) :: wg) { frames := 3, cells := 0, slots := 0, locals := 61 } (va_Pc [.ref h0] (sm_P D cl_all (ty_s ca) ek L f0 sz)) (sm_Qi D (ty_s ca) L f0 sz (fun r u => (r = 0 ∨ r = 1) ∧ u = (L, f0))) 0 0 (va_A (va_pl L f0) sz) := by
  refine sm_start (by decide) (Nat.le_of_ble_eq_true rfl) ?_
  intro p e s m below meth c ls hx hb hml hr hlk hnm hts hown hsz hE hI hl
  have hl : lv_has ls 1 [(0, .ref h0)] := hl
  refine lv_aload_n hx hb d_Sr_isWholeFrame_0 rfl (lv_at hl 0 rfl) ?_
  refine fg_Sr_heard hx hb hts hown hI hT t0 (hts _ tw_133) (fun x9 h9 => u_same (hts _ tw_134) x9 h9) d_Sr_isWholeFrame_1 (fun r_1 t_2 => ?_)
  refine fgN_Br_length hx hb hts hown hI hT t_2 (va_Nw.use rfl (hE.1 _ tn_50 rfl)) (fun _ h9 => h9) d_Sr_isWholeFrame_4 (fun n_3 h_4 => ?_)
  refine lv_aload_n hx hb d_Sr_isWholeFrame_7 rfl (lv_at hl 0 rfl) ?_
  refine sm_iP hI (va_runV (As := []) (rest := [.int (nI n_3)]) ⟨hx, hb, hml, hown, hts⟩ (c_Sr_frameLength l D ca _ _ _ _ hT h0 t0) (kv_Sr_frameLength hts rfl rfl (hts _ tw_847) ⟨Nat.le_of_ble_eq_true rfl, Nat.le_of_ble_eq_true rfl⟩) (pv_Sr hI hE hT t0) rfl rfl hl.1 rfl (lv_room (Nat.le_of_ble_eq_true rfl)) d_Sr_isWholeFrame_8 ⟨Nat.le_of_ble_eq_true rfl, Nat.le_of_ble_eq_true rfl⟩) (fun x_5 H locs p_6 hI => ?_)
  refine lv_icmp_ne (tgt := 18) hx hb d_Sr_isWholeFrame_11 (by decide) (fun c_7 => ?_) (fun c_7 => ?_)
  · refine lv_iconst (v := 0) hx hb d_Sr_isWholeFrame_18 (by decide) ?_
    exact sm_zret hx hb hr hlk hI (by decide) ⟨(by decide), rfl⟩ d_Sr_isWholeFrame_19
  · refine lv_iconst (v := 1) hx hb d_Sr_isWholeFrame_14 (by decide) ?_
    refine lv_goto (tgt := 19) hx hb d_Sr_isWholeFrame_15 (by decide) ?_
    exact sm_zret hx hb hr hlk hI (by decide) ⟨(by decide), rfl⟩ d_Sr_isWholeFrame_19
theorem d_Sr_functionHeard_0 : decode b_Sr_functionHeard 0 = .ok (.aload_n 0, 1) := by decide +kernel
theorem d_Sr_functionHeard_1 : decode b_Sr_functionHeard 1 = .ok (.invokevirtual 71, 3) := by decide +kernel
theorem d_Sr_functionHeard_4 : decode b_Sr_functionHeard 4 = .ok (.bipush 15, 2) := by decide +kernel
theorem d_Sr_functionHeard_6 : decode b_Sr_functionHeard 6 = .ok (.iand, 1) := by decide +kernel
theorem d_Sr_functionHeard_7 : decode b_Sr_functionHeard 7 = .ok (.istore_n 1, 1) := by decide +kernel
theorem d_Sr_functionHeard_8 : decode b_Sr_functionHeard 8 = .ok (.iload_n 1, 1) := by decide +kernel
theorem d_Sr_functionHeard_9 : decode b_Sr_functionHeard 9 = .ok (.iconst 3, 1) := by decide +kernel
theorem d_Sr_functionHeard_10 : decode b_Sr_functionHeard 10 = .ok (.if_icmp .eq 8, 3) := by decide +kernel
theorem d_Sr_functionHeard_13 : decode b_Sr_functionHeard 13 = .ok (.iload_n 1, 1) := by decide +kernel
theorem d_Sr_functionHeard_14 : decode b_Sr_functionHeard 14 = .ok (.iconst 4, 1) := by decide +kernel
theorem d_Sr_functionHeard_15 : decode b_Sr_functionHeard 15 = .ok (.if_icmp .ne 7, 3) := by decide +kernel
theorem d_Sr_functionHeard_18 : decode b_Sr_functionHeard 18 = .ok (.iconst 1, 1) := by decide +kernel
theorem d_Sr_functionHeard_19 : decode b_Sr_functionHeard 19 = .ok (.goto 4, 3) := by decide +kernel
theorem d_Sr_functionHeard_22 : decode b_Sr_functionHeard 22 = .ok (.iconst 0, 1) := by decide +kernel
theorem d_Sr_functionHeard_23 : decode b_Sr_functionHeard 23 = .ok (.istore_n 2, 1) := by decide +kernel
theorem d_Sr_functionHeard_24 : decode b_Sr_functionHeard 24 = .ok (.iload_n 1, 1) := by decide +kernel
theorem d_Sr_functionHeard_25 : decode b_Sr_functionHeard 25 = .ok (.ifCond .eq 9, 3) := by decide +kernel
theorem d_Sr_functionHeard_28 : decode b_Sr_functionHeard 28 = .ok (.iload_n 1, 1) := by decide +kernel
theorem d_Sr_functionHeard_29 : decode b_Sr_functionHeard 29 = .ok (.bipush 9, 2) := by decide +kernel
theorem d_Sr_functionHeard_31 : decode b_Sr_functionHeard 31 = .ok (.if_icmp .ne 7, 3) := by decide +kernel
theorem d_Sr_functionHeard_34 : decode b_Sr_functionHeard 34 = .ok (.iconst 1, 1) := by decide +kernel
theorem d_Sr_functionHeard_35 : decode b_Sr_functionHeard 35 = .ok (.goto 4, 3) := by decide +kernel
theorem d_Sr_functionHeard_38 : decode b_Sr_functionHeard 38 = .ok (.iconst 0, 1) := by decide +kernel
theorem d_Sr_functionHeard_39 : decode b_Sr_functionHeard 39 = .ok (.istore_n 3, 1) := by decide +kernel
theorem d_Sr_functionHeard_40 : decode b_Sr_functionHeard 40 = .ok (.aload_n 0, 1) := by decide +kernel
theorem d_Sr_functionHeard_41 : decode b_Sr_functionHeard 41 = .ok (.invokevirtual 71, 3) := by decide +kernel
theorem d_Sr_functionHeard_44 : decode b_Sr_functionHeard 44 = .ok (.bipush 64, 2) := by decide +kernel
theorem d_Sr_functionHeard_46 : decode b_Sr_functionHeard 46 = .ok (.iand, 1) := by decide +kernel
theorem d_Sr_functionHeard_47 : decode b_Sr_functionHeard 47 = .ok (.ifCond .eq 37, 3) := by decide +kernel
theorem d_Sr_functionHeard_50 : decode b_Sr_functionHeard 50 = .ok (.aload_n 0, 1) := by decide +kernel
theorem d_Sr_functionHeard_51 : decode b_Sr_functionHeard 51 = .ok (.getfield 49, 3) := by decide +kernel
theorem d_Sr_functionHeard_54 : decode b_Sr_functionHeard 54 = .ok (.aload_n 0, 1) := by decide +kernel
theorem d_Sr_functionHeard_55 : decode b_Sr_functionHeard 55 = .ok (.invokevirtual 56, 3) := by decide +kernel
theorem d_Sr_functionHeard_58 : decode b_Sr_functionHeard 58 = .ok (.ifCond .eq 7, 3) := by decide +kernel
theorem d_Sr_functionHeard_61 : decode b_Sr_functionHeard 61 = .ok (.iconst 2, 1) := by decide +kernel
theorem d_Sr_functionHeard_62 : decode b_Sr_functionHeard 62 = .ok (.goto 4, 3) := by decide +kernel
theorem d_Sr_functionHeard_65 : decode b_Sr_functionHeard 65 = .ok (.iconst 5, 1) := by decide +kernel
theorem d_Sr_functionHeard_66 : decode b_Sr_functionHeard 66 = .ok (.invokevirtual 52, 3) := by decide +kernel
theorem d_Sr_functionHeard_69 : decode b_Sr_functionHeard 69 = .ok (.aload_n 0, 1) := by decide +kernel
theorem d_Sr_functionHeard_70 : decode b_Sr_functionHeard 70 = .ok (.getfield 31, 3) := by decide +kernel
theorem d_Sr_functionHeard_73 : decode b_Sr_functionHeard 73 = .ok (.if_icmp .ne 11, 3) := by decide +kernel
theorem d_Sr_functionHeard_76 : decode b_Sr_functionHeard 76 = .ok (.iload_n 2, 1) := by decide +kernel
theorem d_Sr_functionHeard_77 : decode b_Sr_functionHeard 77 = .ok (.aload_n 0, 1) := by decide +kernel
theorem d_Sr_functionHeard_78 : decode b_Sr_functionHeard 78 = .ok (.invokevirtual 56, 3) := by decide +kernel
theorem d_Sr_functionHeard_81 : decode b_Sr_functionHeard 81 = .ok (.if_icmp .ne 5, 3) := by decide +kernel
theorem d_Sr_functionHeard_84 : decode b_Sr_functionHeard 84 = .ok (.iconst (-1), 1) := by decide +kernel
theorem d_Sr_functionHeard_85 : decode b_Sr_functionHeard 85 = .ok (.ireturn, 1) := by decide +kernel
theorem d_Sr_functionHeard_86 : decode b_Sr_functionHeard 86 = .ok (.aload_n 0, 1) := by decide +kernel
theorem d_Sr_functionHeard_87 : decode b_Sr_functionHeard 87 = .ok (.getfield 27, 3) := by decide +kernel
theorem d_Sr_functionHeard_90 : decode b_Sr_functionHeard 90 = .ok (.iconst 2, 1) := by decide +kernel
theorem d_Sr_functionHeard_91 : decode b_Sr_functionHeard 91 = .ok (.if_icmp .eq 7, 3) := by decide +kernel
theorem d_Sr_functionHeard_94 : decode b_Sr_functionHeard 94 = .ok (.iload_n 3, 1) := by decide +kernel
theorem d_Sr_functionHeard_95 : decode b_Sr_functionHeard 95 = .ok (.ifCond .eq 20, 3) := by decide +kernel
theorem d_Sr_functionHeard_98 : decode b_Sr_functionHeard 98 = .ok (.iload_n 1, 1) := by decide +kernel
theorem d_Sr_functionHeard_99 : decode b_Sr_functionHeard 99 = .ok (.invokestatic 77, 3) := by decide +kernel
theorem d_Sr_functionHeard_102 : decode b_Sr_functionHeard 102 = .ok (.ifCond .eq 15, 3) := by decide +kernel
theorem d_Sr_functionHeard_105 : decode b_Sr_functionHeard 105 = .ok (.aload_n 0, 1) := by decide +kernel
theorem d_Sr_functionHeard_106 : decode b_Sr_functionHeard 106 = .ok (.invokevirtual 71, 3) := by decide +kernel
theorem d_Sr_functionHeard_109 : decode b_Sr_functionHeard 109 = .ok (.bipush 16, 2) := by decide +kernel
theorem d_Sr_functionHeard_111 : decode b_Sr_functionHeard 111 = .ok (.iand, 1) := by decide +kernel
theorem d_Sr_functionHeard_112 : decode b_Sr_functionHeard 112 = .ok (.ifCond .ne 5, 3) := by decide +kernel
theorem d_Sr_functionHeard_115 : decode b_Sr_functionHeard 115 = .ok (.iconst (-1), 1) := by decide +kernel
theorem d_Sr_functionHeard_116 : decode b_Sr_functionHeard 116 = .ok (.ireturn, 1) := by decide +kernel
theorem d_Sr_functionHeard_117 : decode b_Sr_functionHeard 117 = .ok (.iload_n 1, 1) := by decide +kernel
theorem d_Sr_functionHeard_118 : decode b_Sr_functionHeard 118 = .ok (.ireturn, 1) := by decide +kernel
set_option maxRecDepth 100000 in
set_option maxHeartbeats 4000000 in
theorem c_Sr_functionHeard (l : Launch) (D : va_G) (ca : Nat → ClassId) (T : ty_e) (L : List Nat) (f0 : Nat → va_E) (sz : Nat) (hT : ok_T ca T L f0) (h0 : Nat) (t0 : T h0 = some (ty_sr)) :
    Met l y_Sr_functionHeard (Cond.code y_Sr_functionHeard b_Sr_functionHeard 4 (some .int) :: wg) { frames := 3, cells := 0, slots := 0, locals := 61 } (va_Pc [.ref h0] (sm_P D cl_all (ty_s ca) ek L f0 sz)) (sm_Qi D (ty_s ca) L f0 sz (fun r u => (True) ∧ u = (L, f0))) 0 0 (va_A (va_pl L f0) sz) := by
  refine sm_start (by decide) (Nat.le_of_ble_eq_true rfl) ?_
  intro p e s m below meth c ls hx hb hml hr hlk hnm hts hown hsz hE hI hl
  have hl : lv_has ls 4 [(0, .ref h0)] := hl
  have hJ_98 : ∀ (H : Heap) (locs : List Loc) (ls : Array Slot) (y1 : Int32) (y2 : Int32) (y3 : Int32), sw_I D cl_all (ty_s ca) (va_A (va_pl L f0) sz) s H locs L f0 → lv_has ls 4 [(0, .ref h0), (1, .int (y1)), (2, .int (y2)), (3, .int (y3))] → (y2 = 0 ∨ y2 = 1) → (y3 = 0 ∨ y3 = 1) → W p l e { frames := 3, cells := 0, slots := 0, locals := 61 } s m ([.ref h0] : List Value).toArray below meth c H locs 0 0 (MQ below (sm_Qi D (ty_s ca) L f0 sz (fun r u => (True) ∧ u = (L, f0))) ([.ref h0] : List Value).toArray s 0 0 (va_A (va_pl L f0) sz)) (F0 m 98 ls []) := by
    intro H locs ls y1 y2 y3 hI hl py2 py3
    refine lv_iload_n hx hb d_Sr_functionHeard_98 rfl (lv_at hl 1 rfl) ?_
    refine sm_iP hI (va_runSN (As := [.int (y1)]) (rest := []) ⟨hx, hb, hml, hown, hts⟩ (c_Po_isCounted l D ca _ _ _ _ hT y1) ⟨va_cnB 1 hts (wg_in0 tw_882) rfl rfl rfl (hE.1 _ tn_880 rfl) (hts _ tw_1) (by decide +kernel) ⟨Nat.le_of_ble_eq_true rfl, Nat.le_of_ble_eq_true rfl⟩, hts _ tw_881, trivial⟩ (sm_preS hI hE) rfl rfl hl.1 rfl (lv_room (Nat.le_of_ble_eq_true rfl)) d_Sr_functionHeard_99 ⟨Nat.le_of_ble_eq_true rfl, Nat.le_of_ble_eq_true rfl⟩) (fun x_1 H locs p_2 hI => ?_)
    refine lv_if_eq (tgt := 117) hx hb d_Sr_functionHeard_102 (by decide) (fun c_3 => ?_) (fun c_3 => ?_)
    · refine lv_iload_n hx hb d_Sr_functionHeard_117 rfl (lv_at hl 1 rfl) ?_
      exact sm_iret hx hb hr hlk hI ⟨trivial, rfl⟩ d_Sr_functionHeard_118
    · refine lv_aload_n hx hb d_Sr_functionHeard_105 rfl (lv_at hl 0 rfl) ?_
      refine sm_iP hI (va_runV (As := []) (rest := []) ⟨hx, hb, hml, hown, hts⟩ (c_Sr_control l D ca _ _ _ _ hT h0 t0) (kv_Sr_control hts rfl rfl (hts _ tw_876) ⟨Nat.le_of_ble_eq_true rfl, Nat.le_of_ble_eq_true rfl⟩) (pv_Sr hI hE hT t0) rfl rfl hl.1 rfl (lv_room (Nat.le_of_ble_eq_true rfl)) d_Sr_functionHeard_106 ⟨Nat.le_of_ble_eq_true rfl, Nat.le_of_ble_eq_true rfl⟩) (fun x_4 H locs p_5 hI => ?_)
      refine lv_bipush (v := 16) hx hb d_Sr_functionHeard_109 (by decide) ?_
      refine lv_iand hx hb d_Sr_functionHeard_111 ?_
      refine lv_topi (fun x_6 e_7 => ?_)
      refine lv_if_ne (tgt := 117) hx hb d_Sr_functionHeard_112 (by decide) (fun c_8 => ?_) (fun c_8 => ?_)
      · refine lv_iload_n hx hb d_Sr_functionHeard_117 rfl (lv_at hl 1 rfl) ?_
        exact sm_iret hx hb hr hlk hI ⟨trivial, rfl⟩ d_Sr_functionHeard_118
      · refine lv_iconst (v := -1) hx hb d_Sr_functionHeard_115 (by decide) ?_
        exact sm_iret hx hb hr hlk hI ⟨trivial, rfl⟩ d_Sr_functionHeard_116
  have hJ_66 : ∀ (H : Heap) (locs : List Loc) (ls : Array Slot) (y1 : Int32) (y2 : Int32) (y3 : Int32) (z0 : Nat) (z1 : Int32), sw_I D cl_all (ty_s ca) (va_A (va_pl L f0) sz) s H locs L f0 → lv_has ls 4 [(0, .ref h0), (1, .int (y1)), (2, .int (y2)), (3, .int (y3))] → (y2 = 0 ∨ y2 = 1) → (y3 = 0 ∨ y3 = 1) → (T z0 = some (ty_row 4145)) → W p l e { frames := 3, cells := 0, slots := 0, locals := 61 } s m ([.ref h0] : List Value).toArray below meth c H locs 0 0 (MQ below (sm_Qi D (ty_s ca) L f0 sz (fun r u => (True) ∧ u = (L, f0))) ([.ref h0] : List Value).toArray s 0 0 (va_A (va_pl L f0) sz)) (F0 m 66 ls [.int (z1), .ref z0]) := by
    intro H locs ls y1 y2 y3 z0 z1 hI hl py2 py3 tz0
    refine sm_iP hI (va_runV (As := [.int (z1)]) (rest := []) ⟨hx, hb, hml, hown, hts⟩ (c_Br_at l D ca _ _ _ _ hT z0 tz0 z1) (kv_Br_at hts rfl rfl (hts _ tw_842) ⟨Nat.le_of_ble_eq_true rfl, Nat.le_of_ble_eq_true rfl⟩) (pv_Br hI hE hT tz0) rfl rfl hl.1 rfl (lv_room (Nat.le_of_ble_eq_true rfl)) d_Sr_functionHeard_66 ⟨Nat.le_of_ble_eq_true rfl, Nat.le_of_ble_eq_true rfl⟩) (fun x_9 H locs p_10 hI => ?_)
    refine lv_aload_n hx hb d_Sr_functionHeard_69 rfl (lv_at hl 0 rfl) ?_
    refine fg_Sr_address hx hb hts hown hI hT t0 (hts _ tw_111) (fun _ h9 => h9) d_Sr_functionHeard_70 (fun x_11 => ?_)
    refine lv_icmp_ne (tgt := 84) hx hb d_Sr_functionHeard_73 (by decide) (fun c_12 => ?_) (fun c_12 => ?_)
    · refine lv_iconst (v := -1) hx hb d_Sr_functionHeard_84 (by decide) ?_
      exact sm_iret hx hb hr hlk hI ⟨trivial, rfl⟩ d_Sr_functionHeard_85
    · refine lv_iload_n hx hb d_Sr_functionHeard_76 rfl (lv_at hl 2 rfl) ?_
      refine lv_aload_n hx hb d_Sr_functionHeard_77 rfl (lv_at hl 0 rfl) ?_
      refine sm_iP hI (va_runV (As := []) (rest := [.int (y2)]) ⟨hx, hb, hml, hown, hts⟩ (c_Sr_isShort l D ca _ _ _ _ hT h0 t0) (kv_Sr_isShort hts rfl rfl (hts _ tw_843) ⟨Nat.le_of_ble_eq_true rfl, Nat.le_of_ble_eq_true rfl⟩) (pv_Sr hI hE hT t0) rfl rfl hl.1 rfl (lv_room (Nat.le_of_ble_eq_true rfl)) d_Sr_functionHeard_78 ⟨Nat.le_of_ble_eq_true rfl, Nat.le_of_ble_eq_true rfl⟩) (fun x_13 H locs p_14 hI => ?_)
      refine lv_icmp_ne (tgt := 86) hx hb d_Sr_functionHeard_81 (by decide) (fun c_15 => ?_) (fun c_15 => ?_)
      · refine lv_aload_n hx hb d_Sr_functionHeard_86 rfl (lv_at hl 0 rfl) ?_
        refine fg_Sr_state hx hb hts hown hI hT t0 (hts _ tw_144) (fun x9 h9 => u_same (hts _ tw_145) x9 h9) d_Sr_functionHeard_87 (fun x_16 => ?_)
        refine lv_iconst (v := 2) hx hb d_Sr_functionHeard_90 (by decide) ?_
        refine lv_icmp_eq (tgt := 98) hx hb d_Sr_functionHeard_91 (by decide) (fun c_17 => ?_) (fun c_17 => ?_)
        · exact hJ_98 _ _ _ y1 y2 y3 hI (lv_sub hl [0, 1, 2, 3] rfl) py2 py3
        · refine lv_iload_n hx hb d_Sr_functionHeard_94 rfl (lv_at hl 3 rfl) ?_
          refine lv_if_eq (tgt := 115) hx hb d_Sr_functionHeard_95 (by decide) (fun c_18 => ?_) (fun c_18 => ?_)
          · refine lv_iconst (v := -1) hx hb d_Sr_functionHeard_115 (by decide) ?_
            exact sm_iret hx hb hr hlk hI ⟨trivial, rfl⟩ d_Sr_functionHeard_116
          · exact hJ_98 _ _ _ y1 y2 y3 hI (lv_sub hl [0, 1, 2, 3] rfl) py2 py3
      · refine lv_iconst (v := -1) hx hb d_Sr_functionHeard_84 (by decide) ?_
        exact sm_iret hx hb hr hlk hI ⟨trivial, rfl⟩ d_Sr_functionHeard_85
  have hJ_39 : ∀ (H : Heap) (locs : List Loc) (ls : Array Slot) (y1 : Int32) (y2 : Int32) (z0 : Int32), sw_I D cl_all (ty_s ca) (va_A (va_pl L f0) sz) s H locs L f0 → lv_has ls 4 [(0, .ref h0), (1, .int (y1)), (2, .int (y2))] → (y2 = 0 ∨ y2 = 1) → (z0 = 0 ∨ z0 = 1) → W p l e { frames := 3, cells := 0, slots := 0, locals := 61 } s m ([.ref h0] : List Value).toArray below meth c H locs 0 0 (MQ below (sm_Qi D (ty_s ca) L f0 sz (fun r u => (True) ∧ u = (L, f0))) ([.ref h0] : List Value).toArray s 0 0 (va_A (va_pl L f0) sz)) (F0 m 39 ls [.int (z0)]) := by
    intro H locs ls y1 y2 z0 hI hl py2 pz0
    refine lv_istore_n (lv' := [(3, .int (z0)), (0, .ref h0), (1, .int (y1)), (2, .int (y2))]) hx hb d_Sr_functionHeard_39 rfl hl (by decide) rfl (fun ls hl => ?_)
    refine lv_aload_n hx hb d_Sr_functionHeard_40 rfl (lv_at hl 1 rfl) ?_
    refine sm_iP hI (va_runV (As := []) (rest := []) ⟨hx, hb, hml, hown, hts⟩ (c_Sr_control l D ca _ _ _ _ hT h0 t0) (kv_Sr_control hts rfl rfl (hts _ tw_876) ⟨Nat.le_of_ble_eq_true rfl, Nat.le_of_ble_eq_true rfl⟩) (pv_Sr hI hE hT t0) rfl rfl hl.1 rfl (lv_room (Nat.le_of_ble_eq_true rfl)) d_Sr_functionHeard_41 ⟨Nat.le_of_ble_eq_true rfl, Nat.le_of_ble_eq_true rfl⟩) (fun x_19 H locs p_20 hI => ?_)
    refine lv_bipush (v := 64) hx hb d_Sr_functionHeard_44 (by decide) ?_
    refine lv_iand hx hb d_Sr_functionHeard_46 ?_
    refine lv_topi (fun x_21 e_22 => ?_)
    refine lv_if_eq (tgt := 84) hx hb d_Sr_functionHeard_47 (by decide) (fun c_23 => ?_) (fun c_23 => ?_)
    · refine lv_iconst (v := -1) hx hb d_Sr_functionHeard_84 (by decide) ?_
      exact sm_iret hx hb hr hlk hI ⟨trivial, rfl⟩ d_Sr_functionHeard_85
    · refine lv_aload_n hx hb d_Sr_functionHeard_50 rfl (lv_at hl 1 rfl) ?_
      refine fg_Sr_heard hx hb hts hown hI hT t0 (hts _ tw_133) (fun x9 h9 => u_same (hts _ tw_134) x9 h9) d_Sr_functionHeard_51 (fun r_24 t_25 => ?_)
      refine lv_aload_n hx hb d_Sr_functionHeard_54 rfl (lv_at hl 1 rfl) ?_
      refine sm_iP hI (va_runV (As := []) (rest := [.ref r_24]) ⟨hx, hb, hml, hown, hts⟩ (c_Sr_isShort l D ca _ _ _ _ hT h0 t0) (kv_Sr_isShort hts rfl rfl (hts _ tw_843) ⟨Nat.le_of_ble_eq_true rfl, Nat.le_of_ble_eq_true rfl⟩) (pv_Sr hI hE hT t0) rfl rfl hl.1 rfl (lv_room (Nat.le_of_ble_eq_true rfl)) d_Sr_functionHeard_55 ⟨Nat.le_of_ble_eq_true rfl, Nat.le_of_ble_eq_true rfl⟩) (fun x_26 H locs p_27 hI => ?_)
      refine lv_if_eq (tgt := 65) hx hb d_Sr_functionHeard_58 (by decide) (fun c_28 => ?_) (fun c_28 => ?_)
      · refine lv_iconst (v := 5) hx hb d_Sr_functionHeard_65 (by decide) ?_
        exact hJ_66 _ _ _ y1 y2 z0 r_24 5 hI (lv_sub hl [1, 2, 3, 0] rfl) py2 pz0 t_25
      · refine lv_iconst (v := 2) hx hb d_Sr_functionHeard_61 (by decide) ?_
        refine lv_goto (tgt := 66) hx hb d_Sr_functionHeard_62 (by decide) ?_
        exact hJ_66 _ _ _ y1 y2 z0 r_24 2 hI (lv_sub hl [1, 2, 3, 0] rfl) py2 pz0 t_25
  have hJ_34 : ∀ (H : Heap) (locs : List Loc) (ls : Array Slot) (y1 : Int32) (y2 : Int32), sw_I D cl_all (ty_s ca) (va_A (va_pl L f0) sz) s H locs L f0 → lv_has ls 4 [(0, .ref h0), (1, .int (y1)), (2, .int (y2))] → (y2 = 0 ∨ y2 = 1) → W p l e { frames := 3, cells := 0, slots := 0, locals := 61 } s m ([.ref h0] : List Value).toArray below meth c H locs 0 0 (MQ below (sm_Qi D (ty_s ca) L f0 sz (fun r u => (True) ∧ u = (L, f0))) ([.ref h0] : List Value).toArray s 0 0 (va_A (va_pl L f0) sz)) (F0 m 34 ls []) := by
    intro H locs ls y1 y2 hI hl py2
    refine lv_iconst (v := 1) hx hb d_Sr_functionHeard_34 (by decide) ?_
    refine lv_goto (tgt := 39) hx hb d_Sr_functionHeard_35 (by decide) ?_
    exact hJ_39 _ _ _ y1 y2 1 hI (lv_sub hl [0, 1, 2] rfl) py2 (by decide)
  have hJ_23 : ∀ (H : Heap) (locs : List Loc) (ls : Array Slot) (y1 : Int32) (z0 : Int32), sw_I D cl_all (ty_s ca) (va_A (va_pl L f0) sz) s H locs L f0 → lv_has ls 4 [(0, .ref h0), (1, .int (y1))] → (z0 = 0 ∨ z0 = 1) → W p l e { frames := 3, cells := 0, slots := 0, locals := 61 } s m ([.ref h0] : List Value).toArray below meth c H locs 0 0 (MQ below (sm_Qi D (ty_s ca) L f0 sz (fun r u => (True) ∧ u = (L, f0))) ([.ref h0] : List Value).toArray s 0 0 (va_A (va_pl L f0) sz)) (F0 m 23 ls [.int (z0)]) := by
    intro H locs ls y1 z0 hI hl pz0
    refine lv_istore_n (lv' := [(2, .int (z0)), (0, .ref h0), (1, .int (y1))]) hx hb d_Sr_functionHeard_23 rfl hl (by decide) rfl (fun ls hl => ?_)
    refine lv_iload_n hx hb d_Sr_functionHeard_24 rfl (lv_at hl 2 rfl) ?_
    refine lv_if_eq (tgt := 34) hx hb d_Sr_functionHeard_25 (by decide) (fun c_29 => ?_) (fun c_29 => ?_)
    · exact hJ_34 _ _ _ y1 z0 hI (lv_sub hl [1, 2, 0] rfl) pz0
    · refine lv_iload_n hx hb d_Sr_functionHeard_28 rfl (lv_at hl 2 rfl) ?_
      refine lv_bipush (v := 9) hx hb d_Sr_functionHeard_29 (by decide) ?_
      refine lv_icmp_ne (tgt := 38) hx hb d_Sr_functionHeard_31 (by decide) (fun c_30 => ?_) (fun c_30 => ?_)
      · refine lv_iconst (v := 0) hx hb d_Sr_functionHeard_38 (by decide) ?_
        exact hJ_39 _ _ _ y1 z0 0 hI (lv_sub hl [1, 2, 0] rfl) pz0 (by decide)
      · exact hJ_34 _ _ _ y1 z0 hI (lv_sub hl [1, 2, 0] rfl) pz0
  have hJ_18 : ∀ (H : Heap) (locs : List Loc) (ls : Array Slot) (y1 : Int32), sw_I D cl_all (ty_s ca) (va_A (va_pl L f0) sz) s H locs L f0 → lv_has ls 4 [(0, .ref h0), (1, .int (y1))] → W p l e { frames := 3, cells := 0, slots := 0, locals := 61 } s m ([.ref h0] : List Value).toArray below meth c H locs 0 0 (MQ below (sm_Qi D (ty_s ca) L f0 sz (fun r u => (True) ∧ u = (L, f0))) ([.ref h0] : List Value).toArray s 0 0 (va_A (va_pl L f0) sz)) (F0 m 18 ls []) := by
    intro H locs ls y1 hI hl 
    refine lv_iconst (v := 1) hx hb d_Sr_functionHeard_18 (by decide) ?_
    refine lv_goto (tgt := 23) hx hb d_Sr_functionHeard_19 (by decide) ?_
    exact hJ_23 _ _ _ y1 1 hI (lv_sub hl [0, 1] rfl) (by decide)
  refine lv_aload_n hx hb d_Sr_functionHeard_0 rfl (lv_at hl 0 rfl) ?_
  refine sm_iP hI (va_runV (As := []) (rest := []) ⟨hx, hb, hml, hown, hts⟩ (c_Sr_control l D ca _ _ _ _ hT h0 t0) (kv_Sr_control hts rfl rfl (hts _ tw_876) ⟨Nat.le_of_ble_eq_true rfl, Nat.le_of_ble_eq_true rfl⟩) (pv_Sr hI hE hT t0) rfl rfl hl.1 rfl (lv_room (Nat.le_of_ble_eq_true rfl)) d_Sr_functionHeard_1 ⟨Nat.le_of_ble_eq_true rfl, Nat.le_of_ble_eq_true rfl⟩) (fun x_31 H locs p_32 hI => ?_)
  refine lv_bipush (v := 15) hx hb d_Sr_functionHeard_4 (by decide) ?_
  refine lv_iand hx hb d_Sr_functionHeard_6 ?_
  refine lv_topi (fun x_33 e_34 => ?_)
  refine lv_istore_n (lv' := [(1, .int (x_33)), (0, .ref h0)]) hx hb d_Sr_functionHeard_7 rfl hl (by decide) rfl (fun ls hl => ?_)
  refine lv_iload_n hx hb d_Sr_functionHeard_8 rfl (lv_at hl 0 rfl) ?_
  refine lv_iconst (v := 3) hx hb d_Sr_functionHeard_9 (by decide) ?_
  refine lv_icmp_eq (tgt := 18) hx hb d_Sr_functionHeard_10 (by decide) (fun c_35 => ?_) (fun c_35 => ?_)
  · exact hJ_18 _ _ _ x_33 hI (lv_sub hl [1, 0] rfl)
  · refine lv_iload_n hx hb d_Sr_functionHeard_13 rfl (lv_at hl 0 rfl) ?_
    refine lv_iconst (v := 4) hx hb d_Sr_functionHeard_14 (by decide) ?_
    refine lv_icmp_ne (tgt := 22) hx hb d_Sr_functionHeard_15 (by decide) (fun c_36 => ?_) (fun c_36 => ?_)
    · refine lv_iconst (v := 0) hx hb d_Sr_functionHeard_22 (by decide) ?_
      exact hJ_23 _ _ _ x_33 0 hI (lv_sub hl [1, 0] rfl) (by decide)
    · exact hJ_18 _ _ _ x_33 hI (lv_sub hl [1, 0] rfl)
theorem d_Sr_mayBecomeFrame_0 : decode b_Sr_mayBecomeFrame 0 = .ok (.aload_n 0, 1) := by decide +kernel
theorem d_Sr_mayBecomeFrame_1 : decode b_Sr_mayBecomeFrame 1 = .ok (.getfield 49, 3) := by decide +kernel
theorem d_Sr_mayBecomeFrame_4 : decode b_Sr_mayBecomeFrame 4 = .ok (.getfield 60, 3) := by decide +kernel
theorem d_Sr_mayBecomeFrame_7 : decode b_Sr_mayBecomeFrame 7 = .ok (.istore_n 1, 1) := by decide +kernel
theorem d_Sr_mayBecomeFrame_8 : decode b_Sr_mayBecomeFrame 8 = .ok (.aload_n 0, 1) := by decide +kernel
theorem d_Sr_mayBecomeFrame_9 : decode b_Sr_mayBecomeFrame 9 = .ok (.getfield 49, 3) := by decide +kernel
theorem d_Sr_mayBecomeFrame_12 : decode b_Sr_mayBecomeFrame 12 = .ok (.iload_n 1, 1) := by decide +kernel
theorem d_Sr_mayBecomeFrame_13 : decode b_Sr_mayBecomeFrame 13 = .ok (.iconst 1, 1) := by decide +kernel
theorem d_Sr_mayBecomeFrame_14 : decode b_Sr_mayBecomeFrame 14 = .ok (.isub, 1) := by decide +kernel
theorem d_Sr_mayBecomeFrame_15 : decode b_Sr_mayBecomeFrame 15 = .ok (.invokevirtual 52, 3) := by decide +kernel
theorem d_Sr_mayBecomeFrame_18 : decode b_Sr_mayBecomeFrame 18 = .ok (.istore_n 2, 1) := by decide +kernel
theorem d_Sr_mayBecomeFrame_19 : decode b_Sr_mayBecomeFrame 19 = .ok (.iload_n 1, 1) := by decide +kernel
theorem d_Sr_mayBecomeFrame_20 : decode b_Sr_mayBecomeFrame 20 = .ok (.iconst 1, 1) := by decide +kernel
theorem d_Sr_mayBecomeFrame_21 : decode b_Sr_mayBecomeFrame 21 = .ok (.if_icmp .ne 21, 3) := by decide +kernel
theorem d_Sr_mayBecomeFrame_24 : decode b_Sr_mayBecomeFrame 24 = .ok (.iload_n 2, 1) := by decide +kernel
theorem d_Sr_mayBecomeFrame_25 : decode b_Sr_mayBecomeFrame 25 = .ok (.bipush 16, 2) := by decide +kernel
theorem d_Sr_mayBecomeFrame_27 : decode b_Sr_mayBecomeFrame 27 = .ok (.if_icmp .eq 9, 3) := by decide +kernel
theorem d_Sr_mayBecomeFrame_30 : decode b_Sr_mayBecomeFrame 30 = .ok (.iload_n 2, 1) := by decide +kernel
theorem d_Sr_mayBecomeFrame_31 : decode b_Sr_mayBecomeFrame 31 = .ok (.bipush 104, 2) := by decide +kernel
theorem d_Sr_mayBecomeFrame_33 : decode b_Sr_mayBecomeFrame 33 = .ok (.if_icmp .ne 7, 3) := by decide +kernel
theorem d_Sr_mayBecomeFrame_36 : decode b_Sr_mayBecomeFrame 36 = .ok (.iconst 1, 1) := by decide +kernel
theorem d_Sr_mayBecomeFrame_37 : decode b_Sr_mayBecomeFrame 37 = .ok (.goto 4, 3) := by decide +kernel
theorem d_Sr_mayBecomeFrame_40 : decode b_Sr_mayBecomeFrame 40 = .ok (.iconst 0, 1) := by decide +kernel
theorem d_Sr_mayBecomeFrame_41 : decode b_Sr_mayBecomeFrame 41 = .ok (.ireturn, 1) := by decide +kernel
theorem d_Sr_mayBecomeFrame_42 : decode b_Sr_mayBecomeFrame 42 = .ok (.aload_n 0, 1) := by decide +kernel
theorem d_Sr_mayBecomeFrame_43 : decode b_Sr_mayBecomeFrame 43 = .ok (.invokevirtual 56, 3) := by decide +kernel
theorem d_Sr_mayBecomeFrame_46 : decode b_Sr_mayBecomeFrame 46 = .ok (.ifCond .ne 61, 3) := by decide +kernel
theorem d_Sr_mayBecomeFrame_49 : decode b_Sr_mayBecomeFrame 49 = .ok (.iload_n 1, 1) := by decide +kernel
theorem d_Sr_mayBecomeFrame_50 : decode b_Sr_mayBecomeFrame 50 = .ok (.iconst 4, 1) := by decide +kernel
theorem d_Sr_mayBecomeFrame_51 : decode b_Sr_mayBecomeFrame 51 = .ok (.if_icmp .gt 56, 3) := by decide +kernel
theorem d_Sr_mayBecomeFrame_54 : decode b_Sr_mayBecomeFrame 54 = .ok (.iload_n 1, 1) := by decide +kernel
theorem d_Sr_mayBecomeFrame_55 : decode b_Sr_mayBecomeFrame 55 = .ok (.iconst 2, 1) := by decide +kernel
theorem d_Sr_mayBecomeFrame_56 : decode b_Sr_mayBecomeFrame 56 = .ok (.if_icmp .ne 23, 3) := by decide +kernel
theorem d_Sr_mayBecomeFrame_59 : decode b_Sr_mayBecomeFrame 59 = .ok (.iload_n 2, 1) := by decide +kernel
theorem d_Sr_mayBecomeFrame_60 : decode b_Sr_mayBecomeFrame 60 = .ok (.iconst 3, 1) := by decide +kernel
theorem d_Sr_mayBecomeFrame_61 : decode b_Sr_mayBecomeFrame 61 = .ok (.if_icmp .lt 14, 3) := by decide +kernel
theorem d_Sr_mayBecomeFrame_64 : decode b_Sr_mayBecomeFrame 64 = .ok (.iload_n 2, 1) := by decide +kernel
theorem d_Sr_mayBecomeFrame_65 : decode b_Sr_mayBecomeFrame 65 = .ok (.sipush 253, 3) := by decide +kernel
theorem d_Sr_mayBecomeFrame_68 : decode b_Sr_mayBecomeFrame 68 = .ok (.if_icmp .gt 7, 3) := by decide +kernel
theorem d_Sr_mayBecomeFrame_71 : decode b_Sr_mayBecomeFrame 71 = .ok (.iconst 1, 1) := by decide +kernel
theorem d_Sr_mayBecomeFrame_72 : decode b_Sr_mayBecomeFrame 72 = .ok (.goto 34, 3) := by decide +kernel
theorem d_Sr_mayBecomeFrame_75 : decode b_Sr_mayBecomeFrame 75 = .ok (.iconst 0, 1) := by decide +kernel
theorem d_Sr_mayBecomeFrame_76 : decode b_Sr_mayBecomeFrame 76 = .ok (.goto 30, 3) := by decide +kernel
theorem d_Sr_mayBecomeFrame_79 : decode b_Sr_mayBecomeFrame 79 = .ok (.iload_n 2, 1) := by decide +kernel
theorem d_Sr_mayBecomeFrame_80 : decode b_Sr_mayBecomeFrame 80 = .ok (.iload_n 1, 1) := by decide +kernel
theorem d_Sr_mayBecomeFrame_81 : decode b_Sr_mayBecomeFrame 81 = .ok (.iconst 3, 1) := by decide +kernel
theorem d_Sr_mayBecomeFrame_82 : decode b_Sr_mayBecomeFrame 82 = .ok (.if_icmp .ne 14, 3) := by decide +kernel
theorem d_Sr_mayBecomeFrame_85 : decode b_Sr_mayBecomeFrame 85 = .ok (.aload_n 0, 1) := by decide +kernel
theorem d_Sr_mayBecomeFrame_86 : decode b_Sr_mayBecomeFrame 86 = .ok (.getfield 49, 3) := by decide +kernel
theorem d_Sr_mayBecomeFrame_89 : decode b_Sr_mayBecomeFrame 89 = .ok (.iconst 1, 1) := by decide +kernel
theorem d_Sr_mayBecomeFrame_90 : decode b_Sr_mayBecomeFrame 90 = .ok (.invokevirtual 52, 3) := by decide +kernel
theorem d_Sr_mayBecomeFrame_93 : decode b_Sr_mayBecomeFrame 93 = .ok (.goto 5, 3) := by decide +kernel
theorem d_Sr_mayBecomeFrame_96 : decode b_Sr_mayBecomeFrame 96 = .ok (.bipush 104, 2) := by decide +kernel
theorem d_Sr_mayBecomeFrame_98 : decode b_Sr_mayBecomeFrame 98 = .ok (.if_icmp .ne 7, 3) := by decide +kernel
theorem d_Sr_mayBecomeFrame_101 : decode b_Sr_mayBecomeFrame 101 = .ok (.iconst 1, 1) := by decide +kernel
theorem d_Sr_mayBecomeFrame_102 : decode b_Sr_mayBecomeFrame 102 = .ok (.goto 4, 3) := by decide +kernel
theorem d_Sr_mayBecomeFrame_105 : decode b_Sr_mayBecomeFrame 105 = .ok (.iconst 0, 1) := by decide +kernel
theorem d_Sr_mayBecomeFrame_106 : decode b_Sr_mayBecomeFrame 106 = .ok (.ireturn, 1) := by decide +kernel
theorem d_Sr_mayBecomeFrame_107 : decode b_Sr_mayBecomeFrame 107 = .ok (.aload_n 0, 1) := by decide +kernel
theorem d_Sr_mayBecomeFrame_108 : decode b_Sr_mayBecomeFrame 108 = .ok (.invokevirtual 63, 3) := by decide +kernel
theorem d_Sr_mayBecomeFrame_111 : decode b_Sr_mayBecomeFrame 111 = .ok (.istore_n 3, 1) := by decide +kernel
theorem d_Sr_mayBecomeFrame_112 : decode b_Sr_mayBecomeFrame 112 = .ok (.iload_n 1, 1) := by decide +kernel
theorem d_Sr_mayBecomeFrame_113 : decode b_Sr_mayBecomeFrame 113 = .ok (.iload_n 3, 1) := by decide +kernel
theorem d_Sr_mayBecomeFrame_114 : decode b_Sr_mayBecomeFrame 114 = .ok (.iconst 1, 1) := by decide +kernel
theorem d_Sr_mayBecomeFrame_115 : decode b_Sr_mayBecomeFrame 115 = .ok (.isub, 1) := by decide +kernel
theorem d_Sr_mayBecomeFrame_116 : decode b_Sr_mayBecomeFrame 116 = .ok (.if_icmp .ne 35, 3) := by decide +kernel
theorem d_Sr_mayBecomeFrame_119 : decode b_Sr_mayBecomeFrame 119 = .ok (.iload_n 2, 1) := by decide +kernel
theorem d_Sr_mayBecomeFrame_120 : decode b_Sr_mayBecomeFrame 120 = .ok (.aload_n 0, 1) := by decide +kernel
theorem d_Sr_mayBecomeFrame_121 : decode b_Sr_mayBecomeFrame 121 = .ok (.getfield 49, 3) := by decide +kernel
theorem d_Sr_mayBecomeFrame_124 : decode b_Sr_mayBecomeFrame 124 = .ok (.aload_n 0, 1) := by decide +kernel
theorem d_Sr_mayBecomeFrame_125 : decode b_Sr_mayBecomeFrame 125 = .ok (.invokevirtual 56, 3) := by decide +kernel
theorem d_Sr_mayBecomeFrame_128 : decode b_Sr_mayBecomeFrame 128 = .ok (.ifCond .eq 7, 3) := by decide +kernel
theorem d_Sr_mayBecomeFrame_131 : decode b_Sr_mayBecomeFrame 131 = .ok (.iconst 1, 1) := by decide +kernel
theorem d_Sr_mayBecomeFrame_132 : decode b_Sr_mayBecomeFrame 132 = .ok (.goto 4, 3) := by decide +kernel
theorem d_Sr_mayBecomeFrame_135 : decode b_Sr_mayBecomeFrame 135 = .ok (.iconst 4, 1) := by decide +kernel
theorem d_Sr_mayBecomeFrame_136 : decode b_Sr_mayBecomeFrame 136 = .ok (.iload_n 3, 1) := by decide +kernel
theorem d_Sr_mayBecomeFrame_137 : decode b_Sr_mayBecomeFrame 137 = .ok (.iconst 2, 1) := by decide +kernel
theorem d_Sr_mayBecomeFrame_138 : decode b_Sr_mayBecomeFrame 138 = .ok (.isub, 1) := by decide +kernel
theorem d_Sr_mayBecomeFrame_139 : decode b_Sr_mayBecomeFrame 139 = .ok (.invokevirtual 67, 3) := by decide +kernel
theorem d_Sr_mayBecomeFrame_142 : decode b_Sr_mayBecomeFrame 142 = .ok (.if_icmp .ne 7, 3) := by decide +kernel
theorem d_Sr_mayBecomeFrame_145 : decode b_Sr_mayBecomeFrame 145 = .ok (.iconst 1, 1) := by decide +kernel
theorem d_Sr_mayBecomeFrame_146 : decode b_Sr_mayBecomeFrame 146 = .ok (.goto 4, 3) := by decide +kernel
theorem d_Sr_mayBecomeFrame_149 : decode b_Sr_mayBecomeFrame 149 = .ok (.iconst 0, 1) := by decide +kernel
theorem d_Sr_mayBecomeFrame_150 : decode b_Sr_mayBecomeFrame 150 = .ok (.ireturn, 1) := by decide +kernel
theorem d_Sr_mayBecomeFrame_151 : decode b_Sr_mayBecomeFrame 151 = .ok (.iload_n 1, 1) := by decide +kernel
theorem d_Sr_mayBecomeFrame_152 : decode b_Sr_mayBecomeFrame 152 = .ok (.iload_n 3, 1) := by decide +kernel
theorem d_Sr_mayBecomeFrame_153 : decode b_Sr_mayBecomeFrame 153 = .ok (.if_icmp .lt 9, 3) := by decide +kernel
theorem d_Sr_mayBecomeFrame_156 : decode b_Sr_mayBecomeFrame 156 = .ok (.iload_n 2, 1) := by decide +kernel
theorem d_Sr_mayBecomeFrame_157 : decode b_Sr_mayBecomeFrame 157 = .ok (.bipush 22, 2) := by decide +kernel
theorem d_Sr_mayBecomeFrame_159 : decode b_Sr_mayBecomeFrame 159 = .ok (.if_icmp .ne 7, 3) := by decide +kernel
theorem d_Sr_mayBecomeFrame_162 : decode b_Sr_mayBecomeFrame 162 = .ok (.iconst 1, 1) := by decide +kernel
theorem d_Sr_mayBecomeFrame_163 : decode b_Sr_mayBecomeFrame 163 = .ok (.goto 4, 3) := by decide +kernel
theorem d_Sr_mayBecomeFrame_166 : decode b_Sr_mayBecomeFrame 166 = .ok (.iconst 0, 1) := by decide +kernel
theorem d_Sr_mayBecomeFrame_167 : decode b_Sr_mayBecomeFrame 167 = .ok (.ireturn, 1) := by decide +kernel
set_option maxRecDepth 100000 in
set_option maxHeartbeats 4000000 in
theorem c_Sr_mayBecomeFrame (l : Launch) (D : va_G) (ca : Nat → ClassId) (T : ty_e) (L : List Nat) (f0 : Nat → va_E) (sz : Nat) (hT : ok_T ca T L f0) (h0 : Nat) (t0 : T h0 = some (ty_sr)) :
    Met l y_Sr_mayBecomeFrame (Cond.code y_Sr_mayBecomeFrame b_Sr_mayBecomeFrame 4 (some .boolean) :: wg) { frames := 3, cells := 0, slots := 0, locals := 61 } (va_Pc [.ref h0] (sm_P D cl_all (ty_s ca) ek L f0 sz)) (sm_Qi D (ty_s ca) L f0 sz (fun r u => (r = 0 ∨ r = 1) ∧ u = (L, f0))) 0 0 (va_A (va_pl L f0) sz) := by
  refine sm_start (by decide) (Nat.le_of_ble_eq_true rfl) ?_
  intro p e s m below meth c ls hx hb hml hr hlk hnm hts hown hsz hE hI hl
  have hl : lv_has ls 4 [(0, .ref h0)] := hl
  have hJ_136 : ∀ (H : Heap) (locs : List Loc) (ls : Array Slot) (y1 : Int32) (y2 : Int32) (y3 : Int32) (z0 : Int32) (z1 : Nat) (z2 : Int32), sw_I D cl_all (ty_s ca) (va_A (va_pl L f0) sz) s H locs L f0 → lv_has ls 4 [(0, .ref h0), (1, .int (y1)), (2, .int (y2)), (3, .int (y3))] → (T z1 = some (ty_row 4145)) → W p l e { frames := 3, cells := 0, slots := 0, locals := 61 } s m ([.ref h0] : List Value).toArray below meth c H locs 0 0 (MQ below (sm_Qi D (ty_s ca) L f0 sz (fun r u => (r = 0 ∨ r = 1) ∧ u = (L, f0))) ([.ref h0] : List Value).toArray s 0 0 (va_A (va_pl L f0) sz)) (F0 m 136 ls [.int (z2), .ref z1, .int (z0)]) := by
    intro H locs ls y1 y2 y3 z0 z1 z2 hI hl tz1
    refine lv_iload_n hx hb d_Sr_mayBecomeFrame_136 rfl (lv_at hl 3 rfl) ?_
    refine lv_iconst (v := 2) hx hb d_Sr_mayBecomeFrame_137 (by decide) ?_
    refine lv_isub hx hb d_Sr_mayBecomeFrame_138 ?_
    refine lv_topi (fun x_1 e_2 => ?_)
    refine sm_iP hI (va_runV (As := [.int (z2), .int (x_1)]) (rest := [.int (z0)]) ⟨hx, hb, hml, hown, hts⟩ (c_Br_sum l D ca _ _ _ _ hT z1 tz1 z2 x_1) (kv_Br_sum hts rfl rfl (hts _ tw_851) ⟨Nat.le_of_ble_eq_true rfl, Nat.le_of_ble_eq_true rfl⟩) (pv_Br hI hE hT tz1) rfl rfl hl.1 rfl (lv_room (Nat.le_of_ble_eq_true rfl)) d_Sr_mayBecomeFrame_139 ⟨Nat.le_of_ble_eq_true rfl, Nat.le_of_ble_eq_true rfl⟩) (fun x_3 H locs p_4 hI => ?_)
    refine lv_icmp_ne (tgt := 149) hx hb d_Sr_mayBecomeFrame_142 (by decide) (fun c_5 => ?_) (fun c_5 => ?_)
    · refine lv_iconst (v := 0) hx hb d_Sr_mayBecomeFrame_149 (by decide) ?_
      exact sm_zret hx hb hr hlk hI (by decide) ⟨(by decide), rfl⟩ d_Sr_mayBecomeFrame_150
    · refine lv_iconst (v := 1) hx hb d_Sr_mayBecomeFrame_145 (by decide) ?_
      refine lv_goto (tgt := 150) hx hb d_Sr_mayBecomeFrame_146 (by decide) ?_
      exact sm_zret hx hb hr hlk hI (by decide) ⟨(by decide), rfl⟩ d_Sr_mayBecomeFrame_150
  have hJ_107 : ∀ (H : Heap) (locs : List Loc) (ls : Array Slot) (y1 : Int32) (y2 : Int32), sw_I D cl_all (ty_s ca) (va_A (va_pl L f0) sz) s H locs L f0 → lv_has ls 4 [(0, .ref h0), (1, .int (y1)), (2, .int (y2))] → W p l e { frames := 3, cells := 0, slots := 0, locals := 61 } s m ([.ref h0] : List Value).toArray below meth c H locs 0 0 (MQ below (sm_Qi D (ty_s ca) L f0 sz (fun r u => (r = 0 ∨ r = 1) ∧ u = (L, f0))) ([.ref h0] : List Value).toArray s 0 0 (va_A (va_pl L f0) sz)) (F0 m 107 ls []) := by
    intro H locs ls y1 y2 hI hl 
    refine lv_aload_n hx hb d_Sr_mayBecomeFrame_107 rfl (lv_at hl 0 rfl) ?_
    refine sm_iP hI (va_runV (As := []) (rest := []) ⟨hx, hb, hml, hown, hts⟩ (c_Sr_frameLength l D ca _ _ _ _ hT h0 t0) (kv_Sr_frameLength hts rfl rfl (hts _ tw_847) ⟨Nat.le_of_ble_eq_true rfl, Nat.le_of_ble_eq_true rfl⟩) (pv_Sr hI hE hT t0) rfl rfl hl.1 rfl (lv_room (Nat.le_of_ble_eq_true rfl)) d_Sr_mayBecomeFrame_108 ⟨Nat.le_of_ble_eq_true rfl, Nat.le_of_ble_eq_true rfl⟩) (fun x_6 H locs p_7 hI => ?_)
    refine lv_istore_n (lv' := [(3, .int (x_6)), (0, .ref h0), (1, .int (y1)), (2, .int (y2))]) hx hb d_Sr_mayBecomeFrame_111 rfl hl (by decide) rfl (fun ls hl => ?_)
    refine lv_iload_n hx hb d_Sr_mayBecomeFrame_112 rfl (lv_at hl 2 rfl) ?_
    refine lv_iload_n hx hb d_Sr_mayBecomeFrame_113 rfl (lv_at hl 0 rfl) ?_
    refine lv_iconst (v := 1) hx hb d_Sr_mayBecomeFrame_114 (by decide) ?_
    refine lv_isub hx hb d_Sr_mayBecomeFrame_115 ?_
    refine lv_topi (fun x_8 e_9 => ?_)
    refine lv_icmp_ne (tgt := 151) hx hb d_Sr_mayBecomeFrame_116 (by decide) (fun c_10 => ?_) (fun c_10 => ?_)
    · refine lv_iload_n hx hb d_Sr_mayBecomeFrame_151 rfl (lv_at hl 2 rfl) ?_
      refine lv_iload_n hx hb d_Sr_mayBecomeFrame_152 rfl (lv_at hl 0 rfl) ?_
      refine lv_icmp_lt (tgt := 162) hx hb d_Sr_mayBecomeFrame_153 (by decide) (fun c_11 => ?_) (fun c_11 => ?_)
      · refine lv_iconst (v := 1) hx hb d_Sr_mayBecomeFrame_162 (by decide) ?_
        refine lv_goto (tgt := 167) hx hb d_Sr_mayBecomeFrame_163 (by decide) ?_
        exact sm_zret hx hb hr hlk hI (by decide) ⟨(by decide), rfl⟩ d_Sr_mayBecomeFrame_167
      · refine lv_iload_n hx hb d_Sr_mayBecomeFrame_156 rfl (lv_at hl 3 rfl) ?_
        refine lv_bipush (v := 22) hx hb d_Sr_mayBecomeFrame_157 (by decide) ?_
        refine lv_icmp_ne (tgt := 166) hx hb d_Sr_mayBecomeFrame_159 (by decide) (fun c_12 => ?_) (fun c_12 => ?_)
        · refine lv_iconst (v := 0) hx hb d_Sr_mayBecomeFrame_166 (by decide) ?_
          exact sm_zret hx hb hr hlk hI (by decide) ⟨(by decide), rfl⟩ d_Sr_mayBecomeFrame_167
        · refine lv_iconst (v := 1) hx hb d_Sr_mayBecomeFrame_162 (by decide) ?_
          refine lv_goto (tgt := 167) hx hb d_Sr_mayBecomeFrame_163 (by decide) ?_
          exact sm_zret hx hb hr hlk hI (by decide) ⟨(by decide), rfl⟩ d_Sr_mayBecomeFrame_167
    · refine lv_iload_n hx hb d_Sr_mayBecomeFrame_119 rfl (lv_at hl 3 rfl) ?_
      refine lv_aload_n hx hb d_Sr_mayBecomeFrame_120 rfl (lv_at hl 1 rfl) ?_
      refine fg_Sr_heard hx hb hts hown hI hT t0 (hts _ tw_133) (fun x9 h9 => u_same (hts _ tw_134) x9 h9) d_Sr_mayBecomeFrame_121 (fun r_13 t_14 => ?_)
      refine lv_aload_n hx hb d_Sr_mayBecomeFrame_124 rfl (lv_at hl 1 rfl) ?_
      refine sm_iP hI (va_runV (As := []) (rest := [.ref r_13, .int (y2)]) ⟨hx, hb, hml, hown, hts⟩ (c_Sr_isShort l D ca _ _ _ _ hT h0 t0) (kv_Sr_isShort hts rfl rfl (hts _ tw_843) ⟨Nat.le_of_ble_eq_true rfl, Nat.le_of_ble_eq_true rfl⟩) (pv_Sr hI hE hT t0) rfl rfl hl.1 rfl (lv_room (Nat.le_of_ble_eq_true rfl)) d_Sr_mayBecomeFrame_125 ⟨Nat.le_of_ble_eq_true rfl, Nat.le_of_ble_eq_true rfl⟩) (fun x_15 H locs p_16 hI => ?_)
      refine lv_if_eq (tgt := 135) hx hb d_Sr_mayBecomeFrame_128 (by decide) (fun c_17 => ?_) (fun c_17 => ?_)
      · refine lv_iconst (v := 4) hx hb d_Sr_mayBecomeFrame_135 (by decide) ?_
        exact hJ_136 _ _ _ y1 y2 x_6 y2 r_13 4 hI (lv_sub hl [1, 2, 3, 0] rfl) t_14
      · refine lv_iconst (v := 1) hx hb d_Sr_mayBecomeFrame_131 (by decide) ?_
        refine lv_goto (tgt := 136) hx hb d_Sr_mayBecomeFrame_132 (by decide) ?_
        exact hJ_136 _ _ _ y1 y2 x_6 y2 r_13 1 hI (lv_sub hl [1, 2, 3, 0] rfl) t_14
  have hJ_98 : ∀ (H : Heap) (locs : List Loc) (ls : Array Slot) (y1 : Int32) (y2 : Int32) (z0 : Int32) (z1 : Int32), sw_I D cl_all (ty_s ca) (va_A (va_pl L f0) sz) s H locs L f0 → lv_has ls 4 [(0, .ref h0), (1, .int (y1)), (2, .int (y2))] → W p l e { frames := 3, cells := 0, slots := 0, locals := 61 } s m ([.ref h0] : List Value).toArray below meth c H locs 0 0 (MQ below (sm_Qi D (ty_s ca) L f0 sz (fun r u => (r = 0 ∨ r = 1) ∧ u = (L, f0))) ([.ref h0] : List Value).toArray s 0 0 (va_A (va_pl L f0) sz)) (F0 m 98 ls [.int (z1), .int (z0)]) := by
    intro H locs ls y1 y2 z0 z1 hI hl 
    refine lv_icmp_ne (tgt := 105) hx hb d_Sr_mayBecomeFrame_98 (by decide) (fun c_18 => ?_) (fun c_18 => ?_)
    · refine lv_iconst (v := 0) hx hb d_Sr_mayBecomeFrame_105 (by decide) ?_
      exact sm_zret hx hb hr hlk hI (by decide) ⟨(by decide), rfl⟩ d_Sr_mayBecomeFrame_106
    · refine lv_iconst (v := 1) hx hb d_Sr_mayBecomeFrame_101 (by decide) ?_
      refine lv_goto (tgt := 106) hx hb d_Sr_mayBecomeFrame_102 (by decide) ?_
      exact sm_zret hx hb hr hlk hI (by decide) ⟨(by decide), rfl⟩ d_Sr_mayBecomeFrame_106
  refine lv_aload_n hx hb d_Sr_mayBecomeFrame_0 rfl (lv_at hl 0 rfl) ?_
  refine fg_Sr_heard hx hb hts hown hI hT t0 (hts _ tw_133) (fun x9 h9 => u_same (hts _ tw_134) x9 h9) d_Sr_mayBecomeFrame_1 (fun r_19 t_20 => ?_)
  refine fgN_Br_length hx hb hts hown hI hT t_20 (va_Nw.use rfl (hE.1 _ tn_50 rfl)) (fun _ h9 => h9) d_Sr_mayBecomeFrame_4 (fun n_21 h_22 => ?_)
  refine lv_istore_n (lv' := [(1, .int (nI n_21)), (0, .ref h0)]) hx hb d_Sr_mayBecomeFrame_7 rfl hl (by decide) rfl (fun ls hl => ?_)
  refine lv_aload_n hx hb d_Sr_mayBecomeFrame_8 rfl (lv_at hl 1 rfl) ?_
  refine fg_Sr_heard hx hb hts hown hI hT t0 (hts _ tw_133) (fun x9 h9 => u_same (hts _ tw_134) x9 h9) d_Sr_mayBecomeFrame_9 (fun r_23 t_24 => ?_)
  refine lv_iload_n hx hb d_Sr_mayBecomeFrame_12 rfl (lv_at hl 0 rfl) ?_
  refine lv_iconst (v := 1) hx hb d_Sr_mayBecomeFrame_13 (by decide) ?_
  refine lv_isub hx hb d_Sr_mayBecomeFrame_14 ?_
  refine lv_topi (fun x_25 e_26 => ?_)
  refine sm_iP hI (va_runV (As := [.int (x_25)]) (rest := []) ⟨hx, hb, hml, hown, hts⟩ (c_Br_at l D ca _ _ _ _ hT r_23 t_24 x_25) (kv_Br_at hts rfl rfl (hts _ tw_842) ⟨Nat.le_of_ble_eq_true rfl, Nat.le_of_ble_eq_true rfl⟩) (pv_Br hI hE hT t_24) rfl rfl hl.1 rfl (lv_room (Nat.le_of_ble_eq_true rfl)) d_Sr_mayBecomeFrame_15 ⟨Nat.le_of_ble_eq_true rfl, Nat.le_of_ble_eq_true rfl⟩) (fun x_27 H locs p_28 hI => ?_)
  refine lv_istore_n (lv' := [(2, .int (x_27)), (1, .int (nI n_21)), (0, .ref h0)]) hx hb d_Sr_mayBecomeFrame_18 rfl hl (by decide) rfl (fun ls hl => ?_)
  refine lv_iload_n hx hb d_Sr_mayBecomeFrame_19 rfl (lv_at hl 1 rfl) ?_
  refine lv_iconst (v := 1) hx hb d_Sr_mayBecomeFrame_20 (by decide) ?_
  refine lv_icmp_ne (tgt := 42) hx hb d_Sr_mayBecomeFrame_21 (by decide) (fun c_29 => ?_) (fun c_29 => ?_)
  · have k_30 : ¬ n_21 = 1 := (fun q => c_29 ((nI_eq (a := n_21) (b := 1) (by omega) (by omega)).mpr q))
    refine lv_aload_n hx hb d_Sr_mayBecomeFrame_42 rfl (lv_at hl 2 rfl) ?_
    refine sm_iP hI (va_runV (As := []) (rest := []) ⟨hx, hb, hml, hown, hts⟩ (c_Sr_isShort l D ca _ _ _ _ hT h0 t0) (kv_Sr_isShort hts rfl rfl (hts _ tw_843) ⟨Nat.le_of_ble_eq_true rfl, Nat.le_of_ble_eq_true rfl⟩) (pv_Sr hI hE hT t0) rfl rfl hl.1 rfl (lv_room (Nat.le_of_ble_eq_true rfl)) d_Sr_mayBecomeFrame_43 ⟨Nat.le_of_ble_eq_true rfl, Nat.le_of_ble_eq_true rfl⟩) (fun x_31 H locs p_32 hI => ?_)
    refine lv_if_ne (tgt := 107) hx hb d_Sr_mayBecomeFrame_46 (by decide) (fun c_33 => ?_) (fun c_33 => ?_)
    · exact hJ_107 _ _ _ (nI n_21) x_27 hI (lv_sub hl [2, 1, 0] rfl)
    · refine lv_iload_n hx hb d_Sr_mayBecomeFrame_49 rfl (lv_at hl 1 rfl) ?_
      refine lv_iconst (v := 4) hx hb d_Sr_mayBecomeFrame_50 (by decide) ?_
      refine lv_icmp_gt (tgt := 107) hx hb d_Sr_mayBecomeFrame_51 (by decide) (fun c_34 => ?_) (fun c_34 => ?_)
      · have k_35 : 4 < n_21 := (nI_ltI (a := 4) (b := n_21) (by omega) (by omega)).mp c_34
        exact hJ_107 _ _ _ (nI n_21) x_27 hI (lv_sub hl [2, 1, 0] rfl) 
      · have k_36 : n_21 ≤ 4 := Nat.le_of_not_lt (fun q => c_34 ((nI_ltI (a := 4) (b := n_21) (by omega) (by omega)).mpr q))
        refine lv_iload_n hx hb d_Sr_mayBecomeFrame_54 rfl (lv_at hl 1 rfl) ?_
        refine lv_iconst (v := 2) hx hb d_Sr_mayBecomeFrame_55 (by decide) ?_
        refine lv_icmp_ne (tgt := 79) hx hb d_Sr_mayBecomeFrame_56 (by decide) (fun c_37 => ?_) (fun c_37 => ?_)
        · have k_38 : ¬ n_21 = 2 := (fun q => c_37 ((nI_eq (a := n_21) (b := 2) (by omega) (by omega)).mpr q))
          refine lv_iload_n hx hb d_Sr_mayBecomeFrame_79 rfl (lv_at hl 0 rfl) ?_
          refine lv_iload_n hx hb d_Sr_mayBecomeFrame_80 rfl (lv_at hl 1 rfl) ?_
          refine lv_iconst (v := 3) hx hb d_Sr_mayBecomeFrame_81 (by decide) ?_
          refine lv_icmp_ne (tgt := 96) hx hb d_Sr_mayBecomeFrame_82 (by decide) (fun c_39 => ?_) (fun c_39 => ?_)
          · have k_40 : ¬ n_21 = 3 := (fun q => c_39 ((nI_eq (a := n_21) (b := 3) (by omega) (by omega)).mpr q))
            refine lv_bipush (v := 104) hx hb d_Sr_mayBecomeFrame_96 (by decide) ?_
            exact hJ_98 _ _ _ (nI n_21) x_27 x_27 104 hI (lv_sub hl [2, 1, 0] rfl) 
          · have k_41 : n_21 = 3 := (nI_eq (a := n_21) (b := 3) (by omega) (by omega)).mp c_39
            refine lv_aload_n hx hb d_Sr_mayBecomeFrame_85 rfl (lv_at hl 2 rfl) ?_
            refine fg_Sr_heard hx hb hts hown hI hT t0 (hts _ tw_133) (fun x9 h9 => u_same (hts _ tw_134) x9 h9) d_Sr_mayBecomeFrame_86 (fun r_42 t_43 => ?_)
            refine lv_iconst (v := 1) hx hb d_Sr_mayBecomeFrame_89 (by decide) ?_
            refine sm_iP hI (va_runV (As := [.int (1)]) (rest := [.int (x_27)]) ⟨hx, hb, hml, hown, hts⟩ (c_Br_at l D ca _ _ _ _ hT r_42 t_43 1) (kv_Br_at hts rfl rfl (hts _ tw_842) ⟨Nat.le_of_ble_eq_true rfl, Nat.le_of_ble_eq_true rfl⟩) (pv_Br hI hE hT t_43) rfl rfl hl.1 rfl (lv_room (Nat.le_of_ble_eq_true rfl)) d_Sr_mayBecomeFrame_90 ⟨Nat.le_of_ble_eq_true rfl, Nat.le_of_ble_eq_true rfl⟩) (fun x_44 H locs p_45 hI => ?_)
            refine lv_goto (tgt := 98) hx hb d_Sr_mayBecomeFrame_93 (by decide) ?_
            exact hJ_98 _ _ _ (nI n_21) x_27 x_27 x_44 hI (lv_sub hl [2, 1, 0] rfl) 
        · have k_46 : n_21 = 2 := (nI_eq (a := n_21) (b := 2) (by omega) (by omega)).mp c_37
          refine lv_iload_n hx hb d_Sr_mayBecomeFrame_59 rfl (lv_at hl 0 rfl) ?_
          refine lv_iconst (v := 3) hx hb d_Sr_mayBecomeFrame_60 (by decide) ?_
          refine lv_icmp_lt (tgt := 75) hx hb d_Sr_mayBecomeFrame_61 (by decide) (fun c_47 => ?_) (fun c_47 => ?_)
          · refine lv_iconst (v := 0) hx hb d_Sr_mayBecomeFrame_75 (by decide) ?_
            refine lv_goto (tgt := 106) hx hb d_Sr_mayBecomeFrame_76 (by decide) ?_
            exact sm_zret hx hb hr hlk hI (by decide) ⟨(by decide), rfl⟩ d_Sr_mayBecomeFrame_106
          · refine lv_iload_n hx hb d_Sr_mayBecomeFrame_64 rfl (lv_at hl 0 rfl) ?_
            refine lv_sipush (v := 253) hx hb d_Sr_mayBecomeFrame_65 (by decide) ?_
            refine lv_icmp_gt (tgt := 75) hx hb d_Sr_mayBecomeFrame_68 (by decide) (fun c_48 => ?_) (fun c_48 => ?_)
            · refine lv_iconst (v := 0) hx hb d_Sr_mayBecomeFrame_75 (by decide) ?_
              refine lv_goto (tgt := 106) hx hb d_Sr_mayBecomeFrame_76 (by decide) ?_
              exact sm_zret hx hb hr hlk hI (by decide) ⟨(by decide), rfl⟩ d_Sr_mayBecomeFrame_106
            · refine lv_iconst (v := 1) hx hb d_Sr_mayBecomeFrame_71 (by decide) ?_
              refine lv_goto (tgt := 106) hx hb d_Sr_mayBecomeFrame_72 (by decide) ?_
              exact sm_zret hx hb hr hlk hI (by decide) ⟨(by decide), rfl⟩ d_Sr_mayBecomeFrame_106
  · have k_49 : n_21 = 1 := (nI_eq (a := n_21) (b := 1) (by omega) (by omega)).mp c_29
    refine lv_iload_n hx hb d_Sr_mayBecomeFrame_24 rfl (lv_at hl 0 rfl) ?_
    refine lv_bipush (v := 16) hx hb d_Sr_mayBecomeFrame_25 (by decide) ?_
    refine lv_icmp_eq (tgt := 36) hx hb d_Sr_mayBecomeFrame_27 (by decide) (fun c_50 => ?_) (fun c_50 => ?_)
    · refine lv_iconst (v := 1) hx hb d_Sr_mayBecomeFrame_36 (by decide) ?_
      refine lv_goto (tgt := 41) hx hb d_Sr_mayBecomeFrame_37 (by decide) ?_
      exact sm_zret hx hb hr hlk hI (by decide) ⟨(by decide), rfl⟩ d_Sr_mayBecomeFrame_41
    · refine lv_iload_n hx hb d_Sr_mayBecomeFrame_30 rfl (lv_at hl 0 rfl) ?_
      refine lv_bipush (v := 104) hx hb d_Sr_mayBecomeFrame_31 (by decide) ?_
      refine lv_icmp_ne (tgt := 40) hx hb d_Sr_mayBecomeFrame_33 (by decide) (fun c_51 => ?_) (fun c_51 => ?_)
      · refine lv_iconst (v := 0) hx hb d_Sr_mayBecomeFrame_40 (by decide) ?_
        exact sm_zret hx hb hr hlk hI (by decide) ⟨(by decide), rfl⟩ d_Sr_mayBecomeFrame_41
      · refine lv_iconst (v := 1) hx hb d_Sr_mayBecomeFrame_36 (by decide) ?_
        refine lv_goto (tgt := 41) hx hb d_Sr_mayBecomeFrame_37 (by decide) ?_
        exact sm_zret hx hb hr hlk hI (by decide) ⟨(by decide), rfl⟩ d_Sr_mayBecomeFrame_41
theorem d_Sr_reset_0 : decode b_Sr_reset 0 = .ok (.aload_n 0, 1) := by decide +kernel
theorem d_Sr_reset_1 : decode b_Sr_reset 1 = .ok (.iconst 2, 1) := by decide +kernel
theorem d_Sr_reset_2 : decode b_Sr_reset 2 = .ok (.putfield 27, 3) := by decide +kernel
theorem d_Sr_reset_5 : decode b_Sr_reset 5 = .ok (.aload_n 0, 1) := by decide +kernel
theorem d_Sr_reset_6 : decode b_Sr_reset 6 = .ok (.iconst 0, 1) := by decide +kernel
theorem d_Sr_reset_7 : decode b_Sr_reset 7 = .ok (.putfield 43, 3) := by decide +kernel
theorem d_Sr_reset_10 : decode b_Sr_reset 10 = .ok (.aload_n 0, 1) := by decide +kernel
theorem d_Sr_reset_11 : decode b_Sr_reset 11 = .ok (.getfield 14, 3) := by decide +kernel
theorem d_Sr_reset_14 : decode b_Sr_reset 14 = .ok (.invokevirtual 46, 3) := by decide +kernel
theorem d_Sr_reset_17 : decode b_Sr_reset 17 = .ok (.return_, 1) := by decide +kernel
set_option maxRecDepth 100000 in
set_option maxHeartbeats 4000000 in
theorem c_Sr_reset (l : Launch) (D : va_G) (ca : Nat → ClassId) (T : ty_e) (L : List Nat) (f0 : Nat → va_E) (sz : Nat) (hT : ok_T ca T L f0) (h0 : Nat) (t0 : T h0 = some (ty_sr)) :
    Met l y_Sr_reset (Cond.code y_Sr_reset b_Sr_reset 1 none :: wg) { frames := 1, cells := 0, slots := 0, locals := 20 } (va_Pc [.ref h0] (sm_P D cl_all (ty_s ca) ek L f0 sz)) (sm_Qv D (ty_s ca) L f0 sz (fun u => po_m ca T L u)) 0 0 (va_A (va_pl L f0) sz) := by
  refine sm_start (by decide) (Nat.le_of_ble_eq_true rfl) ?_
  intro p e s m below meth c ls hx hb hml hr hlk hnm hts hown hsz hE hI hl
  have hl : lv_has ls 1 [(0, .ref h0)] := hl
  refine lv_aload_n hx hb d_Sr_reset_0 rfl (lv_at hl 0 rfl) ?_
  refine lv_iconst (v := 2) hx hb d_Sr_reset_1 (by decide) ?_
  refine fp_Sr_state hx hb hts hown hI hT t0 (hts _ tw_144) (fun x9 h9 => u_same (hts _ tw_145) x9 h9) d_Sr_reset_2 (fun H locs f hI hT => ?_)
  refine lv_aload_n hx hb d_Sr_reset_5 rfl (lv_at hl 0 rfl) ?_
  refine lv_iconst (v := 0) hx hb d_Sr_reset_6 (by decide) ?_
  refine fp_Sr_latestBit hx hb hts hown hI hT t0 (hts _ tw_113) (fun _ h9 => h9) d_Sr_reset_7 (fun H locs f hI hT => ?_)
  refine lv_aload_n hx hb d_Sr_reset_10 rfl (lv_at hl 0 rfl) ?_
  refine fg_Sr_kept hx hb hts hown hI hT t0 (hts _ tw_115) (fun _ h9 => h9) d_Sr_reset_11 (fun r_1 t_2 => ?_)
  refine sm_v hI (va_runV (As := []) (rest := []) ⟨hx, hb, hml, hown, hts⟩ (c_Br_clear l D ca _ _ _ _ hT r_1 t_2) (kv_Br_clear hts rfl rfl (hts _ tw_900) ⟨Nat.le_of_ble_eq_true rfl, Nat.le_of_ble_eq_true rfl⟩) (pv_Br hI hE hT t_2) rfl rfl hl.1 rfl (lv_room (Nat.le_of_ble_eq_true rfl)) d_Sr_reset_14 ⟨Nat.le_of_ble_eq_true rfl, Nat.le_of_ble_eq_true rfl⟩) (fun H locs f hI hT => ?_)
  exact sm_vret hx hb hr hlk hI ⟨rfl, hT⟩ d_Sr_reset_17
theorem d_Sr_send_0 : decode b_Sr_send 0 = .ok (.aload_n 0, 1) := by decide +kernel
theorem d_Sr_send_1 : decode b_Sr_send 1 = .ok (.getfield 81, 3) := by decide +kernel
theorem d_Sr_send_4 : decode b_Sr_send 4 = .ok (.invokevirtual 46, 3) := by decide +kernel
theorem d_Sr_send_7 : decode b_Sr_send 7 = .ok (.aload_n 0, 1) := by decide +kernel
theorem d_Sr_send_8 : decode b_Sr_send 8 = .ok (.getfield 81, 3) := by decide +kernel
theorem d_Sr_send_11 : decode b_Sr_send 11 = .ok (.aload_n 1, 1) := by decide +kernel
theorem d_Sr_send_12 : decode b_Sr_send 12 = .ok (.invokevirtual 84, 3) := by decide +kernel
theorem d_Sr_send_15 : decode b_Sr_send 15 = .ok (.return_, 1) := by decide +kernel
set_option maxRecDepth 100000 in
set_option maxHeartbeats 4000000 in
theorem c_Sr_send (l : Launch) (D : va_G) (ca : Nat → ClassId) (T : ty_e) (L : List Nat) (f0 : Nat → va_E) (sz : Nat) (hT : ok_T ca T L f0) (h0 : Nat) (t0 : T h0 = some (ty_sr)) {m1 : Nat} (x1 : Nat) (t1 : T x1 = some (ty_row m1)) :
    Met l y_Sr_send (Cond.code y_Sr_send b_Sr_send 2 none :: wg) { frames := 2, cells := 0, slots := 0, locals := 43 } (va_Pc [.ref h0, .ref x1] (sm_P D cl_all (ty_s ca) ek L f0 sz)) (sm_Qv D (ty_s ca) L f0 sz (fun u => po_m ca T L u)) 0 0 (va_A (va_pl L f0) sz) := by
  refine sm_start (by decide) (Nat.le_of_ble_eq_true rfl) ?_
  intro p e s m below meth c ls hx hb hml hr hlk hnm hts hown hsz hE hI hl
  have hl : lv_has ls 2 [(0, .ref h0), (1, .ref x1)] := hl
  refine lv_aload_n hx hb d_Sr_send_0 rfl (lv_at hl 0 rfl) ?_
  refine fg_Sr_waiting hx hb hts hown hI hT t0 (hts _ tw_127) (fun x9 h9 => u_same (hts _ tw_128) x9 h9) d_Sr_send_1 (fun r_1 t_2 => ?_)
  refine sm_v hI (va_runV (As := []) (rest := []) ⟨hx, hb, hml, hown, hts⟩ (c_Br_clear l D ca _ _ _ _ hT r_1 t_2) (kv_Br_clear hts rfl rfl (hts _ tw_900) ⟨Nat.le_of_ble_eq_true rfl, Nat.le_of_ble_eq_true rfl⟩) (pv_Br hI hE hT t_2) rfl rfl hl.1 rfl (lv_room (Nat.le_of_ble_eq_true rfl)) d_Sr_send_4 ⟨Nat.le_of_ble_eq_true rfl, Nat.le_of_ble_eq_true rfl⟩) (fun H locs f hI hT => ?_)
  refine lv_aload_n hx hb d_Sr_send_7 rfl (lv_at hl 0 rfl) ?_
  refine fg_Sr_waiting hx hb hts hown hI hT t0 (hts _ tw_127) (fun x9 h9 => u_same (hts _ tw_128) x9 h9) d_Sr_send_8 (fun r_3 t_4 => ?_)
  refine lv_aload_n hx hb d_Sr_send_11 rfl (lv_at hl 1 rfl) ?_
  refine sm_v hI (va_runV (As := [.ref x1]) (rest := []) ⟨hx, hb, hml, hown, hts⟩ (c_Br_append l D ca _ _ _ _ hT r_3 t_4 x1 t1) (kv_Br_append hts rfl rfl (hts _ tw_901) ⟨Nat.le_of_ble_eq_true rfl, Nat.le_of_ble_eq_true rfl⟩) (pv_Br hI hE hT t_4) rfl rfl hl.1 rfl (lv_room (Nat.le_of_ble_eq_true rfl)) d_Sr_send_12 ⟨Nat.le_of_ble_eq_true rfl, Nat.le_of_ble_eq_true rfl⟩) (fun H locs f hI hT => ?_)
  exact sm_vret hx hb hr hlk hI ⟨rfl, hT⟩ d_Sr_send_15
theorem d_Sr_sendAgain_0 : decode b_Sr_sendAgain 0 = .ok (.aload_n 0, 1) := by decide +kernel
theorem d_Sr_sendAgain_1 : decode b_Sr_sendAgain 1 = .ok (.getfield 14, 3) := by decide +kernel
theorem d_Sr_sendAgain_4 : decode b_Sr_sendAgain 4 = .ok (.getfield 60, 3) := by decide +kernel
theorem d_Sr_sendAgain_7 : decode b_Sr_sendAgain 7 = .ok (.ifCond .le 11, 3) := by decide +kernel
theorem d_Sr_sendAgain_10 : decode b_Sr_sendAgain 10 = .ok (.aload_n 0, 1) := by decide +kernel
theorem d_Sr_sendAgain_11 : decode b_Sr_sendAgain 11 = .ok (.aload_n 0, 1) := by decide +kernel
theorem d_Sr_sendAgain_12 : decode b_Sr_sendAgain 12 = .ok (.getfield 14, 3) := by decide +kernel
theorem d_Sr_sendAgain_15 : decode b_Sr_sendAgain 15 = .ok (.invokevirtual 88, 3) := by decide +kernel
theorem d_Sr_sendAgain_18 : decode b_Sr_sendAgain 18 = .ok (.return_, 1) := by decide +kernel
set_option maxRecDepth 100000 in
set_option maxHeartbeats 4000000 in
theorem c_Sr_sendAgain (l : Launch) (D : va_G) (ca : Nat → ClassId) (T : ty_e) (L : List Nat) (f0 : Nat → va_E) (sz : Nat) (hT : ok_T ca T L f0) (h0 : Nat) (t0 : T h0 = some (ty_sr)) :
    Met l y_Sr_sendAgain (Cond.code y_Sr_sendAgain b_Sr_sendAgain 1 none :: wg) { frames := 3, cells := 0, slots := 0, locals := 64 } (va_Pc [.ref h0] (sm_P D cl_all (ty_s ca) ek L f0 sz)) (sm_Qv D (ty_s ca) L f0 sz (fun u => po_m ca T L u)) 0 0 (va_A (va_pl L f0) sz) := by
  refine sm_start (by decide) (Nat.le_of_ble_eq_true rfl) ?_
  intro p e s m below meth c ls hx hb hml hr hlk hnm hts hown hsz hE hI hl
  have hl : lv_has ls 1 [(0, .ref h0)] := hl
  refine lv_aload_n hx hb d_Sr_sendAgain_0 rfl (lv_at hl 0 rfl) ?_
  refine fg_Sr_kept hx hb hts hown hI hT t0 (hts _ tw_115) (fun _ h9 => h9) d_Sr_sendAgain_1 (fun r_1 t_2 => ?_)
  refine fgN_Br_length hx hb hts hown hI hT t_2 (va_Nw.use rfl (hE.1 _ tn_50 rfl)) (fun _ h9 => h9) d_Sr_sendAgain_4 (fun n_3 h_4 => ?_)
  refine lv_if_le (tgt := 18) hx hb d_Sr_sendAgain_7 (by decide) (fun c_5 => ?_) (fun c_5 => ?_)
  · exact sm_vret hx hb hr hlk hI ⟨rfl, hT⟩ d_Sr_sendAgain_18
  · have k_7 : 0 < n_3 := Nat.pos_of_ne_zero (fun q => c_5 (by rw [q]; decide))
    refine lv_aload_n hx hb d_Sr_sendAgain_10 rfl (lv_at hl 0 rfl) ?_
    refine lv_aload_n hx hb d_Sr_sendAgain_11 rfl (lv_at hl 0 rfl) ?_
    refine fg_Sr_kept hx hb hts hown hI hT t0 (hts _ tw_115) (fun _ h9 => h9) d_Sr_sendAgain_12 (fun r_8 t_9 => ?_)
    refine sm_v hI (va_runV (As := [.ref r_8]) (rest := []) ⟨hx, hb, hml, hown, hts⟩ (c_Sr_send l D ca _ _ _ _ hT h0 t0 r_8 t_9) (kv_Sr_send hts rfl rfl (hts _ tw_896) ⟨Nat.le_of_ble_eq_true rfl, Nat.le_of_ble_eq_true rfl⟩) (pv_Sr hI hE hT t0) rfl rfl hl.1 rfl (lv_room (Nat.le_of_ble_eq_true rfl)) d_Sr_sendAgain_15 ⟨Nat.le_of_ble_eq_true rfl, Nat.le_of_ble_eq_true rfl⟩) (fun H locs f hI hT => ?_)
    exact sm_vret hx hb hr hlk hI ⟨rfl, hT⟩ d_Sr_sendAgain_18
theorem d_Li_clearRows_0 : decode b_Li_clearRows 0 = .ok (.aload_n 0, 1) := by decide +kernel
theorem d_Li_clearRows_1 : decode b_Li_clearRows 1 = .ok (.getfield 40, 3) := by decide +kernel
theorem d_Li_clearRows_4 : decode b_Li_clearRows 4 = .ok (.invokevirtual 43, 3) := by decide +kernel
theorem d_Li_clearRows_7 : decode b_Li_clearRows 7 = .ok (.aload_n 0, 1) := by decide +kernel
theorem d_Li_clearRows_8 : decode b_Li_clearRows 8 = .ok (.getfield 14, 3) := by decide +kernel
theorem d_Li_clearRows_11 : decode b_Li_clearRows 11 = .ok (.invokevirtual 43, 3) := by decide +kernel
theorem d_Li_clearRows_14 : decode b_Li_clearRows 14 = .ok (.aload_n 0, 1) := by decide +kernel
theorem d_Li_clearRows_15 : decode b_Li_clearRows 15 = .ok (.getfield 23, 3) := by decide +kernel
theorem d_Li_clearRows_18 : decode b_Li_clearRows 18 = .ok (.invokevirtual 46, 3) := by decide +kernel
theorem d_Li_clearRows_21 : decode b_Li_clearRows 21 = .ok (.aload_n 0, 1) := by decide +kernel
theorem d_Li_clearRows_22 : decode b_Li_clearRows 22 = .ok (.iconst 0, 1) := by decide +kernel
theorem d_Li_clearRows_23 : decode b_Li_clearRows 23 = .ok (.putfield 47, 3) := by decide +kernel
theorem d_Li_clearRows_26 : decode b_Li_clearRows 26 = .ok (.return_, 1) := by decide +kernel
set_option maxRecDepth 100000 in
set_option maxHeartbeats 4000000 in
theorem c_Li_clearRows (l : Launch) (D : va_G) (ca : Nat → ClassId) (T : ty_e) (L : List Nat) (f0 : Nat → va_E) (sz : Nat) (hT : ok_T ca T L f0) (h0 : Nat) (t0 : is_li T h0) :
    Met l y_Li_clearRows (Cond.code y_Li_clearRows b_Li_clearRows 1 none :: wg) { frames := 1, cells := 0, slots := 0, locals := 20 } (va_Pc [.ref h0] (sm_P D cl_all (ty_s ca) ek L f0 sz)) (sm_Qv D (ty_s ca) L f0 sz (fun u => po_m ca T L u)) 0 0 (va_A (va_pl L f0) sz) := by
  refine sm_start (by decide) (Nat.le_of_ble_eq_true rfl) ?_
  intro p e s m below meth c ls hx hb hml hr hlk hnm hts hown hsz hE hI hl
  have hl : lv_has ls 1 [(0, .ref h0)] := hl
  refine lv_aload_n hx hb d_Li_clearRows_0 rfl (lv_at hl 0 rfl) ?_
  refine fg_Li_waiting hx hb hts hown hI hT t0 (hts _ tw_123) (fun _ h9 => h9) d_Li_clearRows_1 (fun r_1 n_2 t_3 => ?_)
  refine sm_v hI (va_runV (As := []) (rest := []) ⟨hx, hb, hml, hown, hts⟩ (c_Br_clear l D ca _ _ _ _ hT r_1 t_3) (kv_Br_clear hts rfl rfl (hts _ tw_564) ⟨Nat.le_of_ble_eq_true rfl, Nat.le_of_ble_eq_true rfl⟩) (pv_Br hI hE hT t_3) rfl rfl hl.1 rfl (lv_room (Nat.le_of_ble_eq_true rfl)) d_Li_clearRows_4 ⟨Nat.le_of_ble_eq_true rfl, Nat.le_of_ble_eq_true rfl⟩) (fun H locs f hI hT => ?_)
  refine lv_aload_n hx hb d_Li_clearRows_7 rfl (lv_at hl 0 rfl) ?_
  refine fg_Li_heard hx hb hts hown hI hT t0 (hts _ tw_130) (fun _ h9 => h9) d_Li_clearRows_8 (fun r_4 t_5 => ?_)
  refine sm_v hI (va_runV (As := []) (rest := []) ⟨hx, hb, hml, hown, hts⟩ (c_Br_clear l D ca _ _ _ _ hT r_4 t_5) (kv_Br_clear hts rfl rfl (hts _ tw_564) ⟨Nat.le_of_ble_eq_true rfl, Nat.le_of_ble_eq_true rfl⟩) (pv_Br hI hE hT t_5) rfl rfl hl.1 rfl (lv_room (Nat.le_of_ble_eq_true rfl)) d_Li_clearRows_11 ⟨Nat.le_of_ble_eq_true rfl, Nat.le_of_ble_eq_true rfl⟩) (fun H locs f hI hT => ?_)
  refine lv_aload_n hx hb d_Li_clearRows_14 rfl (lv_at hl 0 rfl) ?_
  refine fg_Li_answers hx hb hts hown hI hT t0 (hts _ tw_138) (fun _ h9 => h9) d_Li_clearRows_15 (fun r_6 t_7 => ?_)
  refine sm_v hI (va_runV (As := []) (rest := []) ⟨hx, hb, hml, hown, hts⟩ (c_As_clear l D ca _ _ _ _ hT r_6 t_7) (kv_As_clear hts rfl rfl (hts _ tw_568) ⟨Nat.le_of_ble_eq_true rfl, Nat.le_of_ble_eq_true rfl⟩) (pv_As hI hE hT t_7) rfl rfl hl.1 rfl (lv_room (Nat.le_of_ble_eq_true rfl)) d_Li_clearRows_18 ⟨Nat.le_of_ble_eq_true rfl, Nat.le_of_ble_eq_true rfl⟩) (fun H locs f hI hT => ?_)
  refine lv_aload_n hx hb d_Li_clearRows_21 rfl (lv_at hl 0 rfl) ?_
  refine lv_iconst (v := 0) hx hb d_Li_clearRows_22 (by decide) ?_
  refine fp_Li_tooManyAnswers hx hb hts hown hI hT t0 (hts _ tw_169) (fun _ h9 => h9) (by decide) d_Li_clearRows_23 (fun H locs f hI hT => ?_)
  exact sm_vret hx hb hr hlk hI ⟨rfl, hT⟩ d_Li_clearRows_26
