/-! Connection, without frames (written by wip/tools) -/
theorem d_Cn_isInformation_0 : decode b_Cn_isInformation 0 = .ok (.aload_n 0, 1) := by decide +kernel
theorem d_Cn_isInformation_1 : decode b_Cn_isInformation 1 = .ok (.getfield 15, 3) := by decide +kernel
theorem d_Cn_isInformation_4 : decode b_Cn_isInformation 4 = .ok (.iconst 2, 1) := by decide +kernel
theorem d_Cn_isInformation_5 : decode b_Cn_isInformation 5 = .ok (.invokevirtual 25, 3) := by decide +kernel
theorem d_Cn_isInformation_8 : decode b_Cn_isInformation 8 = .ok (.iconst 1, 1) := by decide +kernel
theorem d_Cn_isInformation_9 : decode b_Cn_isInformation 9 = .ok (.iand, 1) := by decide +kernel
theorem d_Cn_isInformation_10 : decode b_Cn_isInformation 10 = .ok (.ifCond .ne 7, 3) := by decide +kernel
theorem d_Cn_isInformation_13 : decode b_Cn_isInformation 13 = .ok (.iconst 1, 1) := by decide +kernel
theorem d_Cn_isInformation_14 : decode b_Cn_isInformation 14 = .ok (.goto 4, 3) := by decide +kernel
theorem d_Cn_isInformation_17 : decode b_Cn_isInformation 17 = .ok (.iconst 0, 1) := by decide +kernel
theorem d_Cn_isInformation_18 : decode b_Cn_isInformation 18 = .ok (.ireturn, 1) := by decide +kernel
set_option maxRecDepth 100000 in
set_option maxHeartbeats 4000000 in
theorem c_Cn_isInformation (l : Launch) (D : va_G) (ca : Nat → ClassId) (T : ty_e) (L : List Nat) (f0 : Nat → va_E) (sz : Nat) (hT : ok_T ca T L f0) {k0 : Nat} (h0 : Nat) (t0 : T h0 = some (ty_cn k0)) :
    Met l y_Cn_isInformation (Cond.code y_Cn_isInformation b_Cn_isInformation 1 (some .boolean) :: wg) { frames := 1, cells := 0, slots := 0, locals := 21 } (va_Pc [.ref h0] (sm_P D cl_all (ty_s ca) ek L f0 sz)) (sm_Qi D (ty_s ca) L f0 sz (fun r u => (r = 0 ∨ r = 1) ∧ u = (L, f0))) 0 0 (va_A (va_pl L f0) sz) := by
  refine sm_start (by decide) (Nat.le_of_ble_eq_true rfl) ?_
  intro p e s m below meth c ls hx hb hml hr hlk hnm hts hown hsz hE hI hl
  have hl : lv_has ls 1 [(0, .ref h0)] := hl
  refine lv_aload_n hx hb d_Cn_isInformation_0 rfl (lv_at hl 0 rfl) ?_
  refine fg_Cn_heard hx hb hts hown hI hT t0 (hts _ tw_131) (fun x9 h9 => u_same (hts _ tw_132) x9 h9) d_Cn_isInformation_1 (fun r_1 t_2 => ?_)
  refine lv_iconst (v := 2) hx hb d_Cn_isInformation_4 (by decide) ?_
  refine sm_iP hI (va_runV (As := [.int (2)]) (rest := []) ⟨hx, hb, hml, hown, hts⟩ (c_Br_at l D ca _ _ _ _ hT r_1 t_2 2) (kv_Br_at hts rfl rfl (hts _ tw_838) ⟨Nat.le_of_ble_eq_true rfl, Nat.le_of_ble_eq_true rfl⟩) (pv_Br hI hE hT t_2) rfl rfl hl.1 rfl (lv_room (Nat.le_of_ble_eq_true rfl)) d_Cn_isInformation_5 ⟨Nat.le_of_ble_eq_true rfl, Nat.le_of_ble_eq_true rfl⟩) (fun x_3 H locs p_4 hI => ?_)
  refine lv_iconst (v := 1) hx hb d_Cn_isInformation_8 (by decide) ?_
  refine lv_iand hx hb d_Cn_isInformation_9 ?_
  refine lv_topi (fun x_5 e_6 => ?_)
  refine lv_if_ne (tgt := 17) hx hb d_Cn_isInformation_10 (by decide) (fun c_7 => ?_) (fun c_7 => ?_)
  · refine lv_iconst (v := 0) hx hb d_Cn_isInformation_17 (by decide) ?_
    exact sm_zret hx hb hr hlk hI (by decide) ⟨(by decide), rfl⟩ d_Cn_isInformation_18
  · refine lv_iconst (v := 1) hx hb d_Cn_isInformation_13 (by decide) ?_
    refine lv_goto (tgt := 18) hx hb d_Cn_isInformation_14 (by decide) ?_
    exact sm_zret hx hb hr hlk hI (by decide) ⟨(by decide), rfl⟩ d_Cn_isInformation_18
theorem d_Cn_isUnnumbered_0 : decode b_Cn_isUnnumbered 0 = .ok (.aload_n 0, 1) := by decide +kernel
theorem d_Cn_isUnnumbered_1 : decode b_Cn_isUnnumbered 1 = .ok (.getfield 15, 3) := by decide +kernel
theorem d_Cn_isUnnumbered_4 : decode b_Cn_isUnnumbered 4 = .ok (.iconst 2, 1) := by decide +kernel
theorem d_Cn_isUnnumbered_5 : decode b_Cn_isUnnumbered 5 = .ok (.invokevirtual 25, 3) := by decide +kernel
theorem d_Cn_isUnnumbered_8 : decode b_Cn_isUnnumbered 8 = .ok (.iconst 3, 1) := by decide +kernel
theorem d_Cn_isUnnumbered_9 : decode b_Cn_isUnnumbered 9 = .ok (.iand, 1) := by decide +kernel
theorem d_Cn_isUnnumbered_10 : decode b_Cn_isUnnumbered 10 = .ok (.iconst 3, 1) := by decide +kernel
theorem d_Cn_isUnnumbered_11 : decode b_Cn_isUnnumbered 11 = .ok (.if_icmp .ne 7, 3) := by decide +kernel
theorem d_Cn_isUnnumbered_14 : decode b_Cn_isUnnumbered 14 = .ok (.iconst 1, 1) := by decide +kernel
theorem d_Cn_isUnnumbered_15 : decode b_Cn_isUnnumbered 15 = .ok (.goto 4, 3) := by decide +kernel
theorem d_Cn_isUnnumbered_18 : decode b_Cn_isUnnumbered 18 = .ok (.iconst 0, 1) := by decide +kernel
theorem d_Cn_isUnnumbered_19 : decode b_Cn_isUnnumbered 19 = .ok (.ireturn, 1) := by decide +kernel
set_option maxRecDepth 100000 in
set_option maxHeartbeats 4000000 in
theorem c_Cn_isUnnumbered (l : Launch) (D : va_G) (ca : Nat → ClassId) (T : ty_e) (L : List Nat) (f0 : Nat → va_E) (sz : Nat) (hT : ok_T ca T L f0) {k0 : Nat} (h0 : Nat) (t0 : T h0 = some (ty_cn k0)) :
    Met l y_Cn_isUnnumbered (Cond.code y_Cn_isUnnumbered b_Cn_isUnnumbered 1 (some .boolean) :: wg) { frames := 1, cells := 0, slots := 0, locals := 21 } (va_Pc [.ref h0] (sm_P D cl_all (ty_s ca) ek L f0 sz)) (sm_Qi D (ty_s ca) L f0 sz (fun r u => (r = 0 ∨ r = 1) ∧ u = (L, f0))) 0 0 (va_A (va_pl L f0) sz) := by
  refine sm_start (by decide) (Nat.le_of_ble_eq_true rfl) ?_
  intro p e s m below meth c ls hx hb hml hr hlk hnm hts hown hsz hE hI hl
  have hl : lv_has ls 1 [(0, .ref h0)] := hl
  refine lv_aload_n hx hb d_Cn_isUnnumbered_0 rfl (lv_at hl 0 rfl) ?_
  refine fg_Cn_heard hx hb hts hown hI hT t0 (hts _ tw_131) (fun x9 h9 => u_same (hts _ tw_132) x9 h9) d_Cn_isUnnumbered_1 (fun r_1 t_2 => ?_)
  refine lv_iconst (v := 2) hx hb d_Cn_isUnnumbered_4 (by decide) ?_
  refine sm_iP hI (va_runV (As := [.int (2)]) (rest := []) ⟨hx, hb, hml, hown, hts⟩ (c_Br_at l D ca _ _ _ _ hT r_1 t_2 2) (kv_Br_at hts rfl rfl (hts _ tw_838) ⟨Nat.le_of_ble_eq_true rfl, Nat.le_of_ble_eq_true rfl⟩) (pv_Br hI hE hT t_2) rfl rfl hl.1 rfl (lv_room (Nat.le_of_ble_eq_true rfl)) d_Cn_isUnnumbered_5 ⟨Nat.le_of_ble_eq_true rfl, Nat.le_of_ble_eq_true rfl⟩) (fun x_3 H locs p_4 hI => ?_)
  refine lv_iconst (v := 3) hx hb d_Cn_isUnnumbered_8 (by decide) ?_
  refine lv_iand hx hb d_Cn_isUnnumbered_9 ?_
  refine lv_topi (fun x_5 e_6 => ?_)
  refine lv_iconst (v := 3) hx hb d_Cn_isUnnumbered_10 (by decide) ?_
  refine lv_icmp_ne (tgt := 18) hx hb d_Cn_isUnnumbered_11 (by decide) (fun c_7 => ?_) (fun c_7 => ?_)
  · refine lv_iconst (v := 0) hx hb d_Cn_isUnnumbered_18 (by decide) ?_
    exact sm_zret hx hb hr hlk hI (by decide) ⟨(by decide), rfl⟩ d_Cn_isUnnumbered_19
  · refine lv_iconst (v := 1) hx hb d_Cn_isUnnumbered_14 (by decide) ?_
    refine lv_goto (tgt := 19) hx hb d_Cn_isUnnumbered_15 (by decide) ?_
    exact sm_zret hx hb hr hlk hI (by decide) ⟨(by decide), rfl⟩ d_Cn_isUnnumbered_19
theorem d_Cn_oldestSent_0 : decode b_Cn_oldestSent 0 = .ok (.aload_n 0, 1) := by decide +kernel
theorem d_Cn_oldestSent_1 : decode b_Cn_oldestSent 1 = .ok (.getfield 55, 3) := by decide +kernel
theorem d_Cn_oldestSent_4 : decode b_Cn_oldestSent 4 = .ok (.aload_n 0, 1) := by decide +kernel
theorem d_Cn_oldestSent_5 : decode b_Cn_oldestSent 5 = .ok (.getfield 52, 3) := by decide +kernel
theorem d_Cn_oldestSent_8 : decode b_Cn_oldestSent 8 = .ok (.isub, 1) := by decide +kernel
theorem d_Cn_oldestSent_9 : decode b_Cn_oldestSent 9 = .ok (.sipush 32767, 3) := by decide +kernel
theorem d_Cn_oldestSent_12 : decode b_Cn_oldestSent 12 = .ok (.iand, 1) := by decide +kernel
theorem d_Cn_oldestSent_13 : decode b_Cn_oldestSent 13 = .ok (.ireturn, 1) := by decide +kernel
set_option maxRecDepth 100000 in
set_option maxHeartbeats 4000000 in
theorem c_Cn_oldestSent (l : Launch) (D : va_G) (ca : Nat → ClassId) (T : ty_e) (L : List Nat) (f0 : Nat → va_E) (sz : Nat) (hT : ok_T ca T L f0) {k0 : Nat} (h0 : Nat) (t0 : T h0 = some (ty_cn k0)) :
    Met l y_Cn_oldestSent (Cond.code y_Cn_oldestSent b_Cn_oldestSent 1 (some .int) :: wg) { frames := 0, cells := 0, slots := 0, locals := 0 } (va_Pc [.ref h0] (sm_P D cl_all (ty_s ca) ek L f0 sz)) (sm_Qi D (ty_s ca) L f0 sz (fun r u => (True) ∧ u = (L, f0))) 0 0 (va_A (va_pl L f0) sz) := by
  refine sm_start (by decide) (Nat.le_of_ble_eq_true rfl) ?_
  intro p e s m below meth c ls hx hb hml hr hlk hnm hts hown hsz hE hI hl
  have hl : lv_has ls 1 [(0, .ref h0)] := hl
  refine lv_aload_n hx hb d_Cn_oldestSent_0 rfl (lv_at hl 0 rfl) ?_
  refine fg_Cn_nextToSend hx hb hts hown hI hT t0 (hts _ tw_284) (fun _ h9 => h9) d_Cn_oldestSent_1 (fun x_1 => ?_)
  refine lv_aload_n hx hb d_Cn_oldestSent_4 rfl (lv_at hl 0 rfl) ?_
  refine fg_Cn_unconfirmed hx hb hts hown hI hT t0 (hts _ tw_286) (fun _ h9 => h9) d_Cn_oldestSent_5 (fun x_2 => ?_)
  refine lv_isub hx hb d_Cn_oldestSent_8 ?_
  refine lv_topi (fun x_3 e_4 => ?_)
  refine lv_sipush (v := 32767) hx hb d_Cn_oldestSent_9 (by decide) ?_
  refine lv_iand hx hb d_Cn_oldestSent_12 ?_
  refine lv_topi (fun x_5 e_6 => ?_)
  exact sm_iret hx hb hr hlk hI ⟨trivial, rfl⟩ d_Cn_oldestSent_13
theorem d_Cn_confirmedBy_0 : decode b_Cn_confirmedBy 0 = .ok (.iload_n 1, 1) := by decide +kernel
theorem d_Cn_confirmedBy_1 : decode b_Cn_confirmedBy 1 = .ok (.iconst 1, 1) := by decide +kernel
theorem d_Cn_confirmedBy_2 : decode b_Cn_confirmedBy 2 = .ok (.ishr, 1) := by decide +kernel
theorem d_Cn_confirmedBy_3 : decode b_Cn_confirmedBy 3 = .ok (.aload_n 0, 1) := by decide +kernel
theorem d_Cn_confirmedBy_4 : decode b_Cn_confirmedBy 4 = .ok (.invokevirtual 65, 3) := by decide +kernel
theorem d_Cn_confirmedBy_7 : decode b_Cn_confirmedBy 7 = .ok (.isub, 1) := by decide +kernel
theorem d_Cn_confirmedBy_8 : decode b_Cn_confirmedBy 8 = .ok (.sipush 32767, 3) := by decide +kernel
theorem d_Cn_confirmedBy_11 : decode b_Cn_confirmedBy 11 = .ok (.iand, 1) := by decide +kernel
theorem d_Cn_confirmedBy_12 : decode b_Cn_confirmedBy 12 = .ok (.ireturn, 1) := by decide +kernel
set_option maxRecDepth 100000 in
set_option maxHeartbeats 4000000 in
theorem c_Cn_confirmedBy (l : Launch) (D : va_G) (ca : Nat → ClassId) (T : ty_e) (L : List Nat) (f0 : Nat → va_E) (sz : Nat) (hT : ok_T ca T L f0) {k0 : Nat} (h0 : Nat) (t0 : T h0 = some (ty_cn k0)) (x1 : Int32) :
    Met l y_Cn_confirmedBy (Cond.code y_Cn_confirmedBy b_Cn_confirmedBy 2 (some .int) :: wg) { frames := 1, cells := 0, slots := 0, locals := 20 } (va_Pc [.ref h0, .int (x1)] (sm_P D cl_all (ty_s ca) ek L f0 sz)) (sm_Qi D (ty_s ca) L f0 sz (fun r u => (True) ∧ u = (L, f0))) 0 0 (va_A (va_pl L f0) sz) := by
  refine sm_start (by decide) (Nat.le_of_ble_eq_true rfl) ?_
  intro p e s m below meth c ls hx hb hml hr hlk hnm hts hown hsz hE hI hl
  have hl : lv_has ls 2 [(0, .ref h0), (1, .int (x1))] := hl
  refine lv_iload_n hx hb d_Cn_confirmedBy_0 rfl (lv_at hl 1 rfl) ?_
  refine lv_iconst (v := 1) hx hb d_Cn_confirmedBy_1 (by decide) ?_
  refine lv_ishr hx hb d_Cn_confirmedBy_2 ?_
  refine lv_topi (fun x_1 e_2 => ?_)
  refine lv_aload_n hx hb d_Cn_confirmedBy_3 rfl (lv_at hl 0 rfl) ?_
  refine sm_iP hI (va_runV (As := []) (rest := [.int (x_1)]) ⟨hx, hb, hml, hown, hts⟩ (c_Cn_oldestSent l D ca _ _ _ _ hT h0 t0) (kv_Cn_oldestSent hts rfl rfl (hts _ tw_774) ⟨Nat.le_of_ble_eq_true rfl, Nat.le_of_ble_eq_true rfl⟩) (pv_Cn hI hE hT t0) rfl rfl hl.1 rfl (lv_room (Nat.le_of_ble_eq_true rfl)) d_Cn_confirmedBy_4 ⟨Nat.le_of_ble_eq_true rfl, Nat.le_of_ble_eq_true rfl⟩) (fun x_3 H locs p_4 hI => ?_)
  refine lv_isub hx hb d_Cn_confirmedBy_7 ?_
  refine lv_topi (fun x_5 e_6 => ?_)
  refine lv_sipush (v := 32767) hx hb d_Cn_confirmedBy_8 (by decide) ?_
  refine lv_iand hx hb d_Cn_confirmedBy_11 ?_
  refine lv_topi (fun x_7 e_8 => ?_)
  exact sm_iret hx hb hr hlk hI ⟨trivial, rfl⟩ d_Cn_confirmedBy_12
theorem d_Cn_maySend_0 : decode b_Cn_maySend 0 = .ok (.aload_n 0, 1) := by decide +kernel
theorem d_Cn_maySend_1 : decode b_Cn_maySend 1 = .ok (.getfield 33, 3) := by decide +kernel
theorem d_Cn_maySend_4 : decode b_Cn_maySend 4 = .ok (.iconst 2, 1) := by decide +kernel
theorem d_Cn_maySend_5 : decode b_Cn_maySend 5 = .ok (.if_icmp .ne 29, 3) := by decide +kernel
theorem d_Cn_maySend_8 : decode b_Cn_maySend 8 = .ok (.aload_n 0, 1) := by decide +kernel
theorem d_Cn_maySend_9 : decode b_Cn_maySend 9 = .ok (.getfield 52, 3) := by decide +kernel
theorem d_Cn_maySend_12 : decode b_Cn_maySend 12 = .ok (.bipush 12, 2) := by decide +kernel
theorem d_Cn_maySend_14 : decode b_Cn_maySend 14 = .ok (.if_icmp .ge 20, 3) := by decide +kernel
theorem d_Cn_maySend_17 : decode b_Cn_maySend 17 = .ok (.aload_n 0, 1) := by decide +kernel
theorem d_Cn_maySend_18 : decode b_Cn_maySend 18 = .ok (.getfield 69, 3) := by decide +kernel
theorem d_Cn_maySend_21 : decode b_Cn_maySend 21 = .ok (.getfield 19, 3) := by decide +kernel
theorem d_Cn_maySend_24 : decode b_Cn_maySend 24 = .ok (.sipush 256, 3) := by decide +kernel
theorem d_Cn_maySend_27 : decode b_Cn_maySend 27 = .ok (.if_icmp .ge 7, 3) := by decide +kernel
theorem d_Cn_maySend_30 : decode b_Cn_maySend 30 = .ok (.iconst 1, 1) := by decide +kernel
theorem d_Cn_maySend_31 : decode b_Cn_maySend 31 = .ok (.goto 4, 3) := by decide +kernel
theorem d_Cn_maySend_34 : decode b_Cn_maySend 34 = .ok (.iconst 0, 1) := by decide +kernel
theorem d_Cn_maySend_35 : decode b_Cn_maySend 35 = .ok (.ireturn, 1) := by decide +kernel
set_option maxRecDepth 100000 in
set_option maxHeartbeats 4000000 in
theorem c_Cn_maySend (l : Launch) (D : va_G) (ca : Nat → ClassId) (T : ty_e) (L : List Nat) (f0 : Nat → va_E) (sz : Nat) (hT : ok_T ca T L f0) {k0 : Nat} (h0 : Nat) (t0 : T h0 = some (ty_cn k0)) :
    Met l y_Cn_maySend (Cond.code y_Cn_maySend b_Cn_maySend 1 (some .boolean) :: wg) { frames := 0, cells := 0, slots := 0, locals := 0 } (va_Pc [.ref h0] (sm_P D cl_all (ty_s ca) ek L f0 sz)) (sm_Qi D (ty_s ca) L f0 sz (fun r u => (r = 0 ∨ r = 1) ∧ u = (L, f0))) 0 0 (va_A (va_pl L f0) sz) := by
  refine sm_start (by decide) (Nat.le_of_ble_eq_true rfl) ?_
  intro p e s m below meth c ls hx hb hml hr hlk hnm hts hown hsz hE hI hl
  have hl : lv_has ls 1 [(0, .ref h0)] := hl
  refine lv_aload_n hx hb d_Cn_maySend_0 rfl (lv_at hl 0 rfl) ?_
  refine fg_Cn_state hx hb hts hown hI hT t0 (hts _ tw_146) (fun x9 h9 => u_same (hts _ tw_147) x9 h9) d_Cn_maySend_1 (fun x_1 => ?_)
  refine lv_iconst (v := 2) hx hb d_Cn_maySend_4 (by decide) ?_
  refine lv_icmp_ne (tgt := 34) hx hb d_Cn_maySend_5 (by decide) (fun c_2 => ?_) (fun c_2 => ?_)
  · refine lv_iconst (v := 0) hx hb d_Cn_maySend_34 (by decide) ?_
    exact sm_zret hx hb hr hlk hI (by decide) ⟨(by decide), rfl⟩ d_Cn_maySend_35
  · refine lv_aload_n hx hb d_Cn_maySend_8 rfl (lv_at hl 0 rfl) ?_
    refine fg_Cn_unconfirmed hx hb hts hown hI hT t0 (hts _ tw_286) (fun _ h9 => h9) d_Cn_maySend_9 (fun x_3 => ?_)
    refine lv_bipush (v := 12) hx hb d_Cn_maySend_12 (by decide) ?_
    refine lv_icmp_ge (tgt := 34) hx hb d_Cn_maySend_14 (by decide) (fun c_4 => ?_) (fun c_4 => ?_)
    · refine lv_iconst (v := 0) hx hb d_Cn_maySend_34 (by decide) ?_
      exact sm_zret hx hb hr hlk hI (by decide) ⟨(by decide), rfl⟩ d_Cn_maySend_35
    · refine lv_aload_n hx hb d_Cn_maySend_17 rfl (lv_at hl 0 rfl) ?_
      refine fg_Cn_waiting hx hb hts hown hI hT t0 (hts _ tw_125) (fun x9 h9 => u_same (hts _ tw_126) x9 h9) d_Cn_maySend_18 (fun r_5 t_6 => ?_)
      refine fgN_Br_length hx hb hts hown hI hT t_6 (va_Nw.use rfl (hE.1 _ tn_49 rfl)) (fun _ h9 => h9) d_Cn_maySend_21 (fun n_7 h_8 => ?_)
      refine lv_sipush (v := 256) hx hb d_Cn_maySend_24 (by decide) ?_
      refine lv_icmp_ge (tgt := 34) hx hb d_Cn_maySend_27 (by decide) (fun c_9 => ?_) (fun c_9 => ?_)
      · have k_10 : 256 ≤ n_7 := (nI_leI (a := 256) (b := n_7) (by omega) (by omega)).mp c_9
        refine lv_iconst (v := 0) hx hb d_Cn_maySend_34 (by decide) ?_
        exact sm_zret hx hb hr hlk hI (by decide) ⟨(by decide), rfl⟩ d_Cn_maySend_35
      · have k_11 : n_7 < 256 := Nat.lt_of_not_le (fun q => c_9 ((nI_leI (a := 256) (b := n_7) (by omega) (by omega)).mpr q))
        refine lv_iconst (v := 1) hx hb d_Cn_maySend_30 (by decide) ?_
        refine lv_goto (tgt := 35) hx hb d_Cn_maySend_31 (by decide) ?_
        exact sm_zret hx hb hr hlk hI (by decide) ⟨(by decide), rfl⟩ d_Cn_maySend_35
theorem d_Cn_isLate_0 : decode b_Cn_isLate 0 = .ok (.aload_n 0, 1) := by decide +kernel
theorem d_Cn_isLate_1 : decode b_Cn_isLate 1 = .ok (.getfield 61, 3) := by decide +kernel
theorem d_Cn_isLate_4 : decode b_Cn_isLate 4 = .ok (.ifCond .eq 18, 3) := by decide +kernel
theorem d_Cn_isLate_7 : decode b_Cn_isLate 7 = .ok (.lload_n 1, 1) := by decide +kernel
theorem d_Cn_isLate_8 : decode b_Cn_isLate 8 = .ok (.aload_n 0, 1) := by decide +kernel
theorem d_Cn_isLate_9 : decode b_Cn_isLate 9 = .ok (.getfield 76, 3) := by decide +kernel
theorem d_Cn_isLate_12 : decode b_Cn_isLate 12 = .ok (.lsub, 1) := by decide +kernel
theorem d_Cn_isLate_13 : decode b_Cn_isLate 13 = .ok (.ldc2_w 79, 3) := by decide +kernel
theorem d_Cn_isLate_16 : decode b_Cn_isLate 16 = .ok (.lcmp, 1) := by decide +kernel
theorem d_Cn_isLate_17 : decode b_Cn_isLate 17 = .ok (.ifCond .lt 5, 3) := by decide +kernel
theorem d_Cn_isLate_20 : decode b_Cn_isLate 20 = .ok (.iconst 1, 1) := by decide +kernel
theorem d_Cn_isLate_21 : decode b_Cn_isLate 21 = .ok (.ireturn, 1) := by decide +kernel
theorem d_Cn_isLate_22 : decode b_Cn_isLate 22 = .ok (.aload_n 0, 1) := by decide +kernel
theorem d_Cn_isLate_23 : decode b_Cn_isLate 23 = .ok (.getfield 52, 3) := by decide +kernel
theorem d_Cn_isLate_26 : decode b_Cn_isLate 26 = .ok (.ifCond .le 28, 3) := by decide +kernel
theorem d_Cn_isLate_29 : decode b_Cn_isLate 29 = .ok (.lload_n 1, 1) := by decide +kernel
theorem d_Cn_isLate_30 : decode b_Cn_isLate 30 = .ok (.aload_n 0, 1) := by decide +kernel
theorem d_Cn_isLate_31 : decode b_Cn_isLate 31 = .ok (.getfield 9, 3) := by decide +kernel
theorem d_Cn_isLate_34 : decode b_Cn_isLate 34 = .ok (.aload_n 0, 1) := by decide +kernel
theorem d_Cn_isLate_35 : decode b_Cn_isLate 35 = .ok (.invokevirtual 65, 3) := by decide +kernel
theorem d_Cn_isLate_38 : decode b_Cn_isLate 38 = .ok (.bipush 15, 2) := by decide +kernel
theorem d_Cn_isLate_40 : decode b_Cn_isLate 40 = .ok (.iand, 1) := by decide +kernel
theorem d_Cn_isLate_41 : decode b_Cn_isLate 41 = .ok (.laload, 1) := by decide +kernel
theorem d_Cn_isLate_42 : decode b_Cn_isLate 42 = .ok (.lsub, 1) := by decide +kernel
theorem d_Cn_isLate_43 : decode b_Cn_isLate 43 = .ok (.ldc2_w 79, 3) := by decide +kernel
theorem d_Cn_isLate_46 : decode b_Cn_isLate 46 = .ok (.lcmp, 1) := by decide +kernel
theorem d_Cn_isLate_47 : decode b_Cn_isLate 47 = .ok (.ifCond .lt 7, 3) := by decide +kernel
theorem d_Cn_isLate_50 : decode b_Cn_isLate 50 = .ok (.iconst 1, 1) := by decide +kernel
theorem d_Cn_isLate_51 : decode b_Cn_isLate 51 = .ok (.goto 4, 3) := by decide +kernel
theorem d_Cn_isLate_54 : decode b_Cn_isLate 54 = .ok (.iconst 0, 1) := by decide +kernel
theorem d_Cn_isLate_55 : decode b_Cn_isLate 55 = .ok (.ireturn, 1) := by decide +kernel
set_option maxRecDepth 100000 in
set_option maxHeartbeats 4000000 in
theorem c_Cn_isLate (l : Launch) (D : va_G) (ca : Nat → ClassId) (T : ty_e) (L : List Nat) (f0 : Nat → va_E) (sz : Nat) (hT : ok_T ca T L f0) {k0 : Nat} (h0 : Nat) (t0 : T h0 = some (ty_cn k0)) (x1 : Int64) :
    Met l y_Cn_isLate (Cond.code y_Cn_isLate b_Cn_isLate 3 (some .boolean) :: wg) { frames := 1, cells := 0, slots := 0, locals := 20 } (va_Pc [.ref h0, .long (x1)] (sm_P D cl_all (ty_s ca) ek L f0 sz)) (sm_Qi D (ty_s ca) L f0 sz (fun r u => (r = 0 ∨ r = 1) ∧ u = (L, f0))) 0 0 (va_A (va_pl L f0) sz) := by
  refine sm_start (by decide) (Nat.le_of_ble_eq_true rfl) ?_
  intro p e s m below meth c ls hx hb hml hr hlk hnm hts hown hsz hE hI hl
  have hl : lv_has ls 3 [(0, .ref h0), (1, .long (x1))] := hl
  have hJ_22 : ∀ (H : Heap) (locs : List Loc) (ls : Array Slot) , sw_I D cl_all (ty_s ca) (va_A (va_pl L f0) sz) s H locs L f0 → lv_has ls 3 [(0, .ref h0), (1, .long (x1))] → W p l e { frames := 1, cells := 0, slots := 0, locals := 20 } s m ([.ref h0, .long (x1)] : List Value).toArray below meth c H locs 0 0 (MQ below (sm_Qi D (ty_s ca) L f0 sz (fun r u => (r = 0 ∨ r = 1) ∧ u = (L, f0))) ([.ref h0, .long (x1)] : List Value).toArray s 0 0 (va_A (va_pl L f0) sz)) (F0 m 22 ls []) := by
    intro H locs ls  hI hl 
    refine lv_aload_n hx hb d_Cn_isLate_22 rfl (lv_at hl 0 rfl) ?_
    refine fg_Cn_unconfirmed hx hb hts hown hI hT t0 (hts _ tw_286) (fun _ h9 => h9) d_Cn_isLate_23 (fun x_1 => ?_)
    refine lv_if_le (tgt := 54) hx hb d_Cn_isLate_26 (by decide) (fun c_2 => ?_) (fun c_2 => ?_)
    · refine lv_iconst (v := 0) hx hb d_Cn_isLate_54 (by decide) ?_
      exact sm_zret hx hb hr hlk hI (by decide) ⟨(by decide), rfl⟩ d_Cn_isLate_55
    · refine lv_lload_n hx hb d_Cn_isLate_29 rfl (lv_at hl 1 rfl) ?_
      refine lv_aload_n hx hb d_Cn_isLate_30 rfl (lv_at hl 0 rfl) ?_
      refine fg_Cn_sentAt hx hb hts hown hI hT t0 (hts _ tw_288) (fun _ h9 => h9) d_Cn_isLate_31 (fun r_3 t_4 => ?_)
      refine lv_aload_n hx hb d_Cn_isLate_34 rfl (lv_at hl 0 rfl) ?_
      refine sm_iP hI (va_runV (As := []) (rest := [.ref r_3, .long (x1)]) ⟨hx, hb, hml, hown, hts⟩ (c_Cn_oldestSent l D ca _ _ _ _ hT h0 t0) (kv_Cn_oldestSent hts rfl rfl (hts _ tw_774) ⟨Nat.le_of_ble_eq_true rfl, Nat.le_of_ble_eq_true rfl⟩) (pv_Cn hI hE hT t0) rfl rfl hl.1 rfl (lv_room (Nat.le_of_ble_eq_true rfl)) d_Cn_isLate_35 ⟨Nat.le_of_ble_eq_true rfl, Nat.le_of_ble_eq_true rfl⟩) (fun x_5 H locs p_6 hI => ?_)
      refine lv_bipush (v := 15) hx hb d_Cn_isLate_38 (by decide) ?_
      refine lv_iand hx hb d_Cn_isLate_40 ?_
      refine lv_topi (fun x_7 e_8 => ?_)
      refine fa_J hx hb hI hT t_4 (by rw [e_8]; exact pk_andIn _ 4 (by decide) (by decide)) d_Cn_isLate_41 (fun x_9 => ?_)
      refine lv_lsub hx hb d_Cn_isLate_42 ?_
      refine lv_topl (fun x_10 e_11 => ?_)
      refine lv_ldc2 (v := 15000) hx hb hown (hts _ tw_773) d_Cn_isLate_43 ?_
      refine W.lcmp hx hb d_Cn_isLate_46 ?_
      refine lv_topi (fun x_12 e_13 => ?_)
      refine lv_if_lt (tgt := 54) hx hb d_Cn_isLate_47 (by decide) (fun c_14 => ?_) (fun c_14 => ?_)
      · refine lv_iconst (v := 0) hx hb d_Cn_isLate_54 (by decide) ?_
        exact sm_zret hx hb hr hlk hI (by decide) ⟨(by decide), rfl⟩ d_Cn_isLate_55
      · refine lv_iconst (v := 1) hx hb d_Cn_isLate_50 (by decide) ?_
        refine lv_goto (tgt := 55) hx hb d_Cn_isLate_51 (by decide) ?_
        exact sm_zret hx hb hr hlk hI (by decide) ⟨(by decide), rfl⟩ d_Cn_isLate_55
  refine lv_aload_n hx hb d_Cn_isLate_0 rfl (lv_at hl 0 rfl) ?_
  refine fg_Cn_testIsOut hx hb hts hown hI hT t0 (hts _ tw_295) (fun _ h9 => h9) d_Cn_isLate_1 (fun x_15 p_16 => ?_)
  refine lv_if_eq (tgt := 22) hx hb d_Cn_isLate_4 (by decide) (fun c_17 => ?_) (fun c_17 => ?_)
  · exact hJ_22 _ _ _  hI (lv_sub hl [0, 1] rfl)
  · refine lv_lload_n hx hb d_Cn_isLate_7 rfl (lv_at hl 1 rfl) ?_
    refine lv_aload_n hx hb d_Cn_isLate_8 rfl (lv_at hl 0 rfl) ?_
    refine fg_Cn_testAt hx hb hts hown hI hT t0 (hts _ tw_297) (fun _ h9 => h9) d_Cn_isLate_9 (fun x_18 => ?_)
    refine lv_lsub hx hb d_Cn_isLate_12 ?_
    refine lv_topl (fun x_19 e_20 => ?_)
    refine lv_ldc2 (v := 15000) hx hb hown (hts _ tw_773) d_Cn_isLate_13 ?_
    refine W.lcmp hx hb d_Cn_isLate_16 ?_
    refine lv_topi (fun x_21 e_22 => ?_)
    refine lv_if_lt (tgt := 22) hx hb d_Cn_isLate_17 (by decide) (fun c_23 => ?_) (fun c_23 => ?_)
    · exact hJ_22 _ _ _  hI (lv_sub hl [0, 1] rfl)
    · refine lv_iconst (v := 1) hx hb d_Cn_isLate_20 (by decide) ?_
      exact sm_zret hx hb hr hlk hI (by decide) ⟨(by decide), rfl⟩ d_Cn_isLate_21
theorem d_Cn_noteSent_0 : decode b_Cn_noteSent 0 = .ok (.aload_n 0, 1) := by decide +kernel
theorem d_Cn_noteSent_1 : decode b_Cn_noteSent 1 = .ok (.getfield 9, 3) := by decide +kernel
theorem d_Cn_noteSent_4 : decode b_Cn_noteSent 4 = .ok (.aload_n 0, 1) := by decide +kernel
theorem d_Cn_noteSent_5 : decode b_Cn_noteSent 5 = .ok (.getfield 55, 3) := by decide +kernel
theorem d_Cn_noteSent_8 : decode b_Cn_noteSent 8 = .ok (.bipush 15, 2) := by decide +kernel
theorem d_Cn_noteSent_10 : decode b_Cn_noteSent 10 = .ok (.iand, 1) := by decide +kernel
theorem d_Cn_noteSent_11 : decode b_Cn_noteSent 11 = .ok (.lload_n 1, 1) := by decide +kernel
theorem d_Cn_noteSent_12 : decode b_Cn_noteSent 12 = .ok (.lastore, 1) := by decide +kernel
theorem d_Cn_noteSent_13 : decode b_Cn_noteSent 13 = .ok (.aload_n 0, 1) := by decide +kernel
theorem d_Cn_noteSent_14 : decode b_Cn_noteSent 14 = .ok (.aload_n 0, 1) := by decide +kernel
theorem d_Cn_noteSent_15 : decode b_Cn_noteSent 15 = .ok (.getfield 55, 3) := by decide +kernel
theorem d_Cn_noteSent_18 : decode b_Cn_noteSent 18 = .ok (.iconst 1, 1) := by decide +kernel
theorem d_Cn_noteSent_19 : decode b_Cn_noteSent 19 = .ok (.iadd, 1) := by decide +kernel
theorem d_Cn_noteSent_20 : decode b_Cn_noteSent 20 = .ok (.sipush 32767, 3) := by decide +kernel
theorem d_Cn_noteSent_23 : decode b_Cn_noteSent 23 = .ok (.iand, 1) := by decide +kernel
theorem d_Cn_noteSent_24 : decode b_Cn_noteSent 24 = .ok (.putfield 55, 3) := by decide +kernel
theorem d_Cn_noteSent_27 : decode b_Cn_noteSent 27 = .ok (.aload_n 0, 1) := by decide +kernel
theorem d_Cn_noteSent_28 : decode b_Cn_noteSent 28 = .ok (.dup, 1) := by decide +kernel
theorem d_Cn_noteSent_29 : decode b_Cn_noteSent 29 = .ok (.getfield 52, 3) := by decide +kernel
theorem d_Cn_noteSent_32 : decode b_Cn_noteSent 32 = .ok (.iconst 1, 1) := by decide +kernel
theorem d_Cn_noteSent_33 : decode b_Cn_noteSent 33 = .ok (.iadd, 1) := by decide +kernel
theorem d_Cn_noteSent_34 : decode b_Cn_noteSent 34 = .ok (.putfield 52, 3) := by decide +kernel
theorem d_Cn_noteSent_37 : decode b_Cn_noteSent 37 = .ok (.aload_n 0, 1) := by decide +kernel
theorem d_Cn_noteSent_38 : decode b_Cn_noteSent 38 = .ok (.iconst 0, 1) := by decide +kernel
theorem d_Cn_noteSent_39 : decode b_Cn_noteSent 39 = .ok (.putfield 58, 3) := by decide +kernel
theorem d_Cn_noteSent_42 : decode b_Cn_noteSent 42 = .ok (.return_, 1) := by decide +kernel
set_option maxRecDepth 100000 in
set_option maxHeartbeats 4000000 in
theorem c_Cn_noteSent (l : Launch) (D : va_G) (ca : Nat → ClassId) (T : ty_e) (L : List Nat) (f0 : Nat → va_E) (sz : Nat) (hT : ok_T ca T L f0) {k0 : Nat} (h0 : Nat) (t0 : T h0 = some (ty_cn k0)) (x1 : Int64) :
    Met l y_Cn_noteSent (Cond.code y_Cn_noteSent b_Cn_noteSent 3 none :: wg) { frames := 0, cells := 0, slots := 0, locals := 0 } (va_Pc [.ref h0, .long (x1)] (sm_P D cl_all (ty_s ca) ek L f0 sz)) (sm_Qv D (ty_s ca) L f0 sz (fun u => po_m ca T L u)) 0 0 (va_A (va_pl L f0) sz) := by
  refine sm_start (by decide) (Nat.le_of_ble_eq_true rfl) ?_
  intro p e s m below meth c ls hx hb hml hr hlk hnm hts hown hsz hE hI hl
  have hl : lv_has ls 3 [(0, .ref h0), (1, .long (x1))] := hl
  refine lv_aload_n hx hb d_Cn_noteSent_0 rfl (lv_at hl 0 rfl) ?_
  refine fg_Cn_sentAt hx hb hts hown hI hT t0 (hts _ tw_288) (fun _ h9 => h9) d_Cn_noteSent_1 (fun r_1 t_2 => ?_)
  refine lv_aload_n hx hb d_Cn_noteSent_4 rfl (lv_at hl 0 rfl) ?_
  refine fg_Cn_nextToSend hx hb hts hown hI hT t0 (hts _ tw_284) (fun _ h9 => h9) d_Cn_noteSent_5 (fun x_3 => ?_)
  refine lv_bipush (v := 15) hx hb d_Cn_noteSent_8 (by decide) ?_
  refine lv_iand hx hb d_Cn_noteSent_10 ?_
  refine lv_topi (fun x_4 e_5 => ?_)
  refine lv_lload_n hx hb d_Cn_noteSent_11 rfl (lv_at hl 1 rfl) ?_
  refine fs_J hx hb hI hT t_2 (by rw [e_5]; exact pk_andIn _ 4 (by decide) (by decide)) d_Cn_noteSent_12 (fun H locs f hI hT => ?_)
  refine lv_aload_n hx hb d_Cn_noteSent_13 rfl (lv_at hl 0 rfl) ?_
  refine lv_aload_n hx hb d_Cn_noteSent_14 rfl (lv_at hl 0 rfl) ?_
  refine fg_Cn_nextToSend hx hb hts hown hI hT t0 (hts _ tw_284) (fun _ h9 => h9) d_Cn_noteSent_15 (fun x_6 => ?_)
  refine lv_iconst (v := 1) hx hb d_Cn_noteSent_18 (by decide) ?_
  refine lv_iadd hx hb d_Cn_noteSent_19 ?_
  refine lv_topi (fun x_7 e_8 => ?_)
  refine lv_sipush (v := 32767) hx hb d_Cn_noteSent_20 (by decide) ?_
  refine lv_iand hx hb d_Cn_noteSent_23 ?_
  refine lv_topi (fun x_9 e_10 => ?_)
  refine fp_Cn_nextToSend hx hb hts hown hI hT t0 (hts _ tw_284) (fun _ h9 => h9) d_Cn_noteSent_24 (fun H locs f hI hT => ?_)
  refine lv_aload_n hx hb d_Cn_noteSent_27 rfl (lv_at hl 0 rfl) ?_
  refine lv_dup hx hb d_Cn_noteSent_28 rfl ?_
  refine fg_Cn_unconfirmed hx hb hts hown hI hT t0 (hts _ tw_286) (fun _ h9 => h9) d_Cn_noteSent_29 (fun x_11 => ?_)
  refine lv_iconst (v := 1) hx hb d_Cn_noteSent_32 (by decide) ?_
  refine lv_iadd hx hb d_Cn_noteSent_33 ?_
  refine lv_topi (fun x_12 e_13 => ?_)
  refine fp_Cn_unconfirmed hx hb hts hown hI hT t0 (hts _ tw_286) (fun _ h9 => h9) d_Cn_noteSent_34 (fun H locs f hI hT => ?_)
  refine lv_aload_n hx hb d_Cn_noteSent_37 rfl (lv_at hl 0 rfl) ?_
  refine lv_iconst (v := 0) hx hb d_Cn_noteSent_38 (by decide) ?_
  refine fp_Cn_came hx hb hts hown hI hT t0 (hts _ tw_291) (fun _ h9 => h9) d_Cn_noteSent_39 (fun H locs f hI hT => ?_)
  exact sm_vret hx hb hr hlk hI ⟨rfl, hT⟩ d_Cn_noteSent_42
theorem d_Cn_noteCame_0 : decode b_Cn_noteCame 0 = .ok (.aload_n 0, 1) := by decide +kernel
theorem d_Cn_noteCame_1 : decode b_Cn_noteCame 1 = .ok (.aload_n 0, 1) := by decide +kernel
theorem d_Cn_noteCame_2 : decode b_Cn_noteCame 2 = .ok (.getfield 40, 3) := by decide +kernel
theorem d_Cn_noteCame_5 : decode b_Cn_noteCame 5 = .ok (.iconst 1, 1) := by decide +kernel
theorem d_Cn_noteCame_6 : decode b_Cn_noteCame 6 = .ok (.iadd, 1) := by decide +kernel
theorem d_Cn_noteCame_7 : decode b_Cn_noteCame 7 = .ok (.sipush 32767, 3) := by decide +kernel
theorem d_Cn_noteCame_10 : decode b_Cn_noteCame 10 = .ok (.iand, 1) := by decide +kernel
theorem d_Cn_noteCame_11 : decode b_Cn_noteCame 11 = .ok (.putfield 40, 3) := by decide +kernel
theorem d_Cn_noteCame_14 : decode b_Cn_noteCame 14 = .ok (.aload_n 0, 1) := by decide +kernel
theorem d_Cn_noteCame_15 : decode b_Cn_noteCame 15 = .ok (.getfield 58, 3) := by decide +kernel
theorem d_Cn_noteCame_18 : decode b_Cn_noteCame 18 = .ok (.ifCond .ne 8, 3) := by decide +kernel
theorem d_Cn_noteCame_21 : decode b_Cn_noteCame 21 = .ok (.aload_n 0, 1) := by decide +kernel
theorem d_Cn_noteCame_22 : decode b_Cn_noteCame 22 = .ok (.lload_n 1, 1) := by decide +kernel
theorem d_Cn_noteCame_23 : decode b_Cn_noteCame 23 = .ok (.putfield 72, 3) := by decide +kernel
theorem d_Cn_noteCame_26 : decode b_Cn_noteCame 26 = .ok (.aload_n 0, 1) := by decide +kernel
theorem d_Cn_noteCame_27 : decode b_Cn_noteCame 27 = .ok (.dup, 1) := by decide +kernel
theorem d_Cn_noteCame_28 : decode b_Cn_noteCame 28 = .ok (.getfield 58, 3) := by decide +kernel
theorem d_Cn_noteCame_31 : decode b_Cn_noteCame 31 = .ok (.iconst 1, 1) := by decide +kernel
theorem d_Cn_noteCame_32 : decode b_Cn_noteCame 32 = .ok (.iadd, 1) := by decide +kernel
theorem d_Cn_noteCame_33 : decode b_Cn_noteCame 33 = .ok (.putfield 58, 3) := by decide +kernel
theorem d_Cn_noteCame_36 : decode b_Cn_noteCame 36 = .ok (.return_, 1) := by decide +kernel
set_option maxRecDepth 100000 in
set_option maxHeartbeats 4000000 in
theorem c_Cn_noteCame (l : Launch) (D : va_G) (ca : Nat → ClassId) (T : ty_e) (L : List Nat) (f0 : Nat → va_E) (sz : Nat) (hT : ok_T ca T L f0) {k0 : Nat} (h0 : Nat) (t0 : T h0 = some (ty_cn k0)) (x1 : Int64) :
    Met l y_Cn_noteCame (Cond.code y_Cn_noteCame b_Cn_noteCame 3 none :: wg) { frames := 0, cells := 0, slots := 0, locals := 0 } (va_Pc [.ref h0, .long (x1)] (sm_P D cl_all (ty_s ca) ek L f0 sz)) (sm_Qv D (ty_s ca) L f0 sz (fun u => po_m ca T L u)) 0 0 (va_A (va_pl L f0) sz) := by
  refine sm_start (by decide) (Nat.le_of_ble_eq_true rfl) ?_
  intro p e s m below meth c ls hx hb hml hr hlk hnm hts hown hsz hE hI hl
  have hl : lv_has ls 3 [(0, .ref h0), (1, .long (x1))] := hl
  refine lv_aload_n hx hb d_Cn_noteCame_0 rfl (lv_at hl 0 rfl) ?_
  refine lv_aload_n hx hb d_Cn_noteCame_1 rfl (lv_at hl 0 rfl) ?_
  refine fg_Cn_nextToCome hx hb hts hown hI hT t0 (hts _ tw_289) (fun _ h9 => h9) d_Cn_noteCame_2 (fun x_1 => ?_)
  refine lv_iconst (v := 1) hx hb d_Cn_noteCame_5 (by decide) ?_
  refine lv_iadd hx hb d_Cn_noteCame_6 ?_
  refine lv_topi (fun x_2 e_3 => ?_)
  refine lv_sipush (v := 32767) hx hb d_Cn_noteCame_7 (by decide) ?_
  refine lv_iand hx hb d_Cn_noteCame_10 ?_
  refine lv_topi (fun x_4 e_5 => ?_)
  refine fp_Cn_nextToCome hx hb hts hown hI hT t0 (hts _ tw_289) (fun _ h9 => h9) d_Cn_noteCame_11 (fun H locs f hI hT => ?_)
  refine lv_aload_n hx hb d_Cn_noteCame_14 rfl (lv_at hl 0 rfl) ?_
  refine fg_Cn_came hx hb hts hown hI hT t0 (hts _ tw_291) (fun _ h9 => h9) d_Cn_noteCame_15 (fun x_6 => ?_)
  refine lv_if_ne (tgt := 26) hx hb d_Cn_noteCame_18 (by decide) (fun c_7 => ?_) (fun c_7 => ?_)
  · refine lv_aload_n hx hb d_Cn_noteCame_26 rfl (lv_at hl 0 rfl) ?_
    refine lv_dup hx hb d_Cn_noteCame_27 rfl ?_
    refine fg_Cn_came hx hb hts hown hI hT t0 (hts _ tw_291) (fun _ h9 => h9) d_Cn_noteCame_28 (fun x_8 => ?_)
    refine lv_iconst (v := 1) hx hb d_Cn_noteCame_31 (by decide) ?_
    refine lv_iadd hx hb d_Cn_noteCame_32 ?_
    refine lv_topi (fun x_9 e_10 => ?_)
    refine fp_Cn_came hx hb hts hown hI hT t0 (hts _ tw_291) (fun _ h9 => h9) d_Cn_noteCame_33 (fun H locs f hI hT => ?_)
    exact sm_vret hx hb hr hlk hI ⟨rfl, hT⟩ d_Cn_noteCame_36
  · refine lv_aload_n hx hb d_Cn_noteCame_21 rfl (lv_at hl 0 rfl) ?_
    refine lv_lload_n hx hb d_Cn_noteCame_22 rfl (lv_at hl 1 rfl) ?_
    refine fp_Cn_cameAt hx hb hts hown hI hT t0 (hts _ tw_293) (fun _ h9 => h9) d_Cn_noteCame_23 (fun H locs f hI hT => ?_)
    refine lv_aload_n hx hb d_Cn_noteCame_26 rfl (lv_at hl 0 rfl) ?_
    refine lv_dup hx hb d_Cn_noteCame_27 rfl ?_
    refine fg_Cn_came hx hb hts hown hI hT t0 (hts _ tw_291) (fun _ h9 => h9) d_Cn_noteCame_28 (fun x_11 => ?_)
    refine lv_iconst (v := 1) hx hb d_Cn_noteCame_31 (by decide) ?_
    refine lv_iadd hx hb d_Cn_noteCame_32 ?_
    refine lv_topi (fun x_12 e_13 => ?_)
    refine fp_Cn_came hx hb hts hown hI hT t0 (hts _ tw_291) (fun _ h9 => h9) d_Cn_noteCame_33 (fun H locs f hI hT => ?_)
    exact sm_vret hx hb hr hlk hI ⟨rfl, hT⟩ d_Cn_noteCame_36
theorem d_Cn_forgetNumbers_0 : decode b_Cn_forgetNumbers 0 = .ok (.aload_n 0, 1) := by decide +kernel
theorem d_Cn_forgetNumbers_1 : decode b_Cn_forgetNumbers 1 = .ok (.iconst 0, 1) := by decide +kernel
theorem d_Cn_forgetNumbers_2 : decode b_Cn_forgetNumbers 2 = .ok (.putfield 55, 3) := by decide +kernel
theorem d_Cn_forgetNumbers_5 : decode b_Cn_forgetNumbers 5 = .ok (.aload_n 0, 1) := by decide +kernel
theorem d_Cn_forgetNumbers_6 : decode b_Cn_forgetNumbers 6 = .ok (.iconst 0, 1) := by decide +kernel
theorem d_Cn_forgetNumbers_7 : decode b_Cn_forgetNumbers 7 = .ok (.putfield 52, 3) := by decide +kernel
theorem d_Cn_forgetNumbers_10 : decode b_Cn_forgetNumbers 10 = .ok (.aload_n 0, 1) := by decide +kernel
theorem d_Cn_forgetNumbers_11 : decode b_Cn_forgetNumbers 11 = .ok (.iconst 0, 1) := by decide +kernel
theorem d_Cn_forgetNumbers_12 : decode b_Cn_forgetNumbers 12 = .ok (.putfield 40, 3) := by decide +kernel
theorem d_Cn_forgetNumbers_15 : decode b_Cn_forgetNumbers 15 = .ok (.aload_n 0, 1) := by decide +kernel
theorem d_Cn_forgetNumbers_16 : decode b_Cn_forgetNumbers 16 = .ok (.iconst 0, 1) := by decide +kernel
theorem d_Cn_forgetNumbers_17 : decode b_Cn_forgetNumbers 17 = .ok (.putfield 58, 3) := by decide +kernel
theorem d_Cn_forgetNumbers_20 : decode b_Cn_forgetNumbers 20 = .ok (.aload_n 0, 1) := by decide +kernel
theorem d_Cn_forgetNumbers_21 : decode b_Cn_forgetNumbers 21 = .ok (.iconst 0, 1) := by decide +kernel
theorem d_Cn_forgetNumbers_22 : decode b_Cn_forgetNumbers 22 = .ok (.putfield 61, 3) := by decide +kernel
theorem d_Cn_forgetNumbers_25 : decode b_Cn_forgetNumbers 25 = .ok (.return_, 1) := by decide +kernel
set_option maxRecDepth 100000 in
set_option maxHeartbeats 4000000 in
theorem c_Cn_forgetNumbers (l : Launch) (D : va_G) (ca : Nat → ClassId) (T : ty_e) (L : List Nat) (f0 : Nat → va_E) (sz : Nat) (hT : ok_T ca T L f0) {k0 : Nat} (h0 : Nat) (t0 : T h0 = some (ty_cn k0)) :
    Met l y_Cn_forgetNumbers (Cond.code y_Cn_forgetNumbers b_Cn_forgetNumbers 1 none :: wg) { frames := 0, cells := 0, slots := 0, locals := 0 } (va_Pc [.ref h0] (sm_P D cl_all (ty_s ca) ek L f0 sz)) (sm_Qv D (ty_s ca) L f0 sz (fun u => po_m ca T L u)) 0 0 (va_A (va_pl L f0) sz) := by
  refine sm_start (by decide) (Nat.le_of_ble_eq_true rfl) ?_
  intro p e s m below meth c ls hx hb hml hr hlk hnm hts hown hsz hE hI hl
  have hl : lv_has ls 1 [(0, .ref h0)] := hl
  refine lv_aload_n hx hb d_Cn_forgetNumbers_0 rfl (lv_at hl 0 rfl) ?_
  refine lv_iconst (v := 0) hx hb d_Cn_forgetNumbers_1 (by decide) ?_
  refine fp_Cn_nextToSend hx hb hts hown hI hT t0 (hts _ tw_284) (fun _ h9 => h9) d_Cn_forgetNumbers_2 (fun H locs f hI hT => ?_)
  refine lv_aload_n hx hb d_Cn_forgetNumbers_5 rfl (lv_at hl 0 rfl) ?_
  refine lv_iconst (v := 0) hx hb d_Cn_forgetNumbers_6 (by decide) ?_
  refine fp_Cn_unconfirmed hx hb hts hown hI hT t0 (hts _ tw_286) (fun _ h9 => h9) d_Cn_forgetNumbers_7 (fun H locs f hI hT => ?_)
  refine lv_aload_n hx hb d_Cn_forgetNumbers_10 rfl (lv_at hl 0 rfl) ?_
  refine lv_iconst (v := 0) hx hb d_Cn_forgetNumbers_11 (by decide) ?_
  refine fp_Cn_nextToCome hx hb hts hown hI hT t0 (hts _ tw_289) (fun _ h9 => h9) d_Cn_forgetNumbers_12 (fun H locs f hI hT => ?_)
  refine lv_aload_n hx hb d_Cn_forgetNumbers_15 rfl (lv_at hl 0 rfl) ?_
  refine lv_iconst (v := 0) hx hb d_Cn_forgetNumbers_16 (by decide) ?_
  refine fp_Cn_came hx hb hts hown hI hT t0 (hts _ tw_291) (fun _ h9 => h9) d_Cn_forgetNumbers_17 (fun H locs f hI hT => ?_)
  refine lv_aload_n hx hb d_Cn_forgetNumbers_20 rfl (lv_at hl 0 rfl) ?_
  refine lv_iconst (v := 0) hx hb d_Cn_forgetNumbers_21 (by decide) ?_
  refine fp_Cn_testIsOut hx hb hts hown hI hT t0 (hts _ tw_295) (fun _ h9 => h9) (by decide) d_Cn_forgetNumbers_22 (fun H locs f hI hT => ?_)
  exact sm_vret hx hb hr hlk hI ⟨rfl, hT⟩ d_Cn_forgetNumbers_25
theorem d_Cn_isNumberConfirmed_0 : decode b_Cn_isNumberConfirmed 0 = .ok (.aload_n 0, 1) := by decide +kernel
theorem d_Cn_isNumberConfirmed_1 : decode b_Cn_isNumberConfirmed 1 = .ok (.getfield 15, 3) := by decide +kernel
theorem d_Cn_isNumberConfirmed_4 : decode b_Cn_isNumberConfirmed 4 = .ok (.iconst 4, 1) := by decide +kernel
theorem d_Cn_isNumberConfirmed_5 : decode b_Cn_isNumberConfirmed 5 = .ok (.iconst 2, 1) := by decide +kernel
theorem d_Cn_isNumberConfirmed_6 : decode b_Cn_isNumberConfirmed 6 = .ok (.invokevirtual 36, 3) := by decide +kernel
theorem d_Cn_isNumberConfirmed_9 : decode b_Cn_isNumberConfirmed 9 = .ok (.istore_n 1, 1) := by decide +kernel
theorem d_Cn_isNumberConfirmed_10 : decode b_Cn_isNumberConfirmed 10 = .ok (.iload_n 1, 1) := by decide +kernel
theorem d_Cn_isNumberConfirmed_11 : decode b_Cn_isNumberConfirmed 11 = .ok (.iconst 1, 1) := by decide +kernel
theorem d_Cn_isNumberConfirmed_12 : decode b_Cn_isNumberConfirmed 12 = .ok (.iand, 1) := by decide +kernel
theorem d_Cn_isNumberConfirmed_13 : decode b_Cn_isNumberConfirmed 13 = .ok (.ifCond .ne 19, 3) := by decide +kernel
theorem d_Cn_isNumberConfirmed_16 : decode b_Cn_isNumberConfirmed 16 = .ok (.aload_n 0, 1) := by decide +kernel
theorem d_Cn_isNumberConfirmed_17 : decode b_Cn_isNumberConfirmed 17 = .ok (.iload_n 1, 1) := by decide +kernel
theorem d_Cn_isNumberConfirmed_18 : decode b_Cn_isNumberConfirmed 18 = .ok (.invokevirtual 49, 3) := by decide +kernel
theorem d_Cn_isNumberConfirmed_21 : decode b_Cn_isNumberConfirmed 21 = .ok (.aload_n 0, 1) := by decide +kernel
theorem d_Cn_isNumberConfirmed_22 : decode b_Cn_isNumberConfirmed 22 = .ok (.getfield 52, 3) := by decide +kernel
theorem d_Cn_isNumberConfirmed_25 : decode b_Cn_isNumberConfirmed 25 = .ok (.if_icmp .gt 7, 3) := by decide +kernel
theorem d_Cn_isNumberConfirmed_28 : decode b_Cn_isNumberConfirmed 28 = .ok (.iconst 1, 1) := by decide +kernel
theorem d_Cn_isNumberConfirmed_29 : decode b_Cn_isNumberConfirmed 29 = .ok (.goto 4, 3) := by decide +kernel
theorem d_Cn_isNumberConfirmed_32 : decode b_Cn_isNumberConfirmed 32 = .ok (.iconst 0, 1) := by decide +kernel
theorem d_Cn_isNumberConfirmed_33 : decode b_Cn_isNumberConfirmed 33 = .ok (.ireturn, 1) := by decide +kernel
set_option maxRecDepth 100000 in
set_option maxHeartbeats 4000000 in
theorem c_Cn_isNumberConfirmed (l : Launch) (D : va_G) (ca : Nat → ClassId) (T : ty_e) (L : List Nat) (f0 : Nat → va_E) (sz : Nat) (hT : ok_T ca T L f0) {k0 : Nat} (h0 : Nat) (t0 : T h0 = some (ty_cn k0)) :
    Met l y_Cn_isNumberConfirmed (Cond.code y_Cn_isNumberConfirmed b_Cn_isNumberConfirmed 2 (some .boolean) :: wg) { frames := 2, cells := 0, slots := 0, locals := 45 } (va_Pc [.ref h0] (sm_P D cl_all (ty_s ca) ek L f0 sz)) (sm_Qi D (ty_s ca) L f0 sz (fun r u => (r = 0 ∨ r = 1) ∧ u = (L, f0))) 0 0 (va_A (va_pl L f0) sz) := by
  refine sm_start (by decide) (Nat.le_of_ble_eq_true rfl) ?_
  intro p e s m below meth c ls hx hb hml hr hlk hnm hts hown hsz hE hI hl
  have hl : lv_has ls 2 [(0, .ref h0)] := hl
  refine lv_aload_n hx hb d_Cn_isNumberConfirmed_0 rfl (lv_at hl 0 rfl) ?_
  refine fg_Cn_heard hx hb hts hown hI hT t0 (hts _ tw_131) (fun x9 h9 => u_same (hts _ tw_132) x9 h9) d_Cn_isNumberConfirmed_1 (fun r_1 t_2 => ?_)
  refine lv_iconst (v := 4) hx hb d_Cn_isNumberConfirmed_4 (by decide) ?_
  refine lv_iconst (v := 2) hx hb d_Cn_isNumberConfirmed_5 (by decide) ?_
  refine sm_iP hI (va_runV (As := [.int (4), .int (2)]) (rest := []) ⟨hx, hb, hml, hown, hts⟩ (c_Br_number l D ca _ _ _ _ hT r_1 t_2 4 (2) (by omega)) (kv_Br_number hts rfl rfl (hts _ tw_1058) ⟨Nat.le_of_ble_eq_true rfl, Nat.le_of_ble_eq_true rfl⟩) (pv_Br hI hE hT t_2) rfl rfl hl.1 rfl (lv_room (Nat.le_of_ble_eq_true rfl)) d_Cn_isNumberConfirmed_6 ⟨Nat.le_of_ble_eq_true rfl, Nat.le_of_ble_eq_true rfl⟩) (fun x_3 H locs p_4 hI => ?_)
  refine lv_istore_n (lv' := [(1, .int (x_3)), (0, .ref h0)]) hx hb d_Cn_isNumberConfirmed_9 rfl hl (by decide) rfl (fun ls hl => ?_)
  refine lv_iload_n hx hb d_Cn_isNumberConfirmed_10 rfl (lv_at hl 0 rfl) ?_
  refine lv_iconst (v := 1) hx hb d_Cn_isNumberConfirmed_11 (by decide) ?_
  refine lv_iand hx hb d_Cn_isNumberConfirmed_12 ?_
  refine lv_topi (fun x_5 e_6 => ?_)
  refine lv_if_ne (tgt := 32) hx hb d_Cn_isNumberConfirmed_13 (by decide) (fun c_7 => ?_) (fun c_7 => ?_)
  · refine lv_iconst (v := 0) hx hb d_Cn_isNumberConfirmed_32 (by decide) ?_
    exact sm_zret hx hb hr hlk hI (by decide) ⟨(by decide), rfl⟩ d_Cn_isNumberConfirmed_33
  · refine lv_aload_n hx hb d_Cn_isNumberConfirmed_16 rfl (lv_at hl 1 rfl) ?_
    refine lv_iload_n hx hb d_Cn_isNumberConfirmed_17 rfl (lv_at hl 0 rfl) ?_
    refine sm_iP hI (va_runV (As := [.int (x_3)]) (rest := []) ⟨hx, hb, hml, hown, hts⟩ (c_Cn_confirmedBy l D ca _ _ _ _ hT h0 t0 x_3) (kv_Cn_confirmedBy hts rfl rfl (hts _ tw_1063) ⟨Nat.le_of_ble_eq_true rfl, Nat.le_of_ble_eq_true rfl⟩) (pv_Cn hI hE hT t0) rfl rfl hl.1 rfl (lv_room (Nat.le_of_ble_eq_true rfl)) d_Cn_isNumberConfirmed_18 ⟨Nat.le_of_ble_eq_true rfl, Nat.le_of_ble_eq_true rfl⟩) (fun x_8 H locs p_9 hI => ?_)
    refine lv_aload_n hx hb d_Cn_isNumberConfirmed_21 rfl (lv_at hl 1 rfl) ?_
    refine fg_Cn_unconfirmed hx hb hts hown hI hT t0 (hts _ tw_286) (fun _ h9 => h9) d_Cn_isNumberConfirmed_22 (fun x_10 => ?_)
    refine lv_icmp_gt (tgt := 32) hx hb d_Cn_isNumberConfirmed_25 (by decide) (fun c_11 => ?_) (fun c_11 => ?_)
    · refine lv_iconst (v := 0) hx hb d_Cn_isNumberConfirmed_32 (by decide) ?_
      exact sm_zret hx hb hr hlk hI (by decide) ⟨(by decide), rfl⟩ d_Cn_isNumberConfirmed_33
    · refine lv_iconst (v := 1) hx hb d_Cn_isNumberConfirmed_28 (by decide) ?_
      refine lv_goto (tgt := 33) hx hb d_Cn_isNumberConfirmed_29 (by decide) ?_
      exact sm_zret hx hb hr hlk hI (by decide) ⟨(by decide), rfl⟩ d_Cn_isNumberConfirmed_33
theorem d_Cn_isAnyFrame_0 : decode b_Cn_isAnyFrame 0 = .ok (.aload_n 0, 1) := by decide +kernel
theorem d_Cn_isAnyFrame_1 : decode b_Cn_isAnyFrame 1 = .ok (.invokevirtual 29, 3) := by decide +kernel
theorem d_Cn_isAnyFrame_4 : decode b_Cn_isAnyFrame 4 = .ok (.ifCond .eq 42, 3) := by decide +kernel
theorem d_Cn_isAnyFrame_7 : decode b_Cn_isAnyFrame 7 = .ok (.aload_n 0, 1) := by decide +kernel
theorem d_Cn_isAnyFrame_8 : decode b_Cn_isAnyFrame 8 = .ok (.getfield 33, 3) := by decide +kernel
theorem d_Cn_isAnyFrame_11 : decode b_Cn_isAnyFrame 11 = .ok (.iconst 2, 1) := by decide +kernel
theorem d_Cn_isAnyFrame_12 : decode b_Cn_isAnyFrame 12 = .ok (.if_icmp .ne 32, 3) := by decide +kernel
theorem d_Cn_isAnyFrame_15 : decode b_Cn_isAnyFrame 15 = .ok (.aload_n 0, 1) := by decide +kernel
theorem d_Cn_isAnyFrame_16 : decode b_Cn_isAnyFrame 16 = .ok (.getfield 15, 3) := by decide +kernel
theorem d_Cn_isAnyFrame_19 : decode b_Cn_isAnyFrame 19 = .ok (.iconst 2, 1) := by decide +kernel
theorem d_Cn_isAnyFrame_20 : decode b_Cn_isAnyFrame 20 = .ok (.iconst 2, 1) := by decide +kernel
theorem d_Cn_isAnyFrame_21 : decode b_Cn_isAnyFrame 21 = .ok (.invokevirtual 36, 3) := by decide +kernel
theorem d_Cn_isAnyFrame_24 : decode b_Cn_isAnyFrame 24 = .ok (.iconst 2, 1) := by decide +kernel
theorem d_Cn_isAnyFrame_25 : decode b_Cn_isAnyFrame 25 = .ok (.aload_n 0, 1) := by decide +kernel
theorem d_Cn_isAnyFrame_26 : decode b_Cn_isAnyFrame 26 = .ok (.getfield 40, 3) := by decide +kernel
theorem d_Cn_isAnyFrame_29 : decode b_Cn_isAnyFrame 29 = .ok (.imul, 1) := by decide +kernel
theorem d_Cn_isAnyFrame_30 : decode b_Cn_isAnyFrame 30 = .ok (.if_icmp .ne 14, 3) := by decide +kernel
theorem d_Cn_isAnyFrame_33 : decode b_Cn_isAnyFrame 33 = .ok (.aload_n 0, 1) := by decide +kernel
theorem d_Cn_isAnyFrame_34 : decode b_Cn_isAnyFrame 34 = .ok (.invokevirtual 43, 3) := by decide +kernel
theorem d_Cn_isAnyFrame_37 : decode b_Cn_isAnyFrame 37 = .ok (.ifCond .eq 7, 3) := by decide +kernel
theorem d_Cn_isAnyFrame_40 : decode b_Cn_isAnyFrame 40 = .ok (.iconst 1, 1) := by decide +kernel
theorem d_Cn_isAnyFrame_41 : decode b_Cn_isAnyFrame 41 = .ok (.goto 4, 3) := by decide +kernel
theorem d_Cn_isAnyFrame_44 : decode b_Cn_isAnyFrame 44 = .ok (.iconst 0, 1) := by decide +kernel
theorem d_Cn_isAnyFrame_45 : decode b_Cn_isAnyFrame 45 = .ok (.ireturn, 1) := by decide +kernel
theorem d_Cn_isAnyFrame_46 : decode b_Cn_isAnyFrame 46 = .ok (.aload_n 0, 1) := by decide +kernel
theorem d_Cn_isAnyFrame_47 : decode b_Cn_isAnyFrame 47 = .ok (.getfield 15, 3) := by decide +kernel
theorem d_Cn_isAnyFrame_50 : decode b_Cn_isAnyFrame 50 = .ok (.getfield 19, 3) := by decide +kernel
theorem d_Cn_isAnyFrame_53 : decode b_Cn_isAnyFrame 53 = .ok (.bipush 6, 2) := by decide +kernel
theorem d_Cn_isAnyFrame_55 : decode b_Cn_isAnyFrame 55 = .ok (.if_icmp .eq 5, 3) := by decide +kernel
theorem d_Cn_isAnyFrame_58 : decode b_Cn_isAnyFrame 58 = .ok (.iconst 0, 1) := by decide +kernel
theorem d_Cn_isAnyFrame_59 : decode b_Cn_isAnyFrame 59 = .ok (.ireturn, 1) := by decide +kernel
theorem d_Cn_isAnyFrame_60 : decode b_Cn_isAnyFrame 60 = .ok (.aload_n 0, 1) := by decide +kernel
theorem d_Cn_isAnyFrame_61 : decode b_Cn_isAnyFrame 61 = .ok (.invokevirtual 46, 3) := by decide +kernel
theorem d_Cn_isAnyFrame_64 : decode b_Cn_isAnyFrame 64 = .ok (.ifCond .eq 23, 3) := by decide +kernel
theorem d_Cn_isAnyFrame_67 : decode b_Cn_isAnyFrame 67 = .ok (.aload_n 0, 1) := by decide +kernel
theorem d_Cn_isAnyFrame_68 : decode b_Cn_isAnyFrame 68 = .ok (.getfield 15, 3) := by decide +kernel
theorem d_Cn_isAnyFrame_71 : decode b_Cn_isAnyFrame 71 = .ok (.iconst 3, 1) := by decide +kernel
theorem d_Cn_isAnyFrame_72 : decode b_Cn_isAnyFrame 72 = .ok (.iconst 3, 1) := by decide +kernel
theorem d_Cn_isAnyFrame_73 : decode b_Cn_isAnyFrame 73 = .ok (.invokevirtual 36, 3) := by decide +kernel
theorem d_Cn_isAnyFrame_76 : decode b_Cn_isAnyFrame 76 = .ok (.ifCond .ne 7, 3) := by decide +kernel
theorem d_Cn_isAnyFrame_79 : decode b_Cn_isAnyFrame 79 = .ok (.iconst 1, 1) := by decide +kernel
theorem d_Cn_isAnyFrame_80 : decode b_Cn_isAnyFrame 80 = .ok (.goto 32, 3) := by decide +kernel
theorem d_Cn_isAnyFrame_83 : decode b_Cn_isAnyFrame 83 = .ok (.iconst 0, 1) := by decide +kernel
theorem d_Cn_isAnyFrame_84 : decode b_Cn_isAnyFrame 84 = .ok (.goto 28, 3) := by decide +kernel
theorem d_Cn_isAnyFrame_87 : decode b_Cn_isAnyFrame 87 = .ok (.aload_n 0, 1) := by decide +kernel
theorem d_Cn_isAnyFrame_88 : decode b_Cn_isAnyFrame 88 = .ok (.getfield 15, 3) := by decide +kernel
theorem d_Cn_isAnyFrame_91 : decode b_Cn_isAnyFrame 91 = .ok (.iconst 2, 1) := by decide +kernel
theorem d_Cn_isAnyFrame_92 : decode b_Cn_isAnyFrame 92 = .ok (.iconst 2, 1) := by decide +kernel
theorem d_Cn_isAnyFrame_93 : decode b_Cn_isAnyFrame 93 = .ok (.invokevirtual 36, 3) := by decide +kernel
theorem d_Cn_isAnyFrame_96 : decode b_Cn_isAnyFrame 96 = .ok (.iconst 1, 1) := by decide +kernel
theorem d_Cn_isAnyFrame_97 : decode b_Cn_isAnyFrame 97 = .ok (.if_icmp .ne 14, 3) := by decide +kernel
theorem d_Cn_isAnyFrame_100 : decode b_Cn_isAnyFrame 100 = .ok (.aload_n 0, 1) := by decide +kernel
theorem d_Cn_isAnyFrame_101 : decode b_Cn_isAnyFrame 101 = .ok (.invokevirtual 43, 3) := by decide +kernel
theorem d_Cn_isAnyFrame_104 : decode b_Cn_isAnyFrame 104 = .ok (.ifCond .eq 7, 3) := by decide +kernel
theorem d_Cn_isAnyFrame_107 : decode b_Cn_isAnyFrame 107 = .ok (.iconst 1, 1) := by decide +kernel
theorem d_Cn_isAnyFrame_108 : decode b_Cn_isAnyFrame 108 = .ok (.goto 4, 3) := by decide +kernel
theorem d_Cn_isAnyFrame_111 : decode b_Cn_isAnyFrame 111 = .ok (.iconst 0, 1) := by decide +kernel
theorem d_Cn_isAnyFrame_112 : decode b_Cn_isAnyFrame 112 = .ok (.ireturn, 1) := by decide +kernel
set_option maxRecDepth 100000 in
set_option maxHeartbeats 4000000 in
theorem c_Cn_isAnyFrame (l : Launch) (D : va_G) (ca : Nat → ClassId) (T : ty_e) (L : List Nat) (f0 : Nat → va_E) (sz : Nat) (hT : ok_T ca T L f0) {k0 : Nat} (h0 : Nat) (t0 : T h0 = some (ty_cn k0)) :
    Met l y_Cn_isAnyFrame (Cond.code y_Cn_isAnyFrame b_Cn_isAnyFrame 1 (some .boolean) :: wg) { frames := 3, cells := 0, slots := 0, locals := 66 } (va_Pc [.ref h0] (sm_P D cl_all (ty_s ca) ek L f0 sz)) (sm_Qi D (ty_s ca) L f0 sz (fun r u => (r = 0 ∨ r = 1) ∧ u = (L, f0))) 0 0 (va_A (va_pl L f0) sz) := by
  refine sm_start (by decide) (Nat.le_of_ble_eq_true rfl) ?_
  intro p e s m below meth c ls hx hb hml hr hlk hnm hts hown hsz hE hI hl
  have hl : lv_has ls 1 [(0, .ref h0)] := hl
  refine lv_aload_n hx hb d_Cn_isAnyFrame_0 rfl (lv_at hl 0 rfl) ?_
  refine sm_iP hI (va_runV (As := []) (rest := []) ⟨hx, hb, hml, hown, hts⟩ (c_Cn_isInformation l D ca _ _ _ _ hT h0 t0) (kv_Cn_isInformation hts rfl rfl (hts _ tw_1054) ⟨Nat.le_of_ble_eq_true rfl, Nat.le_of_ble_eq_true rfl⟩) (pv_Cn hI hE hT t0) rfl rfl hl.1 rfl (lv_room (Nat.le_of_ble_eq_true rfl)) d_Cn_isAnyFrame_1 ⟨Nat.le_of_ble_eq_true rfl, Nat.le_of_ble_eq_true rfl⟩) (fun x_1 H locs p_2 hI => ?_)
  refine lv_if_eq (tgt := 46) hx hb d_Cn_isAnyFrame_4 (by decide) (fun c_3 => ?_) (fun c_3 => ?_)
  · refine lv_aload_n hx hb d_Cn_isAnyFrame_46 rfl (lv_at hl 0 rfl) ?_
    refine fg_Cn_heard hx hb hts hown hI hT t0 (hts _ tw_131) (fun x9 h9 => u_same (hts _ tw_132) x9 h9) d_Cn_isAnyFrame_47 (fun r_4 t_5 => ?_)
    refine fgN_Br_length hx hb hts hown hI hT t_5 (va_Nw.use rfl (hE.1 _ tn_49 rfl)) (fun _ h9 => h9) d_Cn_isAnyFrame_50 (fun n_6 h_7 => ?_)
    refine lv_bipush (v := 6) hx hb d_Cn_isAnyFrame_53 (by decide) ?_
    refine lv_icmp_eq (tgt := 60) hx hb d_Cn_isAnyFrame_55 (by decide) (fun c_8 => ?_) (fun c_8 => ?_)
    · have k_9 : n_6 = 6 := (nI_eq (a := n_6) (b := 6) (by omega) (by omega)).mp c_8
      refine lv_aload_n hx hb d_Cn_isAnyFrame_60 rfl (lv_at hl 0 rfl) ?_
      refine sm_iP hI (va_runV (As := []) (rest := []) ⟨hx, hb, hml, hown, hts⟩ (c_Cn_isUnnumbered l D ca _ _ _ _ hT h0 t0) (kv_Cn_isUnnumbered hts rfl rfl (hts _ tw_1067) ⟨Nat.le_of_ble_eq_true rfl, Nat.le_of_ble_eq_true rfl⟩) (pv_Cn hI hE hT t0) rfl rfl hl.1 rfl (lv_room (Nat.le_of_ble_eq_true rfl)) d_Cn_isAnyFrame_61 ⟨Nat.le_of_ble_eq_true rfl, Nat.le_of_ble_eq_true rfl⟩) (fun x_10 H locs p_11 hI => ?_)
      refine lv_if_eq (tgt := 87) hx hb d_Cn_isAnyFrame_64 (by decide) (fun c_12 => ?_) (fun c_12 => ?_)
      · refine lv_aload_n hx hb d_Cn_isAnyFrame_87 rfl (lv_at hl 0 rfl) ?_
        refine fg_Cn_heard hx hb hts hown hI hT t0 (hts _ tw_131) (fun x9 h9 => u_same (hts _ tw_132) x9 h9) d_Cn_isAnyFrame_88 (fun r_13 t_14 => ?_)
        refine lv_iconst (v := 2) hx hb d_Cn_isAnyFrame_91 (by decide) ?_
        refine lv_iconst (v := 2) hx hb d_Cn_isAnyFrame_92 (by decide) ?_
        refine sm_iP hI (va_runV (As := [.int (2), .int (2)]) (rest := []) ⟨hx, hb, hml, hown, hts⟩ (c_Br_number l D ca _ _ _ _ hT r_13 t_14 2 (2) (by omega)) (kv_Br_number hts rfl rfl (hts _ tw_1058) ⟨Nat.le_of_ble_eq_true rfl, Nat.le_of_ble_eq_true rfl⟩) (pv_Br hI hE hT t_14) rfl rfl hl.1 rfl (lv_room (Nat.le_of_ble_eq_true rfl)) d_Cn_isAnyFrame_93 ⟨Nat.le_of_ble_eq_true rfl, Nat.le_of_ble_eq_true rfl⟩) (fun x_15 H locs p_16 hI => ?_)
        refine lv_iconst (v := 1) hx hb d_Cn_isAnyFrame_96 (by decide) ?_
        refine lv_icmp_ne (tgt := 111) hx hb d_Cn_isAnyFrame_97 (by decide) (fun c_17 => ?_) (fun c_17 => ?_)
        · refine lv_iconst (v := 0) hx hb d_Cn_isAnyFrame_111 (by decide) ?_
          exact sm_zret hx hb hr hlk hI (by decide) ⟨(by decide), rfl⟩ d_Cn_isAnyFrame_112
        · refine lv_aload_n hx hb d_Cn_isAnyFrame_100 rfl (lv_at hl 0 rfl) ?_
          refine sm_iP hI (va_runV (As := []) (rest := []) ⟨hx, hb, hml, hown, hts⟩ (c_Cn_isNumberConfirmed l D ca _ _ _ _ hT h0 t0) (kv_Cn_isNumberConfirmed hts rfl rfl (hts _ tw_1059) ⟨Nat.le_of_ble_eq_true rfl, Nat.le_of_ble_eq_true rfl⟩) (pv_Cn hI hE hT t0) rfl rfl hl.1 rfl (lv_room (Nat.le_of_ble_eq_true rfl)) d_Cn_isAnyFrame_101 ⟨Nat.le_of_ble_eq_true rfl, Nat.le_of_ble_eq_true rfl⟩) (fun x_18 H locs p_19 hI => ?_)
          refine lv_if_eq (tgt := 111) hx hb d_Cn_isAnyFrame_104 (by decide) (fun c_20 => ?_) (fun c_20 => ?_)
          · refine lv_iconst (v := 0) hx hb d_Cn_isAnyFrame_111 (by decide) ?_
            exact sm_zret hx hb hr hlk hI (by decide) ⟨(by decide), rfl⟩ d_Cn_isAnyFrame_112
          · refine lv_iconst (v := 1) hx hb d_Cn_isAnyFrame_107 (by decide) ?_
            refine lv_goto (tgt := 112) hx hb d_Cn_isAnyFrame_108 (by decide) ?_
            exact sm_zret hx hb hr hlk hI (by decide) ⟨(by decide), rfl⟩ d_Cn_isAnyFrame_112
      · refine lv_aload_n hx hb d_Cn_isAnyFrame_67 rfl (lv_at hl 0 rfl) ?_
        refine fg_Cn_heard hx hb hts hown hI hT t0 (hts _ tw_131) (fun x9 h9 => u_same (hts _ tw_132) x9 h9) d_Cn_isAnyFrame_68 (fun r_21 t_22 => ?_)
        refine lv_iconst (v := 3) hx hb d_Cn_isAnyFrame_71 (by decide) ?_
        refine lv_iconst (v := 3) hx hb d_Cn_isAnyFrame_72 (by decide) ?_
        refine sm_iP hI (va_runV (As := [.int (3), .int (3)]) (rest := []) ⟨hx, hb, hml, hown, hts⟩ (c_Br_number l D ca _ _ _ _ hT r_21 t_22 3 (3) (by omega)) (kv_Br_number hts rfl rfl (hts _ tw_1058) ⟨Nat.le_of_ble_eq_true rfl, Nat.le_of_ble_eq_true rfl⟩) (pv_Br hI hE hT t_22) rfl rfl hl.1 rfl (lv_room (Nat.le_of_ble_eq_true rfl)) d_Cn_isAnyFrame_73 ⟨Nat.le_of_ble_eq_true rfl, Nat.le_of_ble_eq_true rfl⟩) (fun x_23 H locs p_24 hI => ?_)
        refine lv_if_ne (tgt := 83) hx hb d_Cn_isAnyFrame_76 (by decide) (fun c_25 => ?_) (fun c_25 => ?_)
        · refine lv_iconst (v := 0) hx hb d_Cn_isAnyFrame_83 (by decide) ?_
          refine lv_goto (tgt := 112) hx hb d_Cn_isAnyFrame_84 (by decide) ?_
          exact sm_zret hx hb hr hlk hI (by decide) ⟨(by decide), rfl⟩ d_Cn_isAnyFrame_112
        · refine lv_iconst (v := 1) hx hb d_Cn_isAnyFrame_79 (by decide) ?_
          refine lv_goto (tgt := 112) hx hb d_Cn_isAnyFrame_80 (by decide) ?_
          exact sm_zret hx hb hr hlk hI (by decide) ⟨(by decide), rfl⟩ d_Cn_isAnyFrame_112
    · have k_26 : ¬ n_6 = 6 := (fun q => c_8 ((nI_eq (a := n_6) (b := 6) (by omega) (by omega)).mpr q))
      refine lv_iconst (v := 0) hx hb d_Cn_isAnyFrame_58 (by decide) ?_
      exact sm_zret hx hb hr hlk hI (by decide) ⟨(by decide), rfl⟩ d_Cn_isAnyFrame_59
  · refine lv_aload_n hx hb d_Cn_isAnyFrame_7 rfl (lv_at hl 0 rfl) ?_
    refine fg_Cn_state hx hb hts hown hI hT t0 (hts _ tw_146) (fun x9 h9 => u_same (hts _ tw_147) x9 h9) d_Cn_isAnyFrame_8 (fun x_27 => ?_)
    refine lv_iconst (v := 2) hx hb d_Cn_isAnyFrame_11 (by decide) ?_
    refine lv_icmp_ne (tgt := 44) hx hb d_Cn_isAnyFrame_12 (by decide) (fun c_28 => ?_) (fun c_28 => ?_)
    · refine lv_iconst (v := 0) hx hb d_Cn_isAnyFrame_44 (by decide) ?_
      exact sm_zret hx hb hr hlk hI (by decide) ⟨(by decide), rfl⟩ d_Cn_isAnyFrame_45
    · refine lv_aload_n hx hb d_Cn_isAnyFrame_15 rfl (lv_at hl 0 rfl) ?_
      refine fg_Cn_heard hx hb hts hown hI hT t0 (hts _ tw_131) (fun x9 h9 => u_same (hts _ tw_132) x9 h9) d_Cn_isAnyFrame_16 (fun r_29 t_30 => ?_)
      refine lv_iconst (v := 2) hx hb d_Cn_isAnyFrame_19 (by decide) ?_
      refine lv_iconst (v := 2) hx hb d_Cn_isAnyFrame_20 (by decide) ?_
      refine sm_iP hI (va_runV (As := [.int (2), .int (2)]) (rest := []) ⟨hx, hb, hml, hown, hts⟩ (c_Br_number l D ca _ _ _ _ hT r_29 t_30 2 (2) (by omega)) (kv_Br_number hts rfl rfl (hts _ tw_1058) ⟨Nat.le_of_ble_eq_true rfl, Nat.le_of_ble_eq_true rfl⟩) (pv_Br hI hE hT t_30) rfl rfl hl.1 rfl (lv_room (Nat.le_of_ble_eq_true rfl)) d_Cn_isAnyFrame_21 ⟨Nat.le_of_ble_eq_true rfl, Nat.le_of_ble_eq_true rfl⟩) (fun x_31 H locs p_32 hI => ?_)
      refine lv_iconst (v := 2) hx hb d_Cn_isAnyFrame_24 (by decide) ?_
      refine lv_aload_n hx hb d_Cn_isAnyFrame_25 rfl (lv_at hl 0 rfl) ?_
      refine fg_Cn_nextToCome hx hb hts hown hI hT t0 (hts _ tw_289) (fun _ h9 => h9) d_Cn_isAnyFrame_26 (fun x_33 => ?_)
      refine lv_imul hx hb d_Cn_isAnyFrame_29 ?_
      refine lv_topi (fun x_34 e_35 => ?_)
      refine lv_icmp_ne (tgt := 44) hx hb d_Cn_isAnyFrame_30 (by decide) (fun c_36 => ?_) (fun c_36 => ?_)
      · refine lv_iconst (v := 0) hx hb d_Cn_isAnyFrame_44 (by decide) ?_
        exact sm_zret hx hb hr hlk hI (by decide) ⟨(by decide), rfl⟩ d_Cn_isAnyFrame_45
      · refine lv_aload_n hx hb d_Cn_isAnyFrame_33 rfl (lv_at hl 0 rfl) ?_
        refine sm_iP hI (va_runV (As := []) (rest := []) ⟨hx, hb, hml, hown, hts⟩ (c_Cn_isNumberConfirmed l D ca _ _ _ _ hT h0 t0) (kv_Cn_isNumberConfirmed hts rfl rfl (hts _ tw_1059) ⟨Nat.le_of_ble_eq_true rfl, Nat.le_of_ble_eq_true rfl⟩) (pv_Cn hI hE hT t0) rfl rfl hl.1 rfl (lv_room (Nat.le_of_ble_eq_true rfl)) d_Cn_isAnyFrame_34 ⟨Nat.le_of_ble_eq_true rfl, Nat.le_of_ble_eq_true rfl⟩) (fun x_37 H locs p_38 hI => ?_)
        refine lv_if_eq (tgt := 44) hx hb d_Cn_isAnyFrame_37 (by decide) (fun c_39 => ?_) (fun c_39 => ?_)
        · refine lv_iconst (v := 0) hx hb d_Cn_isAnyFrame_44 (by decide) ?_
          exact sm_zret hx hb hr hlk hI (by decide) ⟨(by decide), rfl⟩ d_Cn_isAnyFrame_45
        · refine lv_iconst (v := 1) hx hb d_Cn_isAnyFrame_40 (by decide) ?_
          refine lv_goto (tgt := 45) hx hb d_Cn_isAnyFrame_41 (by decide) ?_
          exact sm_zret hx hb hr hlk hI (by decide) ⟨(by decide), rfl⟩ d_Cn_isAnyFrame_45
theorem d_Cn_mayBecomeFrame_0 : decode b_Cn_mayBecomeFrame 0 = .ok (.aload_n 0, 1) := by decide +kernel
theorem d_Cn_mayBecomeFrame_1 : decode b_Cn_mayBecomeFrame 1 = .ok (.getfield 15, 3) := by decide +kernel
theorem d_Cn_mayBecomeFrame_4 : decode b_Cn_mayBecomeFrame 4 = .ok (.getfield 19, 3) := by decide +kernel
theorem d_Cn_mayBecomeFrame_7 : decode b_Cn_mayBecomeFrame 7 = .ok (.iconst 1, 1) := by decide +kernel
theorem d_Cn_mayBecomeFrame_8 : decode b_Cn_mayBecomeFrame 8 = .ok (.if_icmp .ne 22, 3) := by decide +kernel
theorem d_Cn_mayBecomeFrame_11 : decode b_Cn_mayBecomeFrame 11 = .ok (.aload_n 0, 1) := by decide +kernel
theorem d_Cn_mayBecomeFrame_12 : decode b_Cn_mayBecomeFrame 12 = .ok (.getfield 15, 3) := by decide +kernel
theorem d_Cn_mayBecomeFrame_15 : decode b_Cn_mayBecomeFrame 15 = .ok (.iconst 0, 1) := by decide +kernel
theorem d_Cn_mayBecomeFrame_16 : decode b_Cn_mayBecomeFrame 16 = .ok (.invokevirtual 25, 3) := by decide +kernel
theorem d_Cn_mayBecomeFrame_19 : decode b_Cn_mayBecomeFrame 19 = .ok (.bipush 104, 2) := by decide +kernel
theorem d_Cn_mayBecomeFrame_21 : decode b_Cn_mayBecomeFrame 21 = .ok (.if_icmp .ne 7, 3) := by decide +kernel
theorem d_Cn_mayBecomeFrame_24 : decode b_Cn_mayBecomeFrame 24 = .ok (.iconst 1, 1) := by decide +kernel
theorem d_Cn_mayBecomeFrame_25 : decode b_Cn_mayBecomeFrame 25 = .ok (.goto 4, 3) := by decide +kernel
theorem d_Cn_mayBecomeFrame_28 : decode b_Cn_mayBecomeFrame 28 = .ok (.iconst 0, 1) := by decide +kernel
theorem d_Cn_mayBecomeFrame_29 : decode b_Cn_mayBecomeFrame 29 = .ok (.ireturn, 1) := by decide +kernel
theorem d_Cn_mayBecomeFrame_30 : decode b_Cn_mayBecomeFrame 30 = .ok (.aload_n 0, 1) := by decide +kernel
theorem d_Cn_mayBecomeFrame_31 : decode b_Cn_mayBecomeFrame 31 = .ok (.getfield 15, 3) := by decide +kernel
theorem d_Cn_mayBecomeFrame_34 : decode b_Cn_mayBecomeFrame 34 = .ok (.getfield 19, 3) := by decide +kernel
theorem d_Cn_mayBecomeFrame_37 : decode b_Cn_mayBecomeFrame 37 = .ok (.iconst 2, 1) := by decide +kernel
theorem d_Cn_mayBecomeFrame_38 : decode b_Cn_mayBecomeFrame 38 = .ok (.if_icmp .ne 29, 3) := by decide +kernel
theorem d_Cn_mayBecomeFrame_41 : decode b_Cn_mayBecomeFrame 41 = .ok (.aload_n 0, 1) := by decide +kernel
theorem d_Cn_mayBecomeFrame_42 : decode b_Cn_mayBecomeFrame 42 = .ok (.getfield 15, 3) := by decide +kernel
theorem d_Cn_mayBecomeFrame_45 : decode b_Cn_mayBecomeFrame 45 = .ok (.iconst 1, 1) := by decide +kernel
theorem d_Cn_mayBecomeFrame_46 : decode b_Cn_mayBecomeFrame 46 = .ok (.invokevirtual 25, 3) := by decide +kernel
theorem d_Cn_mayBecomeFrame_49 : decode b_Cn_mayBecomeFrame 49 = .ok (.iconst 4, 1) := by decide +kernel
theorem d_Cn_mayBecomeFrame_50 : decode b_Cn_mayBecomeFrame 50 = .ok (.if_icmp .lt 21, 3) := by decide +kernel
theorem d_Cn_mayBecomeFrame_53 : decode b_Cn_mayBecomeFrame 53 = .ok (.aload_n 0, 1) := by decide +kernel
theorem d_Cn_mayBecomeFrame_54 : decode b_Cn_mayBecomeFrame 54 = .ok (.getfield 15, 3) := by decide +kernel
theorem d_Cn_mayBecomeFrame_57 : decode b_Cn_mayBecomeFrame 57 = .ok (.iconst 1, 1) := by decide +kernel
theorem d_Cn_mayBecomeFrame_58 : decode b_Cn_mayBecomeFrame 58 = .ok (.invokevirtual 25, 3) := by decide +kernel
theorem d_Cn_mayBecomeFrame_61 : decode b_Cn_mayBecomeFrame 61 = .ok (.sipush 253, 3) := by decide +kernel
theorem d_Cn_mayBecomeFrame_64 : decode b_Cn_mayBecomeFrame 64 = .ok (.if_icmp .gt 7, 3) := by decide +kernel
theorem d_Cn_mayBecomeFrame_67 : decode b_Cn_mayBecomeFrame 67 = .ok (.iconst 1, 1) := by decide +kernel
theorem d_Cn_mayBecomeFrame_68 : decode b_Cn_mayBecomeFrame 68 = .ok (.goto 4, 3) := by decide +kernel
theorem d_Cn_mayBecomeFrame_71 : decode b_Cn_mayBecomeFrame 71 = .ok (.iconst 0, 1) := by decide +kernel
theorem d_Cn_mayBecomeFrame_72 : decode b_Cn_mayBecomeFrame 72 = .ok (.ireturn, 1) := by decide +kernel
set_option maxRecDepth 100000 in
set_option maxHeartbeats 4000000 in
theorem c_Cn_mayBecomeFrame (l : Launch) (D : va_G) (ca : Nat → ClassId) (T : ty_e) (L : List Nat) (f0 : Nat → va_E) (sz : Nat) (hT : ok_T ca T L f0) {k0 : Nat} (h0 : Nat) (t0 : T h0 = some (ty_cn k0)) :
    Met l y_Cn_mayBecomeFrame (Cond.code y_Cn_mayBecomeFrame b_Cn_mayBecomeFrame 1 (some .boolean) :: wg) { frames := 1, cells := 0, slots := 0, locals := 21 } (va_Pc [.ref h0] (sm_P D cl_all (ty_s ca) ek L f0 sz)) (sm_Qi D (ty_s ca) L f0 sz (fun r u => (r = 0 ∨ r = 1) ∧ u = (L, f0))) 0 0 (va_A (va_pl L f0) sz) := by
  refine sm_start (by decide) (Nat.le_of_ble_eq_true rfl) ?_
  intro p e s m below meth c ls hx hb hml hr hlk hnm hts hown hsz hE hI hl
  have hl : lv_has ls 1 [(0, .ref h0)] := hl
  refine lv_aload_n hx hb d_Cn_mayBecomeFrame_0 rfl (lv_at hl 0 rfl) ?_
  refine fg_Cn_heard hx hb hts hown hI hT t0 (hts _ tw_131) (fun x9 h9 => u_same (hts _ tw_132) x9 h9) d_Cn_mayBecomeFrame_1 (fun r_1 t_2 => ?_)
  refine fgN_Br_length hx hb hts hown hI hT t_2 (va_Nw.use rfl (hE.1 _ tn_49 rfl)) (fun _ h9 => h9) d_Cn_mayBecomeFrame_4 (fun n_3 h_4 => ?_)
  refine lv_iconst (v := 1) hx hb d_Cn_mayBecomeFrame_7 (by decide) ?_
  refine lv_icmp_ne (tgt := 30) hx hb d_Cn_mayBecomeFrame_8 (by decide) (fun c_5 => ?_) (fun c_5 => ?_)
  · have k_6 : ¬ n_3 = 1 := (fun q => c_5 ((nI_eq (a := n_3) (b := 1) (by omega) (by omega)).mpr q))
    refine lv_aload_n hx hb d_Cn_mayBecomeFrame_30 rfl (lv_at hl 0 rfl) ?_
    refine fg_Cn_heard hx hb hts hown hI hT t0 (hts _ tw_131) (fun x9 h9 => u_same (hts _ tw_132) x9 h9) d_Cn_mayBecomeFrame_31 (fun r_7 t_8 => ?_)
    refine fgN_Br_length hx hb hts hown hI hT t_8 (va_Nw.use rfl (hE.1 _ tn_49 rfl)) (fun _ h9 => h9) d_Cn_mayBecomeFrame_34 (fun n_9 h_10 => ?_)
    refine lv_iconst (v := 2) hx hb d_Cn_mayBecomeFrame_37 (by decide) ?_
    refine lv_icmp_ne (tgt := 67) hx hb d_Cn_mayBecomeFrame_38 (by decide) (fun c_11 => ?_) (fun c_11 => ?_)
    · have k_12 : ¬ n_9 = 2 := (fun q => c_11 ((nI_eq (a := n_9) (b := 2) (by omega) (by omega)).mpr q))
      refine lv_iconst (v := 1) hx hb d_Cn_mayBecomeFrame_67 (by decide) ?_
      refine lv_goto (tgt := 72) hx hb d_Cn_mayBecomeFrame_68 (by decide) ?_
      exact sm_zret hx hb hr hlk hI (by decide) ⟨(by decide), rfl⟩ d_Cn_mayBecomeFrame_72
    · have k_13 : n_9 = 2 := (nI_eq (a := n_9) (b := 2) (by omega) (by omega)).mp c_11
      refine lv_aload_n hx hb d_Cn_mayBecomeFrame_41 rfl (lv_at hl 0 rfl) ?_
      refine fg_Cn_heard hx hb hts hown hI hT t0 (hts _ tw_131) (fun x9 h9 => u_same (hts _ tw_132) x9 h9) d_Cn_mayBecomeFrame_42 (fun r_14 t_15 => ?_)
      refine lv_iconst (v := 1) hx hb d_Cn_mayBecomeFrame_45 (by decide) ?_
      refine sm_iP hI (va_runV (As := [.int (1)]) (rest := []) ⟨hx, hb, hml, hown, hts⟩ (c_Br_at l D ca _ _ _ _ hT r_14 t_15 1) (kv_Br_at hts rfl rfl (hts _ tw_838) ⟨Nat.le_of_ble_eq_true rfl, Nat.le_of_ble_eq_true rfl⟩) (pv_Br hI hE hT t_15) rfl rfl hl.1 rfl (lv_room (Nat.le_of_ble_eq_true rfl)) d_Cn_mayBecomeFrame_46 ⟨Nat.le_of_ble_eq_true rfl, Nat.le_of_ble_eq_true rfl⟩) (fun x_16 H locs p_17 hI => ?_)
      refine lv_iconst (v := 4) hx hb d_Cn_mayBecomeFrame_49 (by decide) ?_
      refine lv_icmp_lt (tgt := 71) hx hb d_Cn_mayBecomeFrame_50 (by decide) (fun c_18 => ?_) (fun c_18 => ?_)
      · refine lv_iconst (v := 0) hx hb d_Cn_mayBecomeFrame_71 (by decide) ?_
        exact sm_zret hx hb hr hlk hI (by decide) ⟨(by decide), rfl⟩ d_Cn_mayBecomeFrame_72
      · refine lv_aload_n hx hb d_Cn_mayBecomeFrame_53 rfl (lv_at hl 0 rfl) ?_
        refine fg_Cn_heard hx hb hts hown hI hT t0 (hts _ tw_131) (fun x9 h9 => u_same (hts _ tw_132) x9 h9) d_Cn_mayBecomeFrame_54 (fun r_19 t_20 => ?_)
        refine lv_iconst (v := 1) hx hb d_Cn_mayBecomeFrame_57 (by decide) ?_
        refine sm_iP hI (va_runV (As := [.int (1)]) (rest := []) ⟨hx, hb, hml, hown, hts⟩ (c_Br_at l D ca _ _ _ _ hT r_19 t_20 1) (kv_Br_at hts rfl rfl (hts _ tw_838) ⟨Nat.le_of_ble_eq_true rfl, Nat.le_of_ble_eq_true rfl⟩) (pv_Br hI hE hT t_20) rfl rfl hl.1 rfl (lv_room (Nat.le_of_ble_eq_true rfl)) d_Cn_mayBecomeFrame_58 ⟨Nat.le_of_ble_eq_true rfl, Nat.le_of_ble_eq_true rfl⟩) (fun x_21 H locs p_22 hI => ?_)
        refine lv_sipush (v := 253) hx hb d_Cn_mayBecomeFrame_61 (by decide) ?_
        refine lv_icmp_gt (tgt := 71) hx hb d_Cn_mayBecomeFrame_64 (by decide) (fun c_23 => ?_) (fun c_23 => ?_)
        · refine lv_iconst (v := 0) hx hb d_Cn_mayBecomeFrame_71 (by decide) ?_
          exact sm_zret hx hb hr hlk hI (by decide) ⟨(by decide), rfl⟩ d_Cn_mayBecomeFrame_72
        · refine lv_iconst (v := 1) hx hb d_Cn_mayBecomeFrame_67 (by decide) ?_
          refine lv_goto (tgt := 72) hx hb d_Cn_mayBecomeFrame_68 (by decide) ?_
          exact sm_zret hx hb hr hlk hI (by decide) ⟨(by decide), rfl⟩ d_Cn_mayBecomeFrame_72
  · have k_24 : n_3 = 1 := (nI_eq (a := n_3) (b := 1) (by omega) (by omega)).mp c_5
    refine lv_aload_n hx hb d_Cn_mayBecomeFrame_11 rfl (lv_at hl 0 rfl) ?_
    refine fg_Cn_heard hx hb hts hown hI hT t0 (hts _ tw_131) (fun x9 h9 => u_same (hts _ tw_132) x9 h9) d_Cn_mayBecomeFrame_12 (fun r_25 t_26 => ?_)
    refine lv_iconst (v := 0) hx hb d_Cn_mayBecomeFrame_15 (by decide) ?_
    refine sm_iP hI (va_runV (As := [.int (0)]) (rest := []) ⟨hx, hb, hml, hown, hts⟩ (c_Br_at l D ca _ _ _ _ hT r_25 t_26 0) (kv_Br_at hts rfl rfl (hts _ tw_838) ⟨Nat.le_of_ble_eq_true rfl, Nat.le_of_ble_eq_true rfl⟩) (pv_Br hI hE hT t_26) rfl rfl hl.1 rfl (lv_room (Nat.le_of_ble_eq_true rfl)) d_Cn_mayBecomeFrame_16 ⟨Nat.le_of_ble_eq_true rfl, Nat.le_of_ble_eq_true rfl⟩) (fun x_27 H locs p_28 hI => ?_)
    refine lv_bipush (v := 104) hx hb d_Cn_mayBecomeFrame_19 (by decide) ?_
    refine lv_icmp_ne (tgt := 28) hx hb d_Cn_mayBecomeFrame_21 (by decide) (fun c_29 => ?_) (fun c_29 => ?_)
    · refine lv_iconst (v := 0) hx hb d_Cn_mayBecomeFrame_28 (by decide) ?_
      exact sm_zret hx hb hr hlk hI (by decide) ⟨(by decide), rfl⟩ d_Cn_mayBecomeFrame_29
    · refine lv_iconst (v := 1) hx hb d_Cn_mayBecomeFrame_24 (by decide) ?_
      refine lv_goto (tgt := 29) hx hb d_Cn_mayBecomeFrame_25 (by decide) ?_
      exact sm_zret hx hb hr hlk hI (by decide) ⟨(by decide), rfl⟩ d_Cn_mayBecomeFrame_29
theorem d_Cn_isWholeFrame_0 : decode b_Cn_isWholeFrame 0 = .ok (.aload_n 0, 1) := by decide +kernel
theorem d_Cn_isWholeFrame_1 : decode b_Cn_isWholeFrame 1 = .ok (.getfield 15, 3) := by decide +kernel
theorem d_Cn_isWholeFrame_4 : decode b_Cn_isWholeFrame 4 = .ok (.getfield 19, 3) := by decide +kernel
theorem d_Cn_isWholeFrame_7 : decode b_Cn_isWholeFrame 7 = .ok (.aload_n 0, 1) := by decide +kernel
theorem d_Cn_isWholeFrame_8 : decode b_Cn_isWholeFrame 8 = .ok (.getfield 15, 3) := by decide +kernel
theorem d_Cn_isWholeFrame_11 : decode b_Cn_isWholeFrame 11 = .ok (.iconst 1, 1) := by decide +kernel
theorem d_Cn_isWholeFrame_12 : decode b_Cn_isWholeFrame 12 = .ok (.invokevirtual 25, 3) := by decide +kernel
theorem d_Cn_isWholeFrame_15 : decode b_Cn_isWholeFrame 15 = .ok (.iconst 2, 1) := by decide +kernel
theorem d_Cn_isWholeFrame_16 : decode b_Cn_isWholeFrame 16 = .ok (.iadd, 1) := by decide +kernel
theorem d_Cn_isWholeFrame_17 : decode b_Cn_isWholeFrame 17 = .ok (.if_icmp .ne 7, 3) := by decide +kernel
theorem d_Cn_isWholeFrame_20 : decode b_Cn_isWholeFrame 20 = .ok (.iconst 1, 1) := by decide +kernel
theorem d_Cn_isWholeFrame_21 : decode b_Cn_isWholeFrame 21 = .ok (.goto 4, 3) := by decide +kernel
theorem d_Cn_isWholeFrame_24 : decode b_Cn_isWholeFrame 24 = .ok (.iconst 0, 1) := by decide +kernel
theorem d_Cn_isWholeFrame_25 : decode b_Cn_isWholeFrame 25 = .ok (.ireturn, 1) := by decide +kernel
set_option maxRecDepth 100000 in
set_option maxHeartbeats 4000000 in
theorem c_Cn_isWholeFrame (l : Launch) (D : va_G) (ca : Nat → ClassId) (T : ty_e) (L : List Nat) (f0 : Nat → va_E) (sz : Nat) (hT : ok_T ca T L f0) {k0 : Nat} (h0 : Nat) (t0 : T h0 = some (ty_cn k0)) :
    Met l y_Cn_isWholeFrame (Cond.code y_Cn_isWholeFrame b_Cn_isWholeFrame 1 (some .boolean) :: wg) { frames := 1, cells := 0, slots := 0, locals := 21 } (va_Pc [.ref h0] (sm_P D cl_all (ty_s ca) ek L f0 sz)) (sm_Qi D (ty_s ca) L f0 sz (fun r u => (r = 0 ∨ r = 1) ∧ u = (L, f0))) 0 0 (va_A (va_pl L f0) sz) := by
  refine sm_start (by decide) (Nat.le_of_ble_eq_true rfl) ?_
  intro p e s m below meth c ls hx hb hml hr hlk hnm hts hown hsz hE hI hl
  have hl : lv_has ls 1 [(0, .ref h0)] := hl
  refine lv_aload_n hx hb d_Cn_isWholeFrame_0 rfl (lv_at hl 0 rfl) ?_
  refine fg_Cn_heard hx hb hts hown hI hT t0 (hts _ tw_131) (fun x9 h9 => u_same (hts _ tw_132) x9 h9) d_Cn_isWholeFrame_1 (fun r_1 t_2 => ?_)
  refine fgN_Br_length hx hb hts hown hI hT t_2 (va_Nw.use rfl (hE.1 _ tn_49 rfl)) (fun _ h9 => h9) d_Cn_isWholeFrame_4 (fun n_3 h_4 => ?_)
  refine lv_aload_n hx hb d_Cn_isWholeFrame_7 rfl (lv_at hl 0 rfl) ?_
  refine fg_Cn_heard hx hb hts hown hI hT t0 (hts _ tw_131) (fun x9 h9 => u_same (hts _ tw_132) x9 h9) d_Cn_isWholeFrame_8 (fun r_5 t_6 => ?_)
  refine lv_iconst (v := 1) hx hb d_Cn_isWholeFrame_11 (by decide) ?_
  refine sm_iP hI (va_runV (As := [.int (1)]) (rest := [.int (nI n_3)]) ⟨hx, hb, hml, hown, hts⟩ (c_Br_at l D ca _ _ _ _ hT r_5 t_6 1) (kv_Br_at hts rfl rfl (hts _ tw_838) ⟨Nat.le_of_ble_eq_true rfl, Nat.le_of_ble_eq_true rfl⟩) (pv_Br hI hE hT t_6) rfl rfl hl.1 rfl (lv_room (Nat.le_of_ble_eq_true rfl)) d_Cn_isWholeFrame_12 ⟨Nat.le_of_ble_eq_true rfl, Nat.le_of_ble_eq_true rfl⟩) (fun x_7 H locs p_8 hI => ?_)
  refine lv_iconst (v := 2) hx hb d_Cn_isWholeFrame_15 (by decide) ?_
  refine lv_iadd hx hb d_Cn_isWholeFrame_16 ?_
  refine lv_topi (fun x_9 e_10 => ?_)
  refine lv_icmp_ne (tgt := 24) hx hb d_Cn_isWholeFrame_17 (by decide) (fun c_11 => ?_) (fun c_11 => ?_)
  · refine lv_iconst (v := 0) hx hb d_Cn_isWholeFrame_24 (by decide) ?_
    exact sm_zret hx hb hr hlk hI (by decide) ⟨(by decide), rfl⟩ d_Cn_isWholeFrame_25
  · refine lv_iconst (v := 1) hx hb d_Cn_isWholeFrame_20 (by decide) ?_
    refine lv_goto (tgt := 25) hx hb d_Cn_isWholeFrame_21 (by decide) ?_
    exact sm_zret hx hb hr hlk hI (by decide) ⟨(by decide), rfl⟩ d_Cn_isWholeFrame_25
