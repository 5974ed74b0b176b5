/-! TelecontrolPost: answers (written by wip/tools) -/
theorem d_Po_addAnswer_0 : decode b_Po_addAnswer 0 = .ok (.aload_n 1, 1) := by decide +kernel
theorem d_Po_addAnswer_1 : decode b_Po_addAnswer 1 = .ok (.getfield 263, 3) := by decide +kernel
theorem d_Po_addAnswer_4 : decode b_Po_addAnswer 4 = .ok (.invokevirtual 638, 3) := by decide +kernel
theorem d_Po_addAnswer_7 : decode b_Po_addAnswer 7 = .ok (.astore_n 3, 1) := by decide +kernel
theorem d_Po_addAnswer_8 : decode b_Po_addAnswer 8 = .ok (.aload_n 3, 1) := by decide +kernel
theorem d_Po_addAnswer_9 : decode b_Po_addAnswer 9 = .ok (.ifnonnull 11, 3) := by decide +kernel
theorem d_Po_addAnswer_12 : decode b_Po_addAnswer 12 = .ok (.aload_n 1, 1) := by decide +kernel
theorem d_Po_addAnswer_13 : decode b_Po_addAnswer 13 = .ok (.iconst 1, 1) := by decide +kernel
theorem d_Po_addAnswer_14 : decode b_Po_addAnswer 14 = .ok (.putfield 307, 3) := by decide +kernel
theorem d_Po_addAnswer_17 : decode b_Po_addAnswer 17 = .ok (.goto 16, 3) := by decide +kernel
theorem d_Po_addAnswer_20 : decode b_Po_addAnswer 20 = .ok (.aload_n 3, 1) := by decide +kernel
theorem d_Po_addAnswer_21 : decode b_Po_addAnswer 21 = .ok (.getfield 477, 3) := by decide +kernel
theorem d_Po_addAnswer_24 : decode b_Po_addAnswer 24 = .ok (.aload_n 2, 1) := by decide +kernel
theorem d_Po_addAnswer_25 : decode b_Po_addAnswer 25 = .ok (.iconst 0, 1) := by decide +kernel
theorem d_Po_addAnswer_26 : decode b_Po_addAnswer 26 = .ok (.aload_n 2, 1) := by decide +kernel
theorem d_Po_addAnswer_27 : decode b_Po_addAnswer 27 = .ok (.getfield 207, 3) := by decide +kernel
theorem d_Po_addAnswer_30 : decode b_Po_addAnswer 30 = .ok (.invokevirtual 361, 3) := by decide +kernel
theorem d_Po_addAnswer_33 : decode b_Po_addAnswer 33 = .ok (.aload_n 3, 1) := by decide +kernel
theorem d_Po_addAnswer_34 : decode b_Po_addAnswer 34 = .ok (.areturn, 1) := by decide +kernel
set_option maxRecDepth 100000 in
set_option maxHeartbeats 4000000 in
theorem c_Po_addAnswer (l : Launch) (D : va_G) (ca : Nat → ClassId) (T0 : ty_e) (L0 : List Nat) (f0 : Nat → va_E) (sz : Nat) (hT : ok_T ca T0 L0 f0) {g0 : List (Int32 × Int32)} (h0 : Nat) (t0 : T0 h0 = some (ty_po g0)) (x1 : Nat) (t1 : is_li T0 x1) {m2 : Nat} (x2 : Nat) (t2 : T0 x2 = some (ty_row m2)) (hd : m2 / 16 ≤ 259) (hm : 288 ≠ m2) :
    Met l y_Po_addAnswer (Cond.code y_Po_addAnswer b_Po_addAnswer 4 (some (.object "TelecontrolPost$Answer")) :: wg) { frames := 1, cells := 1, slots := 259, locals := 25 } (va_Pc [.ref h0, .ref x1, .ref x2] (sm_P D cl_all (ty_s ca) ek L0 f0 sz)) (sm_Qq D (ty_s ca) L0 f0 sz (fun r u => po_a ca T0 (fun T => ∀ b : Nat, r = some b → T b = some (ty_an)) u)) 1 259 (va_A (va_pl L0 f0) sz) := by
  refine sm_start (by decide) (Nat.le_of_ble_eq_true rfl) ?_
  intro p e s m below meth c ls hx hb hml hr hlk hnm hts hown hsz hE hI hl
  have hl : lv_has ls 4 [(0, .ref h0), (1, .ref x1), (2, .ref x2)] := hl
  have hle : ty_le T0 T0 := ty_rf
  refine lv_aload_n hx hb d_Po_addAnswer_0 rfl (lv_at hl 1 rfl) ?_
  refine fg_Li_answers hx hb hts hown hI hT t1 (hts _ tw_139) (fun _ h9 => h9) d_Po_addAnswer_1 (fun r_1 t_2 => ?_)
  refine sm_q hI (va_runV (As := []) (rest := []) ⟨hx, hb, hml, hown, hts⟩ (c_As_add l D ca _ _ _ _ hT r_1 t_2) (kv_As_add hts rfl rfl (hts _ tw_970) ⟨Nat.le_of_ble_eq_true rfl, Nat.le_of_ble_eq_true rfl⟩) (pv_As hI hE hT t_2) rfl rfl hl.1 rfl (lv_room (Nat.le_of_ble_eq_true rfl)) d_Po_addAnswer_4 ⟨Nat.le_of_ble_eq_true rfl, Nat.le_of_ble_eq_true rfl⟩) (fun o_3 H locs f p_4 hI hT => ?_)
  rcases o_3 with _ | r_5
  · refine lv_astore_nN (lv' := [(3, .null), (0, .ref h0), (1, .ref x1), (2, .ref x2)]) hx hb d_Po_addAnswer_7 rfl hl (by decide) rfl (fun ls hl => ?_)
    refine lv_aload_nN hx hb d_Po_addAnswer_8 rfl (lv_at hl 0 rfl) ?_
    refine lv_ifnonnullN hx hb d_Po_addAnswer_9 ?_
    refine lv_aload_n hx hb d_Po_addAnswer_12 rfl (lv_at hl 2 rfl) ?_
    refine lv_iconst (v := 1) hx hb d_Po_addAnswer_13 (by decide) ?_
    refine fp_Li_tooManyAnswers hx hb hts hown hI hT t1 (hts _ tw_170) (fun _ h9 => h9) (by decide) d_Po_addAnswer_14 (fun H locs f hI hT => ?_)
    refine lv_goto (tgt := 33) hx hb d_Po_addAnswer_17 (by decide) ?_
    refine lv_aload_nN hx hb d_Po_addAnswer_33 rfl (lv_at hl 0 rfl) ?_
    refine W.widen (k := 1) (n := 259) (by decide) (by decide) ?_
    exact sm_qret (v := none) hx hb hr (Or.inl ⟨_, rfl⟩) hlk hI ⟨_, hle, hT, (fun b h => by cases h)⟩ d_Po_addAnswer_34
  · have t_6 := p_4 r_5 rfl
    refine lv_astore_n (lv' := [(3, .ref r_5), (0, .ref h0), (1, .ref x1), (2, .ref x2)]) hx hb d_Po_addAnswer_7 rfl hl (by decide) rfl (fun ls hl => ?_)
    refine lv_aload_n hx hb d_Po_addAnswer_8 rfl (lv_at hl 0 rfl) ?_
    refine lv_ifnonnull (tgt := 20) hx hb d_Po_addAnswer_9 (by decide) ?_
    refine lv_aload_n hx hb d_Po_addAnswer_20 rfl (lv_at hl 0 rfl) ?_
    refine fgN_An_row hx hb hts hown hI hT t_6 (va_Nw.use rfl (hE.1 _ tn_74 rfl)) (fun _ h9 => h9) d_Po_addAnswer_21 (fun r_7 t_8 => ?_)
    refine lv_aload_n hx hb d_Po_addAnswer_24 rfl (lv_at hl 3 rfl) ?_
    refine lv_iconst (v := 0) hx hb d_Po_addAnswer_25 (by decide) ?_
    refine lv_aload_n hx hb d_Po_addAnswer_26 rfl (lv_at hl 3 rfl) ?_
    refine fgN_Br_length hx hb hts hown hI hT t2 (va_Nw.use rfl (hE.1 _ tn_51 rfl)) (fun _ h9 => h9) d_Po_addAnswer_27 (fun n_9 h_10 => ?_)
    refine sm_vA hI (va_runV (As := [.ref x2, .int (0), .int (nI n_9)]) (rest := []) ⟨hx, hb, hml, hown, hts⟩ (c_Br_copyFromA l D ca _ _ _ _ hT r_7 t_8 x2 t2 (0) (by omega) (nI n_9) (by omega) (by omega) (by omega) (lo_nI (by omega))) (kv_Br_copyFrom hts rfl rfl (hts _ tw_718) ⟨Nat.le_of_ble_eq_true rfl, Nat.le_of_ble_eq_true rfl⟩) (pv_Br hI hE hT t_8) rfl rfl hl.1 rfl (lv_room (Nat.le_of_ble_eq_true rfl)) d_Po_addAnswer_30 ⟨Nat.le_of_ble_eq_true rfl, Nat.le_of_ble_eq_true rfl⟩) (fun T L H locs f hle1 hI hT => ?_)
    have hle := ty_tr hle hle1
    have t_6 := hle1 _ _ t_6
    have t0 := hle1 _ _ t0
    have t1 := li_up hle1 t1
    have t2 := hle1 _ _ t2
    refine lv_aload_n hx hb d_Po_addAnswer_33 rfl (lv_at hl 0 rfl) ?_
    refine W.widen (k := 1) (n := 259) (by decide) (by decide) ?_
    exact sm_qret (v := some r_5) hx hb hr (Or.inl ⟨_, rfl⟩) hlk hI ⟨_, hle, hT, (fun b h => by cases h; exact t_6)⟩ d_Po_addAnswer_34
theorem d_Po_comeBack_0 : decode b_Po_comeBack 0 = .ok (.aload_n 0, 1) := by decide +kernel
theorem d_Po_comeBack_1 : decode b_Po_comeBack 1 = .ok (.aload_n 1, 1) := by decide +kernel
theorem d_Po_comeBack_2 : decode b_Po_comeBack 2 = .ok (.aload_n 2, 1) := by decide +kernel
theorem d_Po_comeBack_3 : decode b_Po_comeBack 3 = .ok (.invokevirtual 631, 3) := by decide +kernel
theorem d_Po_comeBack_6 : decode b_Po_comeBack 6 = .ok (.astore 4, 2) := by decide +kernel
theorem d_Po_comeBack_8 : decode b_Po_comeBack 8 = .ok (.aload 4, 2) := by decide +kernel
theorem d_Po_comeBack_10 : decode b_Po_comeBack 10 = .ok (.ifnull 23, 3) := by decide +kernel
theorem d_Po_comeBack_13 : decode b_Po_comeBack 13 = .ok (.aload 4, 2) := by decide +kernel
theorem d_Po_comeBack_15 : decode b_Po_comeBack 15 = .ok (.getfield 477, 3) := by decide +kernel
theorem d_Po_comeBack_18 : decode b_Po_comeBack 18 = .ok (.iconst 2, 1) := by decide +kernel
theorem d_Po_comeBack_19 : decode b_Po_comeBack 19 = .ok (.aload_n 2, 1) := by decide +kernel
theorem d_Po_comeBack_20 : decode b_Po_comeBack 20 = .ok (.iconst 2, 1) := by decide +kernel
theorem d_Po_comeBack_21 : decode b_Po_comeBack 21 = .ok (.invokevirtual 216, 3) := by decide +kernel
theorem d_Po_comeBack_24 : decode b_Po_comeBack 24 = .ok (.sipush 128, 3) := by decide +kernel
theorem d_Po_comeBack_27 : decode b_Po_comeBack 27 = .ok (.iand, 1) := by decide +kernel
theorem d_Po_comeBack_28 : decode b_Po_comeBack 28 = .ok (.iload_n 3, 1) := by decide +kernel
theorem d_Po_comeBack_29 : decode b_Po_comeBack 29 = .ok (.ior, 1) := by decide +kernel
theorem d_Po_comeBack_30 : decode b_Po_comeBack 30 = .ok (.invokevirtual 488, 3) := by decide +kernel
theorem d_Po_comeBack_33 : decode b_Po_comeBack 33 = .ok (.aload 4, 2) := by decide +kernel
theorem d_Po_comeBack_35 : decode b_Po_comeBack 35 = .ok (.areturn, 1) := by decide +kernel
set_option maxRecDepth 100000 in
set_option maxHeartbeats 4000000 in
theorem c_Po_comeBack (l : Launch) (D : va_G) (ca : Nat → ClassId) (T0 : ty_e) (L0 : List Nat) (f0 : Nat → va_E) (sz : Nat) (hT : ok_T ca T0 L0 f0) {g0 : List (Int32 × Int32)} (h0 : Nat) (t0 : T0 h0 = some (ty_po g0)) (x1 : Nat) (t1 : is_li T0 x1) {m2 : Nat} (x2 : Nat) (t2 : T0 x2 = some (ty_row m2)) (x3 : Int32) (hd : m2 / 16 ≤ 259) (hm : 288 ≠ m2) :
    Met l y_Po_comeBack (Cond.code y_Po_comeBack b_Po_comeBack 5 (some (.object "TelecontrolPost$Answer")) :: wg) { frames := 2, cells := 1, slots := 259, locals := 48 } (va_Pc [.ref h0, .ref x1, .ref x2, .int (x3)] (sm_P D cl_all (ty_s ca) ek L0 f0 sz)) (sm_Qq D (ty_s ca) L0 f0 sz (fun r u => po_a ca T0 (fun T => ∀ b : Nat, r = some b → T b = some (ty_an)) u)) 1 259 (va_A (va_pl L0 f0) sz) := by
  refine sm_start (by decide) (Nat.le_of_ble_eq_true rfl) ?_
  intro p e s m below meth c ls hx hb hml hr hlk hnm hts hown hsz hE hI hl
  have hl : lv_has ls 5 [(0, .ref h0), (1, .ref x1), (2, .ref x2), (3, .int (x3))] := hl
  have hle : ty_le T0 T0 := ty_rf
  refine lv_aload_n hx hb d_Po_comeBack_0 rfl (lv_at hl 0 rfl) ?_
  refine lv_aload_n hx hb d_Po_comeBack_1 rfl (lv_at hl 1 rfl) ?_
  refine lv_aload_n hx hb d_Po_comeBack_2 rfl (lv_at hl 2 rfl) ?_
  refine sm_qA hI (va_runV (As := [.ref x1, .ref x2]) (rest := []) ⟨hx, hb, hml, hown, hts⟩ (c_Po_addAnswer l D ca _ _ _ _ hT h0 t0 x1 t1 x2 t2 (by omega) (by omega)) (kv_Po_addAnswer hts rfl rfl (hts _ tw_966) ⟨Nat.le_of_ble_eq_true rfl, Nat.le_of_ble_eq_true rfl⟩) (pv_Po hI hE hT t0) rfl rfl hl.1 rfl (lv_room (Nat.le_of_ble_eq_true rfl)) d_Po_comeBack_3 ⟨Nat.le_of_ble_eq_true rfl, Nat.le_of_ble_eq_true rfl⟩) (fun o_1 T L H locs f p_2 hle1 hI hT => ?_)
  have hle := ty_tr hle hle1
  have t0 := hle1 _ _ t0
  have t1 := li_up hle1 t1
  have t2 := hle1 _ _ t2
  rcases o_1 with _ | r_3
  · refine lv_astoreN (lv' := [(4, .null), (0, .ref h0), (1, .ref x1), (2, .ref x2), (3, .int (x3))]) hx hb d_Po_comeBack_6 hl (by decide) rfl (fun ls hl => ?_)
    refine lv_aloadN hx hb d_Po_comeBack_8 (lv_at hl 0 rfl) ?_
    refine lv_ifnullN (tgt := 33) hx hb d_Po_comeBack_10 (by decide) ?_
    refine lv_aloadN hx hb d_Po_comeBack_33 (lv_at hl 0 rfl) ?_
    refine W.widen (k := 1) (n := 259) (by decide) (by decide) ?_
    exact sm_qret (v := none) hx hb hr (Or.inl ⟨_, rfl⟩) hlk hI ⟨_, hle, hT, (fun b h => by cases h)⟩ d_Po_comeBack_35
  · have t_4 := p_2 r_3 rfl
    refine lv_astore (lv' := [(4, .ref r_3), (0, .ref h0), (1, .ref x1), (2, .ref x2), (3, .int (x3))]) hx hb d_Po_comeBack_6 hl (by decide) rfl (fun ls hl => ?_)
    refine lv_aload hx hb d_Po_comeBack_8 (lv_at hl 0 rfl) ?_
    refine lv_ifnull hx hb d_Po_comeBack_10 ?_
    refine lv_aload hx hb d_Po_comeBack_13 (lv_at hl 0 rfl) ?_
    refine fgN_An_row hx hb hts hown hI hT t_4 (va_Nw.use rfl (hE.1 _ tn_74 rfl)) (fun _ h9 => h9) d_Po_comeBack_15 (fun r_5 t_6 => ?_)
    refine lv_iconst (v := 2) hx hb d_Po_comeBack_18 (by decide) ?_
    refine lv_aload_n hx hb d_Po_comeBack_19 rfl (lv_at hl 3 rfl) ?_
    refine lv_iconst (v := 2) hx hb d_Po_comeBack_20 (by decide) ?_
    refine sm_iP hI (va_runV (As := [.int (2)]) (rest := [.int (2), .ref r_5]) ⟨hx, hb, hml, hown, hts⟩ (c_Br_at l D ca _ _ _ _ hT x2 t2 2) (kv_Br_at hts rfl rfl (hts _ tw_697) ⟨Nat.le_of_ble_eq_true rfl, Nat.le_of_ble_eq_true rfl⟩) (pv_Br hI hE hT t2) rfl rfl hl.1 rfl (lv_room (Nat.le_of_ble_eq_true rfl)) d_Po_comeBack_21 ⟨Nat.le_of_ble_eq_true rfl, Nat.le_of_ble_eq_true rfl⟩) (fun x_7 H locs p_8 hI => ?_)
    refine lv_sipush (v := 128) hx hb d_Po_comeBack_24 (by decide) ?_
    refine lv_iand hx hb d_Po_comeBack_27 ?_
    refine lv_topi (fun x_9 e_10 => ?_)
    refine lv_iload_n hx hb d_Po_comeBack_28 rfl (lv_at hl 4 rfl) ?_
    refine lv_ior hx hb d_Po_comeBack_29 ?_
    refine lv_topi (fun x_11 e_12 => ?_)
    refine sm_v hI (va_runV (As := [.int (2), .int (x_11)]) (rest := []) ⟨hx, hb, hml, hown, hts⟩ (c_Br_set l D ca _ _ _ _ hT r_5 t_6 2 x_11) (kv_Br_set hts rfl rfl (hts _ tw_714) ⟨Nat.le_of_ble_eq_true rfl, Nat.le_of_ble_eq_true rfl⟩) (pv_Br hI hE hT t_6) rfl rfl hl.1 rfl (lv_room (Nat.le_of_ble_eq_true rfl)) d_Po_comeBack_30 ⟨Nat.le_of_ble_eq_true rfl, Nat.le_of_ble_eq_true rfl⟩) (fun H locs f hI hT => ?_)
    refine lv_aload hx hb d_Po_comeBack_33 (lv_at hl 0 rfl) ?_
    refine W.widen (k := 1) (n := 259) (by decide) (by decide) ?_
    exact sm_qret (v := some r_3) hx hb hr (Or.inl ⟨_, rfl⟩) hlk hI ⟨_, hle, hT, (fun b h => by cases h; exact t_4)⟩ d_Po_comeBack_35
theorem d_Po_tellOne_0 : decode b_Po_tellOne 0 = .ok (.aload_n 0, 1) := by decide +kernel
theorem d_Po_tellOne_1 : decode b_Po_tellOne 1 = .ok (.aload_n 1, 1) := by decide +kernel
theorem d_Po_tellOne_2 : decode b_Po_tellOne 2 = .ok (.getstatic 500, 3) := by decide +kernel
theorem d_Po_tellOne_5 : decode b_Po_tellOne 5 = .ok (.aload_n 2, 1) := by decide +kernel
theorem d_Po_tellOne_6 : decode b_Po_tellOne 6 = .ok (.getfield 318, 3) := by decide +kernel
theorem d_Po_tellOne_9 : decode b_Po_tellOne 9 = .ok (.iaload, 1) := by decide +kernel
theorem d_Po_tellOne_10 : decode b_Po_tellOne 10 = .ok (.aload_n 0, 1) := by decide +kernel
theorem d_Po_tellOne_11 : decode b_Po_tellOne 11 = .ok (.getfield 53, 3) := by decide +kernel
theorem d_Po_tellOne_14 : decode b_Po_tellOne 14 = .ok (.iconst 2, 1) := by decide +kernel
theorem d_Po_tellOne_15 : decode b_Po_tellOne 15 = .ok (.invokevirtual 216, 3) := by decide +kernel
theorem d_Po_tellOne_18 : decode b_Po_tellOne 18 = .ok (.sipush 128, 3) := by decide +kernel
theorem d_Po_tellOne_21 : decode b_Po_tellOne 21 = .ok (.iand, 1) := by decide +kernel
theorem d_Po_tellOne_22 : decode b_Po_tellOne 22 = .ok (.iconst 5, 1) := by decide +kernel
theorem d_Po_tellOne_23 : decode b_Po_tellOne 23 = .ok (.ior, 1) := by decide +kernel
theorem d_Po_tellOne_24 : decode b_Po_tellOne 24 = .ok (.aload_n 0, 1) := by decide +kernel
theorem d_Po_tellOne_25 : decode b_Po_tellOne 25 = .ok (.aload_n 1, 1) := by decide +kernel
theorem d_Po_tellOne_26 : decode b_Po_tellOne 26 = .ok (.aload_n 0, 1) := by decide +kernel
theorem d_Po_tellOne_27 : decode b_Po_tellOne 27 = .ok (.getfield 53, 3) := by decide +kernel
theorem d_Po_tellOne_30 : decode b_Po_tellOne 30 = .ok (.invokevirtual 506, 3) := by decide +kernel
theorem d_Po_tellOne_33 : decode b_Po_tellOne 33 = .ok (.invokevirtual 463, 3) := by decide +kernel
theorem d_Po_tellOne_36 : decode b_Po_tellOne 36 = .ok (.aload_n 0, 1) := by decide +kernel
theorem d_Po_tellOne_37 : decode b_Po_tellOne 37 = .ok (.getfield 57, 3) := by decide +kernel
theorem d_Po_tellOne_40 : decode b_Po_tellOne 40 = .ok (.aload_n 2, 1) := by decide +kernel
theorem d_Po_tellOne_41 : decode b_Po_tellOne 41 = .ok (.getfield 289, 3) := by decide +kernel
theorem d_Po_tellOne_44 : decode b_Po_tellOne 44 = .ok (.aload_n 1, 1) := by decide +kernel
theorem d_Po_tellOne_45 : decode b_Po_tellOne 45 = .ok (.getfield 467, 3) := by decide +kernel
theorem d_Po_tellOne_48 : decode b_Po_tellOne 48 = .ok (.invokevirtual 425, 3) := by decide +kernel
theorem d_Po_tellOne_51 : decode b_Po_tellOne 51 = .ok (.aload_n 2, 1) := by decide +kernel
theorem d_Po_tellOne_52 : decode b_Po_tellOne 52 = .ok (.aload_n 0, 1) := by decide +kernel
theorem d_Po_tellOne_53 : decode b_Po_tellOne 53 = .ok (.getfield 57, 3) := by decide +kernel
theorem d_Po_tellOne_56 : decode b_Po_tellOne 56 = .ok (.aload_n 0, 1) := by decide +kernel
theorem d_Po_tellOne_57 : decode b_Po_tellOne 57 = .ok (.getfield 330, 3) := by decide +kernel
theorem d_Po_tellOne_60 : decode b_Po_tellOne 60 = .ok (.invokevirtual 333, 3) := by decide +kernel
theorem d_Po_tellOne_63 : decode b_Po_tellOne 63 = .ok (.aload_n 0, 1) := by decide +kernel
theorem d_Po_tellOne_64 : decode b_Po_tellOne 64 = .ok (.aload_n 1, 1) := by decide +kernel
theorem d_Po_tellOne_65 : decode b_Po_tellOne 65 = .ok (.aload_n 0, 1) := by decide +kernel
theorem d_Po_tellOne_66 : decode b_Po_tellOne 66 = .ok (.getfield 57, 3) := by decide +kernel
theorem d_Po_tellOne_69 : decode b_Po_tellOne 69 = .ok (.invokevirtual 631, 3) := by decide +kernel
theorem d_Po_tellOne_72 : decode b_Po_tellOne 72 = .ok (.pop, 1) := by decide +kernel
theorem d_Po_tellOne_73 : decode b_Po_tellOne 73 = .ok (.return_, 1) := by decide +kernel
set_option maxRecDepth 100000 in
set_option maxHeartbeats 4000000 in
theorem c_Po_tellOne (l : Launch) (D : va_G) (ca : Nat → ClassId) (T0 : ty_e) (L0 : List Nat) (f0 : Nat → va_E) (sz : Nat) (hT : ok_T ca T0 L0 f0) {g0 : List (Int32 × Int32)} (h0 : Nat) (t0 : T0 h0 = some (ty_po g0)) (x1 : Nat) (t1 : is_li T0 x1) {q2 : Int32 × Int32} (x2 : Nat) (t2 : T0 x2 = some (ty_pt q2)) (hk : q2.2.toInt ≤ 6) :
    Met l y_Po_tellOne (Cond.code y_Po_tellOne b_Po_tellOne 3 none :: wg) { frames := 2, cells := 1, slots := 259, locals := 48 } (va_Pc [.ref h0, .ref x1, .ref x2] (sm_P D cl_all (ty_s ca) ek L0 f0 sz)) (sm_Qv D (ty_s ca) L0 f0 sz (fun u => po_a ca T0 (fun _ => True) u)) 1 259 (va_A (va_pl L0 f0) sz) := by
  refine sm_start (by decide) (Nat.le_of_ble_eq_true rfl) ?_
  intro p e s m below meth c ls hx hb hml hr hlk hnm hts hown hsz hE hI hl
  have hl : lv_has ls 3 [(0, .ref h0), (1, .ref x1), (2, .ref x2)] := hl
  have hle : ty_le T0 T0 := ty_rf
  refine lv_aload_n hx hb d_Po_tellOne_0 rfl (lv_at hl 0 rfl) ?_
  refine lv_aload_n hx hb d_Po_tellOne_1 rfl (lv_at hl 1 rfl) ?_
  obtain ⟨b_1, hz_2, ht_3⟩ := hE.2.2.2.1 0 (by decide)
  refine va_gets hx hb hz_2 hI.2.2.1 hown (hts _ tw_695) (fun _ h9 => h9) d_Po_tellOne_2 ?_
  refine lv_aload_n hx hb d_Po_tellOne_5 rfl (lv_at hl 2 rfl) ?_
  refine fgN_Pt_kind hx hb hts hown hI hT t2 (va_Nw.use rfl (hE.1 _ tn_522 rfl)) (fun _ h9 => h9) d_Po_tellOne_6 (fun h_4 => ?_)
  refine lv_topi (fun x_5 e_6 => ?_)
  obtain ⟨j_7, h_8, rfl⟩ : ∃ j : Nat, j < 7 ∧ x_5 = nI j := ix_le (by rw [e_6]; exact h_4.1) (by rw [e_6]; omega) (by decide)
  refine fa_tb (i := 0) (j := j_7) hx hb hI ht_3 (by show j_7 < 7; omega) (by decide) d_Po_tellOne_9 ?_
  refine lv_topi (fun x_11 e_12 => ?_)
  refine lv_aload_n hx hb d_Po_tellOne_10 rfl (lv_at hl 0 rfl) ?_
  refine fg_Po_asked hx hb hts hown hI hT t0 (hts _ tw_375) (fun _ h9 => h9) d_Po_tellOne_11 (fun r_13 t_14 => ?_)
  refine lv_iconst (v := 2) hx hb d_Po_tellOne_14 (by decide) ?_
  refine sm_iP hI (va_runV (As := [.int (2)]) (rest := [.int (x_11), .ref x1, .ref h0]) ⟨hx, hb, hml, hown, hts⟩ (c_Br_at l D ca _ _ _ _ hT r_13 t_14 2) (kv_Br_at hts rfl rfl (hts _ tw_697) ⟨Nat.le_of_ble_eq_true rfl, Nat.le_of_ble_eq_true rfl⟩) (pv_Br hI hE hT t_14) rfl rfl hl.1 rfl (lv_room (Nat.le_of_ble_eq_true rfl)) d_Po_tellOne_15 ⟨Nat.le_of_ble_eq_true rfl, Nat.le_of_ble_eq_true rfl⟩) (fun x_15 H locs p_16 hI => ?_)
  refine lv_sipush (v := 128) hx hb d_Po_tellOne_18 (by decide) ?_
  refine lv_iand hx hb d_Po_tellOne_21 ?_
  refine lv_topi (fun x_17 e_18 => ?_)
  refine lv_iconst (v := 5) hx hb d_Po_tellOne_22 (by decide) ?_
  refine lv_ior hx hb d_Po_tellOne_23 ?_
  refine lv_topi (fun x_19 e_20 => ?_)
  refine lv_aload_n hx hb d_Po_tellOne_24 rfl (lv_at hl 0 rfl) ?_
  refine lv_aload_n hx hb d_Po_tellOne_25 rfl (lv_at hl 1 rfl) ?_
  refine lv_aload_n hx hb d_Po_tellOne_26 rfl (lv_at hl 0 rfl) ?_
  refine fg_Po_asked hx hb hts hown hI hT t0 (hts _ tw_375) (fun _ h9 => h9) d_Po_tellOne_27 (fun r_21 t_22 => ?_)
  refine sm_iP hI (va_runV (As := [.ref x1, .ref r_21]) (rest := [.int (x_19), .int (x_11), .ref x1, .ref h0]) ⟨hx, hb, hml, hown, hts⟩ (c_Po_originOf l D ca _ _ _ _ hT h0 t0 x1 t1 r_21 t_22) (kv_Po_originOf hts rfl rfl (hts _ tw_705) ⟨Nat.le_of_ble_eq_true rfl, Nat.le_of_ble_eq_true rfl⟩) (pv_Po hI hE hT t0) rfl rfl hl.1 rfl (lv_room (Nat.le_of_ble_eq_true rfl)) d_Po_tellOne_30 ⟨Nat.le_of_ble_eq_true rfl, Nat.le_of_ble_eq_true rfl⟩) (fun x_23 H locs p_24 hI => ?_)
  refine sm_v hI (va_runV (As := [.ref x1, .int (x_11), .int (x_19), .int (x_23)]) (rest := []) ⟨hx, hb, hml, hown, hts⟩ (c_Po_putHead l D ca _ _ _ _ hT h0 t0 x1 t1 x_11 x_19 x_23) (kv_Po_putHead hts rfl rfl (hts _ tw_709) ⟨Nat.le_of_ble_eq_true rfl, Nat.le_of_ble_eq_true rfl⟩) (pv_Po hI hE hT t0) rfl rfl hl.1 rfl (lv_room (Nat.le_of_ble_eq_true rfl)) d_Po_tellOne_33 ⟨Nat.le_of_ble_eq_true rfl, Nat.le_of_ble_eq_true rfl⟩) (fun H locs f hI hT => ?_)
  refine lv_aload_n hx hb d_Po_tellOne_36 rfl (lv_at hl 0 rfl) ?_
  refine fg_Po_told hx hb hts hown hI hT t0 (hts _ tw_376) (fun _ h9 => h9) d_Po_tellOne_37 (fun r_25 t_26 => ?_)
  refine lv_aload_n hx hb d_Po_tellOne_40 rfl (lv_at hl 2 rfl) ?_
  refine fgN_Pt_address hx hb hts hown hI hT t2 (va_Nw.use rfl (hE.1 _ tn_519 rfl)) (fun _ h9 => h9) d_Po_tellOne_41 (fun h_27 => ?_)
  refine lv_aload_n hx hb d_Po_tellOne_44 rfl (lv_at hl 1 rfl) ?_
  refine fg_Li_objectSize hx hb hts hown hI hT t1 (hts _ tw_162) (fun _ h9 => h9) d_Po_tellOne_45 (fun n_28 h_29 => ?_)
  refine sm_v hI (va_runV (As := [.int (q2.1), .int (nI n_28)]) (rest := []) ⟨hx, hb, hml, hown, hts⟩ (c_Br_putNumber l D ca _ _ _ _ hT r_25 t_26 (q2.1) (n_28) (by omega)) (kv_Br_putNumber hts rfl rfl (hts _ tw_650) ⟨Nat.le_of_ble_eq_true rfl, Nat.le_of_ble_eq_true rfl⟩) (pv_Br hI hE hT t_26) rfl rfl hl.1 rfl (lv_room (Nat.le_of_ble_eq_true rfl)) d_Po_tellOne_48 ⟨Nat.le_of_ble_eq_true rfl, Nat.le_of_ble_eq_true rfl⟩) (fun H locs f hI hT => ?_)
  refine lv_aload_n hx hb d_Po_tellOne_51 rfl (lv_at hl 2 rfl) ?_
  refine lv_aload_n hx hb d_Po_tellOne_52 rfl (lv_at hl 0 rfl) ?_
  refine fg_Po_told hx hb hts hown hI hT t0 (hts _ tw_376) (fun _ h9 => h9) d_Po_tellOne_53 (fun r_30 t_31 => ?_)
  refine lv_aload_n hx hb d_Po_tellOne_56 rfl (lv_at hl 0 rfl) ?_
  refine fg_Po_countersBegun hx hb hts hown hI hT t0 (hts _ tw_370) (fun _ h9 => h9) d_Po_tellOne_57 (fun x_32 => ?_)
  refine sm_v hI (va_runV (As := [.ref r_30, .int (x_32)]) (rest := []) ⟨hx, hb, hml, hown, hts⟩ (c_Pt_tell l D ca _ _ _ _ hT x2 t2 r_30 t_31 x_32) (kv_Pt_tell hts rfl rfl (hts _ tw_621) ⟨Nat.le_of_ble_eq_true rfl, Nat.le_of_ble_eq_true rfl⟩) (pv_Pt hI hE hT t2) rfl rfl hl.1 rfl (lv_room (Nat.le_of_ble_eq_true rfl)) d_Po_tellOne_60 ⟨Nat.le_of_ble_eq_true rfl, Nat.le_of_ble_eq_true rfl⟩) (fun H locs f hI hT => ?_)
  refine lv_aload_n hx hb d_Po_tellOne_63 rfl (lv_at hl 0 rfl) ?_
  refine lv_aload_n hx hb d_Po_tellOne_64 rfl (lv_at hl 1 rfl) ?_
  refine lv_aload_n hx hb d_Po_tellOne_65 rfl (lv_at hl 0 rfl) ?_
  refine fg_Po_told hx hb hts hown hI hT t0 (hts _ tw_376) (fun _ h9 => h9) d_Po_tellOne_66 (fun r_33 t_34 => ?_)
  refine sm_qA hI (va_runV (As := [.ref x1, .ref r_33]) (rest := []) ⟨hx, hb, hml, hown, hts⟩ (c_Po_addAnswer l D ca _ _ _ _ hT h0 t0 x1 t1 r_33 t_34 (by omega) (by omega)) (kv_Po_addAnswer hts rfl rfl (hts _ tw_966) ⟨Nat.le_of_ble_eq_true rfl, Nat.le_of_ble_eq_true rfl⟩) (pv_Po hI hE hT t0) rfl rfl hl.1 rfl (lv_room (Nat.le_of_ble_eq_true rfl)) d_Po_tellOne_69 ⟨Nat.le_of_ble_eq_true rfl, Nat.le_of_ble_eq_true rfl⟩) (fun o_35 T L H locs f p_36 hle1 hI hT => ?_)
  have hle := ty_tr hle hle1
  have t0 := hle1 _ _ t0
  have t1 := li_up hle1 t1
  have t2 := hle1 _ _ t2
  rcases o_35 with _ | r_37
  · refine lv_pop hx hb d_Po_tellOne_72 rfl ?_
    refine W.widen (k := 1) (n := 259) (by decide) (by decide) ?_
    exact sm_vret hx hb hr hlk hI ⟨_, hle, hT, trivial⟩ d_Po_tellOne_73
  · have t_38 := p_36 r_37 rfl
    refine lv_pop hx hb d_Po_tellOne_72 rfl ?_
    refine W.widen (k := 1) (n := 259) (by decide) (by decide) ?_
    exact sm_vret hx hb hr hlk hI ⟨_, hle, hT, trivial⟩ d_Po_tellOne_73
theorem d_Po_resetProcess_0 : decode b_Po_resetProcess 0 = .ok (.aload_n 0, 1) := by decide +kernel
theorem d_Po_resetProcess_1 : decode b_Po_resetProcess 1 = .ok (.aload_n 1, 1) := by decide +kernel
theorem d_Po_resetProcess_2 : decode b_Po_resetProcess 2 = .ok (.aload_n 0, 1) := by decide +kernel
theorem d_Po_resetProcess_3 : decode b_Po_resetProcess 3 = .ok (.getfield 53, 3) := by decide +kernel
theorem d_Po_resetProcess_6 : decode b_Po_resetProcess 6 = .ok (.iload_n 2, 1) := by decide +kernel
theorem d_Po_resetProcess_7 : decode b_Po_resetProcess 7 = .ok (.ifCond .eq 8, 3) := by decide +kernel
theorem d_Po_resetProcess_10 : decode b_Po_resetProcess 10 = .ok (.bipush 7, 2) := by decide +kernel
theorem d_Po_resetProcess_12 : decode b_Po_resetProcess 12 = .ok (.goto 5, 3) := by decide +kernel
theorem d_Po_resetProcess_15 : decode b_Po_resetProcess 15 = .ok (.bipush 71, 2) := by decide +kernel
theorem d_Po_resetProcess_17 : decode b_Po_resetProcess 17 = .ok (.invokevirtual 239, 3) := by decide +kernel
theorem d_Po_resetProcess_20 : decode b_Po_resetProcess 20 = .ok (.pop, 1) := by decide +kernel
theorem d_Po_resetProcess_21 : decode b_Po_resetProcess 21 = .ok (.iload_n 2, 1) := by decide +kernel
theorem d_Po_resetProcess_22 : decode b_Po_resetProcess 22 = .ok (.ifCond .eq 70, 3) := by decide +kernel
theorem d_Po_resetProcess_25 : decode b_Po_resetProcess 25 = .ok (.aload_n 0, 1) := by decide +kernel
theorem d_Po_resetProcess_26 : decode b_Po_resetProcess 26 = .ok (.getfield 44, 3) := by decide +kernel
theorem d_Po_resetProcess_29 : decode b_Po_resetProcess 29 = .ok (.invokevirtual 635, 3) := by decide +kernel
theorem d_Po_resetProcess_32 : decode b_Po_resetProcess 32 = .ok (.aload_n 0, 1) := by decide +kernel
theorem d_Po_resetProcess_33 : decode b_Po_resetProcess 33 = .ok (.aload_n 1, 1) := by decide +kernel
theorem d_Po_resetProcess_34 : decode b_Po_resetProcess 34 = .ok (.bipush 70, 2) := by decide +kernel
theorem d_Po_resetProcess_36 : decode b_Po_resetProcess 36 = .ok (.aload_n 0, 1) := by decide +kernel
theorem d_Po_resetProcess_37 : decode b_Po_resetProcess 37 = .ok (.getfield 53, 3) := by decide +kernel
theorem d_Po_resetProcess_40 : decode b_Po_resetProcess 40 = .ok (.iconst 2, 1) := by decide +kernel
theorem d_Po_resetProcess_41 : decode b_Po_resetProcess 41 = .ok (.invokevirtual 216, 3) := by decide +kernel
theorem d_Po_resetProcess_44 : decode b_Po_resetProcess 44 = .ok (.sipush 128, 3) := by decide +kernel
theorem d_Po_resetProcess_47 : decode b_Po_resetProcess 47 = .ok (.iand, 1) := by decide +kernel
theorem d_Po_resetProcess_48 : decode b_Po_resetProcess 48 = .ok (.iconst 4, 1) := by decide +kernel
theorem d_Po_resetProcess_49 : decode b_Po_resetProcess 49 = .ok (.ior, 1) := by decide +kernel
theorem d_Po_resetProcess_50 : decode b_Po_resetProcess 50 = .ok (.aload_n 0, 1) := by decide +kernel
theorem d_Po_resetProcess_51 : decode b_Po_resetProcess 51 = .ok (.aload_n 1, 1) := by decide +kernel
theorem d_Po_resetProcess_52 : decode b_Po_resetProcess 52 = .ok (.aload_n 0, 1) := by decide +kernel
theorem d_Po_resetProcess_53 : decode b_Po_resetProcess 53 = .ok (.getfield 53, 3) := by decide +kernel
theorem d_Po_resetProcess_56 : decode b_Po_resetProcess 56 = .ok (.invokevirtual 506, 3) := by decide +kernel
theorem d_Po_resetProcess_59 : decode b_Po_resetProcess 59 = .ok (.invokevirtual 463, 3) := by decide +kernel
theorem d_Po_resetProcess_62 : decode b_Po_resetProcess 62 = .ok (.aload_n 0, 1) := by decide +kernel
theorem d_Po_resetProcess_63 : decode b_Po_resetProcess 63 = .ok (.getfield 57, 3) := by decide +kernel
theorem d_Po_resetProcess_66 : decode b_Po_resetProcess 66 = .ok (.iconst 0, 1) := by decide +kernel
theorem d_Po_resetProcess_67 : decode b_Po_resetProcess 67 = .ok (.aload_n 1, 1) := by decide +kernel
theorem d_Po_resetProcess_68 : decode b_Po_resetProcess 68 = .ok (.getfield 467, 3) := by decide +kernel
theorem d_Po_resetProcess_71 : decode b_Po_resetProcess 71 = .ok (.invokevirtual 425, 3) := by decide +kernel
theorem d_Po_resetProcess_74 : decode b_Po_resetProcess 74 = .ok (.aload_n 0, 1) := by decide +kernel
theorem d_Po_resetProcess_75 : decode b_Po_resetProcess 75 = .ok (.getfield 57, 3) := by decide +kernel
theorem d_Po_resetProcess_78 : decode b_Po_resetProcess 78 = .ok (.iconst 2, 1) := by decide +kernel
theorem d_Po_resetProcess_79 : decode b_Po_resetProcess 79 = .ok (.invokevirtual 182, 3) := by decide +kernel
theorem d_Po_resetProcess_82 : decode b_Po_resetProcess 82 = .ok (.aload_n 0, 1) := by decide +kernel
theorem d_Po_resetProcess_83 : decode b_Po_resetProcess 83 = .ok (.aload_n 1, 1) := by decide +kernel
theorem d_Po_resetProcess_84 : decode b_Po_resetProcess 84 = .ok (.aload_n 0, 1) := by decide +kernel
theorem d_Po_resetProcess_85 : decode b_Po_resetProcess 85 = .ok (.getfield 57, 3) := by decide +kernel
theorem d_Po_resetProcess_88 : decode b_Po_resetProcess 88 = .ok (.invokevirtual 631, 3) := by decide +kernel
theorem d_Po_resetProcess_91 : decode b_Po_resetProcess 91 = .ok (.pop, 1) := by decide +kernel
theorem d_Po_resetProcess_92 : decode b_Po_resetProcess 92 = .ok (.return_, 1) := by decide +kernel
set_option maxRecDepth 100000 in
set_option maxHeartbeats 4000000 in
theorem c_Po_resetProcess (l : Launch) (D : va_G) (ca : Nat → ClassId) (T0 : ty_e) (L0 : List Nat) (f0 : Nat → va_E) (sz : Nat) (hT : ok_T ca T0 L0 f0) {g0 : List (Int32 × Int32)} (h0 : Nat) (t0 : T0 h0 = some (ty_po g0)) (x1 : Nat) (t1 : is_li T0 x1) (x2 : Int32) (p2 : x2 = 0 ∨ x2 = 1) :
    Met l y_Po_resetProcess (Cond.code y_Po_resetProcess b_Po_resetProcess 3 none :: wg) { frames := 3, cells := 2, slots := 518, locals := 72 } (va_Pc [.ref h0, .ref x1, .int (x2)] (sm_P D cl_all (ty_s ca) ek L0 f0 sz)) (sm_Qv D (ty_s ca) L0 f0 sz (fun u => po_a ca T0 (fun _ => True) u)) 2 518 (va_A (va_pl L0 f0) sz) := by
  refine sm_start (by decide) (Nat.le_of_ble_eq_true rfl) ?_
  intro p e s m below meth c ls hx hb hml hr hlk hnm hts hown hsz hE hI hl
  have hl : lv_has ls 3 [(0, .ref h0), (1, .ref x1), (2, .int (x2))] := hl
  have hle : ty_le T0 T0 := ty_rf
  have hJ_17 : ∀ (T : ty_e) (L : List Nat) (H : Heap) (locs : List Loc) (f : Nat → va_E) (ls : Array Slot) (z2 : Nat) (z3 : Int32), ty_le T0 T → sw_I D cl_all (ty_s ca) (va_A (va_pl L0 f0) sz) s H locs L f → ok_T ca T L f → lv_has ls 3 [(0, .ref h0), (1, .ref x1), (2, .int (x2))] → (T z2 = some (ty_row 4148)) → W p l e { frames := 3, cells := 2, slots := 518, locals := 72 } s m ([.ref h0, .ref x1, .int (x2)] : List Value).toArray below meth c H locs 0 0 (MQ below (sm_Qv D (ty_s ca) L0 f0 sz (fun u => po_a ca T0 (fun _ => True) u)) ([.ref h0, .ref x1, .int (x2)] : List Value).toArray s 2 518 (va_A (va_pl L0 f0) sz)) (F0 m 17 ls [.int (z3), .ref z2, .ref x1, .ref h0]) := by
    intro T L H locs f ls z2 z3 hle hI hT hl tz2
    have t0 := hle _ _ t0
    have t1 := li_up hle t1
    refine sm_qA hI (va_runV (As := [.ref x1, .ref z2, .int (z3)]) (rest := []) ⟨hx, hb, hml, hown, hts⟩ (c_Po_comeBack l D ca _ _ _ _ hT h0 t0 x1 t1 z2 tz2 z3 (by omega) (by omega)) (kv_Po_comeBack hts rfl rfl (hts _ tw_962) ⟨Nat.le_of_ble_eq_true rfl, Nat.le_of_ble_eq_true rfl⟩) (pv_Po hI hE hT t0) rfl rfl hl.1 rfl (lv_room (Nat.le_of_ble_eq_true rfl)) d_Po_resetProcess_17 ⟨Nat.le_of_ble_eq_true rfl, Nat.le_of_ble_eq_true rfl⟩) (fun o_1 T L H locs f p_2 hle1 hI hT => ?_)
    have hle := ty_tr hle hle1
    have t0 := hle1 _ _ t0
    have t1 := li_up hle1 t1
    rcases o_1 with _ | r_3
    · refine lv_pop hx hb d_Po_resetProcess_20 rfl ?_
      refine lv_iload_n hx hb d_Po_resetProcess_21 rfl (lv_at hl 2 rfl) ?_
      refine lv_if_eq (tgt := 92) hx hb d_Po_resetProcess_22 (by decide) (fun c_4 => ?_) (fun c_4 => ?_)
      · refine W.widen (k := 2) (n := 518) (by decide) (by decide) ?_
        exact sm_vret hx hb hr hlk hI ⟨_, hle, hT, trivial⟩ d_Po_resetProcess_92
      · refine lv_aload_n hx hb d_Po_resetProcess_25 rfl (lv_at hl 0 rfl) ?_
        refine fg_Po_selection hx hb hts hown hI hT t0 (hts _ tw_374) (fun _ h9 => h9) d_Po_resetProcess_26 (fun r_5 t_6 => ?_)
        refine sm_v hI (va_runV (As := []) (rest := []) ⟨hx, hb, hml, hown, hts⟩ (c_Se_forget l D ca _ _ _ _ hT r_5 t_6) (kv_Se_forget hts rfl rfl (hts _ tw_991) ⟨Nat.le_of_ble_eq_true rfl, Nat.le_of_ble_eq_true rfl⟩) (pv_Se hI hE hT t_6) rfl rfl hl.1 rfl (lv_room (Nat.le_of_ble_eq_true rfl)) d_Po_resetProcess_29 ⟨Nat.le_of_ble_eq_true rfl, Nat.le_of_ble_eq_true rfl⟩) (fun H locs f hI hT => ?_)
        refine lv_aload_n hx hb d_Po_resetProcess_32 rfl (lv_at hl 0 rfl) ?_
        refine lv_aload_n hx hb d_Po_resetProcess_33 rfl (lv_at hl 1 rfl) ?_
        refine lv_bipush (v := 70) hx hb d_Po_resetProcess_34 (by decide) ?_
        refine lv_aload_n hx hb d_Po_resetProcess_36 rfl (lv_at hl 0 rfl) ?_
        refine fg_Po_asked hx hb hts hown hI hT t0 (hts _ tw_375) (fun _ h9 => h9) d_Po_resetProcess_37 (fun r_7 t_8 => ?_)
        refine lv_iconst (v := 2) hx hb d_Po_resetProcess_40 (by decide) ?_
        refine sm_iP hI (va_runV (As := [.int (2)]) (rest := [.int (70), .ref x1, .ref h0]) ⟨hx, hb, hml, hown, hts⟩ (c_Br_at l D ca _ _ _ _ hT r_7 t_8 2) (kv_Br_at hts rfl rfl (hts _ tw_697) ⟨Nat.le_of_ble_eq_true rfl, Nat.le_of_ble_eq_true rfl⟩) (pv_Br hI hE hT t_8) rfl rfl hl.1 rfl (lv_room (Nat.le_of_ble_eq_true rfl)) d_Po_resetProcess_41 ⟨Nat.le_of_ble_eq_true rfl, Nat.le_of_ble_eq_true rfl⟩) (fun x_9 H locs p_10 hI => ?_)
        refine lv_sipush (v := 128) hx hb d_Po_resetProcess_44 (by decide) ?_
        refine lv_iand hx hb d_Po_resetProcess_47 ?_
        refine lv_topi (fun x_11 e_12 => ?_)
        refine lv_iconst (v := 4) hx hb d_Po_resetProcess_48 (by decide) ?_
        refine lv_ior hx hb d_Po_resetProcess_49 ?_
        refine lv_topi (fun x_13 e_14 => ?_)
        refine lv_aload_n hx hb d_Po_resetProcess_50 rfl (lv_at hl 0 rfl) ?_
        refine lv_aload_n hx hb d_Po_resetProcess_51 rfl (lv_at hl 1 rfl) ?_
        refine lv_aload_n hx hb d_Po_resetProcess_52 rfl (lv_at hl 0 rfl) ?_
        refine fg_Po_asked hx hb hts hown hI hT t0 (hts _ tw_375) (fun _ h9 => h9) d_Po_resetProcess_53 (fun r_15 t_16 => ?_)
        refine sm_iP hI (va_runV (As := [.ref x1, .ref r_15]) (rest := [.int (x_13), .int (70), .ref x1, .ref h0]) ⟨hx, hb, hml, hown, hts⟩ (c_Po_originOf l D ca _ _ _ _ hT h0 t0 x1 t1 r_15 t_16) (kv_Po_originOf hts rfl rfl (hts _ tw_705) ⟨Nat.le_of_ble_eq_true rfl, Nat.le_of_ble_eq_true rfl⟩) (pv_Po hI hE hT t0) rfl rfl hl.1 rfl (lv_room (Nat.le_of_ble_eq_true rfl)) d_Po_resetProcess_56 ⟨Nat.le_of_ble_eq_true rfl, Nat.le_of_ble_eq_true rfl⟩) (fun x_17 H locs p_18 hI => ?_)
        refine sm_v hI (va_runV (As := [.ref x1, .int (70), .int (x_13), .int (x_17)]) (rest := []) ⟨hx, hb, hml, hown, hts⟩ (c_Po_putHead l D ca _ _ _ _ hT h0 t0 x1 t1 70 x_13 x_17) (kv_Po_putHead hts rfl rfl (hts _ tw_709) ⟨Nat.le_of_ble_eq_true rfl, Nat.le_of_ble_eq_true rfl⟩) (pv_Po hI hE hT t0) rfl rfl hl.1 rfl (lv_room (Nat.le_of_ble_eq_true rfl)) d_Po_resetProcess_59 ⟨Nat.le_of_ble_eq_true rfl, Nat.le_of_ble_eq_true rfl⟩) (fun H locs f hI hT => ?_)
        refine lv_aload_n hx hb d_Po_resetProcess_62 rfl (lv_at hl 0 rfl) ?_
        refine fg_Po_told hx hb hts hown hI hT t0 (hts _ tw_376) (fun _ h9 => h9) d_Po_resetProcess_63 (fun r_19 t_20 => ?_)
        refine lv_iconst (v := 0) hx hb d_Po_resetProcess_66 (by decide) ?_
        refine lv_aload_n hx hb d_Po_resetProcess_67 rfl (lv_at hl 1 rfl) ?_
        refine fg_Li_objectSize hx hb hts hown hI hT t1 (hts _ tw_162) (fun _ h9 => h9) d_Po_resetProcess_68 (fun n_21 h_22 => ?_)
        refine sm_v hI (va_runV (As := [.int (0), .int (nI n_21)]) (rest := []) ⟨hx, hb, hml, hown, hts⟩ (c_Br_putNumber l D ca _ _ _ _ hT r_19 t_20 0 (n_21) (by omega)) (kv_Br_putNumber hts rfl rfl (hts _ tw_650) ⟨Nat.le_of_ble_eq_true rfl, Nat.le_of_ble_eq_true rfl⟩) (pv_Br hI hE hT t_20) rfl rfl hl.1 rfl (lv_room (Nat.le_of_ble_eq_true rfl)) d_Po_resetProcess_71 ⟨Nat.le_of_ble_eq_true rfl, Nat.le_of_ble_eq_true rfl⟩) (fun H locs f hI hT => ?_)
        refine lv_aload_n hx hb d_Po_resetProcess_74 rfl (lv_at hl 0 rfl) ?_
        refine fg_Po_told hx hb hts hown hI hT t0 (hts _ tw_376) (fun _ h9 => h9) d_Po_resetProcess_75 (fun r_23 t_24 => ?_)
        refine lv_iconst (v := 2) hx hb d_Po_resetProcess_78 (by decide) ?_
        refine sm_v hI (va_runV (As := [.int (2)]) (rest := []) ⟨hx, hb, hml, hown, hts⟩ (c_Br_put l D ca _ _ _ _ hT r_23 t_24 2) (kv_Br_put hts rfl rfl (hts _ tw_651) ⟨Nat.le_of_ble_eq_true rfl, Nat.le_of_ble_eq_true rfl⟩) (pv_Br hI hE hT t_24) rfl rfl hl.1 rfl (lv_room (Nat.le_of_ble_eq_true rfl)) d_Po_resetProcess_79 ⟨Nat.le_of_ble_eq_true rfl, Nat.le_of_ble_eq_true rfl⟩) (fun H locs f hI hT => ?_)
        refine lv_aload_n hx hb d_Po_resetProcess_82 rfl (lv_at hl 0 rfl) ?_
        refine lv_aload_n hx hb d_Po_resetProcess_83 rfl (lv_at hl 1 rfl) ?_
        refine lv_aload_n hx hb d_Po_resetProcess_84 rfl (lv_at hl 0 rfl) ?_
        refine fg_Po_told hx hb hts hown hI hT t0 (hts _ tw_376) (fun _ h9 => h9) d_Po_resetProcess_85 (fun r_25 t_26 => ?_)
        refine sm_qA hI (va_runV (As := [.ref x1, .ref r_25]) (rest := []) ⟨hx, hb, hml, hown, hts⟩ (c_Po_addAnswer l D ca _ _ _ _ hT h0 t0 x1 t1 r_25 t_26 (by omega) (by omega)) (kv_Po_addAnswer hts rfl rfl (hts _ tw_966) ⟨Nat.le_of_ble_eq_true rfl, Nat.le_of_ble_eq_true rfl⟩) (pv_Po hI hE hT t0) rfl rfl hl.1 rfl (lv_room (Nat.le_of_ble_eq_true rfl)) d_Po_resetProcess_88 ⟨Nat.le_of_ble_eq_true rfl, Nat.le_of_ble_eq_true rfl⟩) (fun o_27 T L H locs f p_28 hle1 hI hT => ?_)
        have hle := ty_tr hle hle1
        have t0 := hle1 _ _ t0
        have t1 := li_up hle1 t1
        rcases o_27 with _ | r_29
        · refine lv_pop hx hb d_Po_resetProcess_91 rfl ?_
          refine W.widen (k := 2) (n := 518) (by decide) (by decide) ?_
          exact sm_vret hx hb hr hlk hI ⟨_, hle, hT, trivial⟩ d_Po_resetProcess_92
        · have t_30 := p_28 r_29 rfl
          refine lv_pop hx hb d_Po_resetProcess_91 rfl ?_
          refine W.widen (k := 2) (n := 518) (by decide) (by decide) ?_
          exact sm_vret hx hb hr hlk hI ⟨_, hle, hT, trivial⟩ d_Po_resetProcess_92
    · have t_31 := p_2 r_3 rfl
      refine lv_pop hx hb d_Po_resetProcess_20 rfl ?_
      refine lv_iload_n hx hb d_Po_resetProcess_21 rfl (lv_at hl 2 rfl) ?_
      refine lv_if_eq (tgt := 92) hx hb d_Po_resetProcess_22 (by decide) (fun c_32 => ?_) (fun c_32 => ?_)
      · refine W.widen (k := 2) (n := 518) (by decide) (by decide) ?_
        exact sm_vret hx hb hr hlk hI ⟨_, hle, hT, trivial⟩ d_Po_resetProcess_92
      · refine lv_aload_n hx hb d_Po_resetProcess_25 rfl (lv_at hl 0 rfl) ?_
        refine fg_Po_selection hx hb hts hown hI hT t0 (hts _ tw_374) (fun _ h9 => h9) d_Po_resetProcess_26 (fun r_33 t_34 => ?_)
        refine sm_v hI (va_runV (As := []) (rest := []) ⟨hx, hb, hml, hown, hts⟩ (c_Se_forget l D ca _ _ _ _ hT r_33 t_34) (kv_Se_forget hts rfl rfl (hts _ tw_991) ⟨Nat.le_of_ble_eq_true rfl, Nat.le_of_ble_eq_true rfl⟩) (pv_Se hI hE hT t_34) rfl rfl hl.1 rfl (lv_room (Nat.le_of_ble_eq_true rfl)) d_Po_resetProcess_29 ⟨Nat.le_of_ble_eq_true rfl, Nat.le_of_ble_eq_true rfl⟩) (fun H locs f hI hT => ?_)
        refine lv_aload_n hx hb d_Po_resetProcess_32 rfl (lv_at hl 0 rfl) ?_
        refine lv_aload_n hx hb d_Po_resetProcess_33 rfl (lv_at hl 1 rfl) ?_
        refine lv_bipush (v := 70) hx hb d_Po_resetProcess_34 (by decide) ?_
        refine lv_aload_n hx hb d_Po_resetProcess_36 rfl (lv_at hl 0 rfl) ?_
        refine fg_Po_asked hx hb hts hown hI hT t0 (hts _ tw_375) (fun _ h9 => h9) d_Po_resetProcess_37 (fun r_35 t_36 => ?_)
        refine lv_iconst (v := 2) hx hb d_Po_resetProcess_40 (by decide) ?_
        refine sm_iP hI (va_runV (As := [.int (2)]) (rest := [.int (70), .ref x1, .ref h0]) ⟨hx, hb, hml, hown, hts⟩ (c_Br_at l D ca _ _ _ _ hT r_35 t_36 2) (kv_Br_at hts rfl rfl (hts _ tw_697) ⟨Nat.le_of_ble_eq_true rfl, Nat.le_of_ble_eq_true rfl⟩) (pv_Br hI hE hT t_36) rfl rfl hl.1 rfl (lv_room (Nat.le_of_ble_eq_true rfl)) d_Po_resetProcess_41 ⟨Nat.le_of_ble_eq_true rfl, Nat.le_of_ble_eq_true rfl⟩) (fun x_37 H locs p_38 hI => ?_)
        refine lv_sipush (v := 128) hx hb d_Po_resetProcess_44 (by decide) ?_
        refine lv_iand hx hb d_Po_resetProcess_47 ?_
        refine lv_topi (fun x_39 e_40 => ?_)
        refine lv_iconst (v := 4) hx hb d_Po_resetProcess_48 (by decide) ?_
        refine lv_ior hx hb d_Po_resetProcess_49 ?_
        refine lv_topi (fun x_41 e_42 => ?_)
        refine lv_aload_n hx hb d_Po_resetProcess_50 rfl (lv_at hl 0 rfl) ?_
        refine lv_aload_n hx hb d_Po_resetProcess_51 rfl (lv_at hl 1 rfl) ?_
        refine lv_aload_n hx hb d_Po_resetProcess_52 rfl (lv_at hl 0 rfl) ?_
        refine fg_Po_asked hx hb hts hown hI hT t0 (hts _ tw_375) (fun _ h9 => h9) d_Po_resetProcess_53 (fun r_43 t_44 => ?_)
        refine sm_iP hI (va_runV (As := [.ref x1, .ref r_43]) (rest := [.int (x_41), .int (70), .ref x1, .ref h0]) ⟨hx, hb, hml, hown, hts⟩ (c_Po_originOf l D ca _ _ _ _ hT h0 t0 x1 t1 r_43 t_44) (kv_Po_originOf hts rfl rfl (hts _ tw_705) ⟨Nat.le_of_ble_eq_true rfl, Nat.le_of_ble_eq_true rfl⟩) (pv_Po hI hE hT t0) rfl rfl hl.1 rfl (lv_room (Nat.le_of_ble_eq_true rfl)) d_Po_resetProcess_56 ⟨Nat.le_of_ble_eq_true rfl, Nat.le_of_ble_eq_true rfl⟩) (fun x_45 H locs p_46 hI => ?_)
        refine sm_v hI (va_runV (As := [.ref x1, .int (70), .int (x_41), .int (x_45)]) (rest := []) ⟨hx, hb, hml, hown, hts⟩ (c_Po_putHead l D ca _ _ _ _ hT h0 t0 x1 t1 70 x_41 x_45) (kv_Po_putHead hts rfl rfl (hts _ tw_709) ⟨Nat.le_of_ble_eq_true rfl, Nat.le_of_ble_eq_true rfl⟩) (pv_Po hI hE hT t0) rfl rfl hl.1 rfl (lv_room (Nat.le_of_ble_eq_true rfl)) d_Po_resetProcess_59 ⟨Nat.le_of_ble_eq_true rfl, Nat.le_of_ble_eq_true rfl⟩) (fun H locs f hI hT => ?_)
        refine lv_aload_n hx hb d_Po_resetProcess_62 rfl (lv_at hl 0 rfl) ?_
        refine fg_Po_told hx hb hts hown hI hT t0 (hts _ tw_376) (fun _ h9 => h9) d_Po_resetProcess_63 (fun r_47 t_48 => ?_)
        refine lv_iconst (v := 0) hx hb d_Po_resetProcess_66 (by decide) ?_
        refine lv_aload_n hx hb d_Po_resetProcess_67 rfl (lv_at hl 1 rfl) ?_
        refine fg_Li_objectSize hx hb hts hown hI hT t1 (hts _ tw_162) (fun _ h9 => h9) d_Po_resetProcess_68 (fun n_49 h_50 => ?_)
        refine sm_v hI (va_runV (As := [.int (0), .int (nI n_49)]) (rest := []) ⟨hx, hb, hml, hown, hts⟩ (c_Br_putNumber l D ca _ _ _ _ hT r_47 t_48 0 (n_49) (by omega)) (kv_Br_putNumber hts rfl rfl (hts _ tw_650) ⟨Nat.le_of_ble_eq_true rfl, Nat.le_of_ble_eq_true rfl⟩) (pv_Br hI hE hT t_48) rfl rfl hl.1 rfl (lv_room (Nat.le_of_ble_eq_true rfl)) d_Po_resetProcess_71 ⟨Nat.le_of_ble_eq_true rfl, Nat.le_of_ble_eq_true rfl⟩) (fun H locs f hI hT => ?_)
        refine lv_aload_n hx hb d_Po_resetProcess_74 rfl (lv_at hl 0 rfl) ?_
        refine fg_Po_told hx hb hts hown hI hT t0 (hts _ tw_376) (fun _ h9 => h9) d_Po_resetProcess_75 (fun r_51 t_52 => ?_)
        refine lv_iconst (v := 2) hx hb d_Po_resetProcess_78 (by decide) ?_
        refine sm_v hI (va_runV (As := [.int (2)]) (rest := []) ⟨hx, hb, hml, hown, hts⟩ (c_Br_put l D ca _ _ _ _ hT r_51 t_52 2) (kv_Br_put hts rfl rfl (hts _ tw_651) ⟨Nat.le_of_ble_eq_true rfl, Nat.le_of_ble_eq_true rfl⟩) (pv_Br hI hE hT t_52) rfl rfl hl.1 rfl (lv_room (Nat.le_of_ble_eq_true rfl)) d_Po_resetProcess_79 ⟨Nat.le_of_ble_eq_true rfl, Nat.le_of_ble_eq_true rfl⟩) (fun H locs f hI hT => ?_)
        refine lv_aload_n hx hb d_Po_resetProcess_82 rfl (lv_at hl 0 rfl) ?_
        refine lv_aload_n hx hb d_Po_resetProcess_83 rfl (lv_at hl 1 rfl) ?_
        refine lv_aload_n hx hb d_Po_resetProcess_84 rfl (lv_at hl 0 rfl) ?_
        refine fg_Po_told hx hb hts hown hI hT t0 (hts _ tw_376) (fun _ h9 => h9) d_Po_resetProcess_85 (fun r_53 t_54 => ?_)
        refine sm_qA hI (va_runV (As := [.ref x1, .ref r_53]) (rest := []) ⟨hx, hb, hml, hown, hts⟩ (c_Po_addAnswer l D ca _ _ _ _ hT h0 t0 x1 t1 r_53 t_54 (by omega) (by omega)) (kv_Po_addAnswer hts rfl rfl (hts _ tw_966) ⟨Nat.le_of_ble_eq_true rfl, Nat.le_of_ble_eq_true rfl⟩) (pv_Po hI hE hT t0) rfl rfl hl.1 rfl (lv_room (Nat.le_of_ble_eq_true rfl)) d_Po_resetProcess_88 ⟨Nat.le_of_ble_eq_true rfl, Nat.le_of_ble_eq_true rfl⟩) (fun o_55 T L H locs f p_56 hle1 hI hT => ?_)
        have hle := ty_tr hle hle1
        have t0 := hle1 _ _ t0
        have t1 := li_up hle1 t1
        rcases o_55 with _ | r_57
        · refine lv_pop hx hb d_Po_resetProcess_91 rfl ?_
          refine W.widen (k := 2) (n := 518) (by decide) (by decide) ?_
          exact sm_vret hx hb hr hlk hI ⟨_, hle, hT, trivial⟩ d_Po_resetProcess_92
        · have t_58 := p_56 r_57 rfl
          refine lv_pop hx hb d_Po_resetProcess_91 rfl ?_
          refine W.widen (k := 2) (n := 518) (by decide) (by decide) ?_
          exact sm_vret hx hb hr hlk hI ⟨_, hle, hT, trivial⟩ d_Po_resetProcess_92
  refine lv_aload_n hx hb d_Po_resetProcess_0 rfl (lv_at hl 0 rfl) ?_
  refine lv_aload_n hx hb d_Po_resetProcess_1 rfl (lv_at hl 1 rfl) ?_
  refine lv_aload_n hx hb d_Po_resetProcess_2 rfl (lv_at hl 0 rfl) ?_
  refine fg_Po_asked hx hb hts hown hI hT t0 (hts _ tw_375) (fun _ h9 => h9) d_Po_resetProcess_3 (fun r_59 t_60 => ?_)
  refine lv_iload_n hx hb d_Po_resetProcess_6 rfl (lv_at hl 2 rfl) ?_
  refine lv_if_eq (tgt := 15) hx hb d_Po_resetProcess_7 (by decide) (fun c_61 => ?_) (fun c_61 => ?_)
  · refine lv_bipush (v := 71) hx hb d_Po_resetProcess_15 (by decide) ?_
    refine W.widen (k := 0) (n := 0) (by decide) (by decide) ?_
    exact hJ_17 _ _ _ _ _ _ r_59 71 hle hI hT (lv_sub hl [0, 1, 2] rfl) t_60
  · refine lv_bipush (v := 7) hx hb d_Po_resetProcess_10 (by decide) ?_
    refine lv_goto (tgt := 17) hx hb d_Po_resetProcess_12 (by decide) ?_
    refine W.widen (k := 0) (n := 0) (by decide) (by decide) ?_
    exact hJ_17 _ _ _ _ _ _ r_59 7 hle hI hT (lv_sub hl [0, 1, 2] rfl) t_60
theorem d_Po_interrogate_0 : decode b_Po_interrogate 0 = .ok (.iload_n 2, 1) := by decide +kernel
theorem d_Po_interrogate_1 : decode b_Po_interrogate 1 = .ok (.ifCond .lt 16, 3) := by decide +kernel
theorem d_Po_interrogate_4 : decode b_Po_interrogate 4 = .ok (.iload_n 2, 1) := by decide +kernel
theorem d_Po_interrogate_5 : decode b_Po_interrogate 5 = .ok (.iload_n 3, 1) := by decide +kernel
theorem d_Po_interrogate_6 : decode b_Po_interrogate 6 = .ok (.if_icmp .gt 11, 3) := by decide +kernel
theorem d_Po_interrogate_9 : decode b_Po_interrogate 9 = .ok (.aload_n 0, 1) := by decide +kernel
theorem d_Po_interrogate_10 : decode b_Po_interrogate 10 = .ok (.aload_n 1, 1) := by decide +kernel
theorem d_Po_interrogate_11 : decode b_Po_interrogate 11 = .ok (.invokevirtual 617, 3) := by decide +kernel
theorem d_Po_interrogate_14 : decode b_Po_interrogate 14 = .ok (.ifCond .eq 16, 3) := by decide +kernel
theorem d_Po_interrogate_17 : decode b_Po_interrogate 17 = .ok (.aload_n 0, 1) := by decide +kernel
theorem d_Po_interrogate_18 : decode b_Po_interrogate 18 = .ok (.aload_n 1, 1) := by decide +kernel
theorem d_Po_interrogate_19 : decode b_Po_interrogate 19 = .ok (.aload_n 0, 1) := by decide +kernel
theorem d_Po_interrogate_20 : decode b_Po_interrogate 20 = .ok (.getfield 53, 3) := by decide +kernel
theorem d_Po_interrogate_23 : decode b_Po_interrogate 23 = .ok (.bipush 71, 2) := by decide +kernel
theorem d_Po_interrogate_25 : decode b_Po_interrogate 25 = .ok (.invokevirtual 239, 3) := by decide +kernel
theorem d_Po_interrogate_28 : decode b_Po_interrogate 28 = .ok (.pop, 1) := by decide +kernel
theorem d_Po_interrogate_29 : decode b_Po_interrogate 29 = .ok (.return_, 1) := by decide +kernel
theorem d_Po_interrogate_30 : decode b_Po_interrogate 30 = .ok (.aload_n 0, 1) := by decide +kernel
theorem d_Po_interrogate_31 : decode b_Po_interrogate 31 = .ok (.dup, 1) := by decide +kernel
theorem d_Po_interrogate_32 : decode b_Po_interrogate 32 = .ok (.getfield 330, 3) := by decide +kernel
theorem d_Po_interrogate_35 : decode b_Po_interrogate 35 = .ok (.iload 4, 2) := by decide +kernel
theorem d_Po_interrogate_37 : decode b_Po_interrogate 37 = .ok (.ifCond .eq 7, 3) := by decide +kernel
theorem d_Po_interrogate_40 : decode b_Po_interrogate 40 = .ok (.iconst 1, 1) := by decide +kernel
theorem d_Po_interrogate_41 : decode b_Po_interrogate 41 = .ok (.goto 4, 3) := by decide +kernel
theorem d_Po_interrogate_44 : decode b_Po_interrogate 44 = .ok (.iconst 0, 1) := by decide +kernel
theorem d_Po_interrogate_45 : decode b_Po_interrogate 45 = .ok (.iadd, 1) := by decide +kernel
theorem d_Po_interrogate_46 : decode b_Po_interrogate 46 = .ok (.putfield 330, 3) := by decide +kernel
theorem d_Po_interrogate_49 : decode b_Po_interrogate 49 = .ok (.aload_n 0, 1) := by decide +kernel
theorem d_Po_interrogate_50 : decode b_Po_interrogate 50 = .ok (.aload_n 1, 1) := by decide +kernel
theorem d_Po_interrogate_51 : decode b_Po_interrogate 51 = .ok (.aload_n 0, 1) := by decide +kernel
theorem d_Po_interrogate_52 : decode b_Po_interrogate 52 = .ok (.getfield 53, 3) := by decide +kernel
theorem d_Po_interrogate_55 : decode b_Po_interrogate 55 = .ok (.bipush 7, 2) := by decide +kernel
theorem d_Po_interrogate_57 : decode b_Po_interrogate 57 = .ok (.invokevirtual 239, 3) := by decide +kernel
theorem d_Po_interrogate_60 : decode b_Po_interrogate 60 = .ok (.astore 5, 2) := by decide +kernel
theorem d_Po_interrogate_62 : decode b_Po_interrogate 62 = .ok (.aload 5, 2) := by decide +kernel
theorem d_Po_interrogate_64 : decode b_Po_interrogate 64 = .ok (.ifnull 22, 3) := by decide +kernel
theorem d_Po_interrogate_67 : decode b_Po_interrogate 67 = .ok (.aload 5, 2) := by decide +kernel
theorem d_Po_interrogate_69 : decode b_Po_interrogate 69 = .ok (.iconst 1, 1) := by decide +kernel
theorem d_Po_interrogate_70 : decode b_Po_interrogate 70 = .ok (.putfield 482, 3) := by decide +kernel
theorem d_Po_interrogate_73 : decode b_Po_interrogate 73 = .ok (.aload 5, 2) := by decide +kernel
theorem d_Po_interrogate_75 : decode b_Po_interrogate 75 = .ok (.iload 4, 2) := by decide +kernel
theorem d_Po_interrogate_77 : decode b_Po_interrogate 77 = .ok (.putfield 621, 3) := by decide +kernel
theorem d_Po_interrogate_80 : decode b_Po_interrogate 80 = .ok (.aload 5, 2) := by decide +kernel
theorem d_Po_interrogate_82 : decode b_Po_interrogate 82 = .ok (.iload_n 2, 1) := by decide +kernel
theorem d_Po_interrogate_83 : decode b_Po_interrogate 83 = .ok (.putfield 624, 3) := by decide +kernel
theorem d_Po_interrogate_86 : decode b_Po_interrogate 86 = .ok (.return_, 1) := by decide +kernel
set_option maxRecDepth 100000 in
set_option maxHeartbeats 4000000 in
theorem c_Po_interrogate (l : Launch) (D : va_G) (ca : Nat → ClassId) (T0 : ty_e) (L0 : List Nat) (f0 : Nat → va_E) (sz : Nat) (hT : ok_T ca T0 L0 f0) {g0 : List (Int32 × Int32)} (h0 : Nat) (t0 : T0 h0 = some (ty_po g0)) (x1 : Nat) (t1 : is_li T0 x1) (x2 : Int32) (x3 : Int32) (x4 : Int32) (p4 : x4 = 0 ∨ x4 = 1) :
    Met l y_Po_interrogate (Cond.code y_Po_interrogate b_Po_interrogate 6 none :: wg) { frames := 3, cells := 1, slots := 259, locals := 72 } (va_Pc [.ref h0, .ref x1, .int (x2), .int (x3), .int (x4)] (sm_P D cl_all (ty_s ca) ek L0 f0 sz)) (sm_Qv D (ty_s ca) L0 f0 sz (fun u => po_a ca T0 (fun _ => True) u)) 1 259 (va_A (va_pl L0 f0) sz) := by
  refine sm_start (by decide) (Nat.le_of_ble_eq_true rfl) ?_
  intro p e s m below meth c ls hx hb hml hr hlk hnm hts hown hsz hE hI hl
  have hl : lv_has ls 6 [(0, .ref h0), (1, .ref x1), (2, .int (x2)), (3, .int (x3)), (4, .int (x4))] := hl
  have hle : ty_le T0 T0 := ty_rf
  have hJ_45 : ∀ (T : ty_e) (L : List Nat) (H : Heap) (locs : List Loc) (f : Nat → va_E) (ls : Array Slot) (z1 : Int32) (z2 : Int32), ty_le T0 T → sw_I D cl_all (ty_s ca) (va_A (va_pl L0 f0) sz) s H locs L f → ok_T ca T L f → lv_has ls 6 [(0, .ref h0), (1, .ref x1), (2, .int (x2)), (3, .int (x3)), (4, .int (x4))] → (z2 = 0 ∨ z2 = 1) → W p l e { frames := 3, cells := 1, slots := 259, locals := 72 } s m ([.ref h0, .ref x1, .int (x2), .int (x3), .int (x4)] : List Value).toArray below meth c H locs 0 0 (MQ below (sm_Qv D (ty_s ca) L0 f0 sz (fun u => po_a ca T0 (fun _ => True) u)) ([.ref h0, .ref x1, .int (x2), .int (x3), .int (x4)] : List Value).toArray s 1 259 (va_A (va_pl L0 f0) sz)) (F0 m 45 ls [.int (z2), .int (z1), .ref h0]) := by
    intro T L H locs f ls z1 z2 hle hI hT hl pz2
    have t0 := hle _ _ t0
    have t1 := li_up hle t1
    refine lv_iadd hx hb d_Po_interrogate_45 ?_
    refine lv_topi (fun x_1 e_2 => ?_)
    refine fp_Po_countersBegun hx hb hts hown hI hT t0 (hts _ tw_370) (fun _ h9 => h9) d_Po_interrogate_46 (fun H locs f hI hT => ?_)
    refine lv_aload_n hx hb d_Po_interrogate_49 rfl (lv_at hl 0 rfl) ?_
    refine lv_aload_n hx hb d_Po_interrogate_50 rfl (lv_at hl 1 rfl) ?_
    refine lv_aload_n hx hb d_Po_interrogate_51 rfl (lv_at hl 0 rfl) ?_
    refine fg_Po_asked hx hb hts hown hI hT t0 (hts _ tw_375) (fun _ h9 => h9) d_Po_interrogate_52 (fun r_3 t_4 => ?_)
    refine lv_bipush (v := 7) hx hb d_Po_interrogate_55 (by decide) ?_
    refine sm_qA hI (va_runV (As := [.ref x1, .ref r_3, .int (7)]) (rest := []) ⟨hx, hb, hml, hown, hts⟩ (c_Po_comeBack l D ca _ _ _ _ hT h0 t0 x1 t1 r_3 t_4 7 (by omega) (by omega)) (kv_Po_comeBack hts rfl rfl (hts _ tw_962) ⟨Nat.le_of_ble_eq_true rfl, Nat.le_of_ble_eq_true rfl⟩) (pv_Po hI hE hT t0) rfl rfl hl.1 rfl (lv_room (Nat.le_of_ble_eq_true rfl)) d_Po_interrogate_57 ⟨Nat.le_of_ble_eq_true rfl, Nat.le_of_ble_eq_true rfl⟩) (fun o_5 T L H locs f p_6 hle1 hI hT => ?_)
    have hle := ty_tr hle hle1
    have t0 := hle1 _ _ t0
    have t1 := li_up hle1 t1
    rcases o_5 with _ | r_7
    · refine lv_astoreN (lv' := [(5, .null), (0, .ref h0), (1, .ref x1), (2, .int (x2)), (3, .int (x3)), (4, .int (x4))]) hx hb d_Po_interrogate_60 hl (by decide) rfl (fun ls hl => ?_)
      refine lv_aloadN hx hb d_Po_interrogate_62 (lv_at hl 0 rfl) ?_
      refine lv_ifnullN (tgt := 86) hx hb d_Po_interrogate_64 (by decide) ?_
      refine W.widen (k := 1) (n := 259) (by decide) (by decide) ?_
      exact sm_vret hx hb hr hlk hI ⟨_, hle, hT, trivial⟩ d_Po_interrogate_86
    · have t_8 := p_6 r_7 rfl
      refine lv_astore (lv' := [(5, .ref r_7), (0, .ref h0), (1, .ref x1), (2, .int (x2)), (3, .int (x3)), (4, .int (x4))]) hx hb d_Po_interrogate_60 hl (by decide) rfl (fun ls hl => ?_)
      refine lv_aload hx hb d_Po_interrogate_62 (lv_at hl 0 rfl) ?_
      refine lv_ifnull hx hb d_Po_interrogate_64 ?_
      refine lv_aload hx hb d_Po_interrogate_67 (lv_at hl 0 rfl) ?_
      refine lv_iconst (v := 1) hx hb d_Po_interrogate_69 (by decide) ?_
      refine fpN_An_interrogates hx hb hts hown hI hT t_8 (va_Nw.use rfl (hE.1 _ tn_76 rfl)) (fun _ h9 => h9) (by decide) d_Po_interrogate_70 (fun H locs f hI hT => ?_)
      refine lv_aload hx hb d_Po_interrogate_73 (lv_at hl 0 rfl) ?_
      refine lv_iload hx hb d_Po_interrogate_75 (lv_at hl 5 rfl) ?_
      refine fpN_An_counters hx hb hts hown hI hT t_8 (va_Nw.use rfl (hE.1 _ tn_78 rfl)) (fun _ h9 => h9) p4 d_Po_interrogate_77 (fun H locs f hI hT => ?_)
      refine lv_aload hx hb d_Po_interrogate_80 (lv_at hl 0 rfl) ?_
      refine lv_iload_n hx hb d_Po_interrogate_82 rfl (lv_at hl 3 rfl) ?_
      refine fpN_An_group hx hb hts hown hI hT t_8 (va_Nw.use rfl (hE.1 _ tn_82 rfl)) (fun _ h9 => h9) d_Po_interrogate_83 (fun H locs f hI hT => ?_)
      refine W.widen (k := 1) (n := 259) (by decide) (by decide) ?_
      exact sm_vret hx hb hr hlk hI ⟨_, hle, hT, trivial⟩ d_Po_interrogate_86
  have hJ_17 : ∀ (T : ty_e) (L : List Nat) (H : Heap) (locs : List Loc) (f : Nat → va_E) (ls : Array Slot) , ty_le T0 T → sw_I D cl_all (ty_s ca) (va_A (va_pl L0 f0) sz) s H locs L f → ok_T ca T L f → lv_has ls 6 [(0, .ref h0), (1, .ref x1), (2, .int (x2)), (3, .int (x3)), (4, .int (x4))] → W p l e { frames := 3, cells := 1, slots := 259, locals := 72 } s m ([.ref h0, .ref x1, .int (x2), .int (x3), .int (x4)] : List Value).toArray below meth c H locs 0 0 (MQ below (sm_Qv D (ty_s ca) L0 f0 sz (fun u => po_a ca T0 (fun _ => True) u)) ([.ref h0, .ref x1, .int (x2), .int (x3), .int (x4)] : List Value).toArray s 1 259 (va_A (va_pl L0 f0) sz)) (F0 m 17 ls []) := by
    intro T L H locs f ls  hle hI hT hl 
    have t0 := hle _ _ t0
    have t1 := li_up hle t1
    refine lv_aload_n hx hb d_Po_interrogate_17 rfl (lv_at hl 0 rfl) ?_
    refine lv_aload_n hx hb d_Po_interrogate_18 rfl (lv_at hl 1 rfl) ?_
    refine lv_aload_n hx hb d_Po_interrogate_19 rfl (lv_at hl 0 rfl) ?_
    refine fg_Po_asked hx hb hts hown hI hT t0 (hts _ tw_375) (fun _ h9 => h9) d_Po_interrogate_20 (fun r_9 t_10 => ?_)
    refine lv_bipush (v := 71) hx hb d_Po_interrogate_23 (by decide) ?_
    refine sm_qA hI (va_runV (As := [.ref x1, .ref r_9, .int (71)]) (rest := []) ⟨hx, hb, hml, hown, hts⟩ (c_Po_comeBack l D ca _ _ _ _ hT h0 t0 x1 t1 r_9 t_10 71 (by omega) (by omega)) (kv_Po_comeBack hts rfl rfl (hts _ tw_962) ⟨Nat.le_of_ble_eq_true rfl, Nat.le_of_ble_eq_true rfl⟩) (pv_Po hI hE hT t0) rfl rfl hl.1 rfl (lv_room (Nat.le_of_ble_eq_true rfl)) d_Po_interrogate_25 ⟨Nat.le_of_ble_eq_true rfl, Nat.le_of_ble_eq_true rfl⟩) (fun o_11 T L H locs f p_12 hle1 hI hT => ?_)
    have hle := ty_tr hle hle1
    have t0 := hle1 _ _ t0
    have t1 := li_up hle1 t1
    rcases o_11 with _ | r_13
    · refine lv_pop hx hb d_Po_interrogate_28 rfl ?_
      refine W.widen (k := 1) (n := 259) (by decide) (by decide) ?_
      exact sm_vret hx hb hr hlk hI ⟨_, hle, hT, trivial⟩ d_Po_interrogate_29
    · have t_14 := p_12 r_13 rfl
      refine lv_pop hx hb d_Po_interrogate_28 rfl ?_
      refine W.widen (k := 1) (n := 259) (by decide) (by decide) ?_
      exact sm_vret hx hb hr hlk hI ⟨_, hle, hT, trivial⟩ d_Po_interrogate_29
  refine lv_iload_n hx hb d_Po_interrogate_0 rfl (lv_at hl 2 rfl) ?_
  refine lv_if_lt (tgt := 17) hx hb d_Po_interrogate_1 (by decide) (fun c_15 => ?_) (fun c_15 => ?_)
  · refine W.widen (k := 0) (n := 0) (by decide) (by decide) ?_
    exact hJ_17 _ _ _ _ _ _  hle hI hT (lv_sub hl [0, 1, 2, 3, 4] rfl) 
  · refine lv_iload_n hx hb d_Po_interrogate_4 rfl (lv_at hl 2 rfl) ?_
    refine lv_iload_n hx hb d_Po_interrogate_5 rfl (lv_at hl 3 rfl) ?_
    refine lv_icmp_gt (tgt := 17) hx hb d_Po_interrogate_6 (by decide) (fun c_16 => ?_) (fun c_16 => ?_)
    · refine W.widen (k := 0) (n := 0) (by decide) (by decide) ?_
      exact hJ_17 _ _ _ _ _ _  hle hI hT (lv_sub hl [0, 1, 2, 3, 4] rfl) 
    · refine lv_aload_n hx hb d_Po_interrogate_9 rfl (lv_at hl 0 rfl) ?_
      refine lv_aload_n hx hb d_Po_interrogate_10 rfl (lv_at hl 1 rfl) ?_
      refine sm_iP hI (va_runV (As := [.ref x1]) (rest := []) ⟨hx, hb, hml, hown, hts⟩ (c_Po_interrogationGoesOn l D ca _ _ _ _ hT h0 t0 x1 t1) (kv_Po_interrogationGoesOn hts rfl rfl (hts _ tw_1025) ⟨Nat.le_of_ble_eq_true rfl, Nat.le_of_ble_eq_true rfl⟩) (pv_Po hI hE hT t0) rfl rfl hl.1 rfl (lv_room (Nat.le_of_ble_eq_true rfl)) d_Po_interrogate_11 ⟨Nat.le_of_ble_eq_true rfl, Nat.le_of_ble_eq_true rfl⟩) (fun x_17 H locs p_18 hI => ?_)
      refine lv_if_eq (tgt := 30) hx hb d_Po_interrogate_14 (by decide) (fun c_19 => ?_) (fun c_19 => ?_)
      · refine lv_aload_n hx hb d_Po_interrogate_30 rfl (lv_at hl 0 rfl) ?_
        refine lv_dup hx hb d_Po_interrogate_31 rfl ?_
        refine fg_Po_countersBegun hx hb hts hown hI hT t0 (hts _ tw_370) (fun _ h9 => h9) d_Po_interrogate_32 (fun x_20 => ?_)
        refine lv_iload hx hb d_Po_interrogate_35 (lv_at hl 4 rfl) ?_
        refine lv_if_eq (tgt := 44) hx hb d_Po_interrogate_37 (by decide) (fun c_21 => ?_) (fun c_21 => ?_)
        · refine lv_iconst (v := 0) hx hb d_Po_interrogate_44 (by decide) ?_
          refine W.widen (k := 0) (n := 0) (by decide) (by decide) ?_
          exact hJ_45 _ _ _ _ _ _ x_20 0 hle hI hT (lv_sub hl [0, 1, 2, 3, 4] rfl) (by decide)
        · refine lv_iconst (v := 1) hx hb d_Po_interrogate_40 (by decide) ?_
          refine lv_goto (tgt := 45) hx hb d_Po_interrogate_41 (by decide) ?_
          refine W.widen (k := 0) (n := 0) (by decide) (by decide) ?_
          exact hJ_45 _ _ _ _ _ _ x_20 1 hle hI hT (lv_sub hl [0, 1, 2, 3, 4] rfl) (by decide)
      · refine W.widen (k := 0) (n := 0) (by decide) (by decide) ?_
        exact hJ_17 _ _ _ _ _ _  hle hI hT (lv_sub hl [0, 1, 2, 3, 4] rfl) 
theorem d_Po_askStation_0 : decode b_Po_askStation 0 = .ok (.aload_n 0, 1) := by decide +kernel
theorem d_Po_askStation_1 : decode b_Po_askStation 1 = .ok (.getfield 53, 3) := by decide +kernel
theorem d_Po_askStation_4 : decode b_Po_askStation 4 = .ok (.iload_n 3, 1) := by decide +kernel
theorem d_Po_askStation_5 : decode b_Po_askStation 5 = .ok (.invokevirtual 216, 3) := by decide +kernel
theorem d_Po_askStation_8 : decode b_Po_askStation 8 = .ok (.istore 4, 2) := by decide +kernel
theorem d_Po_askStation_10 : decode b_Po_askStation 10 = .ok (.iload_n 2, 1) := by decide +kernel
theorem d_Po_askStation_11 : decode b_Po_askStation 11 = .ok (.tableswitch 151 100 104 #[33, 49, 151, 80, 108], 33) := by decide +kernel
theorem d_Po_askStation_44 : decode b_Po_askStation 44 = .ok (.aload_n 0, 1) := by decide +kernel
theorem d_Po_askStation_45 : decode b_Po_askStation 45 = .ok (.aload_n 1, 1) := by decide +kernel
theorem d_Po_askStation_46 : decode b_Po_askStation 46 = .ok (.iload 4, 2) := by decide +kernel
theorem d_Po_askStation_48 : decode b_Po_askStation 48 = .ok (.bipush 20, 2) := by decide +kernel
theorem d_Po_askStation_50 : decode b_Po_askStation 50 = .ok (.isub, 1) := by decide +kernel
theorem d_Po_askStation_51 : decode b_Po_askStation 51 = .ok (.bipush 16, 2) := by decide +kernel
theorem d_Po_askStation_53 : decode b_Po_askStation 53 = .ok (.iconst 0, 1) := by decide +kernel
theorem d_Po_askStation_54 : decode b_Po_askStation 54 = .ok (.invokevirtual 606, 3) := by decide +kernel
theorem d_Po_askStation_57 : decode b_Po_askStation 57 = .ok (.goto 121, 3) := by decide +kernel
theorem d_Po_askStation_60 : decode b_Po_askStation 60 = .ok (.aload_n 0, 1) := by decide +kernel
theorem d_Po_askStation_61 : decode b_Po_askStation 61 = .ok (.aload_n 1, 1) := by decide +kernel
theorem d_Po_askStation_62 : decode b_Po_askStation 62 = .ok (.iload 4, 2) := by decide +kernel
theorem d_Po_askStation_64 : decode b_Po_askStation 64 = .ok (.iconst 5, 1) := by decide +kernel
theorem d_Po_askStation_65 : decode b_Po_askStation 65 = .ok (.if_icmp .ne 7, 3) := by decide +kernel
theorem d_Po_askStation_68 : decode b_Po_askStation 68 = .ok (.iconst 0, 1) := by decide +kernel
theorem d_Po_askStation_69 : decode b_Po_askStation 69 = .ok (.goto 14, 3) := by decide +kernel
theorem d_Po_askStation_72 : decode b_Po_askStation 72 = .ok (.iload 4, 2) := by decide +kernel
theorem d_Po_askStation_74 : decode b_Po_askStation 74 = .ok (.ifCond .ne 7, 3) := by decide +kernel
theorem d_Po_askStation_77 : decode b_Po_askStation 77 = .ok (.iconst (-1), 1) := by decide +kernel
theorem d_Po_askStation_78 : decode b_Po_askStation 78 = .ok (.goto 5, 3) := by decide +kernel
theorem d_Po_askStation_81 : decode b_Po_askStation 81 = .ok (.iload 4, 2) := by decide +kernel
theorem d_Po_askStation_83 : decode b_Po_askStation 83 = .ok (.iconst 4, 1) := by decide +kernel
theorem d_Po_askStation_84 : decode b_Po_askStation 84 = .ok (.iconst 1, 1) := by decide +kernel
theorem d_Po_askStation_85 : decode b_Po_askStation 85 = .ok (.invokevirtual 606, 3) := by decide +kernel
theorem d_Po_askStation_88 : decode b_Po_askStation 88 = .ok (.goto 90, 3) := by decide +kernel
theorem d_Po_askStation_91 : decode b_Po_askStation 91 = .ok (.aload_n 0, 1) := by decide +kernel
theorem d_Po_askStation_92 : decode b_Po_askStation 92 = .ok (.aload_n 1, 1) := by decide +kernel
theorem d_Po_askStation_93 : decode b_Po_askStation 93 = .ok (.aload_n 0, 1) := by decide +kernel
theorem d_Po_askStation_94 : decode b_Po_askStation 94 = .ok (.getfield 53, 3) := by decide +kernel
theorem d_Po_askStation_97 : decode b_Po_askStation 97 = .ok (.aload_n 0, 1) := by decide +kernel
theorem d_Po_askStation_98 : decode b_Po_askStation 98 = .ok (.iload_n 3, 1) := by decide +kernel
theorem d_Po_askStation_99 : decode b_Po_askStation 99 = .ok (.invokevirtual 610, 3) := by decide +kernel
theorem d_Po_askStation_102 : decode b_Po_askStation 102 = .ok (.ifCond .eq 8, 3) := by decide +kernel
theorem d_Po_askStation_105 : decode b_Po_askStation 105 = .ok (.bipush 7, 2) := by decide +kernel
theorem d_Po_askStation_107 : decode b_Po_askStation 107 = .ok (.goto 5, 3) := by decide +kernel
theorem d_Po_askStation_110 : decode b_Po_askStation 110 = .ok (.bipush 71, 2) := by decide +kernel
theorem d_Po_askStation_112 : decode b_Po_askStation 112 = .ok (.invokevirtual 239, 3) := by decide +kernel
theorem d_Po_askStation_115 : decode b_Po_askStation 115 = .ok (.pop, 1) := by decide +kernel
theorem d_Po_askStation_116 : decode b_Po_askStation 116 = .ok (.goto 62, 3) := by decide +kernel
theorem d_Po_askStation_119 : decode b_Po_askStation 119 = .ok (.aload_n 0, 1) := by decide +kernel
theorem d_Po_askStation_120 : decode b_Po_askStation 120 = .ok (.aload_n 1, 1) := by decide +kernel
theorem d_Po_askStation_121 : decode b_Po_askStation 121 = .ok (.aload_n 0, 1) := by decide +kernel
theorem d_Po_askStation_122 : decode b_Po_askStation 122 = .ok (.getfield 53, 3) := by decide +kernel
theorem d_Po_askStation_125 : decode b_Po_askStation 125 = .ok (.iload 4, 2) := by decide +kernel
theorem d_Po_askStation_127 : decode b_Po_askStation 127 = .ok (.sipush 170, 3) := by decide +kernel
theorem d_Po_askStation_130 : decode b_Po_askStation 130 = .ok (.if_icmp .ne 23, 3) := by decide +kernel
theorem d_Po_askStation_133 : decode b_Po_askStation 133 = .ok (.aload_n 0, 1) := by decide +kernel
theorem d_Po_askStation_134 : decode b_Po_askStation 134 = .ok (.getfield 53, 3) := by decide +kernel
theorem d_Po_askStation_137 : decode b_Po_askStation 137 = .ok (.iload_n 3, 1) := by decide +kernel
theorem d_Po_askStation_138 : decode b_Po_askStation 138 = .ok (.iconst 1, 1) := by decide +kernel
theorem d_Po_askStation_139 : decode b_Po_askStation 139 = .ok (.iadd, 1) := by decide +kernel
theorem d_Po_askStation_140 : decode b_Po_askStation 140 = .ok (.invokevirtual 216, 3) := by decide +kernel
theorem d_Po_askStation_143 : decode b_Po_askStation 143 = .ok (.bipush 85, 2) := by decide +kernel
theorem d_Po_askStation_145 : decode b_Po_askStation 145 = .ok (.if_icmp .ne 8, 3) := by decide +kernel
theorem d_Po_askStation_148 : decode b_Po_askStation 148 = .ok (.bipush 7, 2) := by decide +kernel
theorem d_Po_askStation_150 : decode b_Po_askStation 150 = .ok (.goto 5, 3) := by decide +kernel
theorem d_Po_askStation_153 : decode b_Po_askStation 153 = .ok (.bipush 71, 2) := by decide +kernel
theorem d_Po_askStation_155 : decode b_Po_askStation 155 = .ok (.invokevirtual 239, 3) := by decide +kernel
theorem d_Po_askStation_158 : decode b_Po_askStation 158 = .ok (.pop, 1) := by decide +kernel
theorem d_Po_askStation_159 : decode b_Po_askStation 159 = .ok (.goto 19, 3) := by decide +kernel
theorem d_Po_askStation_162 : decode b_Po_askStation 162 = .ok (.aload_n 0, 1) := by decide +kernel
theorem d_Po_askStation_163 : decode b_Po_askStation 163 = .ok (.aload_n 1, 1) := by decide +kernel
theorem d_Po_askStation_164 : decode b_Po_askStation 164 = .ok (.iload 4, 2) := by decide +kernel
theorem d_Po_askStation_166 : decode b_Po_askStation 166 = .ok (.iconst 1, 1) := by decide +kernel
theorem d_Po_askStation_167 : decode b_Po_askStation 167 = .ok (.if_icmp .ne 7, 3) := by decide +kernel
theorem d_Po_askStation_170 : decode b_Po_askStation 170 = .ok (.iconst 1, 1) := by decide +kernel
theorem d_Po_askStation_171 : decode b_Po_askStation 171 = .ok (.goto 4, 3) := by decide +kernel
theorem d_Po_askStation_174 : decode b_Po_askStation 174 = .ok (.iconst 0, 1) := by decide +kernel
theorem d_Po_askStation_175 : decode b_Po_askStation 175 = .ok (.invokevirtual 613, 3) := by decide +kernel
theorem d_Po_askStation_178 : decode b_Po_askStation 178 = .ok (.return_, 1) := by decide +kernel
set_option maxRecDepth 100000 in
set_option maxHeartbeats 4000000 in
theorem c_Po_askStation (l : Launch) (D : va_G) (ca : Nat → ClassId) (T0 : ty_e) (L0 : List Nat) (f0 : Nat → va_E) (sz : Nat) (hT : ok_T ca T0 L0 f0) {g0 : List (Int32 × Int32)} (h0 : Nat) (t0 : T0 h0 = some (ty_po g0)) (x1 : Nat) (t1 : is_li T0 x1) (x2 : Int32) (x3 : Int32) :
    Met l y_Po_askStation (Cond.code y_Po_askStation b_Po_askStation 5 none :: wg) { frames := 4, cells := 2, slots := 518, locals := 97 } (va_Pc [.ref h0, .ref x1, .int (x2), .int (x3)] (sm_P D cl_all (ty_s ca) ek L0 f0 sz)) (sm_Qv D (ty_s ca) L0 f0 sz (fun u => po_a ca T0 (fun _ => True) u)) 2 518 (va_A (va_pl L0 f0) sz) := by
  refine sm_start (by decide) (Nat.le_of_ble_eq_true rfl) ?_
  intro p e s m below meth c ls hx hb hml hr hlk hnm hts hown hsz hE hI hl
  have hl : lv_has ls 5 [(0, .ref h0), (1, .ref x1), (2, .int (x2)), (3, .int (x3))] := hl
  have hle : ty_le T0 T0 := ty_rf
  refine lv_aload_n hx hb d_Po_askStation_0 rfl (lv_at hl 0 rfl) ?_
  refine fg_Po_asked hx hb hts hown hI hT t0 (hts _ tw_375) (fun _ h9 => h9) d_Po_askStation_1 (fun r_1 t_2 => ?_)
  refine lv_iload_n hx hb d_Po_askStation_4 rfl (lv_at hl 3 rfl) ?_
  refine sm_iP hI (va_runV (As := [.int (x3)]) (rest := []) ⟨hx, hb, hml, hown, hts⟩ (c_Br_at l D ca _ _ _ _ hT r_1 t_2 x3) (kv_Br_at hts rfl rfl (hts _ tw_697) ⟨Nat.le_of_ble_eq_true rfl, Nat.le_of_ble_eq_true rfl⟩) (pv_Br hI hE hT t_2) rfl rfl hl.1 rfl (lv_room (Nat.le_of_ble_eq_true rfl)) d_Po_askStation_5 ⟨Nat.le_of_ble_eq_true rfl, Nat.le_of_ble_eq_true rfl⟩) (fun x_3 H locs p_4 hI => ?_)
  refine lv_istore (lv' := [(4, .int (x_3)), (0, .ref h0), (1, .ref x1), (2, .int (x2)), (3, .int (x3))]) hx hb d_Po_askStation_8 hl (by decide) rfl (fun ls hl => ?_)
  refine lv_iload_n hx hb d_Po_askStation_10 rfl (lv_at hl 3 rfl) ?_
  by_cases c_5 : x2.toInt = 100
  · refine lv_tableIn (off := 33) (tgt := 44) hx hb d_Po_askStation_11 (by omega) (by omega) (by rw [c_5]; rfl) (by decide) ?_
    refine lv_aload_n hx hb d_Po_askStation_44 rfl (lv_at hl 1 rfl) ?_
    refine lv_aload_n hx hb d_Po_askStation_45 rfl (lv_at hl 2 rfl) ?_
    refine lv_iload hx hb d_Po_askStation_46 (lv_at hl 0 rfl) ?_
    refine lv_bipush (v := 20) hx hb d_Po_askStation_48 (by decide) ?_
    refine lv_isub hx hb d_Po_askStation_50 ?_
    refine lv_topi (fun x_6 e_7 => ?_)
    refine lv_bipush (v := 16) hx hb d_Po_askStation_51 (by decide) ?_
    refine lv_iconst (v := 0) hx hb d_Po_askStation_53 (by decide) ?_
    refine sm_vA hI (va_runV (As := [.ref x1, .int (x_6), .int (16), .int (0)]) (rest := []) ⟨hx, hb, hml, hown, hts⟩ (c_Po_interrogate l D ca _ _ _ _ hT h0 t0 x1 t1 x_6 16 0 (by decide)) (kv_Po_interrogate hts rfl rfl (hts _ tw_1021) ⟨Nat.le_of_ble_eq_true rfl, Nat.le_of_ble_eq_true rfl⟩) (pv_Po hI hE hT t0) rfl rfl hl.1 rfl (lv_room (Nat.le_of_ble_eq_true rfl)) d_Po_askStation_54 ⟨Nat.le_of_ble_eq_true rfl, Nat.le_of_ble_eq_true rfl⟩) (fun T L H locs f hle1 hI hT => ?_)
    have hle := ty_tr hle hle1
    have t0 := hle1 _ _ t0
    have t1 := li_up hle1 t1
    refine lv_goto (tgt := 178) hx hb d_Po_askStation_57 (by decide) ?_
    refine W.widen (k := 2) (n := 518) (by decide) (by decide) ?_
    exact sm_vret hx hb hr hlk hI ⟨_, hle, hT, trivial⟩ d_Po_askStation_178
  by_cases c_8 : x2.toInt = 101
  · refine lv_tableIn (off := 49) (tgt := 60) hx hb d_Po_askStation_11 (by omega) (by omega) (by rw [c_8]; rfl) (by decide) ?_
    refine lv_aload_n hx hb d_Po_askStation_60 rfl (lv_at hl 1 rfl) ?_
    refine lv_aload_n hx hb d_Po_askStation_61 rfl (lv_at hl 2 rfl) ?_
    refine lv_iload hx hb d_Po_askStation_62 (lv_at hl 0 rfl) ?_
    refine lv_iconst (v := 5) hx hb d_Po_askStation_64 (by decide) ?_
    refine lv_icmp_ne (tgt := 72) hx hb d_Po_askStation_65 (by decide) (fun c_9 => ?_) (fun c_9 => ?_)
    · refine lv_iload hx hb d_Po_askStation_72 (lv_at hl 0 rfl) ?_
      refine lv_if_ne (tgt := 81) hx hb d_Po_askStation_74 (by decide) (fun c_10 => ?_) (fun c_10 => ?_)
      · refine lv_iload hx hb d_Po_askStation_81 (lv_at hl 0 rfl) ?_
        refine lv_iconst (v := 4) hx hb d_Po_askStation_83 (by decide) ?_
        refine lv_iconst (v := 1) hx hb d_Po_askStation_84 (by decide) ?_
        refine sm_vA hI (va_runV (As := [.ref x1, .int (x_3), .int (4), .int (1)]) (rest := []) ⟨hx, hb, hml, hown, hts⟩ (c_Po_interrogate l D ca _ _ _ _ hT h0 t0 x1 t1 x_3 4 1 (by decide)) (kv_Po_interrogate hts rfl rfl (hts _ tw_1021) ⟨Nat.le_of_ble_eq_true rfl, Nat.le_of_ble_eq_true rfl⟩) (pv_Po hI hE hT t0) rfl rfl hl.1 rfl (lv_room (Nat.le_of_ble_eq_true rfl)) d_Po_askStation_85 ⟨Nat.le_of_ble_eq_true rfl, Nat.le_of_ble_eq_true rfl⟩) (fun T L H locs f hle1 hI hT => ?_)
        have hle := ty_tr hle hle1
        have t0 := hle1 _ _ t0
        have t1 := li_up hle1 t1
        refine lv_goto (tgt := 178) hx hb d_Po_askStation_88 (by decide) ?_
        refine W.widen (k := 2) (n := 518) (by decide) (by decide) ?_
        exact sm_vret hx hb hr hlk hI ⟨_, hle, hT, trivial⟩ d_Po_askStation_178
      · refine lv_iconst (v := -1) hx hb d_Po_askStation_77 (by decide) ?_
        refine lv_goto (tgt := 83) hx hb d_Po_askStation_78 (by decide) ?_
        refine lv_iconst (v := 4) hx hb d_Po_askStation_83 (by decide) ?_
        refine lv_iconst (v := 1) hx hb d_Po_askStation_84 (by decide) ?_
        refine sm_vA hI (va_runV (As := [.ref x1, .int (-1), .int (4), .int (1)]) (rest := []) ⟨hx, hb, hml, hown, hts⟩ (c_Po_interrogate l D ca _ _ _ _ hT h0 t0 x1 t1 (-1) 4 1 (by decide)) (kv_Po_interrogate hts rfl rfl (hts _ tw_1021) ⟨Nat.le_of_ble_eq_true rfl, Nat.le_of_ble_eq_true rfl⟩) (pv_Po hI hE hT t0) rfl rfl hl.1 rfl (lv_room (Nat.le_of_ble_eq_true rfl)) d_Po_askStation_85 ⟨Nat.le_of_ble_eq_true rfl, Nat.le_of_ble_eq_true rfl⟩) (fun T L H locs f hle1 hI hT => ?_)
        have hle := ty_tr hle hle1
        have t0 := hle1 _ _ t0
        have t1 := li_up hle1 t1
        refine lv_goto (tgt := 178) hx hb d_Po_askStation_88 (by decide) ?_
        refine W.widen (k := 2) (n := 518) (by decide) (by decide) ?_
        exact sm_vret hx hb hr hlk hI ⟨_, hle, hT, trivial⟩ d_Po_askStation_178
    · refine lv_iconst (v := 0) hx hb d_Po_askStation_68 (by decide) ?_
      refine lv_goto (tgt := 83) hx hb d_Po_askStation_69 (by decide) ?_
      refine lv_iconst (v := 4) hx hb d_Po_askStation_83 (by decide) ?_
      refine lv_iconst (v := 1) hx hb d_Po_askStation_84 (by decide) ?_
      refine sm_vA hI (va_runV (As := [.ref x1, .int (0), .int (4), .int (1)]) (rest := []) ⟨hx, hb, hml, hown, hts⟩ (c_Po_interrogate l D ca _ _ _ _ hT h0 t0 x1 t1 0 4 1 (by decide)) (kv_Po_interrogate hts rfl rfl (hts _ tw_1021) ⟨Nat.le_of_ble_eq_true rfl, Nat.le_of_ble_eq_true rfl⟩) (pv_Po hI hE hT t0) rfl rfl hl.1 rfl (lv_room (Nat.le_of_ble_eq_true rfl)) d_Po_askStation_85 ⟨Nat.le_of_ble_eq_true rfl, Nat.le_of_ble_eq_true rfl⟩) (fun T L H locs f hle1 hI hT => ?_)
      have hle := ty_tr hle hle1
      have t0 := hle1 _ _ t0
      have t1 := li_up hle1 t1
      refine lv_goto (tgt := 178) hx hb d_Po_askStation_88 (by decide) ?_
      refine W.widen (k := 2) (n := 518) (by decide) (by decide) ?_
      exact sm_vret hx hb hr hlk hI ⟨_, hle, hT, trivial⟩ d_Po_askStation_178
  by_cases c_11 : x2.toInt = 102
  · refine lv_tableIn (off := 151) (tgt := 162) hx hb d_Po_askStation_11 (by omega) (by omega) (by rw [c_11]; rfl) (by decide) ?_
    refine lv_aload_n hx hb d_Po_askStation_162 rfl (lv_at hl 1 rfl) ?_
    refine lv_aload_n hx hb d_Po_askStation_163 rfl (lv_at hl 2 rfl) ?_
    refine lv_iload hx hb d_Po_askStation_164 (lv_at hl 0 rfl) ?_
    refine lv_iconst (v := 1) hx hb d_Po_askStation_166 (by decide) ?_
    refine lv_icmp_ne (tgt := 174) hx hb d_Po_askStation_167 (by decide) (fun c_12 => ?_) (fun c_12 => ?_)
    · refine lv_iconst (v := 0) hx hb d_Po_askStation_174 (by decide) ?_
      refine sm_vA hI (va_runV (As := [.ref x1, .int (0)]) (rest := []) ⟨hx, hb, hml, hown, hts⟩ (c_Po_resetProcess l D ca _ _ _ _ hT h0 t0 x1 t1 0 (by decide)) (kv_Po_resetProcess hts rfl rfl (hts _ tw_1034) ⟨Nat.le_of_ble_eq_true rfl, Nat.le_of_ble_eq_true rfl⟩) (pv_Po hI hE hT t0) rfl rfl hl.1 rfl (lv_room (Nat.le_of_ble_eq_true rfl)) d_Po_askStation_175 ⟨Nat.le_of_ble_eq_true rfl, Nat.le_of_ble_eq_true rfl⟩) (fun T L H locs f hle1 hI hT => ?_)
      have hle := ty_tr hle hle1
      have t0 := hle1 _ _ t0
      have t1 := li_up hle1 t1
      refine W.widen (k := 2) (n := 518) (by decide) (by decide) ?_
      exact sm_vret hx hb hr hlk hI ⟨_, hle, hT, trivial⟩ d_Po_askStation_178
    · refine lv_iconst (v := 1) hx hb d_Po_askStation_170 (by decide) ?_
      refine lv_goto (tgt := 175) hx hb d_Po_askStation_171 (by decide) ?_
      refine sm_vA hI (va_runV (As := [.ref x1, .int (1)]) (rest := []) ⟨hx, hb, hml, hown, hts⟩ (c_Po_resetProcess l D ca _ _ _ _ hT h0 t0 x1 t1 1 (by decide)) (kv_Po_resetProcess hts rfl rfl (hts _ tw_1034) ⟨Nat.le_of_ble_eq_true rfl, Nat.le_of_ble_eq_true rfl⟩) (pv_Po hI hE hT t0) rfl rfl hl.1 rfl (lv_room (Nat.le_of_ble_eq_true rfl)) d_Po_askStation_175 ⟨Nat.le_of_ble_eq_true rfl, Nat.le_of_ble_eq_true rfl⟩) (fun T L H locs f hle1 hI hT => ?_)
      have hle := ty_tr hle hle1
      have t0 := hle1 _ _ t0
      have t1 := li_up hle1 t1
      refine W.widen (k := 2) (n := 518) (by decide) (by decide) ?_
      exact sm_vret hx hb hr hlk hI ⟨_, hle, hT, trivial⟩ d_Po_askStation_178
  by_cases c_13 : x2.toInt = 103
  · refine lv_tableIn (off := 80) (tgt := 91) hx hb d_Po_askStation_11 (by omega) (by omega) (by rw [c_13]; rfl) (by decide) ?_
    refine lv_aload_n hx hb d_Po_askStation_91 rfl (lv_at hl 1 rfl) ?_
    refine lv_aload_n hx hb d_Po_askStation_92 rfl (lv_at hl 2 rfl) ?_
    refine lv_aload_n hx hb d_Po_askStation_93 rfl (lv_at hl 1 rfl) ?_
    refine fg_Po_asked hx hb hts hown hI hT t0 (hts _ tw_375) (fun _ h9 => h9) d_Po_askStation_94 (fun r_14 t_15 => ?_)
    refine lv_aload_n hx hb d_Po_askStation_97 rfl (lv_at hl 1 rfl) ?_
    refine lv_iload_n hx hb d_Po_askStation_98 rfl (lv_at hl 4 rfl) ?_
    refine sm_i hI (va_runV (As := [.int (x3)]) (rest := [.ref r_14, .ref x1, .ref h0]) ⟨hx, hb, hml, hown, hts⟩ (c_Po_setClock l D ca _ _ _ _ hT h0 t0 x3) (kv_Po_setClock hts rfl rfl (hts _ tw_1030) ⟨Nat.le_of_ble_eq_true rfl, Nat.le_of_ble_eq_true rfl⟩) (pv_Po hI hE hT t0) rfl rfl hl.1 rfl (lv_room (Nat.le_of_ble_eq_true rfl)) d_Po_askStation_99 ⟨Nat.le_of_ble_eq_true rfl, Nat.le_of_ble_eq_true rfl⟩) (fun x_16 H locs f p_17 hI hT => ?_)
    refine lv_if_eq (tgt := 110) hx hb d_Po_askStation_102 (by decide) (fun c_18 => ?_) (fun c_18 => ?_)
    · refine lv_bipush (v := 71) hx hb d_Po_askStation_110 (by decide) ?_
      refine sm_qA hI (va_runV (As := [.ref x1, .ref r_14, .int (71)]) (rest := []) ⟨hx, hb, hml, hown, hts⟩ (c_Po_comeBack l D ca _ _ _ _ hT h0 t0 x1 t1 r_14 t_15 71 (by omega) (by omega)) (kv_Po_comeBack hts rfl rfl (hts _ tw_962) ⟨Nat.le_of_ble_eq_true rfl, Nat.le_of_ble_eq_true rfl⟩) (pv_Po hI hE hT t0) rfl rfl hl.1 rfl (lv_room (Nat.le_of_ble_eq_true rfl)) d_Po_askStation_112 ⟨Nat.le_of_ble_eq_true rfl, Nat.le_of_ble_eq_true rfl⟩) (fun o_19 T L H locs f p_20 hle1 hI hT => ?_)
      have hle := ty_tr hle hle1
      have t0 := hle1 _ _ t0
      have t1 := li_up hle1 t1
      rcases o_19 with _ | r_21
      · refine lv_pop hx hb d_Po_askStation_115 rfl ?_
        refine lv_goto (tgt := 178) hx hb d_Po_askStation_116 (by decide) ?_
        refine W.widen (k := 2) (n := 518) (by decide) (by decide) ?_
        exact sm_vret hx hb hr hlk hI ⟨_, hle, hT, trivial⟩ d_Po_askStation_178
      · have t_22 := p_20 r_21 rfl
        refine lv_pop hx hb d_Po_askStation_115 rfl ?_
        refine lv_goto (tgt := 178) hx hb d_Po_askStation_116 (by decide) ?_
        refine W.widen (k := 2) (n := 518) (by decide) (by decide) ?_
        exact sm_vret hx hb hr hlk hI ⟨_, hle, hT, trivial⟩ d_Po_askStation_178
    · refine lv_bipush (v := 7) hx hb d_Po_askStation_105 (by decide) ?_
      refine lv_goto (tgt := 112) hx hb d_Po_askStation_107 (by decide) ?_
      refine sm_qA hI (va_runV (As := [.ref x1, .ref r_14, .int (7)]) (rest := []) ⟨hx, hb, hml, hown, hts⟩ (c_Po_comeBack l D ca _ _ _ _ hT h0 t0 x1 t1 r_14 t_15 7 (by omega) (by omega)) (kv_Po_comeBack hts rfl rfl (hts _ tw_962) ⟨Nat.le_of_ble_eq_true rfl, Nat.le_of_ble_eq_true rfl⟩) (pv_Po hI hE hT t0) rfl rfl hl.1 rfl (lv_room (Nat.le_of_ble_eq_true rfl)) d_Po_askStation_112 ⟨Nat.le_of_ble_eq_true rfl, Nat.le_of_ble_eq_true rfl⟩) (fun o_23 T L H locs f p_24 hle1 hI hT => ?_)
      have hle := ty_tr hle hle1
      have t0 := hle1 _ _ t0
      have t1 := li_up hle1 t1
      rcases o_23 with _ | r_25
      · refine lv_pop hx hb d_Po_askStation_115 rfl ?_
        refine lv_goto (tgt := 178) hx hb d_Po_askStation_116 (by decide) ?_
        refine W.widen (k := 2) (n := 518) (by decide) (by decide) ?_
        exact sm_vret hx hb hr hlk hI ⟨_, hle, hT, trivial⟩ d_Po_askStation_178
      · have t_26 := p_24 r_25 rfl
        refine lv_pop hx hb d_Po_askStation_115 rfl ?_
        refine lv_goto (tgt := 178) hx hb d_Po_askStation_116 (by decide) ?_
        refine W.widen (k := 2) (n := 518) (by decide) (by decide) ?_
        exact sm_vret hx hb hr hlk hI ⟨_, hle, hT, trivial⟩ d_Po_askStation_178
  by_cases c_27 : x2.toInt = 104
  · refine lv_tableIn (off := 108) (tgt := 119) hx hb d_Po_askStation_11 (by omega) (by omega) (by rw [c_27]; rfl) (by decide) ?_
    refine lv_aload_n hx hb d_Po_askStation_119 rfl (lv_at hl 1 rfl) ?_
    refine lv_aload_n hx hb d_Po_askStation_120 rfl (lv_at hl 2 rfl) ?_
    refine lv_aload_n hx hb d_Po_askStation_121 rfl (lv_at hl 1 rfl) ?_
    refine fg_Po_asked hx hb hts hown hI hT t0 (hts _ tw_375) (fun _ h9 => h9) d_Po_askStation_122 (fun r_28 t_29 => ?_)
    refine lv_iload hx hb d_Po_askStation_125 (lv_at hl 0 rfl) ?_
    refine lv_sipush (v := 170) hx hb d_Po_askStation_127 (by decide) ?_
    refine lv_icmp_ne (tgt := 153) hx hb d_Po_askStation_130 (by decide) (fun c_30 => ?_) (fun c_30 => ?_)
    · refine lv_bipush (v := 71) hx hb d_Po_askStation_153 (by decide) ?_
      refine sm_qA hI (va_runV (As := [.ref x1, .ref r_28, .int (71)]) (rest := []) ⟨hx, hb, hml, hown, hts⟩ (c_Po_comeBack l D ca _ _ _ _ hT h0 t0 x1 t1 r_28 t_29 71 (by omega) (by omega)) (kv_Po_comeBack hts rfl rfl (hts _ tw_962) ⟨Nat.le_of_ble_eq_true rfl, Nat.le_of_ble_eq_true rfl⟩) (pv_Po hI hE hT t0) rfl rfl hl.1 rfl (lv_room (Nat.le_of_ble_eq_true rfl)) d_Po_askStation_155 ⟨Nat.le_of_ble_eq_true rfl, Nat.le_of_ble_eq_true rfl⟩) (fun o_31 T L H locs f p_32 hle1 hI hT => ?_)
      have hle := ty_tr hle hle1
      have t0 := hle1 _ _ t0
      have t1 := li_up hle1 t1
      rcases o_31 with _ | r_33
      · refine lv_pop hx hb d_Po_askStation_158 rfl ?_
        refine lv_goto (tgt := 178) hx hb d_Po_askStation_159 (by decide) ?_
        refine W.widen (k := 2) (n := 518) (by decide) (by decide) ?_
        exact sm_vret hx hb hr hlk hI ⟨_, hle, hT, trivial⟩ d_Po_askStation_178
      · have t_34 := p_32 r_33 rfl
        refine lv_pop hx hb d_Po_askStation_158 rfl ?_
        refine lv_goto (tgt := 178) hx hb d_Po_askStation_159 (by decide) ?_
        refine W.widen (k := 2) (n := 518) (by decide) (by decide) ?_
        exact sm_vret hx hb hr hlk hI ⟨_, hle, hT, trivial⟩ d_Po_askStation_178
    · refine lv_aload_n hx hb d_Po_askStation_133 rfl (lv_at hl 1 rfl) ?_
      refine fg_Po_asked hx hb hts hown hI hT t0 (hts _ tw_375) (fun _ h9 => h9) d_Po_askStation_134 (fun r_35 t_36 => ?_)
      refine lv_iload_n hx hb d_Po_askStation_137 rfl (lv_at hl 4 rfl) ?_
      refine lv_iconst (v := 1) hx hb d_Po_askStation_138 (by decide) ?_
      refine lv_iadd hx hb d_Po_askStation_139 ?_
      refine lv_topi (fun x_37 e_38 => ?_)
      refine sm_iP hI (va_runV (As := [.int (x_37)]) (rest := [.ref r_28, .ref x1, .ref h0]) ⟨hx, hb, hml, hown, hts⟩ (c_Br_at l D ca _ _ _ _ hT r_35 t_36 x_37) (kv_Br_at hts rfl rfl (hts _ tw_697) ⟨Nat.le_of_ble_eq_true rfl, Nat.le_of_ble_eq_true rfl⟩) (pv_Br hI hE hT t_36) rfl rfl hl.1 rfl (lv_room (Nat.le_of_ble_eq_true rfl)) d_Po_askStation_140 ⟨Nat.le_of_ble_eq_true rfl, Nat.le_of_ble_eq_true rfl⟩) (fun x_39 H locs p_40 hI => ?_)
      refine lv_bipush (v := 85) hx hb d_Po_askStation_143 (by decide) ?_
      refine lv_icmp_ne (tgt := 153) hx hb d_Po_askStation_145 (by decide) (fun c_41 => ?_) (fun c_41 => ?_)
      · refine lv_bipush (v := 71) hx hb d_Po_askStation_153 (by decide) ?_
        refine sm_qA hI (va_runV (As := [.ref x1, .ref r_28, .int (71)]) (rest := []) ⟨hx, hb, hml, hown, hts⟩ (c_Po_comeBack l D ca _ _ _ _ hT h0 t0 x1 t1 r_28 t_29 71 (by omega) (by omega)) (kv_Po_comeBack hts rfl rfl (hts _ tw_962) ⟨Nat.le_of_ble_eq_true rfl, Nat.le_of_ble_eq_true rfl⟩) (pv_Po hI hE hT t0) rfl rfl hl.1 rfl (lv_room (Nat.le_of_ble_eq_true rfl)) d_Po_askStation_155 ⟨Nat.le_of_ble_eq_true rfl, Nat.le_of_ble_eq_true rfl⟩) (fun o_42 T L H locs f p_43 hle1 hI hT => ?_)
        have hle := ty_tr hle hle1
        have t0 := hle1 _ _ t0
        have t1 := li_up hle1 t1
        rcases o_42 with _ | r_44
        · refine lv_pop hx hb d_Po_askStation_158 rfl ?_
          refine lv_goto (tgt := 178) hx hb d_Po_askStation_159 (by decide) ?_
          refine W.widen (k := 2) (n := 518) (by decide) (by decide) ?_
          exact sm_vret hx hb hr hlk hI ⟨_, hle, hT, trivial⟩ d_Po_askStation_178
        · have t_45 := p_43 r_44 rfl
          refine lv_pop hx hb d_Po_askStation_158 rfl ?_
          refine lv_goto (tgt := 178) hx hb d_Po_askStation_159 (by decide) ?_
          refine W.widen (k := 2) (n := 518) (by decide) (by decide) ?_
          exact sm_vret hx hb hr hlk hI ⟨_, hle, hT, trivial⟩ d_Po_askStation_178
      · refine lv_bipush (v := 7) hx hb d_Po_askStation_148 (by decide) ?_
        refine lv_goto (tgt := 155) hx hb d_Po_askStation_150 (by decide) ?_
        refine sm_qA hI (va_runV (As := [.ref x1, .ref r_28, .int (7)]) (rest := []) ⟨hx, hb, hml, hown, hts⟩ (c_Po_comeBack l D ca _ _ _ _ hT h0 t0 x1 t1 r_28 t_29 7 (by omega) (by omega)) (kv_Po_comeBack hts rfl rfl (hts _ tw_962) ⟨Nat.le_of_ble_eq_true rfl, Nat.le_of_ble_eq_true rfl⟩) (pv_Po hI hE hT t0) rfl rfl hl.1 rfl (lv_room (Nat.le_of_ble_eq_true rfl)) d_Po_askStation_155 ⟨Nat.le_of_ble_eq_true rfl, Nat.le_of_ble_eq_true rfl⟩) (fun o_46 T L H locs f p_47 hle1 hI hT => ?_)
        have hle := ty_tr hle hle1
        have t0 := hle1 _ _ t0
        have t1 := li_up hle1 t1
        rcases o_46 with _ | r_48
        · refine lv_pop hx hb d_Po_askStation_158 rfl ?_
          refine lv_goto (tgt := 178) hx hb d_Po_askStation_159 (by decide) ?_
          refine W.widen (k := 2) (n := 518) (by decide) (by decide) ?_
          exact sm_vret hx hb hr hlk hI ⟨_, hle, hT, trivial⟩ d_Po_askStation_178
        · have t_49 := p_47 r_48 rfl
          refine lv_pop hx hb d_Po_askStation_158 rfl ?_
          refine lv_goto (tgt := 178) hx hb d_Po_askStation_159 (by decide) ?_
          refine W.widen (k := 2) (n := 518) (by decide) (by decide) ?_
          exact sm_vret hx hb hr hlk hI ⟨_, hle, hT, trivial⟩ d_Po_askStation_178
  refine lv_tableOut (tgt := 162) hx hb d_Po_askStation_11 (by omega) (by decide) ?_
  refine lv_aload_n hx hb d_Po_askStation_162 rfl (lv_at hl 1 rfl) ?_
  refine lv_aload_n hx hb d_Po_askStation_163 rfl (lv_at hl 2 rfl) ?_
  refine lv_iload hx hb d_Po_askStation_164 (lv_at hl 0 rfl) ?_
  refine lv_iconst (v := 1) hx hb d_Po_askStation_166 (by decide) ?_
  refine lv_icmp_ne (tgt := 174) hx hb d_Po_askStation_167 (by decide) (fun c_50 => ?_) (fun c_50 => ?_)
  · refine lv_iconst (v := 0) hx hb d_Po_askStation_174 (by decide) ?_
    refine sm_vA hI (va_runV (As := [.ref x1, .int (0)]) (rest := []) ⟨hx, hb, hml, hown, hts⟩ (c_Po_resetProcess l D ca _ _ _ _ hT h0 t0 x1 t1 0 (by decide)) (kv_Po_resetProcess hts rfl rfl (hts _ tw_1034) ⟨Nat.le_of_ble_eq_true rfl, Nat.le_of_ble_eq_true rfl⟩) (pv_Po hI hE hT t0) rfl rfl hl.1 rfl (lv_room (Nat.le_of_ble_eq_true rfl)) d_Po_askStation_175 ⟨Nat.le_of_ble_eq_true rfl, Nat.le_of_ble_eq_true rfl⟩) (fun T L H locs f hle1 hI hT => ?_)
    have hle := ty_tr hle hle1
    have t0 := hle1 _ _ t0
    have t1 := li_up hle1 t1
    refine W.widen (k := 2) (n := 518) (by decide) (by decide) ?_
    exact sm_vret hx hb hr hlk hI ⟨_, hle, hT, trivial⟩ d_Po_askStation_178
  · refine lv_iconst (v := 1) hx hb d_Po_askStation_170 (by decide) ?_
    refine lv_goto (tgt := 175) hx hb d_Po_askStation_171 (by decide) ?_
    refine sm_vA hI (va_runV (As := [.ref x1, .int (1)]) (rest := []) ⟨hx, hb, hml, hown, hts⟩ (c_Po_resetProcess l D ca _ _ _ _ hT h0 t0 x1 t1 1 (by decide)) (kv_Po_resetProcess hts rfl rfl (hts _ tw_1034) ⟨Nat.le_of_ble_eq_true rfl, Nat.le_of_ble_eq_true rfl⟩) (pv_Po hI hE hT t0) rfl rfl hl.1 rfl (lv_room (Nat.le_of_ble_eq_true rfl)) d_Po_askStation_175 ⟨Nat.le_of_ble_eq_true rfl, Nat.le_of_ble_eq_true rfl⟩) (fun T L H locs f hle1 hI hT => ?_)
    have hle := ty_tr hle hle1
    have t0 := hle1 _ _ t0
    have t1 := li_up hle1 t1
    refine W.widen (k := 2) (n := 518) (by decide) (by decide) ?_
    exact sm_vret hx hb hr hlk hI ⟨_, hle, hT, trivial⟩ d_Po_askStation_178
theorem d_Po_beginOperation_0 : decode b_Po_beginOperation 0 = .ok (.aload_n 0, 1) := by decide +kernel
theorem d_Po_beginOperation_1 : decode b_Po_beginOperation 1 = .ok (.invokevirtual 665, 3) := by decide +kernel
theorem d_Po_beginOperation_4 : decode b_Po_beginOperation 4 = .ok (.astore 5, 2) := by decide +kernel
theorem d_Po_beginOperation_6 : decode b_Po_beginOperation 6 = .ok (.aload 5, 2) := by decide +kernel
theorem d_Po_beginOperation_8 : decode b_Po_beginOperation 8 = .ok (.aload_n 0, 1) := by decide +kernel
theorem d_Po_beginOperation_9 : decode b_Po_beginOperation 9 = .ok (.getfield 252, 3) := by decide +kernel
theorem d_Po_beginOperation_12 : decode b_Po_beginOperation 12 = .ok (.putfield 669, 3) := by decide +kernel
theorem d_Po_beginOperation_15 : decode b_Po_beginOperation 15 = .ok (.aload 5, 2) := by decide +kernel
theorem d_Po_beginOperation_17 : decode b_Po_beginOperation 17 = .ok (.iload_n 2, 1) := by decide +kernel
theorem d_Po_beginOperation_18 : decode b_Po_beginOperation 18 = .ok (.putfield 249, 3) := by decide +kernel
theorem d_Po_beginOperation_21 : decode b_Po_beginOperation 21 = .ok (.aload 5, 2) := by decide +kernel
theorem d_Po_beginOperation_23 : decode b_Po_beginOperation 23 = .ok (.iload_n 3, 1) := by decide +kernel
theorem d_Po_beginOperation_24 : decode b_Po_beginOperation 24 = .ok (.putfield 257, 3) := by decide +kernel
theorem d_Po_beginOperation_27 : decode b_Po_beginOperation 27 = .ok (.aload 5, 2) := by decide +kernel
theorem d_Po_beginOperation_29 : decode b_Po_beginOperation 29 = .ok (.iload 4, 2) := by decide +kernel
theorem d_Po_beginOperation_31 : decode b_Po_beginOperation 31 = .ok (.bipush 127, 2) := by decide +kernel
theorem d_Po_beginOperation_33 : decode b_Po_beginOperation 33 = .ok (.iand, 1) := by decide +kernel
theorem d_Po_beginOperation_34 : decode b_Po_beginOperation 34 = .ok (.putfield 258, 3) := by decide +kernel
theorem d_Po_beginOperation_37 : decode b_Po_beginOperation 37 = .ok (.aload 5, 2) := by decide +kernel
theorem d_Po_beginOperation_39 : decode b_Po_beginOperation 39 = .ok (.aload_n 1, 1) := by decide +kernel
theorem d_Po_beginOperation_40 : decode b_Po_beginOperation 40 = .ok (.getfield 246, 3) := by decide +kernel
theorem d_Po_beginOperation_43 : decode b_Po_beginOperation 43 = .ok (.putfield 231, 3) := by decide +kernel
theorem d_Po_beginOperation_46 : decode b_Po_beginOperation 46 = .ok (.aload 5, 2) := by decide +kernel
theorem d_Po_beginOperation_48 : decode b_Po_beginOperation 48 = .ok (.aload_n 1, 1) := by decide +kernel
theorem d_Po_beginOperation_49 : decode b_Po_beginOperation 49 = .ok (.getfield 237, 3) := by decide +kernel
theorem d_Po_beginOperation_52 : decode b_Po_beginOperation 52 = .ok (.putfield 234, 3) := by decide +kernel
theorem d_Po_beginOperation_55 : decode b_Po_beginOperation 55 = .ok (.aload 5, 2) := by decide +kernel
theorem d_Po_beginOperation_57 : decode b_Po_beginOperation 57 = .ok (.iconst 1, 1) := by decide +kernel
theorem d_Po_beginOperation_58 : decode b_Po_beginOperation 58 = .ok (.putfield 226, 3) := by decide +kernel
theorem d_Po_beginOperation_61 : decode b_Po_beginOperation 61 = .ok (.aload 5, 2) := by decide +kernel
theorem d_Po_beginOperation_63 : decode b_Po_beginOperation 63 = .ok (.getfield 238, 3) := by decide +kernel
theorem d_Po_beginOperation_66 : decode b_Po_beginOperation 66 = .ok (.aload_n 0, 1) := by decide +kernel
theorem d_Po_beginOperation_67 : decode b_Po_beginOperation 67 = .ok (.getfield 53, 3) := by decide +kernel
theorem d_Po_beginOperation_70 : decode b_Po_beginOperation 70 = .ok (.iconst 0, 1) := by decide +kernel
theorem d_Po_beginOperation_71 : decode b_Po_beginOperation 71 = .ok (.aload_n 0, 1) := by decide +kernel
theorem d_Po_beginOperation_72 : decode b_Po_beginOperation 72 = .ok (.getfield 53, 3) := by decide +kernel
theorem d_Po_beginOperation_75 : decode b_Po_beginOperation 75 = .ok (.getfield 207, 3) := by decide +kernel
theorem d_Po_beginOperation_78 : decode b_Po_beginOperation 78 = .ok (.invokevirtual 361, 3) := by decide +kernel
theorem d_Po_beginOperation_81 : decode b_Po_beginOperation 81 = .ok (.aload_n 0, 1) := by decide +kernel
theorem d_Po_beginOperation_82 : decode b_Po_beginOperation 82 = .ok (.dup, 1) := by decide +kernel
theorem d_Po_beginOperation_83 : decode b_Po_beginOperation 83 = .ok (.getfield 252, 3) := by decide +kernel
theorem d_Po_beginOperation_86 : decode b_Po_beginOperation 86 = .ok (.iconst 1, 1) := by decide +kernel
theorem d_Po_beginOperation_87 : decode b_Po_beginOperation 87 = .ok (.iadd, 1) := by decide +kernel
theorem d_Po_beginOperation_88 : decode b_Po_beginOperation 88 = .ok (.putfield 252, 3) := by decide +kernel
theorem d_Po_beginOperation_91 : decode b_Po_beginOperation 91 = .ok (.return_, 1) := by decide +kernel
set_option maxRecDepth 100000 in
set_option maxHeartbeats 4000000 in
theorem c_Po_beginOperation (l : Launch) (D : va_G) (ca : Nat → ClassId) (T0 : ty_e) (L0 : List Nat) (f0 : Nat → va_E) (sz : Nat) (hT : ok_T ca T0 L0 f0) {g0 : List (Int32 × Int32)} (h0 : Nat) (t0 : T0 h0 = some (ty_po g0)) (x1 : Nat) (t1 : is_li T0 x1) (x2 : Int32) (x3 : Int32) (x4 : Int32) :
    Met l y_Po_beginOperation (Cond.code y_Po_beginOperation b_Po_beginOperation 6 none :: wg) { frames := 2, cells := 1, slots := 259, locals := 42 } (va_Pc [.ref h0, .ref x1, .int (x2), .int (x3), .int (x4)] (sm_P D cl_all (ty_s ca) ek L0 f0 sz)) (sm_Qv D (ty_s ca) L0 f0 sz (fun u => po_a ca T0 (fun _ => True) u)) 1 259 (va_A (va_pl L0 f0) sz) := by
  refine sm_start (by decide) (Nat.le_of_ble_eq_true rfl) ?_
  intro p e s m below meth c ls hx hb hml hr hlk hnm hts hown hsz hE hI hl
  have hl : lv_has ls 6 [(0, .ref h0), (1, .ref x1), (2, .int (x2)), (3, .int (x3)), (4, .int (x4))] := hl
  have hle : ty_le T0 T0 := ty_rf
  refine lv_aload_n hx hb d_Po_beginOperation_0 rfl (lv_at hl 0 rfl) ?_
  refine sm_qP hI (va_runV (As := []) (rest := []) ⟨hx, hb, hml, hown, hts⟩ (c_Po_unusedOperation l D ca _ _ _ _ hT h0 t0) (kv_Po_unusedOperation hts rfl rfl (hts _ tw_1005) ⟨Nat.le_of_ble_eq_true rfl, Nat.le_of_ble_eq_true rfl⟩) (pv_Po hI hE hT t0) rfl rfl hl.1 rfl (lv_room (Nat.le_of_ble_eq_true rfl)) d_Po_beginOperation_1 ⟨Nat.le_of_ble_eq_true rfl, Nat.le_of_ble_eq_true rfl⟩) (fun o_1 H locs p_2 hI => ?_)
  obtain ⟨r_3, rfl, t_4⟩ := p_2
  refine lv_astore (lv' := [(5, .ref r_3), (0, .ref h0), (1, .ref x1), (2, .int (x2)), (3, .int (x3)), (4, .int (x4))]) hx hb d_Po_beginOperation_4 hl (by decide) rfl (fun ls hl => ?_)
  refine lv_aload hx hb d_Po_beginOperation_6 (lv_at hl 0 rfl) ?_
  refine lv_aload_n hx hb d_Po_beginOperation_8 rfl (lv_at hl 1 rfl) ?_
  refine fg_Po_operationsEver hx hb hts hown hI hT t0 (hts _ tw_369) (fun _ h9 => h9) d_Po_beginOperation_9 (fun x_5 => ?_)
  refine fpN_Op_number hx hb hts hown hI hT t_4 (va_Nw.use rfl (hE.1 _ tn_336 rfl)) (fun _ h9 => h9) d_Po_beginOperation_12 (fun H locs f hI hT => ?_)
  refine lv_aload hx hb d_Po_beginOperation_15 (lv_at hl 0 rfl) ?_
  refine lv_iload_n hx hb d_Po_beginOperation_17 rfl (lv_at hl 3 rfl) ?_
  refine fpN_Op_point hx hb hts hown hI hT t_4 (va_Nw.use rfl (hE.1 _ tn_337 rfl)) (fun _ h9 => h9) d_Po_beginOperation_18 (fun H locs f hI hT => ?_)
  refine lv_aload hx hb d_Po_beginOperation_21 (lv_at hl 0 rfl) ?_
  refine lv_iload_n hx hb d_Po_beginOperation_23 rfl (lv_at hl 4 rfl) ?_
  refine fpN_Op_value hx hb hts hown hI hT t_4 (va_Nw.use rfl (hE.1 _ tn_338 rfl)) (fun _ h9 => h9) d_Po_beginOperation_24 (fun H locs f hI hT => ?_)
  refine lv_aload hx hb d_Po_beginOperation_27 (lv_at hl 0 rfl) ?_
  refine lv_iload hx hb d_Po_beginOperation_29 (lv_at hl 5 rfl) ?_
  refine lv_bipush (v := 127) hx hb d_Po_beginOperation_31 (by decide) ?_
  refine lv_iand hx hb d_Po_beginOperation_33 ?_
  refine lv_topi (fun x_6 e_7 => ?_)
  refine fpN_Op_qualifier hx hb hts hown hI hT t_4 (va_Nw.use rfl (hE.1 _ tn_339 rfl)) (fun _ h9 => h9) d_Po_beginOperation_34 (fun H locs f hI hT => ?_)
  refine lv_aload hx hb d_Po_beginOperation_37 (lv_at hl 0 rfl) ?_
  refine lv_aload_n hx hb d_Po_beginOperation_39 rfl (lv_at hl 2 rfl) ?_
  refine fg_Li_index hx hb hts hown hI hT t1 (hts _ tw_120) (fun _ h9 => h9) d_Po_beginOperation_40 (fun n_8 h_10 => ?_)
  have h_9 := li_le h_10
  refine fpN_Op_line hx hb hts hown hI hT t_4 (va_Nw.use rfl (hE.1 _ tn_340 rfl)) (fun _ h9 => h9) d_Po_beginOperation_43 (fun H locs f hI hT => ?_)
  refine lv_aload hx hb d_Po_beginOperation_46 (lv_at hl 0 rfl) ?_
  refine lv_aload_n hx hb d_Po_beginOperation_48 rfl (lv_at hl 2 rfl) ?_
  refine fg_Li_closings hx hb hts hown hI hT t1 (hts _ tw_166) (fun _ h9 => h9) d_Po_beginOperation_49 (fun x_11 => ?_)
  refine fpN_Op_closings hx hb hts hown hI hT t_4 (va_Nw.use rfl (hE.1 _ tn_341 rfl)) (fun _ h9 => h9) d_Po_beginOperation_52 (fun H locs f hI hT => ?_)
  refine lv_aload hx hb d_Po_beginOperation_55 (lv_at hl 0 rfl) ?_
  refine lv_iconst (v := 1) hx hb d_Po_beginOperation_57 (by decide) ?_
  refine fpN_Op_goesOn hx hb hts hown hI hT t_4 (va_Nw.use rfl (hE.1 _ tn_342 rfl)) (fun _ h9 => h9) (by decide) d_Po_beginOperation_58 (fun H locs f hI hT => ?_)
  refine lv_aload hx hb d_Po_beginOperation_61 (lv_at hl 0 rfl) ?_
  refine fgN_Op_asked hx hb hts hown hI hT t_4 (va_Nw.use rfl (hE.1 _ tn_344 rfl)) (fun _ h9 => h9) d_Po_beginOperation_63 (fun r_12 t_13 => ?_)
  refine lv_aload_n hx hb d_Po_beginOperation_66 rfl (lv_at hl 1 rfl) ?_
  refine fg_Po_asked hx hb hts hown hI hT t0 (hts _ tw_375) (fun _ h9 => h9) d_Po_beginOperation_67 (fun r_14 t_15 => ?_)
  refine lv_iconst (v := 0) hx hb d_Po_beginOperation_70 (by decide) ?_
  refine lv_aload_n hx hb d_Po_beginOperation_71 rfl (lv_at hl 1 rfl) ?_
  refine fg_Po_asked hx hb hts hown hI hT t0 (hts _ tw_375) (fun _ h9 => h9) d_Po_beginOperation_72 (fun r_16 t_17 => ?_)
  refine fgN_Br_length hx hb hts hown hI hT t_17 (va_Nw.use rfl (hE.1 _ tn_51 rfl)) (fun _ h9 => h9) d_Po_beginOperation_75 (fun n_18 h_19 => ?_)
  refine sm_vA hI (va_runV (As := [.ref r_14, .int (0), .int (nI n_18)]) (rest := []) ⟨hx, hb, hml, hown, hts⟩ (c_Br_copyFromA l D ca _ _ _ _ hT r_12 t_13 r_14 t_15 (0) (by omega) (nI n_18) (by omega) (by omega) (by omega) (lo_nI (by omega))) (kv_Br_copyFrom hts rfl rfl (hts _ tw_718) ⟨Nat.le_of_ble_eq_true rfl, Nat.le_of_ble_eq_true rfl⟩) (pv_Br hI hE hT t_13) rfl rfl hl.1 rfl (lv_room (Nat.le_of_ble_eq_true rfl)) d_Po_beginOperation_78 ⟨Nat.le_of_ble_eq_true rfl, Nat.le_of_ble_eq_true rfl⟩) (fun T L H locs f hle1 hI hT => ?_)
  have hle := ty_tr hle hle1
  have t_4 := hle1 _ _ t_4
  have t0 := hle1 _ _ t0
  have t1 := li_up hle1 t1
  refine lv_aload_n hx hb d_Po_beginOperation_81 rfl (lv_at hl 1 rfl) ?_
  refine lv_dup hx hb d_Po_beginOperation_82 rfl ?_
  refine fg_Po_operationsEver hx hb hts hown hI hT t0 (hts _ tw_369) (fun _ h9 => h9) d_Po_beginOperation_83 (fun x_20 => ?_)
  refine lv_iconst (v := 1) hx hb d_Po_beginOperation_86 (by decide) ?_
  refine lv_iadd hx hb d_Po_beginOperation_87 ?_
  refine lv_topi (fun x_21 e_22 => ?_)
  refine fp_Po_operationsEver hx hb hts hown hI hT t0 (hts _ tw_369) (fun _ h9 => h9) d_Po_beginOperation_88 (fun H locs f hI hT => ?_)
  refine W.widen (k := 1) (n := 259) (by decide) (by decide) ?_
  exact sm_vret hx hb hr hlk hI ⟨_, hle, hT, trivial⟩ d_Po_beginOperation_91
theorem d_Po_command_0 : decode b_Po_command 0 = .ok (.aload_n 0, 1) := by decide +kernel
theorem d_Po_command_1 : decode b_Po_command 1 = .ok (.getfield 11, 3) := by decide +kernel
theorem d_Po_command_4 : decode b_Po_command 4 = .ok (.iload_n 2, 1) := by decide +kernel
theorem d_Po_command_5 : decode b_Po_command 5 = .ok (.aaload, 1) := by decide +kernel
theorem d_Po_command_6 : decode b_Po_command 6 = .ok (.getfield 318, 3) := by decide +kernel
theorem d_Po_command_9 : decode b_Po_command 9 = .ok (.istore 4, 2) := by decide +kernel
theorem d_Po_command_11 : decode b_Po_command 11 = .ok (.aload_n 0, 1) := by decide +kernel
theorem d_Po_command_12 : decode b_Po_command 12 = .ok (.getfield 53, 3) := by decide +kernel
theorem d_Po_command_15 : decode b_Po_command 15 = .ok (.aload_n 0, 1) := by decide +kernel
theorem d_Po_command_16 : decode b_Po_command 16 = .ok (.getfield 53, 3) := by decide +kernel
theorem d_Po_command_19 : decode b_Po_command 19 = .ok (.getfield 207, 3) := by decide +kernel
theorem d_Po_command_22 : decode b_Po_command 22 = .ok (.iconst 1, 1) := by decide +kernel
theorem d_Po_command_23 : decode b_Po_command 23 = .ok (.isub, 1) := by decide +kernel
theorem d_Po_command_24 : decode b_Po_command 24 = .ok (.invokevirtual 216, 3) := by decide +kernel
theorem d_Po_command_27 : decode b_Po_command 27 = .ok (.istore 5, 2) := by decide +kernel
theorem d_Po_command_29 : decode b_Po_command 29 = .ok (.iload 4, 2) := by decide +kernel
theorem d_Po_command_31 : decode b_Po_command 31 = .ok (.bipush 7, 2) := by decide +kernel
theorem d_Po_command_33 : decode b_Po_command 33 = .ok (.if_icmp .ne 10, 3) := by decide +kernel
theorem d_Po_command_36 : decode b_Po_command 36 = .ok (.iload 5, 2) := by decide +kernel
theorem d_Po_command_38 : decode b_Po_command 38 = .ok (.iconst 1, 1) := by decide +kernel
theorem d_Po_command_39 : decode b_Po_command 39 = .ok (.iand, 1) := by decide +kernel
theorem d_Po_command_40 : decode b_Po_command 40 = .ok (.goto 26, 3) := by decide +kernel
theorem d_Po_command_43 : decode b_Po_command 43 = .ok (.iload 4, 2) := by decide +kernel
theorem d_Po_command_45 : decode b_Po_command 45 = .ok (.bipush 8, 2) := by decide +kernel
theorem d_Po_command_47 : decode b_Po_command 47 = .ok (.if_icmp .ne 10, 3) := by decide +kernel
theorem d_Po_command_50 : decode b_Po_command 50 = .ok (.iload 5, 2) := by decide +kernel
theorem d_Po_command_52 : decode b_Po_command 52 = .ok (.iconst 3, 1) := by decide +kernel
theorem d_Po_command_53 : decode b_Po_command 53 = .ok (.iand, 1) := by decide +kernel
theorem d_Po_command_54 : decode b_Po_command 54 = .ok (.goto 12, 3) := by decide +kernel
theorem d_Po_command_57 : decode b_Po_command 57 = .ok (.aload_n 0, 1) := by decide +kernel
theorem d_Po_command_58 : decode b_Po_command 58 = .ok (.getfield 53, 3) := by decide +kernel
theorem d_Po_command_61 : decode b_Po_command 61 = .ok (.iload_n 3, 1) := by decide +kernel
theorem d_Po_command_62 : decode b_Po_command 62 = .ok (.iconst 4, 1) := by decide +kernel
theorem d_Po_command_63 : decode b_Po_command 63 = .ok (.invokevirtual 377, 3) := by decide +kernel
theorem d_Po_command_66 : decode b_Po_command 66 = .ok (.istore 6, 2) := by decide +kernel
theorem d_Po_command_68 : decode b_Po_command 68 = .ok (.iload 4, 2) := by decide +kernel
theorem d_Po_command_70 : decode b_Po_command 70 = .ok (.bipush 8, 2) := by decide +kernel
theorem d_Po_command_72 : decode b_Po_command 72 = .ok (.if_icmp .ne 15, 3) := by decide +kernel
theorem d_Po_command_75 : decode b_Po_command 75 = .ok (.iload 6, 2) := by decide +kernel
theorem d_Po_command_77 : decode b_Po_command 77 = .ok (.iconst 1, 1) := by decide +kernel
theorem d_Po_command_78 : decode b_Po_command 78 = .ok (.if_icmp .eq 9, 3) := by decide +kernel
theorem d_Po_command_81 : decode b_Po_command 81 = .ok (.iload 6, 2) := by decide +kernel
theorem d_Po_command_83 : decode b_Po_command 83 = .ok (.iconst 2, 1) := by decide +kernel
theorem d_Po_command_84 : decode b_Po_command 84 = .ok (.if_icmp .ne 7, 3) := by decide +kernel
theorem d_Po_command_87 : decode b_Po_command 87 = .ok (.iconst 1, 1) := by decide +kernel
theorem d_Po_command_88 : decode b_Po_command 88 = .ok (.goto 4, 3) := by decide +kernel
theorem d_Po_command_91 : decode b_Po_command 91 = .ok (.iconst 0, 1) := by decide +kernel
theorem d_Po_command_92 : decode b_Po_command 92 = .ok (.istore 7, 2) := by decide +kernel
theorem d_Po_command_94 : decode b_Po_command 94 = .ok (.bipush 7, 2) := by decide +kernel
theorem d_Po_command_96 : decode b_Po_command 96 = .ok (.istore 8, 2) := by decide +kernel
theorem d_Po_command_98 : decode b_Po_command 98 = .ok (.aload_n 0, 1) := by decide +kernel
theorem d_Po_command_99 : decode b_Po_command 99 = .ok (.getfield 53, 3) := by decide +kernel
theorem d_Po_command_102 : decode b_Po_command 102 = .ok (.iconst 2, 1) := by decide +kernel
theorem d_Po_command_103 : decode b_Po_command 103 = .ok (.invokevirtual 216, 3) := by decide +kernel
theorem d_Po_command_106 : decode b_Po_command 106 = .ok (.bipush 63, 2) := by decide +kernel
theorem d_Po_command_108 : decode b_Po_command 108 = .ok (.iand, 1) := by decide +kernel
theorem d_Po_command_109 : decode b_Po_command 109 = .ok (.bipush 8, 2) := by decide +kernel
theorem d_Po_command_111 : decode b_Po_command 111 = .ok (.if_icmp .ne 18, 3) := by decide +kernel
theorem d_Po_command_114 : decode b_Po_command 114 = .ok (.bipush 9, 2) := by decide +kernel
theorem d_Po_command_116 : decode b_Po_command 116 = .ok (.istore 8, 2) := by decide +kernel
theorem d_Po_command_118 : decode b_Po_command 118 = .ok (.aload_n 0, 1) := by decide +kernel
theorem d_Po_command_119 : decode b_Po_command 119 = .ok (.aload_n 1, 1) := by decide +kernel
theorem d_Po_command_120 : decode b_Po_command 120 = .ok (.iload_n 2, 1) := by decide +kernel
theorem d_Po_command_121 : decode b_Po_command 121 = .ok (.invokevirtual 644, 3) := by decide +kernel
theorem d_Po_command_124 : decode b_Po_command 124 = .ok (.istore 9, 2) := by decide +kernel
theorem d_Po_command_126 : decode b_Po_command 126 = .ok (.goto 80, 3) := by decide +kernel
theorem d_Po_command_129 : decode b_Po_command 129 = .ok (.iload 5, 2) := by decide +kernel
theorem d_Po_command_131 : decode b_Po_command 131 = .ok (.sipush 128, 3) := by decide +kernel
theorem d_Po_command_134 : decode b_Po_command 134 = .ok (.iand, 1) := by decide +kernel
theorem d_Po_command_135 : decode b_Po_command 135 = .ok (.ifCond .eq 31, 3) := by decide +kernel
theorem d_Po_command_138 : decode b_Po_command 138 = .ok (.iload 7, 2) := by decide +kernel
theorem d_Po_command_140 : decode b_Po_command 140 = .ok (.ifCond .eq 20, 3) := by decide +kernel
theorem d_Po_command_143 : decode b_Po_command 143 = .ok (.aload_n 0, 1) := by decide +kernel
theorem d_Po_command_144 : decode b_Po_command 144 = .ok (.aload_n 1, 1) := by decide +kernel
theorem d_Po_command_145 : decode b_Po_command 145 = .ok (.iload_n 2, 1) := by decide +kernel
theorem d_Po_command_146 : decode b_Po_command 146 = .ok (.iload 6, 2) := by decide +kernel
theorem d_Po_command_148 : decode b_Po_command 148 = .ok (.iload 5, 2) := by decide +kernel
theorem d_Po_command_150 : decode b_Po_command 150 = .ok (.invokevirtual 647, 3) := by decide +kernel
theorem d_Po_command_153 : decode b_Po_command 153 = .ok (.ifCond .eq 7, 3) := by decide +kernel
theorem d_Po_command_156 : decode b_Po_command 156 = .ok (.iconst 1, 1) := by decide +kernel
theorem d_Po_command_157 : decode b_Po_command 157 = .ok (.goto 4, 3) := by decide +kernel
theorem d_Po_command_160 : decode b_Po_command 160 = .ok (.iconst 0, 1) := by decide +kernel
theorem d_Po_command_161 : decode b_Po_command 161 = .ok (.istore 9, 2) := by decide +kernel
theorem d_Po_command_163 : decode b_Po_command 163 = .ok (.goto 43, 3) := by decide +kernel
theorem d_Po_command_166 : decode b_Po_command 166 = .ok (.aload_n 0, 1) := by decide +kernel
theorem d_Po_command_167 : decode b_Po_command 167 = .ok (.aload_n 1, 1) := by decide +kernel
theorem d_Po_command_168 : decode b_Po_command 168 = .ok (.iload_n 2, 1) := by decide +kernel
theorem d_Po_command_169 : decode b_Po_command 169 = .ok (.iload 6, 2) := by decide +kernel
theorem d_Po_command_171 : decode b_Po_command 171 = .ok (.iload 5, 2) := by decide +kernel
theorem d_Po_command_173 : decode b_Po_command 173 = .ok (.invokevirtual 651, 3) := by decide +kernel
theorem d_Po_command_176 : decode b_Po_command 176 = .ok (.ifCond .eq 12, 3) := by decide +kernel
theorem d_Po_command_179 : decode b_Po_command 179 = .ok (.iload 7, 2) := by decide +kernel
theorem d_Po_command_181 : decode b_Po_command 181 = .ok (.ifCond .eq 7, 3) := by decide +kernel
theorem d_Po_command_184 : decode b_Po_command 184 = .ok (.iconst 1, 1) := by decide +kernel
theorem d_Po_command_185 : decode b_Po_command 185 = .ok (.goto 4, 3) := by decide +kernel
theorem d_Po_command_188 : decode b_Po_command 188 = .ok (.iconst 0, 1) := by decide +kernel
theorem d_Po_command_189 : decode b_Po_command 189 = .ok (.istore 9, 2) := by decide +kernel
theorem d_Po_command_191 : decode b_Po_command 191 = .ok (.iload 9, 2) := by decide +kernel
theorem d_Po_command_193 : decode b_Po_command 193 = .ok (.ifCond .eq 13, 3) := by decide +kernel
theorem d_Po_command_196 : decode b_Po_command 196 = .ok (.aload_n 0, 1) := by decide +kernel
theorem d_Po_command_197 : decode b_Po_command 197 = .ok (.aload_n 1, 1) := by decide +kernel
theorem d_Po_command_198 : decode b_Po_command 198 = .ok (.iload_n 2, 1) := by decide +kernel
theorem d_Po_command_199 : decode b_Po_command 199 = .ok (.iload 6, 2) := by decide +kernel
theorem d_Po_command_201 : decode b_Po_command 201 = .ok (.iload 5, 2) := by decide +kernel
theorem d_Po_command_203 : decode b_Po_command 203 = .ok (.invokevirtual 654, 3) := by decide +kernel
theorem d_Po_command_206 : decode b_Po_command 206 = .ok (.aload_n 0, 1) := by decide +kernel
theorem d_Po_command_207 : decode b_Po_command 207 = .ok (.aload_n 1, 1) := by decide +kernel
theorem d_Po_command_208 : decode b_Po_command 208 = .ok (.aload_n 0, 1) := by decide +kernel
theorem d_Po_command_209 : decode b_Po_command 209 = .ok (.getfield 53, 3) := by decide +kernel
theorem d_Po_command_212 : decode b_Po_command 212 = .ok (.iload 9, 2) := by decide +kernel
theorem d_Po_command_214 : decode b_Po_command 214 = .ok (.ifCond .eq 8, 3) := by decide +kernel
theorem d_Po_command_217 : decode b_Po_command 217 = .ok (.iload 8, 2) := by decide +kernel
theorem d_Po_command_219 : decode b_Po_command 219 = .ok (.goto 8, 3) := by decide +kernel
theorem d_Po_command_222 : decode b_Po_command 222 = .ok (.iload 8, 2) := by decide +kernel
theorem d_Po_command_224 : decode b_Po_command 224 = .ok (.bipush 64, 2) := by decide +kernel
theorem d_Po_command_226 : decode b_Po_command 226 = .ok (.ior, 1) := by decide +kernel
theorem d_Po_command_227 : decode b_Po_command 227 = .ok (.invokevirtual 239, 3) := by decide +kernel
theorem d_Po_command_230 : decode b_Po_command 230 = .ok (.pop, 1) := by decide +kernel
theorem d_Po_command_231 : decode b_Po_command 231 = .ok (.return_, 1) := by decide +kernel
set_option maxRecDepth 100000 in
set_option maxHeartbeats 4000000 in
theorem c_Po_command (l : Launch) (D : va_G) (ca : Nat → ClassId) (T0 : ty_e) (L0 : List Nat) (f0 : Nat → va_E) (sz : Nat) (hT : ok_T ca T0 L0 f0) {g0 : List (Int32 × Int32)} (h0 : Nat) (t0 : T0 h0 = some (ty_po g0)) (x1 : Nat) (t1 : is_li T0 x1) (j2 : Nat) (q2 : j2 ≤ 31) (x3 : Int32) (hp : j2 < g0.length) :
    Met l y_Po_command (Cond.code y_Po_command b_Po_command 10 none :: wg) { frames := 4, cells := 2, slots := 518, locals := 95 } (va_Pc [.ref h0, .ref x1, .int (nI j2), .int (x3)] (sm_P D cl_all (ty_s ca) ek L0 f0 sz)) (sm_Qv D (ty_s ca) L0 f0 sz (fun u => po_a ca T0 (fun _ => True) u)) 2 518 (va_A (va_pl L0 f0) sz) := by
  refine sm_start (by decide) (Nat.le_of_ble_eq_true rfl) ?_
  intro p e s m below meth c ls hx hb hml hr hlk hnm hts hown hsz hE hI hl
  have hl : lv_has ls 10 [(0, .ref h0), (1, .ref x1), (2, .int (nI j2)), (3, .int (x3))] := hl
  have hle : ty_le T0 T0 := ty_rf
  have hJ_206 : ∀ (T : ty_e) (L : List Nat) (H : Heap) (locs : List Loc) (f : Nat → va_E) (ls : Array Slot) (y4 : Int32) (y5 : Int32) (y6 : Int32) (y7 : Int32) (y8 : Int32) (y9 : Int32), ty_le T0 T → sw_I D cl_all (ty_s ca) (va_A (va_pl L0 f0) sz) s H locs L f → ok_T ca T L f → lv_has ls 10 [(0, .ref h0), (1, .ref x1), (2, .int (nI j2)), (3, .int (x3)), (4, .int (y4)), (5, .int (y5)), (6, .int (y6)), (7, .int (y7)), (8, .int (y8)), (9, .int (y9))] → (y7 = 0 ∨ y7 = 1) → (y9 = 0 ∨ y9 = 1) → W p l e { frames := 4, cells := 2, slots := 518, locals := 95 } s m ([.ref h0, .ref x1, .int (nI j2), .int (x3)] : List Value).toArray below meth c H locs 1 259 (MQ below (sm_Qv D (ty_s ca) L0 f0 sz (fun u => po_a ca T0 (fun _ => True) u)) ([.ref h0, .ref x1, .int (nI j2), .int (x3)] : List Value).toArray s 2 518 (va_A (va_pl L0 f0) sz)) (F0 m 206 ls []) := by
    intro T L H locs f ls y4 y5 y6 y7 y8 y9 hle hI hT hl py7 py9
    have t0 := hle _ _ t0
    have t1 := li_up hle t1
    refine lv_aload_n hx hb d_Po_command_206 rfl (lv_at hl 0 rfl) ?_
    refine lv_aload_n hx hb d_Po_command_207 rfl (lv_at hl 1 rfl) ?_
    refine lv_aload_n hx hb d_Po_command_208 rfl (lv_at hl 0 rfl) ?_
    refine fg_Po_asked hx hb hts hown hI hT t0 (hts _ tw_375) (fun _ h9 => h9) d_Po_command_209 (fun r_1 t_2 => ?_)
    refine lv_iload hx hb d_Po_command_212 (lv_at hl 9 rfl) ?_
    refine lv_if_eq (tgt := 222) hx hb d_Po_command_214 (by decide) (fun c_3 => ?_) (fun c_3 => ?_)
    · refine lv_iload hx hb d_Po_command_222 (lv_at hl 8 rfl) ?_
      refine lv_bipush (v := 64) hx hb d_Po_command_224 (by decide) ?_
      refine lv_ior hx hb d_Po_command_226 ?_
      refine lv_topi (fun x_4 e_5 => ?_)
      refine sm_qA hI (va_runV (As := [.ref x1, .ref r_1, .int (x_4)]) (rest := []) ⟨hx, hb, hml, hown, hts⟩ (c_Po_comeBack l D ca _ _ _ _ hT h0 t0 x1 t1 r_1 t_2 x_4 (by omega) (by omega)) (kv_Po_comeBack hts rfl rfl (hts _ tw_962) ⟨Nat.le_of_ble_eq_true rfl, Nat.le_of_ble_eq_true rfl⟩) (pv_Po hI hE hT t0) rfl rfl hl.1 rfl (lv_room (Nat.le_of_ble_eq_true rfl)) d_Po_command_227 ⟨Nat.le_of_ble_eq_true rfl, Nat.le_of_ble_eq_true rfl⟩) (fun o_6 T L H locs f p_7 hle1 hI hT => ?_)
      have hle := ty_tr hle hle1
      have t0 := hle1 _ _ t0
      have t1 := li_up hle1 t1
      rcases o_6 with _ | r_8
      · refine lv_pop hx hb d_Po_command_230 rfl ?_
        refine W.widen (k := 2) (n := 518) (by decide) (by decide) ?_
        exact sm_vret hx hb hr hlk hI ⟨_, hle, hT, trivial⟩ d_Po_command_231
      · have t_9 := p_7 r_8 rfl
        refine lv_pop hx hb d_Po_command_230 rfl ?_
        refine W.widen (k := 2) (n := 518) (by decide) (by decide) ?_
        exact sm_vret hx hb hr hlk hI ⟨_, hle, hT, trivial⟩ d_Po_command_231
    · refine lv_iload hx hb d_Po_command_217 (lv_at hl 8 rfl) ?_
      refine lv_goto (tgt := 227) hx hb d_Po_command_219 (by decide) ?_
      refine sm_qA hI (va_runV (As := [.ref x1, .ref r_1, .int (y8)]) (rest := []) ⟨hx, hb, hml, hown, hts⟩ (c_Po_comeBack l D ca _ _ _ _ hT h0 t0 x1 t1 r_1 t_2 y8 (by omega) (by omega)) (kv_Po_comeBack hts rfl rfl (hts _ tw_962) ⟨Nat.le_of_ble_eq_true rfl, Nat.le_of_ble_eq_true rfl⟩) (pv_Po hI hE hT t0) rfl rfl hl.1 rfl (lv_room (Nat.le_of_ble_eq_true rfl)) d_Po_command_227 ⟨Nat.le_of_ble_eq_true rfl, Nat.le_of_ble_eq_true rfl⟩) (fun o_10 T L H locs f p_11 hle1 hI hT => ?_)
      have hle := ty_tr hle hle1
      have t0 := hle1 _ _ t0
      have t1 := li_up hle1 t1
      rcases o_10 with _ | r_12
      · refine lv_pop hx hb d_Po_command_230 rfl ?_
        refine W.widen (k := 2) (n := 518) (by decide) (by decide) ?_
        exact sm_vret hx hb hr hlk hI ⟨_, hle, hT, trivial⟩ d_Po_command_231
      · have t_13 := p_11 r_12 rfl
        refine lv_pop hx hb d_Po_command_230 rfl ?_
        refine W.widen (k := 2) (n := 518) (by decide) (by decide) ?_
        exact sm_vret hx hb hr hlk hI ⟨_, hle, hT, trivial⟩ d_Po_command_231
  have hJ_189 : ∀ (T : ty_e) (L : List Nat) (H : Heap) (locs : List Loc) (f : Nat → va_E) (ls : Array Slot) (y4 : Int32) (y5 : Int32) (y6 : Int32) (y7 : Int32) (y8 : Int32) (z0 : Int32), ty_le T0 T → sw_I D cl_all (ty_s ca) (va_A (va_pl L0 f0) sz) s H locs L f → ok_T ca T L f → lv_has ls 10 [(0, .ref h0), (1, .ref x1), (2, .int (nI j2)), (3, .int (x3)), (4, .int (y4)), (5, .int (y5)), (6, .int (y6)), (7, .int (y7)), (8, .int (y8))] → (y7 = 0 ∨ y7 = 1) → (z0 = 0 ∨ z0 = 1) → W p l e { frames := 4, cells := 2, slots := 518, locals := 95 } s m ([.ref h0, .ref x1, .int (nI j2), .int (x3)] : List Value).toArray below meth c H locs 0 0 (MQ below (sm_Qv D (ty_s ca) L0 f0 sz (fun u => po_a ca T0 (fun _ => True) u)) ([.ref h0, .ref x1, .int (nI j2), .int (x3)] : List Value).toArray s 2 518 (va_A (va_pl L0 f0) sz)) (F0 m 189 ls [.int (z0)]) := by
    intro T L H locs f ls y4 y5 y6 y7 y8 z0 hle hI hT hl py7 pz0
    have t0 := hle _ _ t0
    have t1 := li_up hle t1
    refine lv_istore (lv' := [(9, .int (z0)), (0, .ref h0), (1, .ref x1), (2, .int (nI j2)), (3, .int (x3)), (4, .int (y4)), (5, .int (y5)), (6, .int (y6)), (7, .int (y7)), (8, .int (y8))]) hx hb d_Po_command_189 hl (by decide) rfl (fun ls hl => ?_)
    refine lv_iload hx hb d_Po_command_191 (lv_at hl 0 rfl) ?_
    refine lv_if_eq (tgt := 206) hx hb d_Po_command_193 (by decide) (fun c_14 => ?_) (fun c_14 => ?_)
    · refine W.widen (k := 1) (n := 259) (by decide) (by decide) ?_
      exact hJ_206 _ _ _ _ _ _ y4 y5 y6 y7 y8 z0 hle hI hT (lv_sub hl [1, 2, 3, 4, 5, 6, 7, 8, 9, 0] rfl) py7 pz0
    · refine lv_aload_n hx hb d_Po_command_196 rfl (lv_at hl 1 rfl) ?_
      refine lv_aload_n hx hb d_Po_command_197 rfl (lv_at hl 2 rfl) ?_
      refine lv_iload_n hx hb d_Po_command_198 rfl (lv_at hl 3 rfl) ?_
      refine lv_iload hx hb d_Po_command_199 (lv_at hl 7 rfl) ?_
      refine lv_iload hx hb d_Po_command_201 (lv_at hl 6 rfl) ?_
      refine sm_vA hI (va_runV (As := [.ref x1, .int (nI j2), .int (y6), .int (y5)]) (rest := []) ⟨hx, hb, hml, hown, hts⟩ (c_Po_beginOperation l D ca _ _ _ _ hT h0 t0 x1 t1 (nI j2) y6 y5) (kv_Po_beginOperation hts rfl rfl (hts _ tw_1001) ⟨Nat.le_of_ble_eq_true rfl, Nat.le_of_ble_eq_true rfl⟩) (pv_Po hI hE hT t0) rfl rfl hl.1 rfl (lv_room (Nat.le_of_ble_eq_true rfl)) d_Po_command_203 ⟨Nat.le_of_ble_eq_true rfl, Nat.le_of_ble_eq_true rfl⟩) (fun T L H locs f hle1 hI hT => ?_)
      have hle := ty_tr hle hle1
      have t0 := hle1 _ _ t0
      have t1 := li_up hle1 t1
      refine W.widen (k := 1) (n := 259) (by decide) (by decide) ?_
      exact hJ_206 _ _ _ _ _ _ y4 y5 y6 y7 y8 z0 hle hI hT (lv_sub hl [1, 2, 3, 4, 5, 6, 7, 8, 9, 0] rfl) py7 pz0
  have hJ_188 : ∀ (T : ty_e) (L : List Nat) (H : Heap) (locs : List Loc) (f : Nat → va_E) (ls : Array Slot) (y4 : Int32) (y5 : Int32) (y6 : Int32) (y7 : Int32) (y8 : Int32), ty_le T0 T → sw_I D cl_all (ty_s ca) (va_A (va_pl L0 f0) sz) s H locs L f → ok_T ca T L f → lv_has ls 10 [(0, .ref h0), (1, .ref x1), (2, .int (nI j2)), (3, .int (x3)), (4, .int (y4)), (5, .int (y5)), (6, .int (y6)), (7, .int (y7)), (8, .int (y8))] → (y7 = 0 ∨ y7 = 1) → W p l e { frames := 4, cells := 2, slots := 518, locals := 95 } s m ([.ref h0, .ref x1, .int (nI j2), .int (x3)] : List Value).toArray below meth c H locs 0 0 (MQ below (sm_Qv D (ty_s ca) L0 f0 sz (fun u => po_a ca T0 (fun _ => True) u)) ([.ref h0, .ref x1, .int (nI j2), .int (x3)] : List Value).toArray s 2 518 (va_A (va_pl L0 f0) sz)) (F0 m 188 ls []) := by
    intro T L H locs f ls y4 y5 y6 y7 y8 hle hI hT hl py7
    have t0 := hle _ _ t0
    have t1 := li_up hle t1
    refine lv_iconst (v := 0) hx hb d_Po_command_188 (by decide) ?_
    refine W.widen (k := 0) (n := 0) (by decide) (by decide) ?_
    exact hJ_189 _ _ _ _ _ _ y4 y5 y6 y7 y8 0 hle hI hT (lv_sub hl [0, 1, 2, 3, 4, 5, 6, 7, 8] rfl) py7 (by decide)
  have hJ_161 : ∀ (T : ty_e) (L : List Nat) (H : Heap) (locs : List Loc) (f : Nat → va_E) (ls : Array Slot) (y4 : Int32) (y5 : Int32) (y6 : Int32) (y7 : Int32) (y8 : Int32) (z0 : Int32), ty_le T0 T → sw_I D cl_all (ty_s ca) (va_A (va_pl L0 f0) sz) s H locs L f → ok_T ca T L f → lv_has ls 10 [(0, .ref h0), (1, .ref x1), (2, .int (nI j2)), (3, .int (x3)), (4, .int (y4)), (5, .int (y5)), (6, .int (y6)), (7, .int (y7)), (8, .int (y8))] → (y7 = 0 ∨ y7 = 1) → (z0 = 0 ∨ z0 = 1) → W p l e { frames := 4, cells := 2, slots := 518, locals := 95 } s m ([.ref h0, .ref x1, .int (nI j2), .int (x3)] : List Value).toArray below meth c H locs 0 0 (MQ below (sm_Qv D (ty_s ca) L0 f0 sz (fun u => po_a ca T0 (fun _ => True) u)) ([.ref h0, .ref x1, .int (nI j2), .int (x3)] : List Value).toArray s 2 518 (va_A (va_pl L0 f0) sz)) (F0 m 161 ls [.int (z0)]) := by
    intro T L H locs f ls y4 y5 y6 y7 y8 z0 hle hI hT hl py7 pz0
    have t0 := hle _ _ t0
    have t1 := li_up hle t1
    refine lv_istore (lv' := [(9, .int (z0)), (0, .ref h0), (1, .ref x1), (2, .int (nI j2)), (3, .int (x3)), (4, .int (y4)), (5, .int (y5)), (6, .int (y6)), (7, .int (y7)), (8, .int (y8))]) hx hb d_Po_command_161 hl (by decide) rfl (fun ls hl => ?_)
    refine lv_goto (tgt := 206) hx hb d_Po_command_163 (by decide) ?_
    refine W.widen (k := 1) (n := 259) (by decide) (by decide) ?_
    exact hJ_206 _ _ _ _ _ _ y4 y5 y6 y7 y8 z0 hle hI hT (lv_sub hl [1, 2, 3, 4, 5, 6, 7, 8, 9, 0] rfl) py7 pz0
  have hJ_160 : ∀ (T : ty_e) (L : List Nat) (H : Heap) (locs : List Loc) (f : Nat → va_E) (ls : Array Slot) (y4 : Int32) (y5 : Int32) (y6 : Int32) (y7 : Int32) (y8 : Int32), ty_le T0 T → sw_I D cl_all (ty_s ca) (va_A (va_pl L0 f0) sz) s H locs L f → ok_T ca T L f → lv_has ls 10 [(0, .ref h0), (1, .ref x1), (2, .int (nI j2)), (3, .int (x3)), (4, .int (y4)), (5, .int (y5)), (6, .int (y6)), (7, .int (y7)), (8, .int (y8))] → (y7 = 0 ∨ y7 = 1) → W p l e { frames := 4, cells := 2, slots := 518, locals := 95 } s m ([.ref h0, .ref x1, .int (nI j2), .int (x3)] : List Value).toArray below meth c H locs 0 0 (MQ below (sm_Qv D (ty_s ca) L0 f0 sz (fun u => po_a ca T0 (fun _ => True) u)) ([.ref h0, .ref x1, .int (nI j2), .int (x3)] : List Value).toArray s 2 518 (va_A (va_pl L0 f0) sz)) (F0 m 160 ls []) := by
    intro T L H locs f ls y4 y5 y6 y7 y8 hle hI hT hl py7
    have t0 := hle _ _ t0
    have t1 := li_up hle t1
    refine lv_iconst (v := 0) hx hb d_Po_command_160 (by decide) ?_
    refine W.widen (k := 0) (n := 0) (by decide) (by decide) ?_
    exact hJ_161 _ _ _ _ _ _ y4 y5 y6 y7 y8 0 hle hI hT (lv_sub hl [0, 1, 2, 3, 4, 5, 6, 7, 8] rfl) py7 (by decide)
  have hJ_92 : ∀ (T : ty_e) (L : List Nat) (H : Heap) (locs : List Loc) (f : Nat → va_E) (ls : Array Slot) (y4 : Int32) (y5 : Int32) (y6 : Int32) (z0 : Int32), ty_le T0 T → sw_I D cl_all (ty_s ca) (va_A (va_pl L0 f0) sz) s H locs L f → ok_T ca T L f → lv_has ls 10 [(0, .ref h0), (1, .ref x1), (2, .int (nI j2)), (3, .int (x3)), (4, .int (y4)), (5, .int (y5)), (6, .int (y6))] → (z0 = 0 ∨ z0 = 1) → W p l e { frames := 4, cells := 2, slots := 518, locals := 95 } s m ([.ref h0, .ref x1, .int (nI j2), .int (x3)] : List Value).toArray below meth c H locs 0 0 (MQ below (sm_Qv D (ty_s ca) L0 f0 sz (fun u => po_a ca T0 (fun _ => True) u)) ([.ref h0, .ref x1, .int (nI j2), .int (x3)] : List Value).toArray s 2 518 (va_A (va_pl L0 f0) sz)) (F0 m 92 ls [.int (z0)]) := by
    intro T L H locs f ls y4 y5 y6 z0 hle hI hT hl pz0
    have t0 := hle _ _ t0
    have t1 := li_up hle t1
    refine lv_istore (lv' := [(7, .int (z0)), (0, .ref h0), (1, .ref x1), (2, .int (nI j2)), (3, .int (x3)), (4, .int (y4)), (5, .int (y5)), (6, .int (y6))]) hx hb d_Po_command_92 hl (by decide) rfl (fun ls hl => ?_)
    refine lv_bipush (v := 7) hx hb d_Po_command_94 (by decide) ?_
    refine lv_istore (lv' := [(8, .int (7)), (7, .int (z0)), (0, .ref h0), (1, .ref x1), (2, .int (nI j2)), (3, .int (x3)), (4, .int (y4)), (5, .int (y5)), (6, .int (y6))]) hx hb d_Po_command_96 hl (by decide) rfl (fun ls hl => ?_)
    refine lv_aload_n hx hb d_Po_command_98 rfl (lv_at hl 2 rfl) ?_
    refine fg_Po_asked hx hb hts hown hI hT t0 (hts _ tw_375) (fun _ h9 => h9) d_Po_command_99 (fun r_15 t_16 => ?_)
    refine lv_iconst (v := 2) hx hb d_Po_command_102 (by decide) ?_
    refine sm_iP hI (va_runV (As := [.int (2)]) (rest := []) ⟨hx, hb, hml, hown, hts⟩ (c_Br_at l D ca _ _ _ _ hT r_15 t_16 2) (kv_Br_at hts rfl rfl (hts _ tw_697) ⟨Nat.le_of_ble_eq_true rfl, Nat.le_of_ble_eq_true rfl⟩) (pv_Br hI hE hT t_16) rfl rfl hl.1 rfl (lv_room (Nat.le_of_ble_eq_true rfl)) d_Po_command_103 ⟨Nat.le_of_ble_eq_true rfl, Nat.le_of_ble_eq_true rfl⟩) (fun x_17 H locs p_18 hI => ?_)
    refine lv_bipush (v := 63) hx hb d_Po_command_106 (by decide) ?_
    refine lv_iand hx hb d_Po_command_108 ?_
    refine lv_topi (fun x_19 e_20 => ?_)
    refine lv_bipush (v := 8) hx hb d_Po_command_109 (by decide) ?_
    refine lv_icmp_ne (tgt := 129) hx hb d_Po_command_111 (by decide) (fun c_21 => ?_) (fun c_21 => ?_)
    · refine lv_iload hx hb d_Po_command_129 (lv_at hl 7 rfl) ?_
      refine lv_sipush (v := 128) hx hb d_Po_command_131 (by decide) ?_
      refine lv_iand hx hb d_Po_command_134 ?_
      refine lv_topi (fun x_22 e_23 => ?_)
      refine lv_if_eq (tgt := 166) hx hb d_Po_command_135 (by decide) (fun c_24 => ?_) (fun c_24 => ?_)
      · refine lv_aload_n hx hb d_Po_command_166 rfl (lv_at hl 2 rfl) ?_
        refine lv_aload_n hx hb d_Po_command_167 rfl (lv_at hl 3 rfl) ?_
        refine lv_iload_n hx hb d_Po_command_168 rfl (lv_at hl 4 rfl) ?_
        refine lv_iload hx hb d_Po_command_169 (lv_at hl 8 rfl) ?_
        refine lv_iload hx hb d_Po_command_171 (lv_at hl 7 rfl) ?_
        refine sm_i hI (va_runV (As := [.ref x1, .int (nI j2), .int (y6), .int (y5)]) (rest := []) ⟨hx, hb, hml, hown, hts⟩ (c_Po_mayExecute l D ca _ _ _ _ hT h0 t0 x1 t1 (j2) (by omega) y6 y5 (by omega)) (kv_Po_mayExecute hts rfl rfl (hts _ tw_997) ⟨Nat.le_of_ble_eq_true rfl, Nat.le_of_ble_eq_true rfl⟩) (pv_Po hI hE hT t0) rfl rfl hl.1 rfl (lv_room (Nat.le_of_ble_eq_true rfl)) d_Po_command_173 ⟨Nat.le_of_ble_eq_true rfl, Nat.le_of_ble_eq_true rfl⟩) (fun x_25 H locs f p_26 hI hT => ?_)
        refine lv_if_eq (tgt := 188) hx hb d_Po_command_176 (by decide) (fun c_27 => ?_) (fun c_27 => ?_)
        · refine W.widen (k := 0) (n := 0) (by decide) (by decide) ?_
          exact hJ_188 _ _ _ _ _ _ y4 y5 y6 z0 7 hle hI hT (lv_sub hl [2, 3, 4, 5, 6, 7, 8, 1, 0] rfl) pz0
        · refine lv_iload hx hb d_Po_command_179 (lv_at hl 1 rfl) ?_
          refine lv_if_eq (tgt := 188) hx hb d_Po_command_181 (by decide) (fun c_28 => ?_) (fun c_28 => ?_)
          · refine W.widen (k := 0) (n := 0) (by decide) (by decide) ?_
            exact hJ_188 _ _ _ _ _ _ y4 y5 y6 z0 7 hle hI hT (lv_sub hl [2, 3, 4, 5, 6, 7, 8, 1, 0] rfl) pz0
          · refine lv_iconst (v := 1) hx hb d_Po_command_184 (by decide) ?_
            refine lv_goto (tgt := 189) hx hb d_Po_command_185 (by decide) ?_
            refine W.widen (k := 0) (n := 0) (by decide) (by decide) ?_
            exact hJ_189 _ _ _ _ _ _ y4 y5 y6 z0 7 1 hle hI hT (lv_sub hl [2, 3, 4, 5, 6, 7, 8, 1, 0] rfl) pz0 (by decide)
      · refine lv_iload hx hb d_Po_command_138 (lv_at hl 1 rfl) ?_
        refine lv_if_eq (tgt := 160) hx hb d_Po_command_140 (by decide) (fun c_29 => ?_) (fun c_29 => ?_)
        · refine W.widen (k := 0) (n := 0) (by decide) (by decide) ?_
          exact hJ_160 _ _ _ _ _ _ y4 y5 y6 z0 7 hle hI hT (lv_sub hl [2, 3, 4, 5, 6, 7, 8, 1, 0] rfl) pz0
        · refine lv_aload_n hx hb d_Po_command_143 rfl (lv_at hl 2 rfl) ?_
          refine lv_aload_n hx hb d_Po_command_144 rfl (lv_at hl 3 rfl) ?_
          refine lv_iload_n hx hb d_Po_command_145 rfl (lv_at hl 4 rfl) ?_
          refine lv_iload hx hb d_Po_command_146 (lv_at hl 8 rfl) ?_
          refine lv_iload hx hb d_Po_command_148 (lv_at hl 7 rfl) ?_
          refine sm_i hI (va_runV (As := [.ref x1, .int (nI j2), .int (y6), .int (y5)]) (rest := []) ⟨hx, hb, hml, hown, hts⟩ (c_Po_select l D ca _ _ _ _ hT h0 t0 x1 t1 (j2) (by omega) y6 y5 (by omega)) (kv_Po_select hts rfl rfl (hts _ tw_992) ⟨Nat.le_of_ble_eq_true rfl, Nat.le_of_ble_eq_true rfl⟩) (pv_Po hI hE hT t0) rfl rfl hl.1 rfl (lv_room (Nat.le_of_ble_eq_true rfl)) d_Po_command_150 ⟨Nat.le_of_ble_eq_true rfl, Nat.le_of_ble_eq_true rfl⟩) (fun x_30 H locs f p_31 hI hT => ?_)
          refine lv_if_eq (tgt := 160) hx hb d_Po_command_153 (by decide) (fun c_32 => ?_) (fun c_32 => ?_)
          · refine W.widen (k := 0) (n := 0) (by decide) (by decide) ?_
            exact hJ_160 _ _ _ _ _ _ y4 y5 y6 z0 7 hle hI hT (lv_sub hl [2, 3, 4, 5, 6, 7, 8, 1, 0] rfl) pz0
          · refine lv_iconst (v := 1) hx hb d_Po_command_156 (by decide) ?_
            refine lv_goto (tgt := 161) hx hb d_Po_command_157 (by decide) ?_
            refine W.widen (k := 0) (n := 0) (by decide) (by decide) ?_
            exact hJ_161 _ _ _ _ _ _ y4 y5 y6 z0 7 1 hle hI hT (lv_sub hl [2, 3, 4, 5, 6, 7, 8, 1, 0] rfl) pz0 (by decide)
    · refine lv_bipush (v := 9) hx hb d_Po_command_114 (by decide) ?_
      refine lv_istore (lv' := [(8, .int (9)), (7, .int (z0)), (0, .ref h0), (1, .ref x1), (2, .int (nI j2)), (3, .int (x3)), (4, .int (y4)), (5, .int (y5)), (6, .int (y6))]) hx hb d_Po_command_116 hl (by decide) rfl (fun ls hl => ?_)
      refine lv_aload_n hx hb d_Po_command_118 rfl (lv_at hl 2 rfl) ?_
      refine lv_aload_n hx hb d_Po_command_119 rfl (lv_at hl 3 rfl) ?_
      refine lv_iload_n hx hb d_Po_command_120 rfl (lv_at hl 4 rfl) ?_
      refine sm_i hI (va_runV (As := [.ref x1, .int (nI j2)]) (rest := []) ⟨hx, hb, hml, hown, hts⟩ (c_Po_leaveSelected l D ca _ _ _ _ hT h0 t0 x1 t1 (nI j2)) (kv_Po_leaveSelected hts rfl rfl (hts _ tw_978) ⟨Nat.le_of_ble_eq_true rfl, Nat.le_of_ble_eq_true rfl⟩) (pv_Po hI hE hT t0) rfl rfl hl.1 rfl (lv_room (Nat.le_of_ble_eq_true rfl)) d_Po_command_121 ⟨Nat.le_of_ble_eq_true rfl, Nat.le_of_ble_eq_true rfl⟩) (fun x_33 H locs f p_34 hI hT => ?_)
      refine lv_istore (lv' := [(9, .int (x_33)), (8, .int (9)), (7, .int (z0)), (0, .ref h0), (1, .ref x1), (2, .int (nI j2)), (3, .int (x3)), (4, .int (y4)), (5, .int (y5)), (6, .int (y6))]) hx hb d_Po_command_124 hl (by decide) rfl (fun ls hl => ?_)
      refine lv_goto (tgt := 206) hx hb d_Po_command_126 (by decide) ?_
      refine W.widen (k := 1) (n := 259) (by decide) (by decide) ?_
      exact hJ_206 _ _ _ _ _ _ y4 y5 y6 z0 9 x_33 hle hI hT (lv_sub hl [3, 4, 5, 6, 7, 8, 9, 2, 1, 0] rfl) pz0 p_34
  have hJ_87 : ∀ (T : ty_e) (L : List Nat) (H : Heap) (locs : List Loc) (f : Nat → va_E) (ls : Array Slot) (y4 : Int32) (y5 : Int32) (y6 : Int32), ty_le T0 T → sw_I D cl_all (ty_s ca) (va_A (va_pl L0 f0) sz) s H locs L f → ok_T ca T L f → lv_has ls 10 [(0, .ref h0), (1, .ref x1), (2, .int (nI j2)), (3, .int (x3)), (4, .int (y4)), (5, .int (y5)), (6, .int (y6))] → W p l e { frames := 4, cells := 2, slots := 518, locals := 95 } s m ([.ref h0, .ref x1, .int (nI j2), .int (x3)] : List Value).toArray below meth c H locs 0 0 (MQ below (sm_Qv D (ty_s ca) L0 f0 sz (fun u => po_a ca T0 (fun _ => True) u)) ([.ref h0, .ref x1, .int (nI j2), .int (x3)] : List Value).toArray s 2 518 (va_A (va_pl L0 f0) sz)) (F0 m 87 ls []) := by
    intro T L H locs f ls y4 y5 y6 hle hI hT hl 
    have t0 := hle _ _ t0
    have t1 := li_up hle t1
    refine lv_iconst (v := 1) hx hb d_Po_command_87 (by decide) ?_
    refine lv_goto (tgt := 92) hx hb d_Po_command_88 (by decide) ?_
    refine W.widen (k := 0) (n := 0) (by decide) (by decide) ?_
    exact hJ_92 _ _ _ _ _ _ y4 y5 y6 1 hle hI hT (lv_sub hl [0, 1, 2, 3, 4, 5, 6] rfl) (by decide)
  have hJ_66 : ∀ (T : ty_e) (L : List Nat) (H : Heap) (locs : List Loc) (f : Nat → va_E) (ls : Array Slot) (y4 : Int32) (y5 : Int32) (z0 : Int32), ty_le T0 T → sw_I D cl_all (ty_s ca) (va_A (va_pl L0 f0) sz) s H locs L f → ok_T ca T L f → lv_has ls 10 [(0, .ref h0), (1, .ref x1), (2, .int (nI j2)), (3, .int (x3)), (4, .int (y4)), (5, .int (y5))] → W p l e { frames := 4, cells := 2, slots := 518, locals := 95 } s m ([.ref h0, .ref x1, .int (nI j2), .int (x3)] : List Value).toArray below meth c H locs 0 0 (MQ below (sm_Qv D (ty_s ca) L0 f0 sz (fun u => po_a ca T0 (fun _ => True) u)) ([.ref h0, .ref x1, .int (nI j2), .int (x3)] : List Value).toArray s 2 518 (va_A (va_pl L0 f0) sz)) (F0 m 66 ls [.int (z0)]) := by
    intro T L H locs f ls y4 y5 z0 hle hI hT hl 
    have t0 := hle _ _ t0
    have t1 := li_up hle t1
    refine lv_istore (lv' := [(6, .int (z0)), (0, .ref h0), (1, .ref x1), (2, .int (nI j2)), (3, .int (x3)), (4, .int (y4)), (5, .int (y5))]) hx hb d_Po_command_66 hl (by decide) rfl (fun ls hl => ?_)
    refine lv_iload hx hb d_Po_command_68 (lv_at hl 5 rfl) ?_
    refine lv_bipush (v := 8) hx hb d_Po_command_70 (by decide) ?_
    refine lv_icmp_ne (tgt := 87) hx hb d_Po_command_72 (by decide) (fun c_35 => ?_) (fun c_35 => ?_)
    · refine W.widen (k := 0) (n := 0) (by decide) (by decide) ?_
      exact hJ_87 _ _ _ _ _ _ y4 y5 z0 hle hI hT (lv_sub hl [1, 2, 3, 4, 5, 6, 0] rfl) 
    · refine lv_iload hx hb d_Po_command_75 (lv_at hl 0 rfl) ?_
      refine lv_iconst (v := 1) hx hb d_Po_command_77 (by decide) ?_
      refine lv_icmp_eq (tgt := 87) hx hb d_Po_command_78 (by decide) (fun c_36 => ?_) (fun c_36 => ?_)
      · refine W.widen (k := 0) (n := 0) (by decide) (by decide) ?_
        exact hJ_87 _ _ _ _ _ _ y4 y5 z0 hle hI hT (lv_sub hl [1, 2, 3, 4, 5, 6, 0] rfl) 
      · refine lv_iload hx hb d_Po_command_81 (lv_at hl 0 rfl) ?_
        refine lv_iconst (v := 2) hx hb d_Po_command_83 (by decide) ?_
        refine lv_icmp_ne (tgt := 91) hx hb d_Po_command_84 (by decide) (fun c_37 => ?_) (fun c_37 => ?_)
        · refine lv_iconst (v := 0) hx hb d_Po_command_91 (by decide) ?_
          refine W.widen (k := 0) (n := 0) (by decide) (by decide) ?_
          exact hJ_92 _ _ _ _ _ _ y4 y5 z0 0 hle hI hT (lv_sub hl [1, 2, 3, 4, 5, 6, 0] rfl) (by decide)
        · refine W.widen (k := 0) (n := 0) (by decide) (by decide) ?_
          exact hJ_87 _ _ _ _ _ _ y4 y5 z0 hle hI hT (lv_sub hl [1, 2, 3, 4, 5, 6, 0] rfl) 
  refine lv_aload_n hx hb d_Po_command_0 rfl (lv_at hl 0 rfl) ?_
  refine fg_Po_points hx hb hts hown hI hT t0 (hts _ tw_363) (fun _ h9 => h9) d_Po_command_1 (fun r_38 t_39 => ?_)
  refine lv_iload_n hx hb d_Po_command_4 rfl (lv_at hl 2 rfl) ?_
  obtain ⟨q_40, h_41⟩ : ∃ z, g0[j2]? = some z := ⟨_, List.getElem?_eq_getElem (by omega)⟩
  refine fa_pts (j := j2) hx hb hI hT t_39 h_41 (by omega) d_Po_command_5 (fun r_42 t_43 => ?_)
  refine fgN_Pt_kind hx hb hts hown hI hT t_43 (va_Nw.use rfl (hE.1 _ tn_522 rfl)) (fun _ h9 => h9) d_Po_command_6 (fun h_44 => ?_)
  refine lv_istore (lv' := [(4, .int (q_40.2)), (0, .ref h0), (1, .ref x1), (2, .int (nI j2)), (3, .int (x3))]) hx hb d_Po_command_9 hl (by decide) rfl (fun ls hl => ?_)
  refine lv_aload_n hx hb d_Po_command_11 rfl (lv_at hl 1 rfl) ?_
  refine fg_Po_asked hx hb hts hown hI hT t0 (hts _ tw_375) (fun _ h9 => h9) d_Po_command_12 (fun r_45 t_46 => ?_)
  refine lv_aload_n hx hb d_Po_command_15 rfl (lv_at hl 1 rfl) ?_
  refine fg_Po_asked hx hb hts hown hI hT t0 (hts _ tw_375) (fun _ h9 => h9) d_Po_command_16 (fun r_47 t_48 => ?_)
  refine fgN_Br_length hx hb hts hown hI hT t_48 (va_Nw.use rfl (hE.1 _ tn_51 rfl)) (fun _ h9 => h9) d_Po_command_19 (fun n_49 h_50 => ?_)
  refine lv_iconst (v := 1) hx hb d_Po_command_22 (by decide) ?_
  refine lv_isub hx hb d_Po_command_23 ?_
  refine lv_topi (fun x_51 e_52 => ?_)
  refine sm_iP hI (va_runV (As := [.int (x_51)]) (rest := []) ⟨hx, hb, hml, hown, hts⟩ (c_Br_at l D ca _ _ _ _ hT r_45 t_46 x_51) (kv_Br_at hts rfl rfl (hts _ tw_697) ⟨Nat.le_of_ble_eq_true rfl, Nat.le_of_ble_eq_true rfl⟩) (pv_Br hI hE hT t_46) rfl rfl hl.1 rfl (lv_room (Nat.le_of_ble_eq_true rfl)) d_Po_command_24 ⟨Nat.le_of_ble_eq_true rfl, Nat.le_of_ble_eq_true rfl⟩) (fun x_53 H locs p_54 hI => ?_)
  refine lv_istore (lv' := [(5, .int (x_53)), (4, .int (q_40.2)), (0, .ref h0), (1, .ref x1), (2, .int (nI j2)), (3, .int (x3))]) hx hb d_Po_command_27 hl (by decide) rfl (fun ls hl => ?_)
  refine lv_iload hx hb d_Po_command_29 (lv_at hl 1 rfl) ?_
  refine lv_bipush (v := 7) hx hb d_Po_command_31 (by decide) ?_
  refine lv_icmp_ne (tgt := 43) hx hb d_Po_command_33 (by decide) (fun c_55 => ?_) (fun c_55 => ?_)
  · refine lv_iload hx hb d_Po_command_43 (lv_at hl 1 rfl) ?_
    refine lv_bipush (v := 8) hx hb d_Po_command_45 (by decide) ?_
    refine lv_icmp_ne (tgt := 57) hx hb d_Po_command_47 (by decide) (fun c_56 => ?_) (fun c_56 => ?_)
    · refine lv_aload_n hx hb d_Po_command_57 rfl (lv_at hl 2 rfl) ?_
      refine fg_Po_asked hx hb hts hown hI hT t0 (hts _ tw_375) (fun _ h9 => h9) d_Po_command_58 (fun r_57 t_58 => ?_)
      refine lv_iload_n hx hb d_Po_command_61 rfl (lv_at hl 5 rfl) ?_
      refine lv_iconst (v := 4) hx hb d_Po_command_62 (by decide) ?_
      refine sm_iP hI (va_runV (As := [.int (x3), .int (4)]) (rest := []) ⟨hx, hb, hml, hown, hts⟩ (c_Br_number l D ca _ _ _ _ hT r_57 t_58 x3 (4) (by omega)) (kv_Br_number hts rfl rfl (hts _ tw_940) ⟨Nat.le_of_ble_eq_true rfl, Nat.le_of_ble_eq_true rfl⟩) (pv_Br hI hE hT t_58) rfl rfl hl.1 rfl (lv_room (Nat.le_of_ble_eq_true rfl)) d_Po_command_63 ⟨Nat.le_of_ble_eq_true rfl, Nat.le_of_ble_eq_true rfl⟩) (fun x_59 H locs p_60 hI => ?_)
      refine W.widen (k := 0) (n := 0) (by decide) (by decide) ?_
      exact hJ_66 _ _ _ _ _ _ (q_40.2) x_53 x_59 hle hI hT (lv_sub hl [2, 3, 4, 5, 1, 0] rfl) 
    · refine lv_iload hx hb d_Po_command_50 (lv_at hl 0 rfl) ?_
      refine lv_iconst (v := 3) hx hb d_Po_command_52 (by decide) ?_
      refine lv_iand hx hb d_Po_command_53 ?_
      refine lv_topi (fun x_61 e_62 => ?_)
      refine lv_goto (tgt := 66) hx hb d_Po_command_54 (by decide) ?_
      refine W.widen (k := 0) (n := 0) (by decide) (by decide) ?_
      exact hJ_66 _ _ _ _ _ _ (q_40.2) x_53 x_61 hle hI hT (lv_sub hl [2, 3, 4, 5, 1, 0] rfl) 
  · refine lv_iload hx hb d_Po_command_36 (lv_at hl 0 rfl) ?_
    refine lv_iconst (v := 1) hx hb d_Po_command_38 (by decide) ?_
    refine lv_iand hx hb d_Po_command_39 ?_
    refine lv_topi (fun x_63 e_64 => ?_)
    refine lv_goto (tgt := 66) hx hb d_Po_command_40 (by decide) ?_
    refine W.widen (k := 0) (n := 0) (by decide) (by decide) ?_
    exact hJ_66 _ _ _ _ _ _ (q_40.2) x_53 x_63 hle hI hT (lv_sub hl [2, 3, 4, 5, 1, 0] rfl) 
