/-! TelecontrolPost: what is told (written by wip/tools) -/
theorem d_Po_putHead_0 : decode b_Po_putHead 0 = .ok (.aload_n 0, 1) := by decide +kernel
theorem d_Po_putHead_1 : decode b_Po_putHead 1 = .ok (.getfield 57, 3) := by decide +kernel
theorem d_Po_putHead_4 : decode b_Po_putHead 4 = .ok (.invokevirtual 188, 3) := by decide +kernel
theorem d_Po_putHead_7 : decode b_Po_putHead 7 = .ok (.aload_n 0, 1) := by decide +kernel
theorem d_Po_putHead_8 : decode b_Po_putHead 8 = .ok (.getfield 57, 3) := by decide +kernel
theorem d_Po_putHead_11 : decode b_Po_putHead 11 = .ok (.iload_n 2, 1) := by decide +kernel
theorem d_Po_putHead_12 : decode b_Po_putHead 12 = .ok (.invokevirtual 182, 3) := by decide +kernel
theorem d_Po_putHead_15 : decode b_Po_putHead 15 = .ok (.aload_n 0, 1) := by decide +kernel
theorem d_Po_putHead_16 : decode b_Po_putHead 16 = .ok (.getfield 57, 3) := by decide +kernel
theorem d_Po_putHead_19 : decode b_Po_putHead 19 = .ok (.iconst 1, 1) := by decide +kernel
theorem d_Po_putHead_20 : decode b_Po_putHead 20 = .ok (.invokevirtual 182, 3) := by decide +kernel
theorem d_Po_putHead_23 : decode b_Po_putHead 23 = .ok (.aload_n 0, 1) := by decide +kernel
theorem d_Po_putHead_24 : decode b_Po_putHead 24 = .ok (.getfield 57, 3) := by decide +kernel
theorem d_Po_putHead_27 : decode b_Po_putHead 27 = .ok (.iload_n 3, 1) := by decide +kernel
theorem d_Po_putHead_28 : decode b_Po_putHead 28 = .ok (.invokevirtual 182, 3) := by decide +kernel
theorem d_Po_putHead_31 : decode b_Po_putHead 31 = .ok (.aload_n 1, 1) := by decide +kernel
theorem d_Po_putHead_32 : decode b_Po_putHead 32 = .ok (.getfield 517, 3) := by decide +kernel
theorem d_Po_putHead_35 : decode b_Po_putHead 35 = .ok (.iconst 2, 1) := by decide +kernel
theorem d_Po_putHead_36 : decode b_Po_putHead 36 = .ok (.if_icmp .ne 12, 3) := by decide +kernel
theorem d_Po_putHead_39 : decode b_Po_putHead 39 = .ok (.aload_n 0, 1) := by decide +kernel
theorem d_Po_putHead_40 : decode b_Po_putHead 40 = .ok (.getfield 57, 3) := by decide +kernel
theorem d_Po_putHead_43 : decode b_Po_putHead 43 = .ok (.iload 4, 2) := by decide +kernel
theorem d_Po_putHead_45 : decode b_Po_putHead 45 = .ok (.invokevirtual 182, 3) := by decide +kernel
theorem d_Po_putHead_48 : decode b_Po_putHead 48 = .ok (.aload_n 0, 1) := by decide +kernel
theorem d_Po_putHead_49 : decode b_Po_putHead 49 = .ok (.getfield 57, 3) := by decide +kernel
theorem d_Po_putHead_52 : decode b_Po_putHead 52 = .ok (.aload_n 0, 1) := by decide +kernel
theorem d_Po_putHead_53 : decode b_Po_putHead 53 = .ok (.getfield 61, 3) := by decide +kernel
theorem d_Po_putHead_56 : decode b_Po_putHead 56 = .ok (.aload_n 1, 1) := by decide +kernel
theorem d_Po_putHead_57 : decode b_Po_putHead 57 = .ok (.getfield 520, 3) := by decide +kernel
theorem d_Po_putHead_60 : decode b_Po_putHead 60 = .ok (.invokevirtual 425, 3) := by decide +kernel
theorem d_Po_putHead_63 : decode b_Po_putHead 63 = .ok (.return_, 1) := by decide +kernel
set_option maxRecDepth 100000 in
set_option maxHeartbeats 4000000 in
theorem c_Po_putHead (l : Launch) (D : va_G) (ca : Nat → ClassId) (T : ty_e) (L : List Nat) (f0 : Nat → va_E) (sz : Nat) (hT : ok_T ca T L f0) {g0 : List (Int32 × Int32)} (h0 : Nat) (t0 : T h0 = some (ty_po g0)) (x1 : Nat) (t1 : is_li T x1) (x2 : Int32) (x3 : Int32) (x4 : Int32) :
    Met l y_Po_putHead (Cond.code y_Po_putHead b_Po_putHead 5 none :: wg) { frames := 1, cells := 0, slots := 0, locals := 23 } (va_Pc [.ref h0, .ref x1, .int (x2), .int (x3), .int (x4)] (sm_P D cl_all (ty_s ca) ek L f0 sz)) (sm_Qv D (ty_s ca) L f0 sz (fun u => po_m ca T L u)) 0 0 (va_A (va_pl L f0) sz) := by
  refine sm_start (by decide) (Nat.le_of_ble_eq_true rfl) ?_
  intro p e s m below meth c ls hx hb hml hr hlk hnm hts hown hsz hE hI hl
  have hl : lv_has ls 5 [(0, .ref h0), (1, .ref x1), (2, .int (x2)), (3, .int (x3)), (4, .int (x4))] := hl
  have hJ_48 : ∀ (H : Heap) (locs : List Loc) (f : Nat → va_E) (ls : Array Slot) , sw_I D cl_all (ty_s ca) (va_A (va_pl L f0) sz) s H locs L f → ok_T ca T L f → lv_has ls 5 [(0, .ref h0), (1, .ref x1), (2, .int (x2)), (3, .int (x3)), (4, .int (x4))] → W p l e { frames := 1, cells := 0, slots := 0, locals := 23 } s m ([.ref h0, .ref x1, .int (x2), .int (x3), .int (x4)] : List Value).toArray below meth c H locs 0 0 (MQ below (sm_Qv D (ty_s ca) L f0 sz (fun u => po_m ca T L u)) ([.ref h0, .ref x1, .int (x2), .int (x3), .int (x4)] : List Value).toArray s 0 0 (va_A (va_pl L f0) sz)) (F0 m 48 ls []) := by
    intro H locs f ls  hI hT hl 
    refine lv_aload_n hx hb d_Po_putHead_48 rfl (lv_at hl 0 rfl) ?_
    refine fg_Po_told hx hb hts hown hI hT t0 (hts _ tw_376) (fun _ h9 => h9) d_Po_putHead_49 (fun r_1 t_2 => ?_)
    refine lv_aload_n hx hb d_Po_putHead_52 rfl (lv_at hl 0 rfl) ?_
    refine fg_Po_station hx hb hts hown hI hT t0 (hts _ tw_362) (fun _ h9 => h9) d_Po_putHead_53 (fun x_3 => ?_)
    refine lv_aload_n hx hb d_Po_putHead_56 rfl (lv_at hl 1 rfl) ?_
    refine fg_Li_stationSize hx hb hts hown hI hT t1 (hts _ tw_158) (fun _ h9 => h9) d_Po_putHead_57 (fun n_4 h_5 => ?_)
    refine sm_v hI (va_runV (As := [.int (x_3), .int (nI n_4)]) (rest := []) ⟨hx, hb, hml, hown, hts⟩ (c_Br_putNumber l D ca _ _ _ _ hT r_1 t_2 x_3 (n_4) (by omega)) (kv_Br_putNumber hts rfl rfl (hts _ tw_650) ⟨Nat.le_of_ble_eq_true rfl, Nat.le_of_ble_eq_true rfl⟩) (pv_Br hI hE hT t_2) rfl rfl hl.1 rfl (lv_room (Nat.le_of_ble_eq_true rfl)) d_Po_putHead_60 ⟨Nat.le_of_ble_eq_true rfl, Nat.le_of_ble_eq_true rfl⟩) (fun H locs f hI hT => ?_)
    exact sm_vret hx hb hr hlk hI ⟨rfl, hT⟩ d_Po_putHead_63
  refine lv_aload_n hx hb d_Po_putHead_0 rfl (lv_at hl 0 rfl) ?_
  refine fg_Po_told hx hb hts hown hI hT t0 (hts _ tw_376) (fun _ h9 => h9) d_Po_putHead_1 (fun r_6 t_7 => ?_)
  refine sm_v hI (va_runV (As := []) (rest := []) ⟨hx, hb, hml, hown, hts⟩ (c_Br_clear l D ca _ _ _ _ hT r_6 t_7) (kv_Br_clear hts rfl rfl (hts _ tw_713) ⟨Nat.le_of_ble_eq_true rfl, Nat.le_of_ble_eq_true rfl⟩) (pv_Br hI hE hT t_7) rfl rfl hl.1 rfl (lv_room (Nat.le_of_ble_eq_true rfl)) d_Po_putHead_4 ⟨Nat.le_of_ble_eq_true rfl, Nat.le_of_ble_eq_true rfl⟩) (fun H locs f hI hT => ?_)
  refine lv_aload_n hx hb d_Po_putHead_7 rfl (lv_at hl 0 rfl) ?_
  refine fg_Po_told hx hb hts hown hI hT t0 (hts _ tw_376) (fun _ h9 => h9) d_Po_putHead_8 (fun r_8 t_9 => ?_)
  refine lv_iload_n hx hb d_Po_putHead_11 rfl (lv_at hl 2 rfl) ?_
  refine sm_v hI (va_runV (As := [.int (x2)]) (rest := []) ⟨hx, hb, hml, hown, hts⟩ (c_Br_put l D ca _ _ _ _ hT r_8 t_9 x2) (kv_Br_put hts rfl rfl (hts _ tw_651) ⟨Nat.le_of_ble_eq_true rfl, Nat.le_of_ble_eq_true rfl⟩) (pv_Br hI hE hT t_9) rfl rfl hl.1 rfl (lv_room (Nat.le_of_ble_eq_true rfl)) d_Po_putHead_12 ⟨Nat.le_of_ble_eq_true rfl, Nat.le_of_ble_eq_true rfl⟩) (fun H locs f hI hT => ?_)
  refine lv_aload_n hx hb d_Po_putHead_15 rfl (lv_at hl 0 rfl) ?_
  refine fg_Po_told hx hb hts hown hI hT t0 (hts _ tw_376) (fun _ h9 => h9) d_Po_putHead_16 (fun r_10 t_11 => ?_)
  refine lv_iconst (v := 1) hx hb d_Po_putHead_19 (by decide) ?_
  refine sm_v hI (va_runV (As := [.int (1)]) (rest := []) ⟨hx, hb, hml, hown, hts⟩ (c_Br_put l D ca _ _ _ _ hT r_10 t_11 1) (kv_Br_put hts rfl rfl (hts _ tw_651) ⟨Nat.le_of_ble_eq_true rfl, Nat.le_of_ble_eq_true rfl⟩) (pv_Br hI hE hT t_11) rfl rfl hl.1 rfl (lv_room (Nat.le_of_ble_eq_true rfl)) d_Po_putHead_20 ⟨Nat.le_of_ble_eq_true rfl, Nat.le_of_ble_eq_true rfl⟩) (fun H locs f hI hT => ?_)
  refine lv_aload_n hx hb d_Po_putHead_23 rfl (lv_at hl 0 rfl) ?_
  refine fg_Po_told hx hb hts hown hI hT t0 (hts _ tw_376) (fun _ h9 => h9) d_Po_putHead_24 (fun r_12 t_13 => ?_)
  refine lv_iload_n hx hb d_Po_putHead_27 rfl (lv_at hl 3 rfl) ?_
  refine sm_v hI (va_runV (As := [.int (x3)]) (rest := []) ⟨hx, hb, hml, hown, hts⟩ (c_Br_put l D ca _ _ _ _ hT r_12 t_13 x3) (kv_Br_put hts rfl rfl (hts _ tw_651) ⟨Nat.le_of_ble_eq_true rfl, Nat.le_of_ble_eq_true rfl⟩) (pv_Br hI hE hT t_13) rfl rfl hl.1 rfl (lv_room (Nat.le_of_ble_eq_true rfl)) d_Po_putHead_28 ⟨Nat.le_of_ble_eq_true rfl, Nat.le_of_ble_eq_true rfl⟩) (fun H locs f hI hT => ?_)
  refine lv_aload_n hx hb d_Po_putHead_31 rfl (lv_at hl 1 rfl) ?_
  refine fg_Li_causeSize hx hb hts hown hI hT t1 (hts _ tw_154) (fun _ h9 => h9) d_Po_putHead_32 (fun n_14 h_15 => ?_)
  refine lv_iconst (v := 2) hx hb d_Po_putHead_35 (by decide) ?_
  refine lv_icmp_ne (tgt := 48) hx hb d_Po_putHead_36 (by decide) (fun c_16 => ?_) (fun c_16 => ?_)
  · have k_17 : ¬ n_14 = 2 := (fun q => c_16 ((nI_eq (a := n_14) (b := 2) (by omega) (by omega)).mpr q))
    exact hJ_48 _ _ _ _  hI hT (lv_sub hl [0, 1, 2, 3, 4] rfl) 
  · have k_18 : n_14 = 2 := (nI_eq (a := n_14) (b := 2) (by omega) (by omega)).mp c_16
    refine lv_aload_n hx hb d_Po_putHead_39 rfl (lv_at hl 0 rfl) ?_
    refine fg_Po_told hx hb hts hown hI hT t0 (hts _ tw_376) (fun _ h9 => h9) d_Po_putHead_40 (fun r_19 t_20 => ?_)
    refine lv_iload hx hb d_Po_putHead_43 (lv_at hl 4 rfl) ?_
    refine sm_v hI (va_runV (As := [.int (x4)]) (rest := []) ⟨hx, hb, hml, hown, hts⟩ (c_Br_put l D ca _ _ _ _ hT r_19 t_20 x4) (kv_Br_put hts rfl rfl (hts _ tw_651) ⟨Nat.le_of_ble_eq_true rfl, Nat.le_of_ble_eq_true rfl⟩) (pv_Br hI hE hT t_20) rfl rfl hl.1 rfl (lv_room (Nat.le_of_ble_eq_true rfl)) d_Po_putHead_45 ⟨Nat.le_of_ble_eq_true rfl, Nat.le_of_ble_eq_true rfl⟩) (fun H locs f hI hT => ?_)
    exact hJ_48 _ _ _ _  hI hT (lv_sub hl [0, 1, 2, 3, 4] rfl) 
theorem d_Po_originOf_0 : decode b_Po_originOf 0 = .ok (.aload_n 1, 1) := by decide +kernel
theorem d_Po_originOf_1 : decode b_Po_originOf 1 = .ok (.getfield 517, 3) := by decide +kernel
theorem d_Po_originOf_4 : decode b_Po_originOf 4 = .ok (.iconst 2, 1) := by decide +kernel
theorem d_Po_originOf_5 : decode b_Po_originOf 5 = .ok (.if_icmp .ne 11, 3) := by decide +kernel
theorem d_Po_originOf_8 : decode b_Po_originOf 8 = .ok (.aload_n 2, 1) := by decide +kernel
theorem d_Po_originOf_9 : decode b_Po_originOf 9 = .ok (.iconst 3, 1) := by decide +kernel
theorem d_Po_originOf_10 : decode b_Po_originOf 10 = .ok (.invokevirtual 216, 3) := by decide +kernel
theorem d_Po_originOf_13 : decode b_Po_originOf 13 = .ok (.goto 4, 3) := by decide +kernel
theorem d_Po_originOf_16 : decode b_Po_originOf 16 = .ok (.iconst 0, 1) := by decide +kernel
theorem d_Po_originOf_17 : decode b_Po_originOf 17 = .ok (.ireturn, 1) := by decide +kernel
set_option maxRecDepth 100000 in
set_option maxHeartbeats 4000000 in
theorem c_Po_originOf (l : Launch) (D : va_G) (ca : Nat → ClassId) (T : ty_e) (L : List Nat) (f0 : Nat → va_E) (sz : Nat) (hT : ok_T ca T L f0) {g0 : List (Int32 × Int32)} (h0 : Nat) (t0 : T h0 = some (ty_po g0)) (x1 : Nat) (t1 : is_li T x1) {m2 : Nat} (x2 : Nat) (t2 : T x2 = some (ty_row m2)) :
    Met l y_Po_originOf (Cond.code y_Po_originOf b_Po_originOf 3 (some .int) :: wg) { frames := 1, cells := 0, slots := 0, locals := 21 } (va_Pc [.ref h0, .ref x1, .ref x2] (sm_P D cl_all (ty_s ca) ek L f0 sz)) (sm_Qi D (ty_s ca) L f0 sz (fun r u => (True) ∧ u = (L, f0))) 0 0 (va_A (va_pl L f0) sz) := by
  refine sm_start (by decide) (Nat.le_of_ble_eq_true rfl) ?_
  intro p e s m below meth c ls hx hb hml hr hlk hnm hts hown hsz hE hI hl
  have hl : lv_has ls 3 [(0, .ref h0), (1, .ref x1), (2, .ref x2)] := hl
  refine lv_aload_n hx hb d_Po_originOf_0 rfl (lv_at hl 1 rfl) ?_
  refine fg_Li_causeSize hx hb hts hown hI hT t1 (hts _ tw_154) (fun _ h9 => h9) d_Po_originOf_1 (fun n_1 h_2 => ?_)
  refine lv_iconst (v := 2) hx hb d_Po_originOf_4 (by decide) ?_
  refine lv_icmp_ne (tgt := 16) hx hb d_Po_originOf_5 (by decide) (fun c_3 => ?_) (fun c_3 => ?_)
  · have k_4 : ¬ n_1 = 2 := (fun q => c_3 ((nI_eq (a := n_1) (b := 2) (by omega) (by omega)).mpr q))
    refine lv_iconst (v := 0) hx hb d_Po_originOf_16 (by decide) ?_
    exact sm_iret hx hb hr hlk hI ⟨trivial, rfl⟩ d_Po_originOf_17
  · have k_5 : n_1 = 2 := (nI_eq (a := n_1) (b := 2) (by omega) (by omega)).mp c_3
    refine lv_aload_n hx hb d_Po_originOf_8 rfl (lv_at hl 2 rfl) ?_
    refine lv_iconst (v := 3) hx hb d_Po_originOf_9 (by decide) ?_
    refine sm_iP hI (va_runV (As := [.int (3)]) (rest := []) ⟨hx, hb, hml, hown, hts⟩ (c_Br_at l D ca _ _ _ _ hT x2 t2 3) (kv_Br_at hts rfl rfl (hts _ tw_697) ⟨Nat.le_of_ble_eq_true rfl, Nat.le_of_ble_eq_true rfl⟩) (pv_Br hI hE hT t2) rfl rfl hl.1 rfl (lv_room (Nat.le_of_ble_eq_true rfl)) d_Po_originOf_10 ⟨Nat.le_of_ble_eq_true rfl, Nat.le_of_ble_eq_true rfl⟩) (fun x_6 H locs p_7 hI => ?_)
    refine lv_goto (tgt := 17) hx hb d_Po_originOf_13 (by decide) ?_
    exact sm_iret hx hb hr hlk hI ⟨trivial, rfl⟩ d_Po_originOf_17
theorem d_Pt_tell_0 : decode b_Pt_tell 0 = .ok (.aload_n 0, 1) := by decide +kernel
theorem d_Pt_tell_1 : decode b_Pt_tell 1 = .ok (.getfield 15, 3) := by decide +kernel
theorem d_Pt_tell_4 : decode b_Pt_tell 4 = .ok (.iconst 2, 1) := by decide +kernel
theorem d_Pt_tell_5 : decode b_Pt_tell 5 = .ok (.if_icmp .ge 19, 3) := by decide +kernel
theorem d_Pt_tell_8 : decode b_Pt_tell 8 = .ok (.aload_n 1, 1) := by decide +kernel
theorem d_Pt_tell_9 : decode b_Pt_tell 9 = .ok (.aload_n 0, 1) := by decide +kernel
theorem d_Pt_tell_10 : decode b_Pt_tell 10 = .ok (.getfield 36, 3) := by decide +kernel
theorem d_Pt_tell_13 : decode b_Pt_tell 13 = .ok (.aload_n 0, 1) := by decide +kernel
theorem d_Pt_tell_14 : decode b_Pt_tell 14 = .ok (.getfield 39, 3) := by decide +kernel
theorem d_Pt_tell_17 : decode b_Pt_tell 17 = .ok (.ior, 1) := by decide +kernel
theorem d_Pt_tell_18 : decode b_Pt_tell 18 = .ok (.invokevirtual 42, 3) := by decide +kernel
theorem d_Pt_tell_21 : decode b_Pt_tell 21 = .ok (.goto 100, 3) := by decide +kernel
theorem d_Pt_tell_24 : decode b_Pt_tell 24 = .ok (.aload_n 0, 1) := by decide +kernel
theorem d_Pt_tell_25 : decode b_Pt_tell 25 = .ok (.getfield 15, 3) := by decide +kernel
theorem d_Pt_tell_28 : decode b_Pt_tell 28 = .ok (.iconst 2, 1) := by decide +kernel
theorem d_Pt_tell_29 : decode b_Pt_tell 29 = .ok (.if_icmp .ne 25, 3) := by decide +kernel
theorem d_Pt_tell_32 : decode b_Pt_tell 32 = .ok (.aload_n 1, 1) := by decide +kernel
theorem d_Pt_tell_33 : decode b_Pt_tell 33 = .ok (.aload_n 0, 1) := by decide +kernel
theorem d_Pt_tell_34 : decode b_Pt_tell 34 = .ok (.getfield 36, 3) := by decide +kernel
theorem d_Pt_tell_37 : decode b_Pt_tell 37 = .ok (.bipush 127, 2) := by decide +kernel
theorem d_Pt_tell_39 : decode b_Pt_tell 39 = .ok (.iand, 1) := by decide +kernel
theorem d_Pt_tell_40 : decode b_Pt_tell 40 = .ok (.invokevirtual 42, 3) := by decide +kernel
theorem d_Pt_tell_43 : decode b_Pt_tell 43 = .ok (.aload_n 1, 1) := by decide +kernel
theorem d_Pt_tell_44 : decode b_Pt_tell 44 = .ok (.aload_n 0, 1) := by decide +kernel
theorem d_Pt_tell_45 : decode b_Pt_tell 45 = .ok (.getfield 39, 3) := by decide +kernel
theorem d_Pt_tell_48 : decode b_Pt_tell 48 = .ok (.invokevirtual 42, 3) := by decide +kernel
theorem d_Pt_tell_51 : decode b_Pt_tell 51 = .ok (.goto 70, 3) := by decide +kernel
theorem d_Pt_tell_54 : decode b_Pt_tell 54 = .ok (.aload_n 0, 1) := by decide +kernel
theorem d_Pt_tell_55 : decode b_Pt_tell 55 = .ok (.getfield 15, 3) := by decide +kernel
theorem d_Pt_tell_58 : decode b_Pt_tell 58 = .ok (.bipush 6, 2) := by decide +kernel
theorem d_Pt_tell_60 : decode b_Pt_tell 60 = .ok (.if_icmp .ne 32, 3) := by decide +kernel
theorem d_Pt_tell_63 : decode b_Pt_tell 63 = .ok (.aload_n 1, 1) := by decide +kernel
theorem d_Pt_tell_64 : decode b_Pt_tell 64 = .ok (.aload_n 0, 1) := by decide +kernel
theorem d_Pt_tell_65 : decode b_Pt_tell 65 = .ok (.getfield 36, 3) := by decide +kernel
theorem d_Pt_tell_68 : decode b_Pt_tell 68 = .ok (.iconst 4, 1) := by decide +kernel
theorem d_Pt_tell_69 : decode b_Pt_tell 69 = .ok (.invokevirtual 48, 3) := by decide +kernel
theorem d_Pt_tell_72 : decode b_Pt_tell 72 = .ok (.aload_n 1, 1) := by decide +kernel
theorem d_Pt_tell_73 : decode b_Pt_tell 73 = .ok (.iload_n 2, 1) := by decide +kernel
theorem d_Pt_tell_74 : decode b_Pt_tell 74 = .ok (.bipush 31, 2) := by decide +kernel
theorem d_Pt_tell_76 : decode b_Pt_tell 76 = .ok (.iand, 1) := by decide +kernel
theorem d_Pt_tell_77 : decode b_Pt_tell 77 = .ok (.aload_n 0, 1) := by decide +kernel
theorem d_Pt_tell_78 : decode b_Pt_tell 78 = .ok (.getfield 39, 3) := by decide +kernel
theorem d_Pt_tell_81 : decode b_Pt_tell 81 = .ok (.sipush 128, 3) := by decide +kernel
theorem d_Pt_tell_84 : decode b_Pt_tell 84 = .ok (.iand, 1) := by decide +kernel
theorem d_Pt_tell_85 : decode b_Pt_tell 85 = .ok (.ior, 1) := by decide +kernel
theorem d_Pt_tell_86 : decode b_Pt_tell 86 = .ok (.invokevirtual 42, 3) := by decide +kernel
theorem d_Pt_tell_89 : decode b_Pt_tell 89 = .ok (.goto 32, 3) := by decide +kernel
theorem d_Pt_tell_92 : decode b_Pt_tell 92 = .ok (.aload_n 1, 1) := by decide +kernel
theorem d_Pt_tell_93 : decode b_Pt_tell 93 = .ok (.aload_n 0, 1) := by decide +kernel
theorem d_Pt_tell_94 : decode b_Pt_tell 94 = .ok (.getfield 36, 3) := by decide +kernel
theorem d_Pt_tell_97 : decode b_Pt_tell 97 = .ok (.aload_n 0, 1) := by decide +kernel
theorem d_Pt_tell_98 : decode b_Pt_tell 98 = .ok (.getfield 15, 3) := by decide +kernel
theorem d_Pt_tell_101 : decode b_Pt_tell 101 = .ok (.iconst 5, 1) := by decide +kernel
theorem d_Pt_tell_102 : decode b_Pt_tell 102 = .ok (.if_icmp .ne 7, 3) := by decide +kernel
theorem d_Pt_tell_105 : decode b_Pt_tell 105 = .ok (.iconst 4, 1) := by decide +kernel
theorem d_Pt_tell_106 : decode b_Pt_tell 106 = .ok (.goto 4, 3) := by decide +kernel
theorem d_Pt_tell_109 : decode b_Pt_tell 109 = .ok (.iconst 2, 1) := by decide +kernel
theorem d_Pt_tell_110 : decode b_Pt_tell 110 = .ok (.invokevirtual 48, 3) := by decide +kernel
theorem d_Pt_tell_113 : decode b_Pt_tell 113 = .ok (.aload_n 1, 1) := by decide +kernel
theorem d_Pt_tell_114 : decode b_Pt_tell 114 = .ok (.aload_n 0, 1) := by decide +kernel
theorem d_Pt_tell_115 : decode b_Pt_tell 115 = .ok (.getfield 39, 3) := by decide +kernel
theorem d_Pt_tell_118 : decode b_Pt_tell 118 = .ok (.invokevirtual 42, 3) := by decide +kernel
theorem d_Pt_tell_121 : decode b_Pt_tell 121 = .ok (.return_, 1) := by decide +kernel
set_option maxRecDepth 100000 in
set_option maxHeartbeats 4000000 in
theorem c_Pt_tell (l : Launch) (D : va_G) (ca : Nat → ClassId) (T : ty_e) (L : List Nat) (f0 : Nat → va_E) (sz : Nat) (hT : ok_T ca T L f0) {q0 : Int32 × Int32} (h0 : Nat) (t0 : T h0 = some (ty_pt q0)) {m1 : Nat} (x1 : Nat) (t1 : T x1 = some (ty_row m1)) (x2 : Int32) :
    Met l y_Pt_tell (Cond.code y_Pt_tell b_Pt_tell 3 none :: wg) { frames := 1, cells := 0, slots := 0, locals := 23 } (va_Pc [.ref h0, .ref x1, .int (x2)] (sm_P D cl_all (ty_s ca) ek L f0 sz)) (sm_Qv D (ty_s ca) L f0 sz (fun u => po_m ca T L u)) 0 0 (va_A (va_pl L f0) sz) := by
  refine sm_start (by decide) (Nat.le_of_ble_eq_true rfl) ?_
  intro p e s m below meth c ls hx hb hml hr hlk hnm hts hown hsz hE hI hl
  have hl : lv_has ls 3 [(0, .ref h0), (1, .ref x1), (2, .int (x2))] := hl
  refine lv_aload_n hx hb d_Pt_tell_0 rfl (lv_at hl 0 rfl) ?_
  refine fg_Pt_kind hx hb hts hown hI hT t0 (hts _ tw_520) (fun _ h9 => h9) d_Pt_tell_1 (fun h_1 => ?_)
  refine lv_iconst (v := 2) hx hb d_Pt_tell_4 (by decide) ?_
  refine lv_icmp_ge (tgt := 24) hx hb d_Pt_tell_5 (by decide) (fun c_2 => ?_) (fun c_2 => ?_)
  · refine lv_aload_n hx hb d_Pt_tell_24 rfl (lv_at hl 0 rfl) ?_
    refine fg_Pt_kind hx hb hts hown hI hT t0 (hts _ tw_520) (fun _ h9 => h9) d_Pt_tell_25 (fun h_3 => ?_)
    refine lv_iconst (v := 2) hx hb d_Pt_tell_28 (by decide) ?_
    refine lv_icmp_ne (tgt := 54) hx hb d_Pt_tell_29 (by decide) (fun c_4 => ?_) (fun c_4 => ?_)
    · refine lv_aload_n hx hb d_Pt_tell_54 rfl (lv_at hl 0 rfl) ?_
      refine fg_Pt_kind hx hb hts hown hI hT t0 (hts _ tw_520) (fun _ h9 => h9) d_Pt_tell_55 (fun h_5 => ?_)
      refine lv_bipush (v := 6) hx hb d_Pt_tell_58 (by decide) ?_
      refine lv_icmp_ne (tgt := 92) hx hb d_Pt_tell_60 (by decide) (fun c_6 => ?_) (fun c_6 => ?_)
      · refine lv_aload_n hx hb d_Pt_tell_92 rfl (lv_at hl 1 rfl) ?_
        refine lv_aload_n hx hb d_Pt_tell_93 rfl (lv_at hl 0 rfl) ?_
        refine fg_Pt_value hx hb hts hown hI hT t0 (hts _ tw_528) (fun _ h9 => h9) d_Pt_tell_94 (fun x_7 => ?_)
        refine lv_aload_n hx hb d_Pt_tell_97 rfl (lv_at hl 0 rfl) ?_
        refine fg_Pt_kind hx hb hts hown hI hT t0 (hts _ tw_520) (fun _ h9 => h9) d_Pt_tell_98 (fun h_8 => ?_)
        refine lv_iconst (v := 5) hx hb d_Pt_tell_101 (by decide) ?_
        refine lv_icmp_ne (tgt := 109) hx hb d_Pt_tell_102 (by decide) (fun c_9 => ?_) (fun c_9 => ?_)
        · refine lv_iconst (v := 2) hx hb d_Pt_tell_109 (by decide) ?_
          refine sm_v hI (va_runV (As := [.int (x_7), .int (2)]) (rest := []) ⟨hx, hb, hml, hown, hts⟩ (c_Br_putNumber l D ca _ _ _ _ hT x1 t1 x_7 (2) (by omega)) (kv_Br_putNumber hts rfl rfl (hts _ tw_629) ⟨Nat.le_of_ble_eq_true rfl, Nat.le_of_ble_eq_true rfl⟩) (pv_Br hI hE hT t1) rfl rfl hl.1 rfl (lv_room (Nat.le_of_ble_eq_true rfl)) d_Pt_tell_110 ⟨Nat.le_of_ble_eq_true rfl, Nat.le_of_ble_eq_true rfl⟩) (fun H locs f hI hT => ?_)
          refine lv_aload_n hx hb d_Pt_tell_113 rfl (lv_at hl 1 rfl) ?_
          refine lv_aload_n hx hb d_Pt_tell_114 rfl (lv_at hl 0 rfl) ?_
          refine fg_Pt_quality hx hb hts hown hI hT t0 (hts _ tw_530) (fun _ h9 => h9) d_Pt_tell_115 (fun x_10 => ?_)
          refine sm_v hI (va_runV (As := [.int (x_10)]) (rest := []) ⟨hx, hb, hml, hown, hts⟩ (c_Br_put l D ca _ _ _ _ hT x1 t1 x_10) (kv_Br_put hts rfl rfl (hts _ tw_625) ⟨Nat.le_of_ble_eq_true rfl, Nat.le_of_ble_eq_true rfl⟩) (pv_Br hI hE hT t1) rfl rfl hl.1 rfl (lv_room (Nat.le_of_ble_eq_true rfl)) d_Pt_tell_118 ⟨Nat.le_of_ble_eq_true rfl, Nat.le_of_ble_eq_true rfl⟩) (fun H locs f hI hT => ?_)
          exact sm_vret hx hb hr hlk hI ⟨rfl, hT⟩ d_Pt_tell_121
        · refine lv_iconst (v := 4) hx hb d_Pt_tell_105 (by decide) ?_
          refine lv_goto (tgt := 110) hx hb d_Pt_tell_106 (by decide) ?_
          refine sm_v hI (va_runV (As := [.int (x_7), .int (4)]) (rest := []) ⟨hx, hb, hml, hown, hts⟩ (c_Br_putNumber l D ca _ _ _ _ hT x1 t1 x_7 (4) (by omega)) (kv_Br_putNumber hts rfl rfl (hts _ tw_629) ⟨Nat.le_of_ble_eq_true rfl, Nat.le_of_ble_eq_true rfl⟩) (pv_Br hI hE hT t1) rfl rfl hl.1 rfl (lv_room (Nat.le_of_ble_eq_true rfl)) d_Pt_tell_110 ⟨Nat.le_of_ble_eq_true rfl, Nat.le_of_ble_eq_true rfl⟩) (fun H locs f hI hT => ?_)
          refine lv_aload_n hx hb d_Pt_tell_113 rfl (lv_at hl 1 rfl) ?_
          refine lv_aload_n hx hb d_Pt_tell_114 rfl (lv_at hl 0 rfl) ?_
          refine fg_Pt_quality hx hb hts hown hI hT t0 (hts _ tw_530) (fun _ h9 => h9) d_Pt_tell_115 (fun x_11 => ?_)
          refine sm_v hI (va_runV (As := [.int (x_11)]) (rest := []) ⟨hx, hb, hml, hown, hts⟩ (c_Br_put l D ca _ _ _ _ hT x1 t1 x_11) (kv_Br_put hts rfl rfl (hts _ tw_625) ⟨Nat.le_of_ble_eq_true rfl, Nat.le_of_ble_eq_true rfl⟩) (pv_Br hI hE hT t1) rfl rfl hl.1 rfl (lv_room (Nat.le_of_ble_eq_true rfl)) d_Pt_tell_118 ⟨Nat.le_of_ble_eq_true rfl, Nat.le_of_ble_eq_true rfl⟩) (fun H locs f hI hT => ?_)
          exact sm_vret hx hb hr hlk hI ⟨rfl, hT⟩ d_Pt_tell_121
      · refine lv_aload_n hx hb d_Pt_tell_63 rfl (lv_at hl 1 rfl) ?_
        refine lv_aload_n hx hb d_Pt_tell_64 rfl (lv_at hl 0 rfl) ?_
        refine fg_Pt_value hx hb hts hown hI hT t0 (hts _ tw_528) (fun _ h9 => h9) d_Pt_tell_65 (fun x_12 => ?_)
        refine lv_iconst (v := 4) hx hb d_Pt_tell_68 (by decide) ?_
        refine sm_v hI (va_runV (As := [.int (x_12), .int (4)]) (rest := []) ⟨hx, hb, hml, hown, hts⟩ (c_Br_putNumber l D ca _ _ _ _ hT x1 t1 x_12 (4) (by omega)) (kv_Br_putNumber hts rfl rfl (hts _ tw_629) ⟨Nat.le_of_ble_eq_true rfl, Nat.le_of_ble_eq_true rfl⟩) (pv_Br hI hE hT t1) rfl rfl hl.1 rfl (lv_room (Nat.le_of_ble_eq_true rfl)) d_Pt_tell_69 ⟨Nat.le_of_ble_eq_true rfl, Nat.le_of_ble_eq_true rfl⟩) (fun H locs f hI hT => ?_)
        refine lv_aload_n hx hb d_Pt_tell_72 rfl (lv_at hl 1 rfl) ?_
        refine lv_iload_n hx hb d_Pt_tell_73 rfl (lv_at hl 2 rfl) ?_
        refine lv_bipush (v := 31) hx hb d_Pt_tell_74 (by decide) ?_
        refine lv_iand hx hb d_Pt_tell_76 ?_
        refine lv_topi (fun x_13 e_14 => ?_)
        refine lv_aload_n hx hb d_Pt_tell_77 rfl (lv_at hl 0 rfl) ?_
        refine fg_Pt_quality hx hb hts hown hI hT t0 (hts _ tw_530) (fun _ h9 => h9) d_Pt_tell_78 (fun x_15 => ?_)
        refine lv_sipush (v := 128) hx hb d_Pt_tell_81 (by decide) ?_
        refine lv_iand hx hb d_Pt_tell_84 ?_
        refine lv_topi (fun x_16 e_17 => ?_)
        refine lv_ior hx hb d_Pt_tell_85 ?_
        refine lv_topi (fun x_18 e_19 => ?_)
        refine sm_v hI (va_runV (As := [.int (x_18)]) (rest := []) ⟨hx, hb, hml, hown, hts⟩ (c_Br_put l D ca _ _ _ _ hT x1 t1 x_18) (kv_Br_put hts rfl rfl (hts _ tw_625) ⟨Nat.le_of_ble_eq_true rfl, Nat.le_of_ble_eq_true rfl⟩) (pv_Br hI hE hT t1) rfl rfl hl.1 rfl (lv_room (Nat.le_of_ble_eq_true rfl)) d_Pt_tell_86 ⟨Nat.le_of_ble_eq_true rfl, Nat.le_of_ble_eq_true rfl⟩) (fun H locs f hI hT => ?_)
        refine lv_goto (tgt := 121) hx hb d_Pt_tell_89 (by decide) ?_
        exact sm_vret hx hb hr hlk hI ⟨rfl, hT⟩ d_Pt_tell_121
    · refine lv_aload_n hx hb d_Pt_tell_32 rfl (lv_at hl 1 rfl) ?_
      refine lv_aload_n hx hb d_Pt_tell_33 rfl (lv_at hl 0 rfl) ?_
      refine fg_Pt_value hx hb hts hown hI hT t0 (hts _ tw_528) (fun _ h9 => h9) d_Pt_tell_34 (fun x_20 => ?_)
      refine lv_bipush (v := 127) hx hb d_Pt_tell_37 (by decide) ?_
      refine lv_iand hx hb d_Pt_tell_39 ?_
      refine lv_topi (fun x_21 e_22 => ?_)
      refine sm_v hI (va_runV (As := [.int (x_21)]) (rest := []) ⟨hx, hb, hml, hown, hts⟩ (c_Br_put l D ca _ _ _ _ hT x1 t1 x_21) (kv_Br_put hts rfl rfl (hts _ tw_625) ⟨Nat.le_of_ble_eq_true rfl, Nat.le_of_ble_eq_true rfl⟩) (pv_Br hI hE hT t1) rfl rfl hl.1 rfl (lv_room (Nat.le_of_ble_eq_true rfl)) d_Pt_tell_40 ⟨Nat.le_of_ble_eq_true rfl, Nat.le_of_ble_eq_true rfl⟩) (fun H locs f hI hT => ?_)
      refine lv_aload_n hx hb d_Pt_tell_43 rfl (lv_at hl 1 rfl) ?_
      refine lv_aload_n hx hb d_Pt_tell_44 rfl (lv_at hl 0 rfl) ?_
      refine fg_Pt_quality hx hb hts hown hI hT t0 (hts _ tw_530) (fun _ h9 => h9) d_Pt_tell_45 (fun x_23 => ?_)
      refine sm_v hI (va_runV (As := [.int (x_23)]) (rest := []) ⟨hx, hb, hml, hown, hts⟩ (c_Br_put l D ca _ _ _ _ hT x1 t1 x_23) (kv_Br_put hts rfl rfl (hts _ tw_625) ⟨Nat.le_of_ble_eq_true rfl, Nat.le_of_ble_eq_true rfl⟩) (pv_Br hI hE hT t1) rfl rfl hl.1 rfl (lv_room (Nat.le_of_ble_eq_true rfl)) d_Pt_tell_48 ⟨Nat.le_of_ble_eq_true rfl, Nat.le_of_ble_eq_true rfl⟩) (fun H locs f hI hT => ?_)
      refine lv_goto (tgt := 121) hx hb d_Pt_tell_51 (by decide) ?_
      exact sm_vret hx hb hr hlk hI ⟨rfl, hT⟩ d_Pt_tell_121
  · refine lv_aload_n hx hb d_Pt_tell_8 rfl (lv_at hl 1 rfl) ?_
    refine lv_aload_n hx hb d_Pt_tell_9 rfl (lv_at hl 0 rfl) ?_
    refine fg_Pt_value hx hb hts hown hI hT t0 (hts _ tw_528) (fun _ h9 => h9) d_Pt_tell_10 (fun x_24 => ?_)
    refine lv_aload_n hx hb d_Pt_tell_13 rfl (lv_at hl 0 rfl) ?_
    refine fg_Pt_quality hx hb hts hown hI hT t0 (hts _ tw_530) (fun _ h9 => h9) d_Pt_tell_14 (fun x_25 => ?_)
    refine lv_ior hx hb d_Pt_tell_17 ?_
    refine lv_topi (fun x_26 e_27 => ?_)
    refine sm_v hI (va_runV (As := [.int (x_26)]) (rest := []) ⟨hx, hb, hml, hown, hts⟩ (c_Br_put l D ca _ _ _ _ hT x1 t1 x_26) (kv_Br_put hts rfl rfl (hts _ tw_625) ⟨Nat.le_of_ble_eq_true rfl, Nat.le_of_ble_eq_true rfl⟩) (pv_Br hI hE hT t1) rfl rfl hl.1 rfl (lv_room (Nat.le_of_ble_eq_true rfl)) d_Pt_tell_18 ⟨Nat.le_of_ble_eq_true rfl, Nat.le_of_ble_eq_true rfl⟩) (fun H locs f hI hT => ?_)
    refine lv_goto (tgt := 121) hx hb d_Pt_tell_21 (by decide) ?_
    exact sm_vret hx hb hr hlk hI ⟨rfl, hT⟩ d_Pt_tell_121
theorem d_Po_isLeap_0 : decode b_Po_isLeap 0 = .ok (.iload_n 0, 1) := by decide +kernel
theorem d_Po_isLeap_1 : decode b_Po_isLeap 1 = .ok (.iconst 4, 1) := by decide +kernel
theorem d_Po_isLeap_2 : decode b_Po_isLeap 2 = .ok (.irem, 1) := by decide +kernel
theorem d_Po_isLeap_3 : decode b_Po_isLeap 3 = .ok (.ifCond .ne 22, 3) := by decide +kernel
theorem d_Po_isLeap_6 : decode b_Po_isLeap 6 = .ok (.iload_n 0, 1) := by decide +kernel
theorem d_Po_isLeap_7 : decode b_Po_isLeap 7 = .ok (.bipush 100, 2) := by decide +kernel
theorem d_Po_isLeap_9 : decode b_Po_isLeap 9 = .ok (.irem, 1) := by decide +kernel
theorem d_Po_isLeap_10 : decode b_Po_isLeap 10 = .ok (.ifCond .ne 11, 3) := by decide +kernel
theorem d_Po_isLeap_13 : decode b_Po_isLeap 13 = .ok (.iload_n 0, 1) := by decide +kernel
theorem d_Po_isLeap_14 : decode b_Po_isLeap 14 = .ok (.sipush 400, 3) := by decide +kernel
theorem d_Po_isLeap_17 : decode b_Po_isLeap 17 = .ok (.irem, 1) := by decide +kernel
theorem d_Po_isLeap_18 : decode b_Po_isLeap 18 = .ok (.ifCond .ne 7, 3) := by decide +kernel
theorem d_Po_isLeap_21 : decode b_Po_isLeap 21 = .ok (.iconst 1, 1) := by decide +kernel
theorem d_Po_isLeap_22 : decode b_Po_isLeap 22 = .ok (.goto 4, 3) := by decide +kernel
theorem d_Po_isLeap_25 : decode b_Po_isLeap 25 = .ok (.iconst 0, 1) := by decide +kernel
theorem d_Po_isLeap_26 : decode b_Po_isLeap 26 = .ok (.ireturn, 1) := by decide +kernel
set_option maxRecDepth 100000 in
set_option maxHeartbeats 4000000 in
theorem c_Po_isLeap (l : Launch) (D : va_G) (ca : Nat → ClassId) (T : ty_e) (L : List Nat) (f0 : Nat → va_E) (sz : Nat) (hT : ok_T ca T L f0) (x1 : Int32) :
    Met l y_Po_isLeap (Cond.code y_Po_isLeap b_Po_isLeap 1 (some .boolean) :: wg) { frames := 0, cells := 0, slots := 0, locals := 0 } (va_Pc [.int (x1)] (sm_P D cl_all (ty_s ca) ek L f0 sz)) (sm_Qi D (ty_s ca) L f0 sz (fun r u => (r = 0 ∨ r = 1) ∧ u = (L, f0))) 0 0 (va_A (va_pl L f0) sz) := by
  refine sm_start (by decide) (Nat.le_of_ble_eq_true rfl) ?_
  intro p e s m below meth c ls hx hb hml hr hlk hnm hts hown hsz hE hI hl
  have hl : lv_has ls 1 [(0, .int (x1))] := hl
  refine lv_iload_n hx hb d_Po_isLeap_0 rfl (lv_at hl 0 rfl) ?_
  refine lv_iconst (v := 4) hx hb d_Po_isLeap_1 (by decide) ?_
  refine lv_irem hx hb d_Po_isLeap_2 (by decide) ?_
  refine lv_topi (fun x_1 e_2 => ?_)
  refine lv_if_ne (tgt := 25) hx hb d_Po_isLeap_3 (by decide) (fun c_3 => ?_) (fun c_3 => ?_)
  · refine lv_iconst (v := 0) hx hb d_Po_isLeap_25 (by decide) ?_
    exact sm_zret hx hb hr hlk hI (by decide) ⟨(by decide), rfl⟩ d_Po_isLeap_26
  · refine lv_iload_n hx hb d_Po_isLeap_6 rfl (lv_at hl 0 rfl) ?_
    refine lv_bipush (v := 100) hx hb d_Po_isLeap_7 (by decide) ?_
    refine lv_irem hx hb d_Po_isLeap_9 (by decide) ?_
    refine lv_topi (fun x_4 e_5 => ?_)
    refine lv_if_ne (tgt := 21) hx hb d_Po_isLeap_10 (by decide) (fun c_6 => ?_) (fun c_6 => ?_)
    · refine lv_iconst (v := 1) hx hb d_Po_isLeap_21 (by decide) ?_
      refine lv_goto (tgt := 26) hx hb d_Po_isLeap_22 (by decide) ?_
      exact sm_zret hx hb hr hlk hI (by decide) ⟨(by decide), rfl⟩ d_Po_isLeap_26
    · refine lv_iload_n hx hb d_Po_isLeap_13 rfl (lv_at hl 0 rfl) ?_
      refine lv_sipush (v := 400) hx hb d_Po_isLeap_14 (by decide) ?_
      refine lv_irem hx hb d_Po_isLeap_17 (by decide) ?_
      refine lv_topi (fun x_7 e_8 => ?_)
      refine lv_if_ne (tgt := 25) hx hb d_Po_isLeap_18 (by decide) (fun c_9 => ?_) (fun c_9 => ?_)
      · refine lv_iconst (v := 0) hx hb d_Po_isLeap_25 (by decide) ?_
        exact sm_zret hx hb hr hlk hI (by decide) ⟨(by decide), rfl⟩ d_Po_isLeap_26
      · refine lv_iconst (v := 1) hx hb d_Po_isLeap_21 (by decide) ?_
        refine lv_goto (tgt := 26) hx hb d_Po_isLeap_22 (by decide) ?_
        exact sm_zret hx hb hr hlk hI (by decide) ⟨(by decide), rfl⟩ d_Po_isLeap_26
theorem d_Po_daysOfYear_0 : decode b_Po_daysOfYear 0 = .ok (.iload_n 0, 1) := by decide +kernel
theorem d_Po_daysOfYear_1 : decode b_Po_daysOfYear 1 = .ok (.invokestatic 684, 3) := by decide +kernel
theorem d_Po_daysOfYear_4 : decode b_Po_daysOfYear 4 = .ok (.ifCond .eq 9, 3) := by decide +kernel
theorem d_Po_daysOfYear_7 : decode b_Po_daysOfYear 7 = .ok (.sipush 366, 3) := by decide +kernel
theorem d_Po_daysOfYear_10 : decode b_Po_daysOfYear 10 = .ok (.goto 6, 3) := by decide +kernel
theorem d_Po_daysOfYear_13 : decode b_Po_daysOfYear 13 = .ok (.sipush 365, 3) := by decide +kernel
theorem d_Po_daysOfYear_16 : decode b_Po_daysOfYear 16 = .ok (.ireturn, 1) := by decide +kernel
set_option maxRecDepth 100000 in
set_option maxHeartbeats 4000000 in
theorem c_Po_daysOfYear (l : Launch) (D : va_G) (ca : Nat → ClassId) (T : ty_e) (L : List Nat) (f0 : Nat → va_E) (sz : Nat) (hT : ok_T ca T L f0) (x1 : Int32) :
    Met l y_Po_daysOfYear (Cond.code y_Po_daysOfYear b_Po_daysOfYear 1 (some .int) :: wg) { frames := 1, cells := 0, slots := 0, locals := 20 } (va_Pc [.int (x1)] (sm_P D cl_all (ty_s ca) ek L f0 sz)) (sm_Qi D (ty_s ca) L f0 sz (fun r u => (True) ∧ u = (L, f0))) 0 0 (va_A (va_pl L f0) sz) := by
  refine sm_start (by decide) (Nat.le_of_ble_eq_true rfl) ?_
  intro p e s m below meth c ls hx hb hml hr hlk hnm hts hown hsz hE hI hl
  have hl : lv_has ls 1 [(0, .int (x1))] := hl
  refine lv_iload_n hx hb d_Po_daysOfYear_0 rfl (lv_at hl 0 rfl) ?_
  refine sm_iP hI (va_runS (As := [.int (x1)]) (rest := []) ⟨hx, hb, hml, hown, hts⟩ (c_Po_isLeap l D ca _ _ _ _ hT x1) (ks_Po_isLeap hts rfl rfl (hts _ tw_641) ⟨Nat.le_of_ble_eq_true rfl, Nat.le_of_ble_eq_true rfl⟩) (sm_preS hI hE) rfl rfl hl.1 rfl (lv_room (Nat.le_of_ble_eq_true rfl)) d_Po_daysOfYear_1 ⟨Nat.le_of_ble_eq_true rfl, Nat.le_of_ble_eq_true rfl⟩) (fun x_1 H locs p_2 hI => ?_)
  refine lv_if_eq (tgt := 13) hx hb d_Po_daysOfYear_4 (by decide) (fun c_3 => ?_) (fun c_3 => ?_)
  · refine lv_sipush (v := 365) hx hb d_Po_daysOfYear_13 (by decide) ?_
    exact sm_iret hx hb hr hlk hI ⟨trivial, rfl⟩ d_Po_daysOfYear_16
  · refine lv_sipush (v := 366) hx hb d_Po_daysOfYear_7 (by decide) ?_
    refine lv_goto (tgt := 16) hx hb d_Po_daysOfYear_10 (by decide) ?_
    exact sm_iret hx hb hr hlk hI ⟨trivial, rfl⟩ d_Po_daysOfYear_16
theorem d_Po_tellEvent_0 : decode b_Po_tellEvent 0 = .ok (.aload_n 0, 1) := by decide +kernel
theorem d_Po_tellEvent_1 : decode b_Po_tellEvent 1 = .ok (.invokevirtual 127, 3) := by decide +kernel
theorem d_Po_tellEvent_4 : decode b_Po_tellEvent 4 = .ok (.aload_n 1, 1) := by decide +kernel
theorem d_Po_tellEvent_5 : decode b_Po_tellEvent 5 = .ok (.getfield 246, 3) := by decide +kernel
theorem d_Po_tellEvent_8 : decode b_Po_tellEvent 8 = .ok (.if_icmp .ne 13, 3) := by decide +kernel
theorem d_Po_tellEvent_11 : decode b_Po_tellEvent 11 = .ok (.aload_n 0, 1) := by decide +kernel
theorem d_Po_tellEvent_12 : decode b_Po_tellEvent 12 = .ok (.getfield 31, 3) := by decide +kernel
theorem d_Po_tellEvent_15 : decode b_Po_tellEvent 15 = .ok (.invokevirtual 457, 3) := by decide +kernel
theorem d_Po_tellEvent_18 : decode b_Po_tellEvent 18 = .ok (.goto 4, 3) := by decide +kernel
theorem d_Po_tellEvent_21 : decode b_Po_tellEvent 21 = .ok (.aconst_null, 1) := by decide +kernel
theorem d_Po_tellEvent_22 : decode b_Po_tellEvent 22 = .ok (.astore_n 3, 1) := by decide +kernel
theorem d_Po_tellEvent_23 : decode b_Po_tellEvent 23 = .ok (.aload_n 3, 1) := by decide +kernel
theorem d_Po_tellEvent_24 : decode b_Po_tellEvent 24 = .ok (.ifnonnull 5, 3) := by decide +kernel
theorem d_Po_tellEvent_27 : decode b_Po_tellEvent 27 = .ok (.iconst 0, 1) := by decide +kernel
theorem d_Po_tellEvent_28 : decode b_Po_tellEvent 28 = .ok (.ireturn, 1) := by decide +kernel
theorem d_Po_tellEvent_29 : decode b_Po_tellEvent 29 = .ok (.aload_n 3, 1) := by decide +kernel
theorem d_Po_tellEvent_30 : decode b_Po_tellEvent 30 = .ok (.aload_n 1, 1) := by decide +kernel
theorem d_Po_tellEvent_31 : decode b_Po_tellEvent 31 = .ok (.getfield 246, 3) := by decide +kernel
theorem d_Po_tellEvent_34 : decode b_Po_tellEvent 34 = .ok (.putfield 460, 3) := by decide +kernel
theorem d_Po_tellEvent_37 : decode b_Po_tellEvent 37 = .ok (.aload_n 3, 1) := by decide +kernel
theorem d_Po_tellEvent_38 : decode b_Po_tellEvent 38 = .ok (.iload_n 2, 1) := by decide +kernel
theorem d_Po_tellEvent_39 : decode b_Po_tellEvent 39 = .ok (.putfield 461, 3) := by decide +kernel
theorem d_Po_tellEvent_42 : decode b_Po_tellEvent 42 = .ok (.aload_n 0, 1) := by decide +kernel
theorem d_Po_tellEvent_43 : decode b_Po_tellEvent 43 = .ok (.aload_n 1, 1) := by decide +kernel
theorem d_Po_tellEvent_44 : decode b_Po_tellEvent 44 = .ok (.aload_n 3, 1) := by decide +kernel
theorem d_Po_tellEvent_45 : decode b_Po_tellEvent 45 = .ok (.getfield 321, 3) := by decide +kernel
theorem d_Po_tellEvent_48 : decode b_Po_tellEvent 48 = .ok (.iconst 3, 1) := by decide +kernel
theorem d_Po_tellEvent_49 : decode b_Po_tellEvent 49 = .ok (.iconst 0, 1) := by decide +kernel
theorem d_Po_tellEvent_50 : decode b_Po_tellEvent 50 = .ok (.invokevirtual 463, 3) := by decide +kernel
theorem d_Po_tellEvent_53 : decode b_Po_tellEvent 53 = .ok (.aload_n 0, 1) := by decide +kernel
theorem d_Po_tellEvent_54 : decode b_Po_tellEvent 54 = .ok (.getfield 57, 3) := by decide +kernel
theorem d_Po_tellEvent_57 : decode b_Po_tellEvent 57 = .ok (.aload_n 3, 1) := by decide +kernel
theorem d_Po_tellEvent_58 : decode b_Po_tellEvent 58 = .ok (.getfield 326, 3) := by decide +kernel
theorem d_Po_tellEvent_61 : decode b_Po_tellEvent 61 = .ok (.aload_n 1, 1) := by decide +kernel
theorem d_Po_tellEvent_62 : decode b_Po_tellEvent 62 = .ok (.getfield 467, 3) := by decide +kernel
theorem d_Po_tellEvent_65 : decode b_Po_tellEvent 65 = .ok (.invokevirtual 425, 3) := by decide +kernel
theorem d_Po_tellEvent_68 : decode b_Po_tellEvent 68 = .ok (.aload_n 0, 1) := by decide +kernel
theorem d_Po_tellEvent_69 : decode b_Po_tellEvent 69 = .ok (.getfield 57, 3) := by decide +kernel
theorem d_Po_tellEvent_72 : decode b_Po_tellEvent 72 = .ok (.aload_n 3, 1) := by decide +kernel
theorem d_Po_tellEvent_73 : decode b_Po_tellEvent 73 = .ok (.getfield 327, 3) := by decide +kernel
theorem d_Po_tellEvent_76 : decode b_Po_tellEvent 76 = .ok (.invokevirtual 451, 3) := by decide +kernel
theorem d_Po_tellEvent_79 : decode b_Po_tellEvent 79 = .ok (.iconst 1, 1) := by decide +kernel
theorem d_Po_tellEvent_80 : decode b_Po_tellEvent 80 = .ok (.ireturn, 1) := by decide +kernel
set_option maxRecDepth 100000 in
set_option maxHeartbeats 4000000 in
theorem c_Po_tellEvent (l : Launch) (D : va_G) (ca : Nat → ClassId) (T : ty_e) (L : List Nat) (f0 : Nat → va_E) (sz : Nat) (hT : ok_T ca T L f0) {g0 : List (Int32 × Int32)} (h0 : Nat) (t0 : T h0 = some (ty_po g0)) (x1 : Nat) (t1 : is_li T x1) (x2 : Int32) :
    Met l y_Po_tellEvent (Cond.code y_Po_tellEvent b_Po_tellEvent 4 (some .boolean) :: wg) { frames := 2, cells := 0, slots := 0, locals := 47 } (va_Pc [.ref h0, .ref x1, .int (x2)] (sm_P D cl_all (ty_s ca) ek L f0 sz)) (sm_Qi D (ty_s ca) L f0 sz (fun r u => (r = 0 ∨ r = 1) ∧ po_m ca T L u)) 0 0 (va_A (va_pl L f0) sz) := by
  refine sm_start (by decide) (Nat.le_of_ble_eq_true rfl) ?_
  intro p e s m below meth c ls hx hb hml hr hlk hnm hts hown hsz hE hI hl
  have hl : lv_has ls 4 [(0, .ref h0), (1, .ref x1), (2, .int (x2))] := hl
  refine lv_aload_n hx hb d_Po_tellEvent_0 rfl (lv_at hl 0 rfl) ?_
  refine sm_iP hI (va_runV (As := []) (rest := []) ⟨hx, hb, hml, hown, hts⟩ (c_Po_activeLine l D ca _ _ _ _ hT h0 t0) (kv_Po_activeLine hts rfl rfl (hts _ tw_653) ⟨Nat.le_of_ble_eq_true rfl, Nat.le_of_ble_eq_true rfl⟩) (pv_Po hI hE hT t0) rfl rfl hl.1 rfl (lv_room (Nat.le_of_ble_eq_true rfl)) d_Po_tellEvent_1 ⟨Nat.le_of_ble_eq_true rfl, Nat.le_of_ble_eq_true rfl⟩) (fun x_1 H locs p_2 hI => ?_)
  refine lv_aload_n hx hb d_Po_tellEvent_4 rfl (lv_at hl 1 rfl) ?_
  refine fg_Li_index hx hb hts hown hI hT t1 (hts _ tw_120) (fun _ h9 => h9) d_Po_tellEvent_5 (fun n_3 h_5 => ?_)
  have h_4 := li_le h_5
  refine lv_icmp_ne (tgt := 21) hx hb d_Po_tellEvent_8 (by decide) (fun c_6 => ?_) (fun c_6 => ?_)
  · refine lv_null hx hb d_Po_tellEvent_21 ?_
    refine lv_astore_nN (lv' := [(3, .null), (0, .ref h0), (1, .ref x1), (2, .int (x2))]) hx hb d_Po_tellEvent_22 rfl hl (by decide) rfl (fun ls hl => ?_)
    refine lv_aload_nN hx hb d_Po_tellEvent_23 rfl (lv_at hl 0 rfl) ?_
    refine lv_ifnonnullN hx hb d_Po_tellEvent_24 ?_
    refine lv_iconst (v := 0) hx hb d_Po_tellEvent_27 (by decide) ?_
    exact sm_zret hx hb hr hlk hI (by decide) ⟨(by decide), ⟨rfl, hT⟩⟩ d_Po_tellEvent_28
  · refine lv_aload_n hx hb d_Po_tellEvent_11 rfl (lv_at hl 0 rfl) ?_
    refine fg_Po_events hx hb hts hown hI hT t0 (hts _ tw_367) (fun _ h9 => h9) d_Po_tellEvent_12 (fun r_7 t_8 => ?_)
    refine sm_qP hI (va_runV (As := []) (rest := []) ⟨hx, hb, hml, hown, hts⟩ (c_Es_firstUnsent l D ca _ _ _ _ hT r_7 t_8) (kv_Es_firstUnsent hts rfl rfl (hts _ tw_730) ⟨Nat.le_of_ble_eq_true rfl, Nat.le_of_ble_eq_true rfl⟩) (pv_Es hI hE hT t_8) rfl rfl hl.1 rfl (lv_room (Nat.le_of_ble_eq_true rfl)) d_Po_tellEvent_15 ⟨Nat.le_of_ble_eq_true rfl, Nat.le_of_ble_eq_true rfl⟩) (fun o_9 H locs p_10 hI => ?_)
    rcases o_9 with _ | r_11
    · refine lv_goto (tgt := 22) hx hb d_Po_tellEvent_18 (by decide) ?_
      refine lv_astore_nN (lv' := [(3, .null), (0, .ref h0), (1, .ref x1), (2, .int (x2))]) hx hb d_Po_tellEvent_22 rfl hl (by decide) rfl (fun ls hl => ?_)
      refine lv_aload_nN hx hb d_Po_tellEvent_23 rfl (lv_at hl 0 rfl) ?_
      refine lv_ifnonnullN hx hb d_Po_tellEvent_24 ?_
      refine lv_iconst (v := 0) hx hb d_Po_tellEvent_27 (by decide) ?_
      exact sm_zret hx hb hr hlk hI (by decide) ⟨(by decide), ⟨rfl, hT⟩⟩ d_Po_tellEvent_28
    · have t_12 := p_10 r_11 rfl
      refine lv_goto (tgt := 22) hx hb d_Po_tellEvent_18 (by decide) ?_
      refine lv_astore_n (lv' := [(3, .ref r_11), (0, .ref h0), (1, .ref x1), (2, .int (x2))]) hx hb d_Po_tellEvent_22 rfl hl (by decide) rfl (fun ls hl => ?_)
      refine lv_aload_n hx hb d_Po_tellEvent_23 rfl (lv_at hl 0 rfl) ?_
      refine lv_ifnonnull (tgt := 29) hx hb d_Po_tellEvent_24 (by decide) ?_
      refine lv_aload_n hx hb d_Po_tellEvent_29 rfl (lv_at hl 0 rfl) ?_
      refine lv_aload_n hx hb d_Po_tellEvent_30 rfl (lv_at hl 2 rfl) ?_
      refine fg_Li_index hx hb hts hown hI hT t1 (hts _ tw_120) (fun _ h9 => h9) d_Po_tellEvent_31 (fun n_13 h_15 => ?_)
      obtain rfl := li_un h_5 h_15
      refine fpN_Ev_line hx hb hts hown hI hT t_12 (va_Nw.use rfl (hE.1 _ tn_223 rfl)) (fun _ h9 => h9) d_Po_tellEvent_34 (fun H locs f hI hT => ?_)
      refine lv_aload_n hx hb d_Po_tellEvent_37 rfl (lv_at hl 0 rfl) ?_
      refine lv_iload_n hx hb d_Po_tellEvent_38 rfl (lv_at hl 3 rfl) ?_
      refine fpN_Ev_number hx hb hts hown hI hT t_12 (va_Nw.use rfl (hE.1 _ tn_225 rfl)) (fun _ h9 => h9) d_Po_tellEvent_39 (fun H locs f hI hT => ?_)
      refine lv_aload_n hx hb d_Po_tellEvent_42 rfl (lv_at hl 1 rfl) ?_
      refine lv_aload_n hx hb d_Po_tellEvent_43 rfl (lv_at hl 2 rfl) ?_
      refine lv_aload_n hx hb d_Po_tellEvent_44 rfl (lv_at hl 0 rfl) ?_
      refine fgN_Ev_type hx hb hts hown hI hT t_12 (va_Nw.use rfl (hE.1 _ tn_217 rfl)) (fun _ h9 => h9) d_Po_tellEvent_45 (fun x_16 => ?_)
      refine lv_iconst (v := 3) hx hb d_Po_tellEvent_48 (by decide) ?_
      refine lv_iconst (v := 0) hx hb d_Po_tellEvent_49 (by decide) ?_
      refine sm_v hI (va_runV (As := [.ref x1, .int (x_16), .int (3), .int (0)]) (rest := []) ⟨hx, hb, hml, hown, hts⟩ (c_Po_putHead l D ca _ _ _ _ hT h0 t0 x1 t1 x_16 3 0) (kv_Po_putHead hts rfl rfl (hts _ tw_709) ⟨Nat.le_of_ble_eq_true rfl, Nat.le_of_ble_eq_true rfl⟩) (pv_Po hI hE hT t0) rfl rfl hl.1 rfl (lv_room (Nat.le_of_ble_eq_true rfl)) d_Po_tellEvent_50 ⟨Nat.le_of_ble_eq_true rfl, Nat.le_of_ble_eq_true rfl⟩) (fun H locs f hI hT => ?_)
      refine lv_aload_n hx hb d_Po_tellEvent_53 rfl (lv_at hl 1 rfl) ?_
      refine fg_Po_told hx hb hts hown hI hT t0 (hts _ tw_376) (fun _ h9 => h9) d_Po_tellEvent_54 (fun r_17 t_18 => ?_)
      refine lv_aload_n hx hb d_Po_tellEvent_57 rfl (lv_at hl 0 rfl) ?_
      refine fgN_Ev_address hx hb hts hown hI hT t_12 (va_Nw.use rfl (hE.1 _ tn_218 rfl)) (fun _ h9 => h9) d_Po_tellEvent_58 (fun x_19 => ?_)
      refine lv_aload_n hx hb d_Po_tellEvent_61 rfl (lv_at hl 2 rfl) ?_
      refine fg_Li_objectSize hx hb hts hown hI hT t1 (hts _ tw_162) (fun _ h9 => h9) d_Po_tellEvent_62 (fun n_20 h_21 => ?_)
      refine sm_v hI (va_runV (As := [.int (x_19), .int (nI n_20)]) (rest := []) ⟨hx, hb, hml, hown, hts⟩ (c_Br_putNumber l D ca _ _ _ _ hT r_17 t_18 x_19 (n_20) (by omega)) (kv_Br_putNumber hts rfl rfl (hts _ tw_650) ⟨Nat.le_of_ble_eq_true rfl, Nat.le_of_ble_eq_true rfl⟩) (pv_Br hI hE hT t_18) rfl rfl hl.1 rfl (lv_room (Nat.le_of_ble_eq_true rfl)) d_Po_tellEvent_65 ⟨Nat.le_of_ble_eq_true rfl, Nat.le_of_ble_eq_true rfl⟩) (fun H locs f hI hT => ?_)
      refine lv_aload_n hx hb d_Po_tellEvent_68 rfl (lv_at hl 1 rfl) ?_
      refine fg_Po_told hx hb hts hown hI hT t0 (hts _ tw_376) (fun _ h9 => h9) d_Po_tellEvent_69 (fun r_22 t_23 => ?_)
      refine lv_aload_n hx hb d_Po_tellEvent_72 rfl (lv_at hl 0 rfl) ?_
      refine fgN_Ev_body hx hb hts hown hI hT t_12 (va_Nw.use rfl (hE.1 _ tn_221 rfl)) (fun _ h9 => h9) d_Po_tellEvent_73 (fun r_24 t_25 => ?_)
      refine sm_v hI (va_runV (As := [.ref r_24]) (rest := []) ⟨hx, hb, hml, hown, hts⟩ (c_Br_append l D ca _ _ _ _ hT r_22 t_23 r_24 t_25) (kv_Br_append hts rfl rfl (hts _ tw_734) ⟨Nat.le_of_ble_eq_true rfl, Nat.le_of_ble_eq_true rfl⟩) (pv_Br hI hE hT t_23) rfl rfl hl.1 rfl (lv_room (Nat.le_of_ble_eq_true rfl)) d_Po_tellEvent_76 ⟨Nat.le_of_ble_eq_true rfl, Nat.le_of_ble_eq_true rfl⟩) (fun H locs f hI hT => ?_)
      refine lv_iconst (v := 1) hx hb d_Po_tellEvent_79 (by decide) ?_
      exact sm_zret hx hb hr hlk hI (by decide) ⟨(by decide), ⟨rfl, hT⟩⟩ d_Po_tellEvent_80
theorem d_Po_sendTold_0 : decode b_Po_sendTold 0 = .ok (.aload_n 1, 1) := by decide +kernel
theorem d_Po_sendTold_1 : decode b_Po_sendTold 1 = .ok (.getfield 424, 3) := by decide +kernel
theorem d_Po_sendTold_4 : decode b_Po_sendTold 4 = .ok (.bipush 104, 2) := by decide +kernel
theorem d_Po_sendTold_6 : decode b_Po_sendTold 6 = .ok (.invokevirtual 182, 3) := by decide +kernel
theorem d_Po_sendTold_9 : decode b_Po_sendTold 9 = .ok (.aload_n 1, 1) := by decide +kernel
theorem d_Po_sendTold_10 : decode b_Po_sendTold 10 = .ok (.getfield 424, 3) := by decide +kernel
theorem d_Po_sendTold_13 : decode b_Po_sendTold 13 = .ok (.aload_n 0, 1) := by decide +kernel
theorem d_Po_sendTold_14 : decode b_Po_sendTold 14 = .ok (.getfield 57, 3) := by decide +kernel
theorem d_Po_sendTold_17 : decode b_Po_sendTold 17 = .ok (.getfield 207, 3) := by decide +kernel
theorem d_Po_sendTold_20 : decode b_Po_sendTold 20 = .ok (.iconst 4, 1) := by decide +kernel
theorem d_Po_sendTold_21 : decode b_Po_sendTold 21 = .ok (.iadd, 1) := by decide +kernel
theorem d_Po_sendTold_22 : decode b_Po_sendTold 22 = .ok (.invokevirtual 182, 3) := by decide +kernel
theorem d_Po_sendTold_25 : decode b_Po_sendTold 25 = .ok (.aload_n 1, 1) := by decide +kernel
theorem d_Po_sendTold_26 : decode b_Po_sendTold 26 = .ok (.getfield 424, 3) := by decide +kernel
theorem d_Po_sendTold_29 : decode b_Po_sendTold 29 = .ok (.iconst 2, 1) := by decide +kernel
theorem d_Po_sendTold_30 : decode b_Po_sendTold 30 = .ok (.aload_n 1, 1) := by decide +kernel
theorem d_Po_sendTold_31 : decode b_Po_sendTold 31 = .ok (.getfield 441, 3) := by decide +kernel
theorem d_Po_sendTold_34 : decode b_Po_sendTold 34 = .ok (.imul, 1) := by decide +kernel
theorem d_Po_sendTold_35 : decode b_Po_sendTold 35 = .ok (.iconst 2, 1) := by decide +kernel
theorem d_Po_sendTold_36 : decode b_Po_sendTold 36 = .ok (.invokevirtual 425, 3) := by decide +kernel
theorem d_Po_sendTold_39 : decode b_Po_sendTold 39 = .ok (.aload_n 1, 1) := by decide +kernel
theorem d_Po_sendTold_40 : decode b_Po_sendTold 40 = .ok (.getfield 424, 3) := by decide +kernel
theorem d_Po_sendTold_43 : decode b_Po_sendTold 43 = .ok (.iconst 2, 1) := by decide +kernel
theorem d_Po_sendTold_44 : decode b_Po_sendTold 44 = .ok (.aload_n 1, 1) := by decide +kernel
theorem d_Po_sendTold_45 : decode b_Po_sendTold 45 = .ok (.getfield 421, 3) := by decide +kernel
theorem d_Po_sendTold_48 : decode b_Po_sendTold 48 = .ok (.imul, 1) := by decide +kernel
theorem d_Po_sendTold_49 : decode b_Po_sendTold 49 = .ok (.iconst 2, 1) := by decide +kernel
theorem d_Po_sendTold_50 : decode b_Po_sendTold 50 = .ok (.invokevirtual 425, 3) := by decide +kernel
theorem d_Po_sendTold_53 : decode b_Po_sendTold 53 = .ok (.aload_n 1, 1) := by decide +kernel
theorem d_Po_sendTold_54 : decode b_Po_sendTold 54 = .ok (.getfield 424, 3) := by decide +kernel
theorem d_Po_sendTold_57 : decode b_Po_sendTold 57 = .ok (.aload_n 0, 1) := by decide +kernel
theorem d_Po_sendTold_58 : decode b_Po_sendTold 58 = .ok (.getfield 57, 3) := by decide +kernel
theorem d_Po_sendTold_61 : decode b_Po_sendTold 61 = .ok (.invokevirtual 451, 3) := by decide +kernel
theorem d_Po_sendTold_64 : decode b_Po_sendTold 64 = .ok (.aload_n 1, 1) := by decide +kernel
theorem d_Po_sendTold_65 : decode b_Po_sendTold 65 = .ok (.aload_n 0, 1) := by decide +kernel
theorem d_Po_sendTold_66 : decode b_Po_sendTold 66 = .ok (.getfield 147, 3) := by decide +kernel
theorem d_Po_sendTold_69 : decode b_Po_sendTold 69 = .ok (.invokevirtual 454, 3) := by decide +kernel
theorem d_Po_sendTold_72 : decode b_Po_sendTold 72 = .ok (.return_, 1) := by decide +kernel
set_option maxRecDepth 100000 in
set_option maxHeartbeats 4000000 in
theorem c_Po_sendTold (l : Launch) (D : va_G) (ca : Nat → ClassId) (T : ty_e) (L : List Nat) (f0 : Nat → va_E) (sz : Nat) (hT : ok_T ca T L f0) {g0 : List (Int32 × Int32)} (h0 : Nat) (t0 : T h0 = some (ty_po g0)) {k1 : Nat} (x1 : Nat) (t1 : T x1 = some (ty_cn k1)) :
    Met l y_Po_sendTold (Cond.code y_Po_sendTold b_Po_sendTold 2 none :: wg) { frames := 2, cells := 0, slots := 0, locals := 43 } (va_Pc [.ref h0, .ref x1] (sm_P D cl_all (ty_s ca) ek L f0 sz)) (sm_Qv D (ty_s ca) L f0 sz (fun u => po_m ca T L u)) 0 0 (va_A (va_pl L f0) sz) := by
  refine sm_start (by decide) (Nat.le_of_ble_eq_true rfl) ?_
  intro p e s m below meth c ls hx hb hml hr hlk hnm hts hown hsz hE hI hl
  have hl : lv_has ls 2 [(0, .ref h0), (1, .ref x1)] := hl
  refine lv_aload_n hx hb d_Po_sendTold_0 rfl (lv_at hl 1 rfl) ?_
  refine fg_Cn_waiting hx hb hts hown hI hT t1 (hts _ tw_129) (fun x9 h9 => u_same (hts _ tw_126) x9 h9) d_Po_sendTold_1 (fun r_1 t_2 => ?_)
  refine lv_bipush (v := 104) hx hb d_Po_sendTold_4 (by decide) ?_
  refine sm_v hI (va_runV (As := [.int (104)]) (rest := []) ⟨hx, hb, hml, hown, hts⟩ (c_Br_put l D ca _ _ _ _ hT r_1 t_2 104) (kv_Br_put hts rfl rfl (hts _ tw_651) ⟨Nat.le_of_ble_eq_true rfl, Nat.le_of_ble_eq_true rfl⟩) (pv_Br hI hE hT t_2) rfl rfl hl.1 rfl (lv_room (Nat.le_of_ble_eq_true rfl)) d_Po_sendTold_6 ⟨Nat.le_of_ble_eq_true rfl, Nat.le_of_ble_eq_true rfl⟩) (fun H locs f hI hT => ?_)
  refine lv_aload_n hx hb d_Po_sendTold_9 rfl (lv_at hl 1 rfl) ?_
  refine fg_Cn_waiting hx hb hts hown hI hT t1 (hts _ tw_129) (fun x9 h9 => u_same (hts _ tw_126) x9 h9) d_Po_sendTold_10 (fun r_3 t_4 => ?_)
  refine lv_aload_n hx hb d_Po_sendTold_13 rfl (lv_at hl 0 rfl) ?_
  refine fg_Po_told hx hb hts hown hI hT t0 (hts _ tw_376) (fun _ h9 => h9) d_Po_sendTold_14 (fun r_5 t_6 => ?_)
  refine fgN_Br_length hx hb hts hown hI hT t_6 (va_Nw.use rfl (hE.1 _ tn_51 rfl)) (fun _ h9 => h9) d_Po_sendTold_17 (fun n_7 h_8 => ?_)
  refine lv_iconst (v := 4) hx hb d_Po_sendTold_20 (by decide) ?_
  refine lv_iadd hx hb d_Po_sendTold_21 ?_
  refine lv_topi (fun x_9 e_10 => ?_)
  obtain rfl : x_9 = nI (n_7 + 4) := by rw [e_10]; exact nI_add _ _
  refine sm_v hI (va_runV (As := [.int (nI (n_7 + 4))]) (rest := []) ⟨hx, hb, hml, hown, hts⟩ (c_Br_put l D ca _ _ _ _ hT r_3 t_4 (nI (n_7 + 4))) (kv_Br_put hts rfl rfl (hts _ tw_651) ⟨Nat.le_of_ble_eq_true rfl, Nat.le_of_ble_eq_true rfl⟩) (pv_Br hI hE hT t_4) rfl rfl hl.1 rfl (lv_room (Nat.le_of_ble_eq_true rfl)) d_Po_sendTold_22 ⟨Nat.le_of_ble_eq_true rfl, Nat.le_of_ble_eq_true rfl⟩) (fun H locs f hI hT => ?_)
  refine lv_aload_n hx hb d_Po_sendTold_25 rfl (lv_at hl 1 rfl) ?_
  refine fg_Cn_waiting hx hb hts hown hI hT t1 (hts _ tw_129) (fun x9 h9 => u_same (hts _ tw_126) x9 h9) d_Po_sendTold_26 (fun r_11 t_12 => ?_)
  refine lv_iconst (v := 2) hx hb d_Po_sendTold_29 (by decide) ?_
  refine lv_aload_n hx hb d_Po_sendTold_30 rfl (lv_at hl 1 rfl) ?_
  refine fgN_Cn_nextToSend hx hb hts hown hI hT t1 (va_Nw.use rfl (hE.1 _ tn_285 rfl)) (fun _ h9 => h9) d_Po_sendTold_31 (fun x_13 => ?_)
  refine lv_imul hx hb d_Po_sendTold_34 ?_
  refine lv_topi (fun x_14 e_15 => ?_)
  refine lv_iconst (v := 2) hx hb d_Po_sendTold_35 (by decide) ?_
  refine sm_v hI (va_runV (As := [.int (x_14), .int (2)]) (rest := []) ⟨hx, hb, hml, hown, hts⟩ (c_Br_putNumber l D ca _ _ _ _ hT r_11 t_12 x_14 (2) (by omega)) (kv_Br_putNumber hts rfl rfl (hts _ tw_650) ⟨Nat.le_of_ble_eq_true rfl, Nat.le_of_ble_eq_true rfl⟩) (pv_Br hI hE hT t_12) rfl rfl hl.1 rfl (lv_room (Nat.le_of_ble_eq_true rfl)) d_Po_sendTold_36 ⟨Nat.le_of_ble_eq_true rfl, Nat.le_of_ble_eq_true rfl⟩) (fun H locs f hI hT => ?_)
  refine lv_aload_n hx hb d_Po_sendTold_39 rfl (lv_at hl 1 rfl) ?_
  refine fg_Cn_waiting hx hb hts hown hI hT t1 (hts _ tw_129) (fun x9 h9 => u_same (hts _ tw_126) x9 h9) d_Po_sendTold_40 (fun r_16 t_17 => ?_)
  refine lv_iconst (v := 2) hx hb d_Po_sendTold_43 (by decide) ?_
  refine lv_aload_n hx hb d_Po_sendTold_44 rfl (lv_at hl 1 rfl) ?_
  refine fgN_Cn_nextToCome hx hb hts hown hI hT t1 (va_Nw.use rfl (hE.1 _ tn_290 rfl)) (fun _ h9 => h9) d_Po_sendTold_45 (fun x_18 => ?_)
  refine lv_imul hx hb d_Po_sendTold_48 ?_
  refine lv_topi (fun x_19 e_20 => ?_)
  refine lv_iconst (v := 2) hx hb d_Po_sendTold_49 (by decide) ?_
  refine sm_v hI (va_runV (As := [.int (x_19), .int (2)]) (rest := []) ⟨hx, hb, hml, hown, hts⟩ (c_Br_putNumber l D ca _ _ _ _ hT r_16 t_17 x_19 (2) (by omega)) (kv_Br_putNumber hts rfl rfl (hts _ tw_650) ⟨Nat.le_of_ble_eq_true rfl, Nat.le_of_ble_eq_true rfl⟩) (pv_Br hI hE hT t_17) rfl rfl hl.1 rfl (lv_room (Nat.le_of_ble_eq_true rfl)) d_Po_sendTold_50 ⟨Nat.le_of_ble_eq_true rfl, Nat.le_of_ble_eq_true rfl⟩) (fun H locs f hI hT => ?_)
  refine lv_aload_n hx hb d_Po_sendTold_53 rfl (lv_at hl 1 rfl) ?_
  refine fg_Cn_waiting hx hb hts hown hI hT t1 (hts _ tw_129) (fun x9 h9 => u_same (hts _ tw_126) x9 h9) d_Po_sendTold_54 (fun r_21 t_22 => ?_)
  refine lv_aload_n hx hb d_Po_sendTold_57 rfl (lv_at hl 0 rfl) ?_
  refine fg_Po_told hx hb hts hown hI hT t0 (hts _ tw_376) (fun _ h9 => h9) d_Po_sendTold_58 (fun r_23 t_24 => ?_)
  refine sm_v hI (va_runV (As := [.ref r_23]) (rest := []) ⟨hx, hb, hml, hown, hts⟩ (c_Br_append l D ca _ _ _ _ hT r_21 t_22 r_23 t_24) (kv_Br_append hts rfl rfl (hts _ tw_734) ⟨Nat.le_of_ble_eq_true rfl, Nat.le_of_ble_eq_true rfl⟩) (pv_Br hI hE hT t_22) rfl rfl hl.1 rfl (lv_room (Nat.le_of_ble_eq_true rfl)) d_Po_sendTold_61 ⟨Nat.le_of_ble_eq_true rfl, Nat.le_of_ble_eq_true rfl⟩) (fun H locs f hI hT => ?_)
  refine lv_aload_n hx hb d_Po_sendTold_64 rfl (lv_at hl 1 rfl) ?_
  refine lv_aload_n hx hb d_Po_sendTold_65 rfl (lv_at hl 0 rfl) ?_
  refine fg_Po_now hx hb hts hown hI hT t0 (hts _ tw_373) (fun _ h9 => h9) d_Po_sendTold_66 (fun x_25 => ?_)
  refine sm_v hI (va_runV (As := [.long (x_25)]) (rest := []) ⟨hx, hb, hml, hown, hts⟩ (c_Cn_noteSent l D ca _ _ _ _ hT x1 t1 x_25) (kv_Cn_noteSent hts rfl rfl (hts _ tw_744) ⟨Nat.le_of_ble_eq_true rfl, Nat.le_of_ble_eq_true rfl⟩) (pv_Cn hI hE hT t1) rfl rfl hl.1 rfl (lv_room (Nat.le_of_ble_eq_true rfl)) d_Po_sendTold_69 ⟨Nat.le_of_ble_eq_true rfl, Nat.le_of_ble_eq_true rfl⟩) (fun H locs f hI hT => ?_)
  exact sm_vret hx hb hr hlk hI ⟨rfl, hT⟩ d_Po_sendTold_72
theorem d_Po_leaveSelected_0 : decode b_Po_leaveSelected 0 = .ok (.aload_n 0, 1) := by decide +kernel
theorem d_Po_leaveSelected_1 : decode b_Po_leaveSelected 1 = .ok (.getfield 44, 3) := by decide +kernel
theorem d_Po_leaveSelected_4 : decode b_Po_leaveSelected 4 = .ok (.aload_n 1, 1) := by decide +kernel
theorem d_Po_leaveSelected_5 : decode b_Po_leaveSelected 5 = .ok (.getfield 246, 3) := by decide +kernel
theorem d_Po_leaveSelected_8 : decode b_Po_leaveSelected 8 = .ok (.iload_n 2, 1) := by decide +kernel
theorem d_Po_leaveSelected_9 : decode b_Po_leaveSelected 9 = .ok (.aload_n 0, 1) := by decide +kernel
theorem d_Po_leaveSelected_10 : decode b_Po_leaveSelected 10 = .ok (.getfield 147, 3) := by decide +kernel
theorem d_Po_leaveSelected_13 : decode b_Po_leaveSelected 13 = .ok (.invokevirtual 640, 3) := by decide +kernel
theorem d_Po_leaveSelected_16 : decode b_Po_leaveSelected 16 = .ok (.istore_n 3, 1) := by decide +kernel
theorem d_Po_leaveSelected_17 : decode b_Po_leaveSelected 17 = .ok (.iload_n 3, 1) := by decide +kernel
theorem d_Po_leaveSelected_18 : decode b_Po_leaveSelected 18 = .ok (.ifCond .eq 10, 3) := by decide +kernel
theorem d_Po_leaveSelected_21 : decode b_Po_leaveSelected 21 = .ok (.aload_n 0, 1) := by decide +kernel
theorem d_Po_leaveSelected_22 : decode b_Po_leaveSelected 22 = .ok (.getfield 44, 3) := by decide +kernel
theorem d_Po_leaveSelected_25 : decode b_Po_leaveSelected 25 = .ok (.invokevirtual 635, 3) := by decide +kernel
theorem d_Po_leaveSelected_28 : decode b_Po_leaveSelected 28 = .ok (.iload_n 3, 1) := by decide +kernel
theorem d_Po_leaveSelected_29 : decode b_Po_leaveSelected 29 = .ok (.ireturn, 1) := by decide +kernel
set_option maxRecDepth 100000 in
set_option maxHeartbeats 4000000 in
theorem c_Po_leaveSelected (l : Launch) (D : va_G) (ca : Nat → ClassId) (T : ty_e) (L : List Nat) (f0 : Nat → va_E) (sz : Nat) (hT : ok_T ca T L f0) {g0 : List (Int32 × Int32)} (h0 : Nat) (t0 : T h0 = some (ty_po g0)) (x1 : Nat) (t1 : is_li T x1) (x2 : Int32) :
    Met l y_Po_leaveSelected (Cond.code y_Po_leaveSelected b_Po_leaveSelected 4 (some .boolean) :: wg) { frames := 2, cells := 0, slots := 0, locals := 46 } (va_Pc [.ref h0, .ref x1, .int (x2)] (sm_P D cl_all (ty_s ca) ek L f0 sz)) (sm_Qi D (ty_s ca) L f0 sz (fun r u => (r = 0 ∨ r = 1) ∧ po_m ca T L u)) 0 0 (va_A (va_pl L f0) sz) := by
  refine sm_start (by decide) (Nat.le_of_ble_eq_true rfl) ?_
  intro p e s m below meth c ls hx hb hml hr hlk hnm hts hown hsz hE hI hl
  have hl : lv_has ls 4 [(0, .ref h0), (1, .ref x1), (2, .int (x2))] := hl
  refine lv_aload_n hx hb d_Po_leaveSelected_0 rfl (lv_at hl 0 rfl) ?_
  refine fg_Po_selection hx hb hts hown hI hT t0 (hts _ tw_374) (fun _ h9 => h9) d_Po_leaveSelected_1 (fun r_1 t_2 => ?_)
  refine lv_aload_n hx hb d_Po_leaveSelected_4 rfl (lv_at hl 1 rfl) ?_
  refine fg_Li_index hx hb hts hown hI hT t1 (hts _ tw_120) (fun _ h9 => h9) d_Po_leaveSelected_5 (fun n_3 h_5 => ?_)
  have h_4 := li_le h_5
  refine lv_iload_n hx hb d_Po_leaveSelected_8 rfl (lv_at hl 2 rfl) ?_
  refine lv_aload_n hx hb d_Po_leaveSelected_9 rfl (lv_at hl 0 rfl) ?_
  refine fg_Po_now hx hb hts hown hI hT t0 (hts _ tw_373) (fun _ h9 => h9) d_Po_leaveSelected_10 (fun x_6 => ?_)
  refine sm_iP hI (va_runV (As := [.int (nI n_3), .int (x2), .long (x_6)]) (rest := []) ⟨hx, hb, hml, hown, hts⟩ (c_Se_isOf l D ca _ _ _ _ hT r_1 t_2 (nI n_3) x2 x_6) (kv_Se_isOf hts rfl rfl (hts _ tw_982) ⟨Nat.le_of_ble_eq_true rfl, Nat.le_of_ble_eq_true rfl⟩) (pv_Se hI hE hT t_2) rfl rfl hl.1 rfl (lv_room (Nat.le_of_ble_eq_true rfl)) d_Po_leaveSelected_13 ⟨Nat.le_of_ble_eq_true rfl, Nat.le_of_ble_eq_true rfl⟩) (fun x_7 H locs p_8 hI => ?_)
  refine lv_istore_n (lv' := [(3, .int (x_7)), (0, .ref h0), (1, .ref x1), (2, .int (x2))]) hx hb d_Po_leaveSelected_16 rfl hl (by decide) rfl (fun ls hl => ?_)
  refine lv_iload_n hx hb d_Po_leaveSelected_17 rfl (lv_at hl 0 rfl) ?_
  refine lv_if_eq (tgt := 28) hx hb d_Po_leaveSelected_18 (by decide) (fun c_9 => ?_) (fun c_9 => ?_)
  · refine lv_iload_n hx hb d_Po_leaveSelected_28 rfl (lv_at hl 0 rfl) ?_
    exact sm_zret hx hb hr hlk hI p_8 ⟨p_8, ⟨rfl, hT⟩⟩ d_Po_leaveSelected_29
  · refine lv_aload_n hx hb d_Po_leaveSelected_21 rfl (lv_at hl 1 rfl) ?_
    refine fg_Po_selection hx hb hts hown hI hT t0 (hts _ tw_374) (fun _ h9 => h9) d_Po_leaveSelected_22 (fun r_10 t_11 => ?_)
    refine sm_v hI (va_runV (As := []) (rest := []) ⟨hx, hb, hml, hown, hts⟩ (c_Se_forget l D ca _ _ _ _ hT r_10 t_11) (kv_Se_forget hts rfl rfl (hts _ tw_991) ⟨Nat.le_of_ble_eq_true rfl, Nat.le_of_ble_eq_true rfl⟩) (pv_Se hI hE hT t_11) rfl rfl hl.1 rfl (lv_room (Nat.le_of_ble_eq_true rfl)) d_Po_leaveSelected_25 ⟨Nat.le_of_ble_eq_true rfl, Nat.le_of_ble_eq_true rfl⟩) (fun H locs f hI hT => ?_)
    refine lv_iload_n hx hb d_Po_leaveSelected_28 rfl (lv_at hl 0 rfl) ?_
    exact sm_zret hx hb hr hlk hI p_8 ⟨p_8, ⟨rfl, hT⟩⟩ d_Po_leaveSelected_29
theorem d_Po_isUsed_0 : decode b_Po_isUsed 0 = .ok (.aload_n 1, 1) := by decide +kernel
theorem d_Po_isUsed_1 : decode b_Po_isUsed 1 = .ok (.getfield 226, 3) := by decide +kernel
theorem d_Po_isUsed_4 : decode b_Po_isUsed 4 = .ok (.ifCond .ne 17, 3) := by decide +kernel
theorem d_Po_isUsed_7 : decode b_Po_isUsed 7 = .ok (.aload_n 1, 1) := by decide +kernel
theorem d_Po_isUsed_8 : decode b_Po_isUsed 8 = .ok (.getfield 669, 3) := by decide +kernel
theorem d_Po_isUsed_11 : decode b_Po_isUsed 11 = .ok (.aload_n 0, 1) := by decide +kernel
theorem d_Po_isUsed_12 : decode b_Po_isUsed 12 = .ok (.getfield 252, 3) := by decide +kernel
theorem d_Po_isUsed_15 : decode b_Po_isUsed 15 = .ok (.bipush 16, 2) := by decide +kernel
theorem d_Po_isUsed_17 : decode b_Po_isUsed 17 = .ok (.isub, 1) := by decide +kernel
theorem d_Po_isUsed_18 : decode b_Po_isUsed 18 = .ok (.if_icmp .le 7, 3) := by decide +kernel
theorem d_Po_isUsed_21 : decode b_Po_isUsed 21 = .ok (.iconst 1, 1) := by decide +kernel
theorem d_Po_isUsed_22 : decode b_Po_isUsed 22 = .ok (.goto 4, 3) := by decide +kernel
theorem d_Po_isUsed_25 : decode b_Po_isUsed 25 = .ok (.iconst 0, 1) := by decide +kernel
theorem d_Po_isUsed_26 : decode b_Po_isUsed 26 = .ok (.ireturn, 1) := by decide +kernel
set_option maxRecDepth 100000 in
set_option maxHeartbeats 4000000 in
theorem c_Po_isUsed (l : Launch) (D : va_G) (ca : Nat → ClassId) (T : ty_e) (L : List Nat) (f0 : Nat → va_E) (sz : Nat) (hT : ok_T ca T L f0) {g0 : List (Int32 × Int32)} (h0 : Nat) (t0 : T h0 = some (ty_po g0)) (x1 : Nat) (t1 : T x1 = some (ty_op)) :
    Met l y_Po_isUsed (Cond.code y_Po_isUsed b_Po_isUsed 2 (some .boolean) :: wg) { frames := 0, cells := 0, slots := 0, locals := 0 } (va_Pc [.ref h0, .ref x1] (sm_P D cl_all (ty_s ca) ek L f0 sz)) (sm_Qi D (ty_s ca) L f0 sz (fun r u => (r = 0 ∨ r = 1) ∧ u = (L, f0))) 0 0 (va_A (va_pl L f0) sz) := by
  refine sm_start (by decide) (Nat.le_of_ble_eq_true rfl) ?_
  intro p e s m below meth c ls hx hb hml hr hlk hnm hts hown hsz hE hI hl
  have hl : lv_has ls 2 [(0, .ref h0), (1, .ref x1)] := hl
  refine lv_aload_n hx hb d_Po_isUsed_0 rfl (lv_at hl 1 rfl) ?_
  refine fgN_Op_goesOn hx hb hts hown hI hT t1 (va_Nw.use rfl (hE.1 _ tn_342 rfl)) (fun _ h9 => h9) d_Po_isUsed_1 (fun x_1 p_2 => ?_)
  refine lv_if_ne (tgt := 21) hx hb d_Po_isUsed_4 (by decide) (fun c_3 => ?_) (fun c_3 => ?_)
  · refine lv_iconst (v := 1) hx hb d_Po_isUsed_21 (by decide) ?_
    refine lv_goto (tgt := 26) hx hb d_Po_isUsed_22 (by decide) ?_
    exact sm_zret hx hb hr hlk hI (by decide) ⟨(by decide), rfl⟩ d_Po_isUsed_26
  · refine lv_aload_n hx hb d_Po_isUsed_7 rfl (lv_at hl 1 rfl) ?_
    refine fgN_Op_number hx hb hts hown hI hT t1 (va_Nw.use rfl (hE.1 _ tn_336 rfl)) (fun _ h9 => h9) d_Po_isUsed_8 (fun x_4 => ?_)
    refine lv_aload_n hx hb d_Po_isUsed_11 rfl (lv_at hl 0 rfl) ?_
    refine fg_Po_operationsEver hx hb hts hown hI hT t0 (hts _ tw_369) (fun _ h9 => h9) d_Po_isUsed_12 (fun x_5 => ?_)
    refine lv_bipush (v := 16) hx hb d_Po_isUsed_15 (by decide) ?_
    refine lv_isub hx hb d_Po_isUsed_17 ?_
    refine lv_topi (fun x_6 e_7 => ?_)
    refine lv_icmp_le (tgt := 25) hx hb d_Po_isUsed_18 (by decide) (fun c_8 => ?_) (fun c_8 => ?_)
    · refine lv_iconst (v := 0) hx hb d_Po_isUsed_25 (by decide) ?_
      exact sm_zret hx hb hr hlk hI (by decide) ⟨(by decide), rfl⟩ d_Po_isUsed_26
    · refine lv_iconst (v := 1) hx hb d_Po_isUsed_21 (by decide) ?_
      refine lv_goto (tgt := 26) hx hb d_Po_isUsed_22 (by decide) ?_
      exact sm_zret hx hb hr hlk hI (by decide) ⟨(by decide), rfl⟩ d_Po_isUsed_26
theorem d_Po_findOperation_0 : decode b_Po_findOperation 0 = .ok (.iconst 0, 1) := by decide +kernel
theorem d_Po_findOperation_1 : decode b_Po_findOperation 1 = .ok (.istore_n 2, 1) := by decide +kernel
theorem d_Po_findOperation_2 : decode b_Po_findOperation 2 = .ok (.iload_n 2, 1) := by decide +kernel
theorem d_Po_findOperation_3 : decode b_Po_findOperation 3 = .ok (.aload_n 0, 1) := by decide +kernel
theorem d_Po_findOperation_4 : decode b_Po_findOperation 4 = .ok (.getfield 37, 3) := by decide +kernel
theorem d_Po_findOperation_7 : decode b_Po_findOperation 7 = .ok (.arraylength, 1) := by decide +kernel
theorem d_Po_findOperation_8 : decode b_Po_findOperation 8 = .ok (.if_icmp .ge 33, 3) := by decide +kernel
theorem d_Po_findOperation_11 : decode b_Po_findOperation 11 = .ok (.iload_n 1, 1) := by decide +kernel
theorem d_Po_findOperation_12 : decode b_Po_findOperation 12 = .ok (.ifCond .lt 23, 3) := by decide +kernel
theorem d_Po_findOperation_15 : decode b_Po_findOperation 15 = .ok (.aload_n 0, 1) := by decide +kernel
theorem d_Po_findOperation_16 : decode b_Po_findOperation 16 = .ok (.getfield 37, 3) := by decide +kernel
theorem d_Po_findOperation_19 : decode b_Po_findOperation 19 = .ok (.iload_n 2, 1) := by decide +kernel
theorem d_Po_findOperation_20 : decode b_Po_findOperation 20 = .ok (.aaload, 1) := by decide +kernel
theorem d_Po_findOperation_21 : decode b_Po_findOperation 21 = .ok (.getfield 669, 3) := by decide +kernel
theorem d_Po_findOperation_24 : decode b_Po_findOperation 24 = .ok (.iload_n 1, 1) := by decide +kernel
theorem d_Po_findOperation_25 : decode b_Po_findOperation 25 = .ok (.if_icmp .ne 10, 3) := by decide +kernel
theorem d_Po_findOperation_28 : decode b_Po_findOperation 28 = .ok (.aload_n 0, 1) := by decide +kernel
theorem d_Po_findOperation_29 : decode b_Po_findOperation 29 = .ok (.getfield 37, 3) := by decide +kernel
theorem d_Po_findOperation_32 : decode b_Po_findOperation 32 = .ok (.iload_n 2, 1) := by decide +kernel
theorem d_Po_findOperation_33 : decode b_Po_findOperation 33 = .ok (.aaload, 1) := by decide +kernel
theorem d_Po_findOperation_34 : decode b_Po_findOperation 34 = .ok (.areturn, 1) := by decide +kernel
theorem d_Po_findOperation_35 : decode b_Po_findOperation 35 = .ok (.iinc 2 1, 3) := by decide +kernel
theorem d_Po_findOperation_38 : decode b_Po_findOperation 38 = .ok (.goto (-36), 3) := by decide +kernel
theorem d_Po_findOperation_41 : decode b_Po_findOperation 41 = .ok (.aconst_null, 1) := by decide +kernel
theorem d_Po_findOperation_42 : decode b_Po_findOperation 42 = .ok (.areturn, 1) := by decide +kernel
set_option maxRecDepth 100000 in
set_option maxHeartbeats 4000000 in
theorem c_Po_findOperation (l : Launch) (D : va_G) (ca : Nat → ClassId) (T : ty_e) (L : List Nat) (f0 : Nat → va_E) (sz : Nat) (hT : ok_T ca T L f0) {g0 : List (Int32 × Int32)} (h0 : Nat) (t0 : T h0 = some (ty_po g0)) (x1 : Int32) :
    Met l y_Po_findOperation (Cond.code y_Po_findOperation b_Po_findOperation 3 (some (.object "TelecontrolPost$Operation")) :: wg) { frames := 0, cells := 0, slots := 0, locals := 0 } (va_Pc [.ref h0, .int (x1)] (sm_P D cl_all (ty_s ca) ek L f0 sz)) (sm_Qq D (ty_s ca) L f0 sz (fun r u => (∀ b : Nat, r = some b → T b = some (ty_op)) ∧ u = (L, f0))) 0 0 (va_A (va_pl L f0) sz) := by
  refine sm_start (by decide) (Nat.le_of_ble_eq_true rfl) ?_
  intro p e s m below meth c ls hx hb hml hr hlk hnm hts hown hsz hE hI hl
  have hl : lv_has ls 3 [(0, .ref h0), (1, .int (x1))] := hl
  have hJ_2 : ∀ (N k : Nat) (H : Heap) (locs : List Loc) (ls : Array Slot) , 24 + 1 - k ≤ N → k ≤ 24 → sw_I D cl_all (ty_s ca) (va_A (va_pl L f0) sz) s H locs L f0 → lv_has ls 3 [(0, .ref h0), (1, .int (x1)), (2, .int (nI k))] → W p l e { frames := 0, cells := 0, slots := 0, locals := 0 } s m ([.ref h0, .int (x1)] : List Value).toArray below meth c H locs 0 0 (MQ below (sm_Qq D (ty_s ca) L f0 sz (fun r u => (∀ b : Nat, r = some b → T b = some (ty_op)) ∧ u = (L, f0))) ([.ref h0, .int (x1)] : List Value).toArray s 0 0 (va_A (va_pl L f0) sz)) (F0 m 2 ls []) := by
    intro N
    induction N with
    | zero => intros; omega
    | succ N ih =>
      intro k H locs ls  hN hk hI hl 
      refine lv_iload_n hx hb d_Po_findOperation_2 rfl (lv_at hl 2 rfl) ?_
      refine lv_aload_n hx hb d_Po_findOperation_3 rfl (lv_at hl 0 rfl) ?_
      refine fg_Po_operations hx hb hts hown hI hT t0 (hts _ tw_368) (fun _ h9 => h9) d_Po_findOperation_4 (fun r_1 t_2 => ?_)
      refine fl_ops hx hb hI hT t_2 d_Po_findOperation_7 ?_
      refine lv_icmp_ge (tgt := 41) hx hb d_Po_findOperation_8 (by decide) (fun c_3 => ?_) (fun c_3 => ?_)
      · have k_4 : 24 ≤ k := (nI_leI (a := 24) (b := k) (by omega) (by omega)).mp c_3
        refine lv_null hx hb d_Po_findOperation_41 ?_
        exact sm_qret (v := none) hx hb hr (Or.inl ⟨_, rfl⟩) hlk hI ⟨(fun b h => by cases h), rfl⟩ d_Po_findOperation_42
      · have k_5 : k < 24 := Nat.lt_of_not_le (fun q => c_3 ((nI_leI (a := 24) (b := k) (by omega) (by omega)).mpr q))
        refine lv_iload_n hx hb d_Po_findOperation_11 rfl (lv_at hl 1 rfl) ?_
        refine lv_if_lt (tgt := 35) hx hb d_Po_findOperation_12 (by decide) (fun c_6 => ?_) (fun c_6 => ?_)
        · refine lv_iinc (v := nI (k + 1)) (lv' := [(2, .int (nI (k + 1))), (0, .ref h0), (1, .int (x1))]) hx hb d_Po_findOperation_35 hl (k := 2) rfl (nI_1 _) (by decide) rfl (fun ls hl => ?_)
          refine lv_goto (tgt := 2) hx hb d_Po_findOperation_38 (by decide) ?_
          exact ih ((k + 1)) _ _ _  (by omega) (by omega) hI (lv_sub hl [1, 2, 0] rfl) 
        · refine lv_aload_n hx hb d_Po_findOperation_15 rfl (lv_at hl 0 rfl) ?_
          refine fg_Po_operations hx hb hts hown hI hT t0 (hts _ tw_368) (fun _ h9 => h9) d_Po_findOperation_16 (fun r_7 t_8 => ?_)
          refine lv_iload_n hx hb d_Po_findOperation_19 rfl (lv_at hl 2 rfl) ?_
          refine fa_ops (j := k) hx hb hI hT t_8 (by omega) d_Po_findOperation_20 (fun r_9 t_10 => ?_)
          refine fgN_Op_number hx hb hts hown hI hT t_10 (va_Nw.use rfl (hE.1 _ tn_336 rfl)) (fun _ h9 => h9) d_Po_findOperation_21 (fun x_11 => ?_)
          refine lv_iload_n hx hb d_Po_findOperation_24 rfl (lv_at hl 1 rfl) ?_
          refine lv_icmp_ne (tgt := 35) hx hb d_Po_findOperation_25 (by decide) (fun c_12 => ?_) (fun c_12 => ?_)
          · refine lv_iinc (v := nI (k + 1)) (lv' := [(2, .int (nI (k + 1))), (0, .ref h0), (1, .int (x1))]) hx hb d_Po_findOperation_35 hl (k := 2) rfl (nI_1 _) (by decide) rfl (fun ls hl => ?_)
            refine lv_goto (tgt := 2) hx hb d_Po_findOperation_38 (by decide) ?_
            exact ih ((k + 1)) _ _ _  (by omega) (by omega) hI (lv_sub hl [1, 2, 0] rfl) 
          · refine lv_aload_n hx hb d_Po_findOperation_28 rfl (lv_at hl 0 rfl) ?_
            refine fg_Po_operations hx hb hts hown hI hT t0 (hts _ tw_368) (fun _ h9 => h9) d_Po_findOperation_29 (fun r_13 t_14 => ?_)
            refine lv_iload_n hx hb d_Po_findOperation_32 rfl (lv_at hl 2 rfl) ?_
            refine fa_ops (j := k) hx hb hI hT t_14 (by omega) d_Po_findOperation_33 (fun r_15 t_16 => ?_)
            exact sm_qret (v := some r_15) hx hb hr (Or.inl ⟨_, rfl⟩) hlk hI ⟨(fun b h => by cases h; exact t_16), rfl⟩ d_Po_findOperation_34
  refine lv_iconst (v := 0) hx hb d_Po_findOperation_0 (by decide) ?_
  refine lv_istore_n (lv' := [(2, .int (0)), (0, .ref h0), (1, .int (x1))]) hx hb d_Po_findOperation_1 rfl hl (by decide) rfl (fun ls hl => ?_)
  exact hJ_2 _ (0) _ _ _  (Nat.le_refl _) (by omega) hI (lv_sub hl [1, 2, 0] rfl) 
theorem d_Po_unusedOperation_0 : decode b_Po_unusedOperation 0 = .ok (.iconst 0, 1) := by decide +kernel
theorem d_Po_unusedOperation_1 : decode b_Po_unusedOperation 1 = .ok (.istore_n 1, 1) := by decide +kernel
theorem d_Po_unusedOperation_2 : decode b_Po_unusedOperation 2 = .ok (.iload_n 1, 1) := by decide +kernel
theorem d_Po_unusedOperation_3 : decode b_Po_unusedOperation 3 = .ok (.aload_n 0, 1) := by decide +kernel
theorem d_Po_unusedOperation_4 : decode b_Po_unusedOperation 4 = .ok (.getfield 37, 3) := by decide +kernel
theorem d_Po_unusedOperation_7 : decode b_Po_unusedOperation 7 = .ok (.arraylength, 1) := by decide +kernel
theorem d_Po_unusedOperation_8 : decode b_Po_unusedOperation 8 = .ok (.iconst 1, 1) := by decide +kernel
theorem d_Po_unusedOperation_9 : decode b_Po_unusedOperation 9 = .ok (.isub, 1) := by decide +kernel
theorem d_Po_unusedOperation_10 : decode b_Po_unusedOperation 10 = .ok (.if_icmp .ge 22, 3) := by decide +kernel
theorem d_Po_unusedOperation_13 : decode b_Po_unusedOperation 13 = .ok (.aload_n 0, 1) := by decide +kernel
theorem d_Po_unusedOperation_14 : decode b_Po_unusedOperation 14 = .ok (.aload_n 0, 1) := by decide +kernel
theorem d_Po_unusedOperation_15 : decode b_Po_unusedOperation 15 = .ok (.getfield 37, 3) := by decide +kernel
theorem d_Po_unusedOperation_18 : decode b_Po_unusedOperation 18 = .ok (.iload_n 1, 1) := by decide +kernel
theorem d_Po_unusedOperation_19 : decode b_Po_unusedOperation 19 = .ok (.aaload, 1) := by decide +kernel
theorem d_Po_unusedOperation_20 : decode b_Po_unusedOperation 20 = .ok (.invokevirtual 670, 3) := by decide +kernel
theorem d_Po_unusedOperation_23 : decode b_Po_unusedOperation 23 = .ok (.ifCond .eq 9, 3) := by decide +kernel
theorem d_Po_unusedOperation_26 : decode b_Po_unusedOperation 26 = .ok (.iinc 1 1, 3) := by decide +kernel
theorem d_Po_unusedOperation_29 : decode b_Po_unusedOperation 29 = .ok (.goto (-27), 3) := by decide +kernel
theorem d_Po_unusedOperation_32 : decode b_Po_unusedOperation 32 = .ok (.aload_n 0, 1) := by decide +kernel
theorem d_Po_unusedOperation_33 : decode b_Po_unusedOperation 33 = .ok (.getfield 37, 3) := by decide +kernel
theorem d_Po_unusedOperation_36 : decode b_Po_unusedOperation 36 = .ok (.iload_n 1, 1) := by decide +kernel
theorem d_Po_unusedOperation_37 : decode b_Po_unusedOperation 37 = .ok (.aaload, 1) := by decide +kernel
theorem d_Po_unusedOperation_38 : decode b_Po_unusedOperation 38 = .ok (.areturn, 1) := by decide +kernel
set_option maxRecDepth 100000 in
set_option maxHeartbeats 4000000 in
theorem c_Po_unusedOperation (l : Launch) (D : va_G) (ca : Nat → ClassId) (T : ty_e) (L : List Nat) (f0 : Nat → va_E) (sz : Nat) (hT : ok_T ca T L f0) {g0 : List (Int32 × Int32)} (h0 : Nat) (t0 : T h0 = some (ty_po g0)) :
    Met l y_Po_unusedOperation (Cond.code y_Po_unusedOperation b_Po_unusedOperation 2 (some (.object "TelecontrolPost$Operation")) :: wg) { frames := 1, cells := 0, slots := 0, locals := 21 } (va_Pc [.ref h0] (sm_P D cl_all (ty_s ca) ek L f0 sz)) (sm_Qq D (ty_s ca) L f0 sz (fun r u => (∃ b : Nat, r = some b ∧ T b = some (ty_op)) ∧ u = (L, f0))) 0 0 (va_A (va_pl L f0) sz) := by
  refine sm_start (by decide) (Nat.le_of_ble_eq_true rfl) ?_
  intro p e s m below meth c ls hx hb hml hr hlk hnm hts hown hsz hE hI hl
  have hl : lv_has ls 2 [(0, .ref h0)] := hl
  have hJ_2 : ∀ (N k : Nat) (H : Heap) (locs : List Loc) (ls : Array Slot) , 23 + 1 - k ≤ N → k ≤ 23 → sw_I D cl_all (ty_s ca) (va_A (va_pl L f0) sz) s H locs L f0 → lv_has ls 2 [(0, .ref h0), (1, .int (nI k))] → W p l e { frames := 1, cells := 0, slots := 0, locals := 21 } s m ([.ref h0] : List Value).toArray below meth c H locs 0 0 (MQ below (sm_Qq D (ty_s ca) L f0 sz (fun r u => (∃ b : Nat, r = some b ∧ T b = some (ty_op)) ∧ u = (L, f0))) ([.ref h0] : List Value).toArray s 0 0 (va_A (va_pl L f0) sz)) (F0 m 2 ls []) := by
    intro N
    induction N with
    | zero => intros; omega
    | succ N ih =>
      intro k H locs ls  hN hk hI hl 
      refine lv_iload_n hx hb d_Po_unusedOperation_2 rfl (lv_at hl 1 rfl) ?_
      refine lv_aload_n hx hb d_Po_unusedOperation_3 rfl (lv_at hl 0 rfl) ?_
      refine fg_Po_operations hx hb hts hown hI hT t0 (hts _ tw_368) (fun _ h9 => h9) d_Po_unusedOperation_4 (fun r_1 t_2 => ?_)
      refine fl_ops hx hb hI hT t_2 d_Po_unusedOperation_7 ?_
      refine lv_iconst (v := 1) hx hb d_Po_unusedOperation_8 (by decide) ?_
      refine lv_isub hx hb d_Po_unusedOperation_9 ?_
      refine lv_topi (fun x_3 e_4 => ?_)
      obtain rfl : x_3 = nI (24 - 1) := by rw [e_4]; exact pk_sub (a := 24) (b := 1) (by omega)
      refine lv_icmp_ge (tgt := 32) hx hb d_Po_unusedOperation_10 (by decide) (fun c_5 => ?_) (fun c_5 => ?_)
      · have k_6 : (24 - 1) ≤ k := (nI_leI (a := (24 - 1)) (b := k) (by omega) (by omega)).mp c_5
        refine lv_aload_n hx hb d_Po_unusedOperation_32 rfl (lv_at hl 0 rfl) ?_
        refine fg_Po_operations hx hb hts hown hI hT t0 (hts _ tw_368) (fun _ h9 => h9) d_Po_unusedOperation_33 (fun r_7 t_8 => ?_)
        refine lv_iload_n hx hb d_Po_unusedOperation_36 rfl (lv_at hl 1 rfl) ?_
        refine fa_ops (j := k) hx hb hI hT t_8 (by omega) d_Po_unusedOperation_37 (fun r_9 t_10 => ?_)
        exact sm_qret (v := some r_9) hx hb hr (Or.inl ⟨_, rfl⟩) hlk hI ⟨⟨_, rfl, t_10⟩, rfl⟩ d_Po_unusedOperation_38
      · have k_11 : k < (24 - 1) := Nat.lt_of_not_le (fun q => c_5 ((nI_leI (a := (24 - 1)) (b := k) (by omega) (by omega)).mpr q))
        refine lv_aload_n hx hb d_Po_unusedOperation_13 rfl (lv_at hl 0 rfl) ?_
        refine lv_aload_n hx hb d_Po_unusedOperation_14 rfl (lv_at hl 0 rfl) ?_
        refine fg_Po_operations hx hb hts hown hI hT t0 (hts _ tw_368) (fun _ h9 => h9) d_Po_unusedOperation_15 (fun r_12 t_13 => ?_)
        refine lv_iload_n hx hb d_Po_unusedOperation_18 rfl (lv_at hl 1 rfl) ?_
        refine fa_ops (j := k) hx hb hI hT t_13 (by omega) d_Po_unusedOperation_19 (fun r_14 t_15 => ?_)
        refine sm_iP hI (va_runV (As := [.ref r_14]) (rest := []) ⟨hx, hb, hml, hown, hts⟩ (c_Po_isUsed l D ca _ _ _ _ hT h0 t0 r_14 t_15) (kv_Po_isUsed hts rfl rfl (hts _ tw_1009) ⟨Nat.le_of_ble_eq_true rfl, Nat.le_of_ble_eq_true rfl⟩) (pv_Po hI hE hT t0) rfl rfl hl.1 rfl (lv_room (Nat.le_of_ble_eq_true rfl)) d_Po_unusedOperation_20 ⟨Nat.le_of_ble_eq_true rfl, Nat.le_of_ble_eq_true rfl⟩) (fun x_16 H locs p_17 hI => ?_)
        refine lv_if_eq (tgt := 32) hx hb d_Po_unusedOperation_23 (by decide) (fun c_18 => ?_) (fun c_18 => ?_)
        · refine lv_aload_n hx hb d_Po_unusedOperation_32 rfl (lv_at hl 0 rfl) ?_
          refine fg_Po_operations hx hb hts hown hI hT t0 (hts _ tw_368) (fun _ h9 => h9) d_Po_unusedOperation_33 (fun r_19 t_20 => ?_)
          refine lv_iload_n hx hb d_Po_unusedOperation_36 rfl (lv_at hl 1 rfl) ?_
          refine fa_ops (j := k) hx hb hI hT t_20 (by omega) d_Po_unusedOperation_37 (fun r_21 t_22 => ?_)
          exact sm_qret (v := some r_21) hx hb hr (Or.inl ⟨_, rfl⟩) hlk hI ⟨⟨_, rfl, t_22⟩, rfl⟩ d_Po_unusedOperation_38
        · refine lv_iinc (v := nI (k + 1)) (lv' := [(1, .int (nI (k + 1))), (0, .ref h0)]) hx hb d_Po_unusedOperation_26 hl (k := 1) rfl (nI_1 _) (by decide) rfl (fun ls hl => ?_)
          refine lv_goto (tgt := 2) hx hb d_Po_unusedOperation_29 (by decide) ?_
          exact ih ((k + 1)) _ _ _  (by omega) (by omega) hI (lv_sub hl [1, 0] rfl) 
  refine lv_iconst (v := 0) hx hb d_Po_unusedOperation_0 (by decide) ?_
  refine lv_istore_n (lv' := [(1, .int (0)), (0, .ref h0)]) hx hb d_Po_unusedOperation_1 rfl hl (by decide) rfl (fun ls hl => ?_)
  exact hJ_2 _ (0) _ _ _  (Nat.le_refl _) (by omega) hI (lv_sub hl [1, 0] rfl) 
theorem d_Po_isCommandType_0 : decode b_Po_isCommandType 0 = .ok (.iload_n 0, 1) := by decide +kernel
theorem d_Po_isCommandType_1 : decode b_Po_isCommandType 1 = .ok (.bipush 45, 2) := by decide +kernel
theorem d_Po_isCommandType_3 : decode b_Po_isCommandType 3 = .ok (.if_icmp .eq 15, 3) := by decide +kernel
theorem d_Po_isCommandType_6 : decode b_Po_isCommandType 6 = .ok (.iload_n 0, 1) := by decide +kernel
theorem d_Po_isCommandType_7 : decode b_Po_isCommandType 7 = .ok (.bipush 46, 2) := by decide +kernel
theorem d_Po_isCommandType_9 : decode b_Po_isCommandType 9 = .ok (.if_icmp .eq 9, 3) := by decide +kernel
theorem d_Po_isCommandType_12 : decode b_Po_isCommandType 12 = .ok (.iload_n 0, 1) := by decide +kernel
theorem d_Po_isCommandType_13 : decode b_Po_isCommandType 13 = .ok (.bipush 50, 2) := by decide +kernel
theorem d_Po_isCommandType_15 : decode b_Po_isCommandType 15 = .ok (.if_icmp .ne 7, 3) := by decide +kernel
theorem d_Po_isCommandType_18 : decode b_Po_isCommandType 18 = .ok (.iconst 1, 1) := by decide +kernel
theorem d_Po_isCommandType_19 : decode b_Po_isCommandType 19 = .ok (.goto 4, 3) := by decide +kernel
theorem d_Po_isCommandType_22 : decode b_Po_isCommandType 22 = .ok (.iconst 0, 1) := by decide +kernel
theorem d_Po_isCommandType_23 : decode b_Po_isCommandType 23 = .ok (.ireturn, 1) := by decide +kernel
set_option maxRecDepth 100000 in
set_option maxHeartbeats 4000000 in
theorem c_Po_isCommandType (l : Launch) (D : va_G) (ca : Nat → ClassId) (T : ty_e) (L : List Nat) (f0 : Nat → va_E) (sz : Nat) (hT : ok_T ca T L f0) (x1 : Int32) :
    Met l y_Po_isCommandType (Cond.code y_Po_isCommandType b_Po_isCommandType 1 (some .boolean) :: wg) { frames := 0, cells := 0, slots := 0, locals := 0 } (va_Pc [.int (x1)] (sm_P D cl_all (ty_s ca) ek L f0 sz)) (sm_Qi D (ty_s ca) L f0 sz (fun r u => ((r = 0 ∨ r = 1) ∧ (r = 1 ↔ (x1 = 45 ∨ x1 = 46 ∨ x1 = 50))) ∧ u = (L, f0))) 0 0 (va_A (va_pl L f0) sz) := by
  refine sm_start (by decide) (Nat.le_of_ble_eq_true rfl) ?_
  intro p e s m below meth c ls hx hb hml hr hlk hnm hts hown hsz hE hI hl
  have hl : lv_has ls 1 [(0, .int (x1))] := hl
  refine lv_iload_n hx hb d_Po_isCommandType_0 rfl (lv_at hl 0 rfl) ?_
  refine lv_bipush (v := 45) hx hb d_Po_isCommandType_1 (by decide) ?_
  refine lv_icmp_eq (tgt := 18) hx hb d_Po_isCommandType_3 (by decide) (fun c_1 => ?_) (fun c_1 => ?_)
  · refine lv_iconst (v := 1) hx hb d_Po_isCommandType_18 (by decide) ?_
    refine lv_goto (tgt := 23) hx hb d_Po_isCommandType_19 (by decide) ?_
    exact sm_zret hx hb hr hlk hI (by decide) ⟨⟨Or.inr rfl, fun _ => Or.inl c_1, fun _ => rfl⟩, rfl⟩ d_Po_isCommandType_23
  · refine lv_iload_n hx hb d_Po_isCommandType_6 rfl (lv_at hl 0 rfl) ?_
    refine lv_bipush (v := 46) hx hb d_Po_isCommandType_7 (by decide) ?_
    refine lv_icmp_eq (tgt := 18) hx hb d_Po_isCommandType_9 (by decide) (fun c_2 => ?_) (fun c_2 => ?_)
    · refine lv_iconst (v := 1) hx hb d_Po_isCommandType_18 (by decide) ?_
      refine lv_goto (tgt := 23) hx hb d_Po_isCommandType_19 (by decide) ?_
      exact sm_zret hx hb hr hlk hI (by decide) ⟨⟨Or.inr rfl, fun _ => Or.inr (Or.inl c_2), fun _ => rfl⟩, rfl⟩ d_Po_isCommandType_23
    · refine lv_iload_n hx hb d_Po_isCommandType_12 rfl (lv_at hl 0 rfl) ?_
      refine lv_bipush (v := 50) hx hb d_Po_isCommandType_13 (by decide) ?_
      refine lv_icmp_ne (tgt := 22) hx hb d_Po_isCommandType_15 (by decide) (fun c_3 => ?_) (fun c_3 => ?_)
      · refine lv_iconst (v := 0) hx hb d_Po_isCommandType_22 (by decide) ?_
        exact sm_zret hx hb hr hlk hI (by decide) ⟨⟨Or.inl rfl, fun h => absurd h (by decide), fun h => (h.elim c_1 (fun h => h.elim c_2 c_3)).elim⟩, rfl⟩ d_Po_isCommandType_23
      · refine lv_iconst (v := 1) hx hb d_Po_isCommandType_18 (by decide) ?_
        refine lv_goto (tgt := 23) hx hb d_Po_isCommandType_19 (by decide) ?_
        exact sm_zret hx hb hr hlk hI (by decide) ⟨⟨Or.inr rfl, fun _ => Or.inr (Or.inr c_3), fun _ => rfl⟩, rfl⟩ d_Po_isCommandType_23
theorem d_Po_mayHaveCause_0 : decode b_Po_mayHaveCause 0 = .ok (.iload_n 0, 1) := by decide +kernel
theorem d_Po_mayHaveCause_1 : decode b_Po_mayHaveCause 1 = .ok (.bipush 102, 2) := by decide +kernel
theorem d_Po_mayHaveCause_3 : decode b_Po_mayHaveCause 3 = .ok (.if_icmp .ne 14, 3) := by decide +kernel
theorem d_Po_mayHaveCause_6 : decode b_Po_mayHaveCause 6 = .ok (.iload_n 1, 1) := by decide +kernel
theorem d_Po_mayHaveCause_7 : decode b_Po_mayHaveCause 7 = .ok (.iconst 5, 1) := by decide +kernel
theorem d_Po_mayHaveCause_8 : decode b_Po_mayHaveCause 8 = .ok (.if_icmp .ne 7, 3) := by decide +kernel
theorem d_Po_mayHaveCause_11 : decode b_Po_mayHaveCause 11 = .ok (.iconst 1, 1) := by decide +kernel
theorem d_Po_mayHaveCause_12 : decode b_Po_mayHaveCause 12 = .ok (.goto 4, 3) := by decide +kernel
theorem d_Po_mayHaveCause_15 : decode b_Po_mayHaveCause 15 = .ok (.iconst 0, 1) := by decide +kernel
theorem d_Po_mayHaveCause_16 : decode b_Po_mayHaveCause 16 = .ok (.ireturn, 1) := by decide +kernel
theorem d_Po_mayHaveCause_17 : decode b_Po_mayHaveCause 17 = .ok (.iload_n 1, 1) := by decide +kernel
theorem d_Po_mayHaveCause_18 : decode b_Po_mayHaveCause 18 = .ok (.bipush 6, 2) := by decide +kernel
theorem d_Po_mayHaveCause_20 : decode b_Po_mayHaveCause 20 = .ok (.if_icmp .eq 16, 3) := by decide +kernel
theorem d_Po_mayHaveCause_23 : decode b_Po_mayHaveCause 23 = .ok (.iload_n 1, 1) := by decide +kernel
theorem d_Po_mayHaveCause_24 : decode b_Po_mayHaveCause 24 = .ok (.bipush 8, 2) := by decide +kernel
theorem d_Po_mayHaveCause_26 : decode b_Po_mayHaveCause 26 = .ok (.if_icmp .ne 14, 3) := by decide +kernel
theorem d_Po_mayHaveCause_29 : decode b_Po_mayHaveCause 29 = .ok (.iload_n 0, 1) := by decide +kernel
theorem d_Po_mayHaveCause_30 : decode b_Po_mayHaveCause 30 = .ok (.invokestatic 583, 3) := by decide +kernel
theorem d_Po_mayHaveCause_33 : decode b_Po_mayHaveCause 33 = .ok (.ifCond .eq 7, 3) := by decide +kernel
theorem d_Po_mayHaveCause_36 : decode b_Po_mayHaveCause 36 = .ok (.iconst 1, 1) := by decide +kernel
theorem d_Po_mayHaveCause_37 : decode b_Po_mayHaveCause 37 = .ok (.goto 4, 3) := by decide +kernel
theorem d_Po_mayHaveCause_40 : decode b_Po_mayHaveCause 40 = .ok (.iconst 0, 1) := by decide +kernel
theorem d_Po_mayHaveCause_41 : decode b_Po_mayHaveCause 41 = .ok (.ireturn, 1) := by decide +kernel
set_option maxRecDepth 100000 in
set_option maxHeartbeats 4000000 in
theorem c_Po_mayHaveCause (l : Launch) (D : va_G) (ca : Nat → ClassId) (T : ty_e) (L : List Nat) (f0 : Nat → va_E) (sz : Nat) (hT : ok_T ca T L f0) (x1 : Int32) (x2 : Int32) :
    Met l y_Po_mayHaveCause (Cond.code y_Po_mayHaveCause b_Po_mayHaveCause 2 (some .boolean) :: wg) { frames := 1, cells := 0, slots := 0, locals := 20 } (va_Pc [.int (x1), .int (x2)] (sm_P D cl_all (ty_s ca) ek L f0 sz)) (sm_Qi D (ty_s ca) L f0 sz (fun r u => (r = 0 ∨ r = 1) ∧ u = (L, f0))) 0 0 (va_A (va_pl L f0) sz) := by
  refine sm_start (by decide) (Nat.le_of_ble_eq_true rfl) ?_
  intro p e s m below meth c ls hx hb hml hr hlk hnm hts hown hsz hE hI hl
  have hl : lv_has ls 2 [(0, .int (x1)), (1, .int (x2))] := hl
  refine lv_iload_n hx hb d_Po_mayHaveCause_0 rfl (lv_at hl 0 rfl) ?_
  refine lv_bipush (v := 102) hx hb d_Po_mayHaveCause_1 (by decide) ?_
  refine lv_icmp_ne (tgt := 17) hx hb d_Po_mayHaveCause_3 (by decide) (fun c_1 => ?_) (fun c_1 => ?_)
  · refine lv_iload_n hx hb d_Po_mayHaveCause_17 rfl (lv_at hl 1 rfl) ?_
    refine lv_bipush (v := 6) hx hb d_Po_mayHaveCause_18 (by decide) ?_
    refine lv_icmp_eq (tgt := 36) hx hb d_Po_mayHaveCause_20 (by decide) (fun c_2 => ?_) (fun c_2 => ?_)
    · refine lv_iconst (v := 1) hx hb d_Po_mayHaveCause_36 (by decide) ?_
      refine lv_goto (tgt := 41) hx hb d_Po_mayHaveCause_37 (by decide) ?_
      exact sm_zret hx hb hr hlk hI (by decide) ⟨(by decide), rfl⟩ d_Po_mayHaveCause_41
    · refine lv_iload_n hx hb d_Po_mayHaveCause_23 rfl (lv_at hl 1 rfl) ?_
      refine lv_bipush (v := 8) hx hb d_Po_mayHaveCause_24 (by decide) ?_
      refine lv_icmp_ne (tgt := 40) hx hb d_Po_mayHaveCause_26 (by decide) (fun c_3 => ?_) (fun c_3 => ?_)
      · refine lv_iconst (v := 0) hx hb d_Po_mayHaveCause_40 (by decide) ?_
        exact sm_zret hx hb hr hlk hI (by decide) ⟨(by decide), rfl⟩ d_Po_mayHaveCause_41
      · refine lv_iload_n hx hb d_Po_mayHaveCause_29 rfl (lv_at hl 0 rfl) ?_
        refine sm_iP hI (va_runS (As := [.int (x1)]) (rest := []) ⟨hx, hb, hml, hown, hts⟩ (c_Po_isCommandType l D ca _ _ _ _ hT x1) (ks_Po_isCommandType hts rfl rfl (hts _ tw_951) ⟨Nat.le_of_ble_eq_true rfl, Nat.le_of_ble_eq_true rfl⟩) (sm_preS hI hE) rfl rfl hl.1 rfl (lv_room (Nat.le_of_ble_eq_true rfl)) d_Po_mayHaveCause_30 ⟨Nat.le_of_ble_eq_true rfl, Nat.le_of_ble_eq_true rfl⟩) (fun x_4 H locs p_5 hI => ?_)
        refine lv_if_eq (tgt := 40) hx hb d_Po_mayHaveCause_33 (by decide) (fun c_6 => ?_) (fun c_6 => ?_)
        · refine lv_iconst (v := 0) hx hb d_Po_mayHaveCause_40 (by decide) ?_
          exact sm_zret hx hb hr hlk hI (by decide) ⟨(by decide), rfl⟩ d_Po_mayHaveCause_41
        · refine lv_iconst (v := 1) hx hb d_Po_mayHaveCause_36 (by decide) ?_
          refine lv_goto (tgt := 41) hx hb d_Po_mayHaveCause_37 (by decide) ?_
          exact sm_zret hx hb hr hlk hI (by decide) ⟨(by decide), rfl⟩ d_Po_mayHaveCause_41
  · refine lv_iload_n hx hb d_Po_mayHaveCause_6 rfl (lv_at hl 1 rfl) ?_
    refine lv_iconst (v := 5) hx hb d_Po_mayHaveCause_7 (by decide) ?_
    refine lv_icmp_ne (tgt := 15) hx hb d_Po_mayHaveCause_8 (by decide) (fun c_7 => ?_) (fun c_7 => ?_)
    · refine lv_iconst (v := 0) hx hb d_Po_mayHaveCause_15 (by decide) ?_
      exact sm_zret hx hb hr hlk hI (by decide) ⟨(by decide), rfl⟩ d_Po_mayHaveCause_16
    · refine lv_iconst (v := 1) hx hb d_Po_mayHaveCause_11 (by decide) ?_
      refine lv_goto (tgt := 16) hx hb d_Po_mayHaveCause_12 (by decide) ?_
      exact sm_zret hx hb hr hlk hI (by decide) ⟨(by decide), rfl⟩ d_Po_mayHaveCause_16
theorem d_Po_isForStation_0 : decode b_Po_isForStation 0 = .ok (.aload_n 0, 1) := by decide +kernel
theorem d_Po_isForStation_1 : decode b_Po_isForStation 1 = .ok (.getfield 53, 3) := by decide +kernel
theorem d_Po_isForStation_4 : decode b_Po_isForStation 4 = .ok (.iconst 2, 1) := by decide +kernel
theorem d_Po_isForStation_5 : decode b_Po_isForStation 5 = .ok (.aload_n 1, 1) := by decide +kernel
theorem d_Po_isForStation_6 : decode b_Po_isForStation 6 = .ok (.getfield 517, 3) := by decide +kernel
theorem d_Po_isForStation_9 : decode b_Po_isForStation 9 = .ok (.iadd, 1) := by decide +kernel
theorem d_Po_isForStation_10 : decode b_Po_isForStation 10 = .ok (.aload_n 1, 1) := by decide +kernel
theorem d_Po_isForStation_11 : decode b_Po_isForStation 11 = .ok (.getfield 520, 3) := by decide +kernel
theorem d_Po_isForStation_14 : decode b_Po_isForStation 14 = .ok (.invokevirtual 377, 3) := by decide +kernel
theorem d_Po_isForStation_17 : decode b_Po_isForStation 17 = .ok (.istore_n 3, 1) := by decide +kernel
theorem d_Po_isForStation_18 : decode b_Po_isForStation 18 = .ok (.aload_n 1, 1) := by decide +kernel
theorem d_Po_isForStation_19 : decode b_Po_isForStation 19 = .ok (.getfield 520, 3) := by decide +kernel
theorem d_Po_isForStation_22 : decode b_Po_isForStation 22 = .ok (.iconst 1, 1) := by decide +kernel
theorem d_Po_isForStation_23 : decode b_Po_isForStation 23 = .ok (.if_icmp .ne 9, 3) := by decide +kernel
theorem d_Po_isForStation_26 : decode b_Po_isForStation 26 = .ok (.sipush 255, 3) := by decide +kernel
theorem d_Po_isForStation_29 : decode b_Po_isForStation 29 = .ok (.goto 5, 3) := by decide +kernel
theorem d_Po_isForStation_32 : decode b_Po_isForStation 32 = .ok (.ldc 67, 2) := by decide +kernel
theorem d_Po_isForStation_34 : decode b_Po_isForStation 34 = .ok (.istore 4, 2) := by decide +kernel
theorem d_Po_isForStation_36 : decode b_Po_isForStation 36 = .ok (.iload_n 2, 1) := by decide +kernel
theorem d_Po_isForStation_37 : decode b_Po_isForStation 37 = .ok (.bipush 100, 2) := by decide +kernel
theorem d_Po_isForStation_39 : decode b_Po_isForStation 39 = .ok (.if_icmp .eq 21, 3) := by decide +kernel
theorem d_Po_isForStation_42 : decode b_Po_isForStation 42 = .ok (.iload_n 2, 1) := by decide +kernel
theorem d_Po_isForStation_43 : decode b_Po_isForStation 43 = .ok (.bipush 101, 2) := by decide +kernel
theorem d_Po_isForStation_45 : decode b_Po_isForStation 45 = .ok (.if_icmp .eq 15, 3) := by decide +kernel
theorem d_Po_isForStation_48 : decode b_Po_isForStation 48 = .ok (.iload_n 2, 1) := by decide +kernel
theorem d_Po_isForStation_49 : decode b_Po_isForStation 49 = .ok (.bipush 103, 2) := by decide +kernel
theorem d_Po_isForStation_51 : decode b_Po_isForStation 51 = .ok (.if_icmp .eq 9, 3) := by decide +kernel
theorem d_Po_isForStation_54 : decode b_Po_isForStation 54 = .ok (.iload_n 2, 1) := by decide +kernel
theorem d_Po_isForStation_55 : decode b_Po_isForStation 55 = .ok (.bipush 105, 2) := by decide +kernel
theorem d_Po_isForStation_57 : decode b_Po_isForStation 57 = .ok (.if_icmp .ne 7, 3) := by decide +kernel
theorem d_Po_isForStation_60 : decode b_Po_isForStation 60 = .ok (.iconst 1, 1) := by decide +kernel
theorem d_Po_isForStation_61 : decode b_Po_isForStation 61 = .ok (.goto 4, 3) := by decide +kernel
theorem d_Po_isForStation_64 : decode b_Po_isForStation 64 = .ok (.iconst 0, 1) := by decide +kernel
theorem d_Po_isForStation_65 : decode b_Po_isForStation 65 = .ok (.istore 5, 2) := by decide +kernel
theorem d_Po_isForStation_67 : decode b_Po_isForStation 67 = .ok (.iload_n 3, 1) := by decide +kernel
theorem d_Po_isForStation_68 : decode b_Po_isForStation 68 = .ok (.aload_n 0, 1) := by decide +kernel
theorem d_Po_isForStation_69 : decode b_Po_isForStation 69 = .ok (.getfield 61, 3) := by decide +kernel
theorem d_Po_isForStation_72 : decode b_Po_isForStation 72 = .ok (.if_icmp .eq 14, 3) := by decide +kernel
theorem d_Po_isForStation_75 : decode b_Po_isForStation 75 = .ok (.iload_n 3, 1) := by decide +kernel
theorem d_Po_isForStation_76 : decode b_Po_isForStation 76 = .ok (.iload 4, 2) := by decide +kernel
theorem d_Po_isForStation_78 : decode b_Po_isForStation 78 = .ok (.if_icmp .ne 12, 3) := by decide +kernel
theorem d_Po_isForStation_81 : decode b_Po_isForStation 81 = .ok (.iload 5, 2) := by decide +kernel
theorem d_Po_isForStation_83 : decode b_Po_isForStation 83 = .ok (.ifCond .eq 7, 3) := by decide +kernel
theorem d_Po_isForStation_86 : decode b_Po_isForStation 86 = .ok (.iconst 1, 1) := by decide +kernel
theorem d_Po_isForStation_87 : decode b_Po_isForStation 87 = .ok (.goto 4, 3) := by decide +kernel
theorem d_Po_isForStation_90 : decode b_Po_isForStation 90 = .ok (.iconst 0, 1) := by decide +kernel
theorem d_Po_isForStation_91 : decode b_Po_isForStation 91 = .ok (.ireturn, 1) := by decide +kernel
set_option maxRecDepth 100000 in
set_option maxHeartbeats 4000000 in
theorem c_Po_isForStation (l : Launch) (D : va_G) (ca : Nat → ClassId) (T : ty_e) (L : List Nat) (f0 : Nat → va_E) (sz : Nat) (hT : ok_T ca T L f0) {g0 : List (Int32 × Int32)} (h0 : Nat) (t0 : T h0 = some (ty_po g0)) (x1 : Nat) (t1 : is_li T x1) (x2 : Int32) :
    Met l y_Po_isForStation (Cond.code y_Po_isForStation b_Po_isForStation 6 (some .boolean) :: wg) { frames := 2, cells := 0, slots := 0, locals := 45 } (va_Pc [.ref h0, .ref x1, .int (x2)] (sm_P D cl_all (ty_s ca) ek L f0 sz)) (sm_Qi D (ty_s ca) L f0 sz (fun r u => (r = 0 ∨ r = 1) ∧ u = (L, f0))) 0 0 (va_A (va_pl L f0) sz) := by
  refine sm_start (by decide) (Nat.le_of_ble_eq_true rfl) ?_
  intro p e s m below meth c ls hx hb hml hr hlk hnm hts hown hsz hE hI hl
  have hl : lv_has ls 6 [(0, .ref h0), (1, .ref x1), (2, .int (x2))] := hl
  have hJ_65 : ∀ (H : Heap) (locs : List Loc) (ls : Array Slot) (y3 : Int32) (y4 : Int32) (z0 : Int32), sw_I D cl_all (ty_s ca) (va_A (va_pl L f0) sz) s H locs L f0 → lv_has ls 6 [(0, .ref h0), (1, .ref x1), (2, .int (x2)), (3, .int (y3)), (4, .int (y4))] → (z0 = 0 ∨ z0 = 1) → W p l e { frames := 2, cells := 0, slots := 0, locals := 45 } s m ([.ref h0, .ref x1, .int (x2)] : List Value).toArray below meth c H locs 0 0 (MQ below (sm_Qi D (ty_s ca) L f0 sz (fun r u => (r = 0 ∨ r = 1) ∧ u = (L, f0))) ([.ref h0, .ref x1, .int (x2)] : List Value).toArray s 0 0 (va_A (va_pl L f0) sz)) (F0 m 65 ls [.int (z0)]) := by
    intro H locs ls y3 y4 z0 hI hl pz0
    refine lv_istore (lv' := [(5, .int (z0)), (0, .ref h0), (1, .ref x1), (2, .int (x2)), (3, .int (y3)), (4, .int (y4))]) hx hb d_Po_isForStation_65 hl (by decide) rfl (fun ls hl => ?_)
    refine lv_iload_n hx hb d_Po_isForStation_67 rfl (lv_at hl 4 rfl) ?_
    refine lv_aload_n hx hb d_Po_isForStation_68 rfl (lv_at hl 1 rfl) ?_
    refine fg_Po_station hx hb hts hown hI hT t0 (hts _ tw_362) (fun _ h9 => h9) d_Po_isForStation_69 (fun x_1 => ?_)
    refine lv_icmp_eq (tgt := 86) hx hb d_Po_isForStation_72 (by decide) (fun c_2 => ?_) (fun c_2 => ?_)
    · refine lv_iconst (v := 1) hx hb d_Po_isForStation_86 (by decide) ?_
      refine lv_goto (tgt := 91) hx hb d_Po_isForStation_87 (by decide) ?_
      exact sm_zret hx hb hr hlk hI (by decide) ⟨(by decide), rfl⟩ d_Po_isForStation_91
    · refine lv_iload_n hx hb d_Po_isForStation_75 rfl (lv_at hl 4 rfl) ?_
      refine lv_iload hx hb d_Po_isForStation_76 (lv_at hl 5 rfl) ?_
      refine lv_icmp_ne (tgt := 90) hx hb d_Po_isForStation_78 (by decide) (fun c_3 => ?_) (fun c_3 => ?_)
      · refine lv_iconst (v := 0) hx hb d_Po_isForStation_90 (by decide) ?_
        exact sm_zret hx hb hr hlk hI (by decide) ⟨(by decide), rfl⟩ d_Po_isForStation_91
      · refine lv_iload hx hb d_Po_isForStation_81 (lv_at hl 0 rfl) ?_
        refine lv_if_eq (tgt := 90) hx hb d_Po_isForStation_83 (by decide) (fun c_4 => ?_) (fun c_4 => ?_)
        · refine lv_iconst (v := 0) hx hb d_Po_isForStation_90 (by decide) ?_
          exact sm_zret hx hb hr hlk hI (by decide) ⟨(by decide), rfl⟩ d_Po_isForStation_91
        · refine lv_iconst (v := 1) hx hb d_Po_isForStation_86 (by decide) ?_
          refine lv_goto (tgt := 91) hx hb d_Po_isForStation_87 (by decide) ?_
          exact sm_zret hx hb hr hlk hI (by decide) ⟨(by decide), rfl⟩ d_Po_isForStation_91
  have hJ_60 : ∀ (H : Heap) (locs : List Loc) (ls : Array Slot) (y3 : Int32) (y4 : Int32), sw_I D cl_all (ty_s ca) (va_A (va_pl L f0) sz) s H locs L f0 → lv_has ls 6 [(0, .ref h0), (1, .ref x1), (2, .int (x2)), (3, .int (y3)), (4, .int (y4))] → W p l e { frames := 2, cells := 0, slots := 0, locals := 45 } s m ([.ref h0, .ref x1, .int (x2)] : List Value).toArray below meth c H locs 0 0 (MQ below (sm_Qi D (ty_s ca) L f0 sz (fun r u => (r = 0 ∨ r = 1) ∧ u = (L, f0))) ([.ref h0, .ref x1, .int (x2)] : List Value).toArray s 0 0 (va_A (va_pl L f0) sz)) (F0 m 60 ls []) := by
    intro H locs ls y3 y4 hI hl 
    refine lv_iconst (v := 1) hx hb d_Po_isForStation_60 (by decide) ?_
    refine lv_goto (tgt := 65) hx hb d_Po_isForStation_61 (by decide) ?_
    exact hJ_65 _ _ _ y3 y4 1 hI (lv_sub hl [0, 1, 2, 3, 4] rfl) (by decide)
  have hJ_34 : ∀ (H : Heap) (locs : List Loc) (ls : Array Slot) (y3 : Int32) (z0 : Int32), sw_I D cl_all (ty_s ca) (va_A (va_pl L f0) sz) s H locs L f0 → lv_has ls 6 [(0, .ref h0), (1, .ref x1), (2, .int (x2)), (3, .int (y3))] → W p l e { frames := 2, cells := 0, slots := 0, locals := 45 } s m ([.ref h0, .ref x1, .int (x2)] : List Value).toArray below meth c H locs 0 0 (MQ below (sm_Qi D (ty_s ca) L f0 sz (fun r u => (r = 0 ∨ r = 1) ∧ u = (L, f0))) ([.ref h0, .ref x1, .int (x2)] : List Value).toArray s 0 0 (va_A (va_pl L f0) sz)) (F0 m 34 ls [.int (z0)]) := by
    intro H locs ls y3 z0 hI hl 
    refine lv_istore (lv' := [(4, .int (z0)), (0, .ref h0), (1, .ref x1), (2, .int (x2)), (3, .int (y3))]) hx hb d_Po_isForStation_34 hl (by decide) rfl (fun ls hl => ?_)
    refine lv_iload_n hx hb d_Po_isForStation_36 rfl (lv_at hl 3 rfl) ?_
    refine lv_bipush (v := 100) hx hb d_Po_isForStation_37 (by decide) ?_
    refine lv_icmp_eq (tgt := 60) hx hb d_Po_isForStation_39 (by decide) (fun c_5 => ?_) (fun c_5 => ?_)
    · exact hJ_60 _ _ _ y3 z0 hI (lv_sub hl [1, 2, 3, 4, 0] rfl)
    · refine lv_iload_n hx hb d_Po_isForStation_42 rfl (lv_at hl 3 rfl) ?_
      refine lv_bipush (v := 101) hx hb d_Po_isForStation_43 (by decide) ?_
      refine lv_icmp_eq (tgt := 60) hx hb d_Po_isForStation_45 (by decide) (fun c_6 => ?_) (fun c_6 => ?_)
      · exact hJ_60 _ _ _ y3 z0 hI (lv_sub hl [1, 2, 3, 4, 0] rfl)
      · refine lv_iload_n hx hb d_Po_isForStation_48 rfl (lv_at hl 3 rfl) ?_
        refine lv_bipush (v := 103) hx hb d_Po_isForStation_49 (by decide) ?_
        refine lv_icmp_eq (tgt := 60) hx hb d_Po_isForStation_51 (by decide) (fun c_7 => ?_) (fun c_7 => ?_)
        · exact hJ_60 _ _ _ y3 z0 hI (lv_sub hl [1, 2, 3, 4, 0] rfl)
        · refine lv_iload_n hx hb d_Po_isForStation_54 rfl (lv_at hl 3 rfl) ?_
          refine lv_bipush (v := 105) hx hb d_Po_isForStation_55 (by decide) ?_
          refine lv_icmp_ne (tgt := 64) hx hb d_Po_isForStation_57 (by decide) (fun c_8 => ?_) (fun c_8 => ?_)
          · refine lv_iconst (v := 0) hx hb d_Po_isForStation_64 (by decide) ?_
            exact hJ_65 _ _ _ y3 z0 0 hI (lv_sub hl [1, 2, 3, 4, 0] rfl) (by decide)
          · exact hJ_60 _ _ _ y3 z0 hI (lv_sub hl [1, 2, 3, 4, 0] rfl)
  refine lv_aload_n hx hb d_Po_isForStation_0 rfl (lv_at hl 0 rfl) ?_
  refine fg_Po_asked hx hb hts hown hI hT t0 (hts _ tw_375) (fun _ h9 => h9) d_Po_isForStation_1 (fun r_9 t_10 => ?_)
  refine lv_iconst (v := 2) hx hb d_Po_isForStation_4 (by decide) ?_
  refine lv_aload_n hx hb d_Po_isForStation_5 rfl (lv_at hl 1 rfl) ?_
  refine fg_Li_causeSize hx hb hts hown hI hT t1 (hts _ tw_154) (fun _ h9 => h9) d_Po_isForStation_6 (fun n_11 h_12 => ?_)
  refine lv_iadd hx hb d_Po_isForStation_9 ?_
  refine lv_topi (fun x_13 e_14 => ?_)
  obtain rfl : x_13 = nI (2 + n_11) := by rw [e_14]; exact nI_add _ _
  refine lv_aload_n hx hb d_Po_isForStation_10 rfl (lv_at hl 1 rfl) ?_
  refine fg_Li_stationSize hx hb hts hown hI hT t1 (hts _ tw_158) (fun _ h9 => h9) d_Po_isForStation_11 (fun n_15 h_16 => ?_)
  refine sm_iP hI (va_runV (As := [.int (nI (2 + n_11)), .int (nI n_15)]) (rest := []) ⟨hx, hb, hml, hown, hts⟩ (c_Br_number l D ca _ _ _ _ hT r_9 t_10 (nI (2 + n_11)) (n_15) (by omega)) (kv_Br_number hts rfl rfl (hts _ tw_940) ⟨Nat.le_of_ble_eq_true rfl, Nat.le_of_ble_eq_true rfl⟩) (pv_Br hI hE hT t_10) rfl rfl hl.1 rfl (lv_room (Nat.le_of_ble_eq_true rfl)) d_Po_isForStation_14 ⟨Nat.le_of_ble_eq_true rfl, Nat.le_of_ble_eq_true rfl⟩) (fun x_17 H locs p_18 hI => ?_)
  refine lv_istore_n (lv' := [(3, .int (x_17)), (0, .ref h0), (1, .ref x1), (2, .int (x2))]) hx hb d_Po_isForStation_17 rfl hl (by decide) rfl (fun ls hl => ?_)
  refine lv_aload_n hx hb d_Po_isForStation_18 rfl (lv_at hl 2 rfl) ?_
  refine fg_Li_stationSize hx hb hts hown hI hT t1 (hts _ tw_158) (fun _ h9 => h9) d_Po_isForStation_19 (fun n_19 h_20 => ?_)
  refine lv_iconst (v := 1) hx hb d_Po_isForStation_22 (by decide) ?_
  refine lv_icmp_ne (tgt := 32) hx hb d_Po_isForStation_23 (by decide) (fun c_21 => ?_) (fun c_21 => ?_)
  · have k_22 : ¬ n_19 = 1 := (fun q => c_21 ((nI_eq (a := n_19) (b := 1) (by omega) (by omega)).mpr q))
    refine lv_ldc (v := 65535) hx hb hown (hts _ tw_424) d_Po_isForStation_32 ?_
    exact hJ_34 _ _ _ x_17 65535 hI (lv_sub hl [1, 2, 3, 0] rfl) 
  · have k_23 : n_19 = 1 := (nI_eq (a := n_19) (b := 1) (by omega) (by omega)).mp c_21
    refine lv_sipush (v := 255) hx hb d_Po_isForStation_26 (by decide) ?_
    refine lv_goto (tgt := 34) hx hb d_Po_isForStation_29 (by decide) ?_
    exact hJ_34 _ _ _ x_17 255 hI (lv_sub hl [1, 2, 3, 0] rfl) 
theorem d_Po_hearUnnumbered_0 : decode b_Po_hearUnnumbered 0 = .ok (.aload_n 1, 1) := by decide +kernel
theorem d_Po_hearUnnumbered_1 : decode b_Po_hearUnnumbered 1 = .ok (.getfield 360, 3) := by decide +kernel
theorem d_Po_hearUnnumbered_4 : decode b_Po_hearUnnumbered 4 = .ok (.iconst 2, 1) := by decide +kernel
theorem d_Po_hearUnnumbered_5 : decode b_Po_hearUnnumbered 5 = .ok (.invokevirtual 216, 3) := by decide +kernel
theorem d_Po_hearUnnumbered_8 : decode b_Po_hearUnnumbered 8 = .ok (.lookupswitch 80 #[(7, 44), (19, 52), (67, 60), (131, 72)], 44) := by decide +kernel
theorem d_Po_hearUnnumbered_52 : decode b_Po_hearUnnumbered 52 = .ok (.aload_n 0, 1) := by decide +kernel
theorem d_Po_hearUnnumbered_53 : decode b_Po_hearUnnumbered 53 = .ok (.aload_n 1, 1) := by decide +kernel
theorem d_Po_hearUnnumbered_54 : decode b_Po_hearUnnumbered 54 = .ok (.invokevirtual 392, 3) := by decide +kernel
theorem d_Po_hearUnnumbered_57 : decode b_Po_hearUnnumbered 57 = .ok (.goto 36, 3) := by decide +kernel
theorem d_Po_hearUnnumbered_60 : decode b_Po_hearUnnumbered 60 = .ok (.aload_n 0, 1) := by decide +kernel
theorem d_Po_hearUnnumbered_61 : decode b_Po_hearUnnumbered 61 = .ok (.aload_n 1, 1) := by decide +kernel
theorem d_Po_hearUnnumbered_62 : decode b_Po_hearUnnumbered 62 = .ok (.invokevirtual 395, 3) := by decide +kernel
theorem d_Po_hearUnnumbered_65 : decode b_Po_hearUnnumbered 65 = .ok (.goto 28, 3) := by decide +kernel
theorem d_Po_hearUnnumbered_68 : decode b_Po_hearUnnumbered 68 = .ok (.aload_n 0, 1) := by decide +kernel
theorem d_Po_hearUnnumbered_69 : decode b_Po_hearUnnumbered 69 = .ok (.aload_n 1, 1) := by decide +kernel
theorem d_Po_hearUnnumbered_70 : decode b_Po_hearUnnumbered 70 = .ok (.sipush 131, 3) := by decide +kernel
theorem d_Po_hearUnnumbered_73 : decode b_Po_hearUnnumbered 73 = .ok (.iconst 0, 1) := by decide +kernel
theorem d_Po_hearUnnumbered_74 : decode b_Po_hearUnnumbered 74 = .ok (.invokevirtual 398, 3) := by decide +kernel
theorem d_Po_hearUnnumbered_77 : decode b_Po_hearUnnumbered 77 = .ok (.goto 16, 3) := by decide +kernel
theorem d_Po_hearUnnumbered_80 : decode b_Po_hearUnnumbered 80 = .ok (.aload_n 1, 1) := by decide +kernel
theorem d_Po_hearUnnumbered_81 : decode b_Po_hearUnnumbered 81 = .ok (.iconst 0, 1) := by decide +kernel
theorem d_Po_hearUnnumbered_82 : decode b_Po_hearUnnumbered 82 = .ok (.putfield 402, 3) := by decide +kernel
theorem d_Po_hearUnnumbered_85 : decode b_Po_hearUnnumbered 85 = .ok (.goto 8, 3) := by decide +kernel
theorem d_Po_hearUnnumbered_88 : decode b_Po_hearUnnumbered 88 = .ok (.aload_n 0, 1) := by decide +kernel
theorem d_Po_hearUnnumbered_89 : decode b_Po_hearUnnumbered 89 = .ok (.aload_n 1, 1) := by decide +kernel
theorem d_Po_hearUnnumbered_90 : decode b_Po_hearUnnumbered 90 = .ok (.invokevirtual 166, 3) := by decide +kernel
theorem d_Po_hearUnnumbered_93 : decode b_Po_hearUnnumbered 93 = .ok (.return_, 1) := by decide +kernel
set_option maxRecDepth 100000 in
set_option maxHeartbeats 4000000 in
theorem c_Po_hearUnnumbered (l : Launch) (D : va_G) (ca : Nat → ClassId) (T : ty_e) (L : List Nat) (f0 : Nat → va_E) (sz : Nat) (hT : ok_T ca T L f0) {g0 : List (Int32 × Int32)} (h0 : Nat) (t0 : T h0 = some (ty_po g0)) {k1 : Nat} (x1 : Nat) (t1 : T x1 = some (ty_cn k1)) :
    Met l y_Po_hearUnnumbered (Cond.code y_Po_hearUnnumbered b_Po_hearUnnumbered 2 none :: wg) { frames := 5, cells := 0, slots := 0, locals := 107 } (va_Pc [.ref h0, .ref x1] (sm_P D cl_all (ty_s ca) ek L f0 sz)) (sm_Qv D (ty_s ca) L f0 sz (fun u => po_m ca T L u)) 0 0 (va_A (va_pl L f0) sz) := by
  refine sm_start (by decide) (Nat.le_of_ble_eq_true rfl) ?_
  intro p e s m below meth c ls hx hb hml hr hlk hnm hts hown hsz hE hI hl
  have hl : lv_has ls 2 [(0, .ref h0), (1, .ref x1)] := hl
  refine lv_aload_n hx hb d_Po_hearUnnumbered_0 rfl (lv_at hl 1 rfl) ?_
  refine fg_Cn_heard hx hb hts hown hI hT t1 (hts _ tw_136) (fun x9 h9 => u_same (hts _ tw_132) x9 h9) d_Po_hearUnnumbered_1 (fun r_1 t_2 => ?_)
  refine lv_iconst (v := 2) hx hb d_Po_hearUnnumbered_4 (by decide) ?_
  refine sm_iP hI (va_runV (As := [.int (2)]) (rest := []) ⟨hx, hb, hml, hown, hts⟩ (c_Br_at l D ca _ _ _ _ hT r_1 t_2 2) (kv_Br_at hts rfl rfl (hts _ tw_697) ⟨Nat.le_of_ble_eq_true rfl, Nat.le_of_ble_eq_true rfl⟩) (pv_Br hI hE hT t_2) rfl rfl hl.1 rfl (lv_room (Nat.le_of_ble_eq_true rfl)) d_Po_hearUnnumbered_5 ⟨Nat.le_of_ble_eq_true rfl, Nat.le_of_ble_eq_true rfl⟩) (fun x_3 H locs p_4 hI => ?_)
  by_cases c_5 : x_3 = 7
  · refine lv_lookup (off := 44) (tgt := 52) hx hb d_Po_hearUnnumbered_8 (by decide) (by rw [c_5]; decide) (by decide) ?_
    refine lv_aload_n hx hb d_Po_hearUnnumbered_52 rfl (lv_at hl 0 rfl) ?_
    refine lv_aload_n hx hb d_Po_hearUnnumbered_53 rfl (lv_at hl 1 rfl) ?_
    refine sm_v hI (va_runV (As := [.ref x1]) (rest := []) ⟨hx, hb, hml, hown, hts⟩ (c_Po_start l D ca _ _ _ _ hT h0 t0 x1 t1) (kv_Po_start hts rfl rfl (hts _ tw_1076) ⟨Nat.le_of_ble_eq_true rfl, Nat.le_of_ble_eq_true rfl⟩) (pv_Po hI hE hT t0) rfl rfl hl.1 rfl (lv_room (Nat.le_of_ble_eq_true rfl)) d_Po_hearUnnumbered_54 ⟨Nat.le_of_ble_eq_true rfl, Nat.le_of_ble_eq_true rfl⟩) (fun H locs f hI hT => ?_)
    refine lv_goto (tgt := 93) hx hb d_Po_hearUnnumbered_57 (by decide) ?_
    exact sm_vret hx hb hr hlk hI ⟨rfl, hT⟩ d_Po_hearUnnumbered_93
  by_cases c_6 : x_3 = 19
  · refine lv_lookup (off := 52) (tgt := 60) hx hb d_Po_hearUnnumbered_8 (by decide) (by rw [c_6]; decide) (by decide) ?_
    refine lv_aload_n hx hb d_Po_hearUnnumbered_60 rfl (lv_at hl 0 rfl) ?_
    refine lv_aload_n hx hb d_Po_hearUnnumbered_61 rfl (lv_at hl 1 rfl) ?_
    refine sm_v hI (va_runV (As := [.ref x1]) (rest := []) ⟨hx, hb, hml, hown, hts⟩ (c_Po_stop l D ca _ _ _ _ hT h0 t0 x1 t1) (kv_Po_stop hts rfl rfl (hts _ tw_1080) ⟨Nat.le_of_ble_eq_true rfl, Nat.le_of_ble_eq_true rfl⟩) (pv_Po hI hE hT t0) rfl rfl hl.1 rfl (lv_room (Nat.le_of_ble_eq_true rfl)) d_Po_hearUnnumbered_62 ⟨Nat.le_of_ble_eq_true rfl, Nat.le_of_ble_eq_true rfl⟩) (fun H locs f hI hT => ?_)
    refine lv_goto (tgt := 93) hx hb d_Po_hearUnnumbered_65 (by decide) ?_
    exact sm_vret hx hb hr hlk hI ⟨rfl, hT⟩ d_Po_hearUnnumbered_93
  by_cases c_7 : x_3 = 67
  · refine lv_lookup (off := 60) (tgt := 68) hx hb d_Po_hearUnnumbered_8 (by decide) (by rw [c_7]; decide) (by decide) ?_
    refine lv_aload_n hx hb d_Po_hearUnnumbered_68 rfl (lv_at hl 0 rfl) ?_
    refine lv_aload_n hx hb d_Po_hearUnnumbered_69 rfl (lv_at hl 1 rfl) ?_
    refine lv_sipush (v := 131) hx hb d_Po_hearUnnumbered_70 (by decide) ?_
    refine lv_iconst (v := 0) hx hb d_Po_hearUnnumbered_73 (by decide) ?_
    refine sm_v hI (va_runV (As := [.ref x1, .int (131), .int (0)]) (rest := []) ⟨hx, hb, hml, hown, hts⟩ (c_Po_sendControl l D ca _ _ _ _ hT h0 t0 x1 t1 131 0) (kv_Po_sendControl hts rfl rfl (hts _ tw_798) ⟨Nat.le_of_ble_eq_true rfl, Nat.le_of_ble_eq_true rfl⟩) (pv_Po hI hE hT t0) rfl rfl hl.1 rfl (lv_room (Nat.le_of_ble_eq_true rfl)) d_Po_hearUnnumbered_74 ⟨Nat.le_of_ble_eq_true rfl, Nat.le_of_ble_eq_true rfl⟩) (fun H locs f hI hT => ?_)
    refine lv_goto (tgt := 93) hx hb d_Po_hearUnnumbered_77 (by decide) ?_
    exact sm_vret hx hb hr hlk hI ⟨rfl, hT⟩ d_Po_hearUnnumbered_93
  by_cases c_8 : x_3 = 131
  · refine lv_lookup (off := 72) (tgt := 80) hx hb d_Po_hearUnnumbered_8 (by decide) (by rw [c_8]; decide) (by decide) ?_
    refine lv_aload_n hx hb d_Po_hearUnnumbered_80 rfl (lv_at hl 1 rfl) ?_
    refine lv_iconst (v := 0) hx hb d_Po_hearUnnumbered_81 (by decide) ?_
    refine fpN_Cn_testIsOut hx hb hts hown hI hT t1 (va_Nw.use rfl (hE.1 _ tn_296 rfl)) (fun _ h9 => h9) (by decide) d_Po_hearUnnumbered_82 (fun H locs f hI hT => ?_)
    refine lv_goto (tgt := 93) hx hb d_Po_hearUnnumbered_85 (by decide) ?_
    exact sm_vret hx hb hr hlk hI ⟨rfl, hT⟩ d_Po_hearUnnumbered_93
  refine lv_lookup (off := 80) (tgt := 88) hx hb d_Po_hearUnnumbered_8 (by decide) (by show Op.lookupswitch.offset [(7, 44), (19, 52), (67, 60), (131, 72)] _ _ = _; rw [lv_osw c_5 (by decide), lv_osw c_6 (by decide), lv_osw c_7 (by decide), lv_osw c_8 (by decide)]; rfl) (by decide) ?_
  refine lv_aload_n hx hb d_Po_hearUnnumbered_88 rfl (lv_at hl 0 rfl) ?_
  refine lv_aload_n hx hb d_Po_hearUnnumbered_89 rfl (lv_at hl 1 rfl) ?_
  refine sm_v hI (va_runV (As := [.ref x1]) (rest := []) ⟨hx, hb, hml, hown, hts⟩ (c_Po_shut l D ca _ _ _ _ hT h0 t0 x1 t1) (kv_Po_shut hts rfl rfl (hts _ tw_778) ⟨Nat.le_of_ble_eq_true rfl, Nat.le_of_ble_eq_true rfl⟩) (pv_Po hI hE hT t0) rfl rfl hl.1 rfl (lv_room (Nat.le_of_ble_eq_true rfl)) d_Po_hearUnnumbered_90 ⟨Nat.le_of_ble_eq_true rfl, Nat.le_of_ble_eq_true rfl⟩) (fun H locs f hI hT => ?_)
  exact sm_vret hx hb hr hlk hI ⟨rfl, hT⟩ d_Po_hearUnnumbered_93
theorem d_Po_confirm_0 : decode b_Po_confirm 0 = .ok (.aload_n 1, 1) := by decide +kernel
theorem d_Po_confirm_1 : decode b_Po_confirm 1 = .ok (.aload_n 1, 1) := by decide +kernel
theorem d_Po_confirm_2 : decode b_Po_confirm 2 = .ok (.getfield 360, 3) := by decide +kernel
theorem d_Po_confirm_5 : decode b_Po_confirm 5 = .ok (.iconst 4, 1) := by decide +kernel
theorem d_Po_confirm_6 : decode b_Po_confirm 6 = .ok (.iconst 2, 1) := by decide +kernel
theorem d_Po_confirm_7 : decode b_Po_confirm 7 = .ok (.invokevirtual 377, 3) := by decide +kernel
theorem d_Po_confirm_10 : decode b_Po_confirm 10 = .ok (.invokevirtual 380, 3) := by decide +kernel
theorem d_Po_confirm_13 : decode b_Po_confirm 13 = .ok (.istore_n 2, 1) := by decide +kernel
theorem d_Po_confirm_14 : decode b_Po_confirm 14 = .ok (.aload_n 0, 1) := by decide +kernel
theorem d_Po_confirm_15 : decode b_Po_confirm 15 = .ok (.getfield 31, 3) := by decide +kernel
theorem d_Po_confirm_18 : decode b_Po_confirm 18 = .ok (.aload_n 1, 1) := by decide +kernel
theorem d_Po_confirm_19 : decode b_Po_confirm 19 = .ok (.getfield 303, 3) := by decide +kernel
theorem d_Po_confirm_22 : decode b_Po_confirm 22 = .ok (.aload_n 1, 1) := by decide +kernel
theorem d_Po_confirm_23 : decode b_Po_confirm 23 = .ok (.invokevirtual 383, 3) := by decide +kernel
theorem d_Po_confirm_26 : decode b_Po_confirm 26 = .ok (.iload_n 2, 1) := by decide +kernel
theorem d_Po_confirm_27 : decode b_Po_confirm 27 = .ok (.invokevirtual 386, 3) := by decide +kernel
theorem d_Po_confirm_30 : decode b_Po_confirm 30 = .ok (.aload_n 1, 1) := by decide +kernel
theorem d_Po_confirm_31 : decode b_Po_confirm 31 = .ok (.dup, 1) := by decide +kernel
theorem d_Po_confirm_32 : decode b_Po_confirm 32 = .ok (.getfield 389, 3) := by decide +kernel
theorem d_Po_confirm_35 : decode b_Po_confirm 35 = .ok (.iload_n 2, 1) := by decide +kernel
theorem d_Po_confirm_36 : decode b_Po_confirm 36 = .ok (.isub, 1) := by decide +kernel
theorem d_Po_confirm_37 : decode b_Po_confirm 37 = .ok (.putfield 389, 3) := by decide +kernel
theorem d_Po_confirm_40 : decode b_Po_confirm 40 = .ok (.return_, 1) := by decide +kernel
set_option maxRecDepth 100000 in
set_option maxHeartbeats 4000000 in
theorem c_Po_confirm (l : Launch) (D : va_G) (ca : Nat → ClassId) (T : ty_e) (L : List Nat) (f0 : Nat → va_E) (sz : Nat) (hT : ok_T ca T L f0) {g0 : List (Int32 × Int32)} (h0 : Nat) (t0 : T h0 = some (ty_po g0)) {k1 : Nat} (x1 : Nat) (t1 : T x1 = some (ty_cn k1)) :
    Met l y_Po_confirm (Cond.code y_Po_confirm b_Po_confirm 3 none :: wg) { frames := 2, cells := 0, slots := 0, locals := 47 } (va_Pc [.ref h0, .ref x1] (sm_P D cl_all (ty_s ca) ek L f0 sz)) (sm_Qv D (ty_s ca) L f0 sz (fun u => po_m ca T L u)) 0 0 (va_A (va_pl L f0) sz) := by
  refine sm_start (by decide) (Nat.le_of_ble_eq_true rfl) ?_
  intro p e s m below meth c ls hx hb hml hr hlk hnm hts hown hsz hE hI hl
  have hl : lv_has ls 3 [(0, .ref h0), (1, .ref x1)] := hl
  refine lv_aload_n hx hb d_Po_confirm_0 rfl (lv_at hl 1 rfl) ?_
  refine lv_aload_n hx hb d_Po_confirm_1 rfl (lv_at hl 1 rfl) ?_
  refine fg_Cn_heard hx hb hts hown hI hT t1 (hts _ tw_136) (fun x9 h9 => u_same (hts _ tw_132) x9 h9) d_Po_confirm_2 (fun r_1 t_2 => ?_)
  refine lv_iconst (v := 4) hx hb d_Po_confirm_5 (by decide) ?_
  refine lv_iconst (v := 2) hx hb d_Po_confirm_6 (by decide) ?_
  refine sm_iP hI (va_runV (As := [.int (4), .int (2)]) (rest := [.ref x1]) ⟨hx, hb, hml, hown, hts⟩ (c_Br_number l D ca _ _ _ _ hT r_1 t_2 4 (2) (by omega)) (kv_Br_number hts rfl rfl (hts _ tw_940) ⟨Nat.le_of_ble_eq_true rfl, Nat.le_of_ble_eq_true rfl⟩) (pv_Br hI hE hT t_2) rfl rfl hl.1 rfl (lv_room (Nat.le_of_ble_eq_true rfl)) d_Po_confirm_7 ⟨Nat.le_of_ble_eq_true rfl, Nat.le_of_ble_eq_true rfl⟩) (fun x_3 H locs p_4 hI => ?_)
  refine sm_iP hI (va_runV (As := [.int (x_3)]) (rest := []) ⟨hx, hb, hml, hown, hts⟩ (c_Cn_confirmedBy l D ca _ _ _ _ hT x1 t1 x_3) (kv_Cn_confirmedBy hts rfl rfl (hts _ tw_1088) ⟨Nat.le_of_ble_eq_true rfl, Nat.le_of_ble_eq_true rfl⟩) (pv_Cn hI hE hT t1) rfl rfl hl.1 rfl (lv_room (Nat.le_of_ble_eq_true rfl)) d_Po_confirm_10 ⟨Nat.le_of_ble_eq_true rfl, Nat.le_of_ble_eq_true rfl⟩) (fun x_5 H locs p_6 hI => ?_)
  refine lv_istore_n (lv' := [(2, .int (x_5)), (0, .ref h0), (1, .ref x1)]) hx hb d_Po_confirm_13 rfl hl (by decide) rfl (fun ls hl => ?_)
  refine lv_aload_n hx hb d_Po_confirm_14 rfl (lv_at hl 1 rfl) ?_
  refine fg_Po_events hx hb hts hown hI hT t0 (hts _ tw_367) (fun _ h9 => h9) d_Po_confirm_15 (fun r_7 t_8 => ?_)
  refine lv_aload_n hx hb d_Po_confirm_18 rfl (lv_at hl 2 rfl) ?_
  refine fg_Cn_index hx hb hts hown hI hT t1 (hts _ tw_121) (fun x9 h9 => u_same (hts _ tw_122) x9 h9) d_Po_confirm_19 (fun h_9 => ?_)
  refine lv_aload_n hx hb d_Po_confirm_22 rfl (lv_at hl 2 rfl) ?_
  refine sm_iP hI (va_runV (As := []) (rest := [.int (nI k1), .ref r_7]) ⟨hx, hb, hml, hown, hts⟩ (c_Cn_oldestSent l D ca _ _ _ _ hT x1 t1) (kv_Cn_oldestSent hts rfl rfl (hts _ tw_1089) ⟨Nat.le_of_ble_eq_true rfl, Nat.le_of_ble_eq_true rfl⟩) (pv_Cn hI hE hT t1) rfl rfl hl.1 rfl (lv_room (Nat.le_of_ble_eq_true rfl)) d_Po_confirm_23 ⟨Nat.le_of_ble_eq_true rfl, Nat.le_of_ble_eq_true rfl⟩) (fun x_10 H locs p_11 hI => ?_)
  refine lv_iload_n hx hb d_Po_confirm_26 rfl (lv_at hl 0 rfl) ?_
  refine sm_v hI (va_runV (As := [.int (nI k1), .int (x_10), .int (x_5)]) (rest := []) ⟨hx, hb, hml, hown, hts⟩ (c_Es_confirm l D ca _ _ _ _ hT r_7 t_8 (nI k1) x_10 x_5) (kv_Es_confirm hts rfl rfl (hts _ tw_1090) ⟨Nat.le_of_ble_eq_true rfl, Nat.le_of_ble_eq_true rfl⟩) (pv_Es hI hE hT t_8) rfl rfl hl.1 rfl (lv_room (Nat.le_of_ble_eq_true rfl)) d_Po_confirm_27 ⟨Nat.le_of_ble_eq_true rfl, Nat.le_of_ble_eq_true rfl⟩) (fun H locs f hI hT => ?_)
  refine lv_aload_n hx hb d_Po_confirm_30 rfl (lv_at hl 2 rfl) ?_
  refine lv_dup hx hb d_Po_confirm_31 rfl ?_
  refine fgN_Cn_unconfirmed hx hb hts hown hI hT t1 (va_Nw.use rfl (hE.1 _ tn_287 rfl)) (fun _ h9 => h9) d_Po_confirm_32 (fun x_12 => ?_)
  refine lv_iload_n hx hb d_Po_confirm_35 rfl (lv_at hl 0 rfl) ?_
  refine lv_isub hx hb d_Po_confirm_36 ?_
  refine lv_topi (fun x_13 e_14 => ?_)
  refine fpN_Cn_unconfirmed hx hb hts hown hI hT t1 (va_Nw.use rfl (hE.1 _ tn_287 rfl)) (fun _ h9 => h9) d_Po_confirm_37 (fun H locs f hI hT => ?_)
  exact sm_vret hx hb hr hlk hI ⟨rfl, hT⟩ d_Po_confirm_40
theorem d_Po_time_0 : decode b_Po_time 0 = .ok (.aload_n 0, 1) := by decide +kernel
theorem d_Po_time_1 : decode b_Po_time 1 = .ok (.getfield 138, 3) := by decide +kernel
theorem d_Po_time_4 : decode b_Po_time 4 = .ok (.lreturn, 1) := by decide +kernel
set_option maxRecDepth 100000 in
set_option maxHeartbeats 4000000 in
theorem c_Po_time (l : Launch) (D : va_G) (ca : Nat → ClassId) (T : ty_e) (L : List Nat) (f0 : Nat → va_E) (sz : Nat) (hT : ok_T ca T L f0) {g0 : List (Int32 × Int32)} (h0 : Nat) (t0 : T h0 = some (ty_po g0)) :
    Met l y_Po_time (Cond.code y_Po_time b_Po_time 1 (some .long) :: wg) { frames := 0, cells := 0, slots := 0, locals := 0 } (va_Pc [.ref h0] (sm_P D cl_all (ty_s ca) ek L f0 sz)) (sm_Ql D (ty_s ca) L f0 sz (fun r u => True ∧ u = (L, f0))) 0 0 (va_A (va_pl L f0) sz) := by
  refine sm_start (by decide) (Nat.le_of_ble_eq_true rfl) ?_
  intro p e s m below meth c ls hx hb hml hr hlk hnm hts hown hsz hE hI hl
  have hl : lv_has ls 1 [(0, .ref h0)] := hl
  refine lv_aload_n hx hb d_Po_time_0 rfl (lv_at hl 0 rfl) ?_
  refine fg_Po_clockTime hx hb hts hown hI hT t0 (hts _ tw_371) (fun _ h9 => h9) d_Po_time_1 (fun x_1 => ?_)
  exact sm_lret hx hb hr hlk hI ⟨trivial, rfl⟩ d_Po_time_4
