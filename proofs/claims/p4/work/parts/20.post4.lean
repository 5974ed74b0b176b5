/-! TelecontrolPost: times, points told, selections, the serial line (written by wip/tools) -/
theorem d_Po_putTime_0 : decode b_Po_putTime 0 = .ok (.aload_n 0, 1) := by decide +kernel
theorem d_Po_putTime_1 : decode b_Po_putTime 1 = .ok (.getfield 138, 3) := by decide +kernel
theorem d_Po_putTime_4 : decode b_Po_putTime 4 = .ok (.ldc2_w 674, 3) := by decide +kernel
theorem d_Po_putTime_7 : decode b_Po_putTime 7 = .ok (.ldiv, 1) := by decide +kernel
theorem d_Po_putTime_8 : decode b_Po_putTime 8 = .ok (.l2i, 1) := by decide +kernel
theorem d_Po_putTime_9 : decode b_Po_putTime 9 = .ok (.istore_n 2, 1) := by decide +kernel
theorem d_Po_putTime_10 : decode b_Po_putTime 10 = .ok (.aload_n 0, 1) := by decide +kernel
theorem d_Po_putTime_11 : decode b_Po_putTime 11 = .ok (.getfield 138, 3) := by decide +kernel
theorem d_Po_putTime_14 : decode b_Po_putTime 14 = .ok (.ldc2_w 674, 3) := by decide +kernel
theorem d_Po_putTime_17 : decode b_Po_putTime 17 = .ok (.lrem, 1) := by decide +kernel
theorem d_Po_putTime_18 : decode b_Po_putTime 18 = .ok (.l2i, 1) := by decide +kernel
theorem d_Po_putTime_19 : decode b_Po_putTime 19 = .ok (.istore_n 3, 1) := by decide +kernel
theorem d_Po_putTime_20 : decode b_Po_putTime 20 = .ok (.iload_n 2, 1) := by decide +kernel
theorem d_Po_putTime_21 : decode b_Po_putTime 21 = .ok (.iconst 5, 1) := by decide +kernel
theorem d_Po_putTime_22 : decode b_Po_putTime 22 = .ok (.iadd, 1) := by decide +kernel
theorem d_Po_putTime_23 : decode b_Po_putTime 23 = .ok (.bipush 7, 2) := by decide +kernel
theorem d_Po_putTime_25 : decode b_Po_putTime 25 = .ok (.irem, 1) := by decide +kernel
theorem d_Po_putTime_26 : decode b_Po_putTime 26 = .ok (.iconst 1, 1) := by decide +kernel
theorem d_Po_putTime_27 : decode b_Po_putTime 27 = .ok (.iadd, 1) := by decide +kernel
theorem d_Po_putTime_28 : decode b_Po_putTime 28 = .ok (.istore 4, 2) := by decide +kernel
theorem d_Po_putTime_30 : decode b_Po_putTime 30 = .ok (.iconst 0, 1) := by decide +kernel
theorem d_Po_putTime_31 : decode b_Po_putTime 31 = .ok (.istore 5, 2) := by decide +kernel
theorem d_Po_putTime_33 : decode b_Po_putTime 33 = .ok (.iload 5, 2) := by decide +kernel
theorem d_Po_putTime_35 : decode b_Po_putTime 35 = .ok (.sipush 400, 3) := by decide +kernel
theorem d_Po_putTime_38 : decode b_Po_putTime 38 = .ok (.if_icmp .ge 26, 3) := by decide +kernel
theorem d_Po_putTime_41 : decode b_Po_putTime 41 = .ok (.iload_n 2, 1) := by decide +kernel
theorem d_Po_putTime_42 : decode b_Po_putTime 42 = .ok (.iload 5, 2) := by decide +kernel
theorem d_Po_putTime_44 : decode b_Po_putTime 44 = .ok (.invokestatic 676, 3) := by decide +kernel
theorem d_Po_putTime_47 : decode b_Po_putTime 47 = .ok (.if_icmp .lt 17, 3) := by decide +kernel
theorem d_Po_putTime_50 : decode b_Po_putTime 50 = .ok (.iload_n 2, 1) := by decide +kernel
theorem d_Po_putTime_51 : decode b_Po_putTime 51 = .ok (.iload 5, 2) := by decide +kernel
theorem d_Po_putTime_53 : decode b_Po_putTime 53 = .ok (.invokestatic 676, 3) := by decide +kernel
theorem d_Po_putTime_56 : decode b_Po_putTime 56 = .ok (.isub, 1) := by decide +kernel
theorem d_Po_putTime_57 : decode b_Po_putTime 57 = .ok (.istore_n 2, 1) := by decide +kernel
theorem d_Po_putTime_58 : decode b_Po_putTime 58 = .ok (.iinc 5 1, 3) := by decide +kernel
theorem d_Po_putTime_61 : decode b_Po_putTime 61 = .ok (.goto (-28), 3) := by decide +kernel
theorem d_Po_putTime_64 : decode b_Po_putTime 64 = .ok (.iconst 0, 1) := by decide +kernel
theorem d_Po_putTime_65 : decode b_Po_putTime 65 = .ok (.istore 6, 2) := by decide +kernel
theorem d_Po_putTime_67 : decode b_Po_putTime 67 = .ok (.iload 6, 2) := by decide +kernel
theorem d_Po_putTime_69 : decode b_Po_putTime 69 = .ok (.bipush 11, 2) := by decide +kernel
theorem d_Po_putTime_71 : decode b_Po_putTime 71 = .ok (.if_icmp .ge 30, 3) := by decide +kernel
theorem d_Po_putTime_74 : decode b_Po_putTime 74 = .ok (.iload_n 2, 1) := by decide +kernel
theorem d_Po_putTime_75 : decode b_Po_putTime 75 = .ok (.iload 6, 2) := by decide +kernel
theorem d_Po_putTime_77 : decode b_Po_putTime 77 = .ok (.iload 5, 2) := by decide +kernel
theorem d_Po_putTime_79 : decode b_Po_putTime 79 = .ok (.invokestatic 679, 3) := by decide +kernel
theorem d_Po_putTime_82 : decode b_Po_putTime 82 = .ok (.if_icmp .lt 19, 3) := by decide +kernel
theorem d_Po_putTime_85 : decode b_Po_putTime 85 = .ok (.iload_n 2, 1) := by decide +kernel
theorem d_Po_putTime_86 : decode b_Po_putTime 86 = .ok (.iload 6, 2) := by decide +kernel
theorem d_Po_putTime_88 : decode b_Po_putTime 88 = .ok (.iload 5, 2) := by decide +kernel
theorem d_Po_putTime_90 : decode b_Po_putTime 90 = .ok (.invokestatic 679, 3) := by decide +kernel
theorem d_Po_putTime_93 : decode b_Po_putTime 93 = .ok (.isub, 1) := by decide +kernel
theorem d_Po_putTime_94 : decode b_Po_putTime 94 = .ok (.istore_n 2, 1) := by decide +kernel
theorem d_Po_putTime_95 : decode b_Po_putTime 95 = .ok (.iinc 6 1, 3) := by decide +kernel
theorem d_Po_putTime_98 : decode b_Po_putTime 98 = .ok (.goto (-31), 3) := by decide +kernel
theorem d_Po_putTime_101 : decode b_Po_putTime 101 = .ok (.aload_n 1, 1) := by decide +kernel
theorem d_Po_putTime_102 : decode b_Po_putTime 102 = .ok (.iload_n 3, 1) := by decide +kernel
theorem d_Po_putTime_103 : decode b_Po_putTime 103 = .ok (.ldc_w 682, 3) := by decide +kernel
theorem d_Po_putTime_106 : decode b_Po_putTime 106 = .ok (.irem, 1) := by decide +kernel
theorem d_Po_putTime_107 : decode b_Po_putTime 107 = .ok (.iconst 2, 1) := by decide +kernel
theorem d_Po_putTime_108 : decode b_Po_putTime 108 = .ok (.invokevirtual 425, 3) := by decide +kernel
theorem d_Po_putTime_111 : decode b_Po_putTime 111 = .ok (.aload_n 1, 1) := by decide +kernel
theorem d_Po_putTime_112 : decode b_Po_putTime 112 = .ok (.iload_n 3, 1) := by decide +kernel
theorem d_Po_putTime_113 : decode b_Po_putTime 113 = .ok (.ldc_w 682, 3) := by decide +kernel
theorem d_Po_putTime_116 : decode b_Po_putTime 116 = .ok (.idiv, 1) := by decide +kernel
theorem d_Po_putTime_117 : decode b_Po_putTime 117 = .ok (.bipush 60, 2) := by decide +kernel
theorem d_Po_putTime_119 : decode b_Po_putTime 119 = .ok (.irem, 1) := by decide +kernel
theorem d_Po_putTime_120 : decode b_Po_putTime 120 = .ok (.aload_n 0, 1) := by decide +kernel
theorem d_Po_putTime_121 : decode b_Po_putTime 121 = .ok (.getfield 142, 3) := by decide +kernel
theorem d_Po_putTime_124 : decode b_Po_putTime 124 = .ok (.ifCond .eq 7, 3) := by decide +kernel
theorem d_Po_putTime_127 : decode b_Po_putTime 127 = .ok (.iconst 0, 1) := by decide +kernel
theorem d_Po_putTime_128 : decode b_Po_putTime 128 = .ok (.goto 6, 3) := by decide +kernel
theorem d_Po_putTime_131 : decode b_Po_putTime 131 = .ok (.sipush 128, 3) := by decide +kernel
theorem d_Po_putTime_134 : decode b_Po_putTime 134 = .ok (.iadd, 1) := by decide +kernel
theorem d_Po_putTime_135 : decode b_Po_putTime 135 = .ok (.invokevirtual 182, 3) := by decide +kernel
theorem d_Po_putTime_138 : decode b_Po_putTime 138 = .ok (.aload_n 1, 1) := by decide +kernel
theorem d_Po_putTime_139 : decode b_Po_putTime 139 = .ok (.iload_n 3, 1) := by decide +kernel
theorem d_Po_putTime_140 : decode b_Po_putTime 140 = .ok (.ldc_w 683, 3) := by decide +kernel
theorem d_Po_putTime_143 : decode b_Po_putTime 143 = .ok (.idiv, 1) := by decide +kernel
theorem d_Po_putTime_144 : decode b_Po_putTime 144 = .ok (.invokevirtual 182, 3) := by decide +kernel
theorem d_Po_putTime_147 : decode b_Po_putTime 147 = .ok (.aload_n 1, 1) := by decide +kernel
theorem d_Po_putTime_148 : decode b_Po_putTime 148 = .ok (.iload_n 2, 1) := by decide +kernel
theorem d_Po_putTime_149 : decode b_Po_putTime 149 = .ok (.iconst 1, 1) := by decide +kernel
theorem d_Po_putTime_150 : decode b_Po_putTime 150 = .ok (.iadd, 1) := by decide +kernel
theorem d_Po_putTime_151 : decode b_Po_putTime 151 = .ok (.bipush 32, 2) := by decide +kernel
theorem d_Po_putTime_153 : decode b_Po_putTime 153 = .ok (.iload 4, 2) := by decide +kernel
theorem d_Po_putTime_155 : decode b_Po_putTime 155 = .ok (.imul, 1) := by decide +kernel
theorem d_Po_putTime_156 : decode b_Po_putTime 156 = .ok (.iadd, 1) := by decide +kernel
theorem d_Po_putTime_157 : decode b_Po_putTime 157 = .ok (.invokevirtual 182, 3) := by decide +kernel
theorem d_Po_putTime_160 : decode b_Po_putTime 160 = .ok (.aload_n 1, 1) := by decide +kernel
theorem d_Po_putTime_161 : decode b_Po_putTime 161 = .ok (.iload 6, 2) := by decide +kernel
theorem d_Po_putTime_163 : decode b_Po_putTime 163 = .ok (.iconst 1, 1) := by decide +kernel
theorem d_Po_putTime_164 : decode b_Po_putTime 164 = .ok (.iadd, 1) := by decide +kernel
theorem d_Po_putTime_165 : decode b_Po_putTime 165 = .ok (.invokevirtual 182, 3) := by decide +kernel
theorem d_Po_putTime_168 : decode b_Po_putTime 168 = .ok (.aload_n 1, 1) := by decide +kernel
theorem d_Po_putTime_169 : decode b_Po_putTime 169 = .ok (.iload 5, 2) := by decide +kernel
theorem d_Po_putTime_171 : decode b_Po_putTime 171 = .ok (.bipush 100, 2) := by decide +kernel
theorem d_Po_putTime_173 : decode b_Po_putTime 173 = .ok (.irem, 1) := by decide +kernel
theorem d_Po_putTime_174 : decode b_Po_putTime 174 = .ok (.invokevirtual 182, 3) := by decide +kernel
theorem d_Po_putTime_177 : decode b_Po_putTime 177 = .ok (.return_, 1) := by decide +kernel
set_option maxRecDepth 100000 in
set_option maxHeartbeats 4000000 in
theorem c_Po_putTime (l : Launch) (D : va_G) (ca : Nat → ClassId) (T : ty_e) (L : List Nat) (f0 : Nat → va_E) (sz : Nat) (hT : ok_T ca T L f0) {g0 : List (Int32 × Int32)} (h0 : Nat) (t0 : T h0 = some (ty_po g0)) {m1 : Nat} (x1 : Nat) (t1 : T x1 = some (ty_row m1)) :
    Met l y_Po_putTime (Cond.code y_Po_putTime b_Po_putTime 7 none :: wg) { frames := 2, cells := 0, slots := 0, locals := 41 } (va_Pc [.ref h0, .ref x1] (sm_P D cl_all (ty_s ca) ek L f0 sz)) (sm_Qv D (ty_s ca) L f0 sz (fun u => po_m ca T L u)) 0 0 (va_A (va_pl L f0) sz) := by
  refine sm_start (by decide) (Nat.le_of_ble_eq_true rfl) ?_
  intro p e s m below meth c ls hx hb hml hr hlk hnm hts hown hsz hE hI hl
  have hl : lv_has ls 7 [(0, .ref h0), (1, .ref x1)] := hl
  have hJ_134 : ∀ (H : Heap) (locs : List Loc) (f : Nat → va_E) (ls : Array Slot) (y2 : Int32) (y3 : Int32) (y4 : Int32) (y5 : Int32) (y6 : Int32) (z1 : Int32) (z2 : Int32), sw_I D cl_all (ty_s ca) (va_A (va_pl L f0) sz) s H locs L f → ok_T ca T L f → lv_has ls 7 [(0, .ref h0), (1, .ref x1), (2, .int (y2)), (3, .int (y3)), (4, .int (y4)), (5, .int (y5)), (6, .int (y6))] → W p l e { frames := 2, cells := 0, slots := 0, locals := 41 } s m ([.ref h0, .ref x1] : List Value).toArray below meth c H locs 0 0 (MQ below (sm_Qv D (ty_s ca) L f0 sz (fun u => po_m ca T L u)) ([.ref h0, .ref x1] : List Value).toArray s 0 0 (va_A (va_pl L f0) sz)) (F0 m 134 ls [.int (z2), .int (z1), .ref x1]) := by
    intro H locs f ls y2 y3 y4 y5 y6 z1 z2 hI hT hl 
    refine lv_iadd hx hb d_Po_putTime_134 ?_
    refine lv_topi (fun x_1 e_2 => ?_)
    refine sm_v hI (va_runV (As := [.int (x_1)]) (rest := []) ⟨hx, hb, hml, hown, hts⟩ (c_Br_put l D ca _ _ _ _ hT x1 t1 x_1) (kv_Br_put hts rfl rfl (hts _ tw_651) ⟨Nat.le_of_ble_eq_true rfl, Nat.le_of_ble_eq_true rfl⟩) (pv_Br hI hE hT t1) rfl rfl hl.1 rfl (lv_room (Nat.le_of_ble_eq_true rfl)) d_Po_putTime_135 ⟨Nat.le_of_ble_eq_true rfl, Nat.le_of_ble_eq_true rfl⟩) (fun H locs f hI hT => ?_)
    refine lv_aload_n hx hb d_Po_putTime_138 rfl (lv_at hl 1 rfl) ?_
    refine lv_iload_n hx hb d_Po_putTime_139 rfl (lv_at hl 3 rfl) ?_
    refine lv_ldcw (v := 3600000) hx hb hown (hts _ tw_652) d_Po_putTime_140 ?_
    refine lv_idiv hx hb d_Po_putTime_143 (by decide) ?_
    refine lv_topi (fun x_3 e_4 => ?_)
    refine sm_v hI (va_runV (As := [.int (x_3)]) (rest := []) ⟨hx, hb, hml, hown, hts⟩ (c_Br_put l D ca _ _ _ _ hT x1 t1 x_3) (kv_Br_put hts rfl rfl (hts _ tw_651) ⟨Nat.le_of_ble_eq_true rfl, Nat.le_of_ble_eq_true rfl⟩) (pv_Br hI hE hT t1) rfl rfl hl.1 rfl (lv_room (Nat.le_of_ble_eq_true rfl)) d_Po_putTime_144 ⟨Nat.le_of_ble_eq_true rfl, Nat.le_of_ble_eq_true rfl⟩) (fun H locs f hI hT => ?_)
    refine lv_aload_n hx hb d_Po_putTime_147 rfl (lv_at hl 1 rfl) ?_
    refine lv_iload_n hx hb d_Po_putTime_148 rfl (lv_at hl 2 rfl) ?_
    refine lv_iconst (v := 1) hx hb d_Po_putTime_149 (by decide) ?_
    refine lv_iadd hx hb d_Po_putTime_150 ?_
    refine lv_topi (fun x_5 e_6 => ?_)
    refine lv_bipush (v := 32) hx hb d_Po_putTime_151 (by decide) ?_
    refine lv_iload hx hb d_Po_putTime_153 (lv_at hl 4 rfl) ?_
    refine lv_imul hx hb d_Po_putTime_155 ?_
    refine lv_topi (fun x_7 e_8 => ?_)
    refine lv_iadd hx hb d_Po_putTime_156 ?_
    refine lv_topi (fun x_9 e_10 => ?_)
    refine sm_v hI (va_runV (As := [.int (x_9)]) (rest := []) ⟨hx, hb, hml, hown, hts⟩ (c_Br_put l D ca _ _ _ _ hT x1 t1 x_9) (kv_Br_put hts rfl rfl (hts _ tw_651) ⟨Nat.le_of_ble_eq_true rfl, Nat.le_of_ble_eq_true rfl⟩) (pv_Br hI hE hT t1) rfl rfl hl.1 rfl (lv_room (Nat.le_of_ble_eq_true rfl)) d_Po_putTime_157 ⟨Nat.le_of_ble_eq_true rfl, Nat.le_of_ble_eq_true rfl⟩) (fun H locs f hI hT => ?_)
    refine lv_aload_n hx hb d_Po_putTime_160 rfl (lv_at hl 1 rfl) ?_
    refine lv_iload hx hb d_Po_putTime_161 (lv_at hl 6 rfl) ?_
    refine lv_iconst (v := 1) hx hb d_Po_putTime_163 (by decide) ?_
    refine lv_iadd hx hb d_Po_putTime_164 ?_
    refine lv_topi (fun x_11 e_12 => ?_)
    refine sm_v hI (va_runV (As := [.int (x_11)]) (rest := []) ⟨hx, hb, hml, hown, hts⟩ (c_Br_put l D ca _ _ _ _ hT x1 t1 x_11) (kv_Br_put hts rfl rfl (hts _ tw_651) ⟨Nat.le_of_ble_eq_true rfl, Nat.le_of_ble_eq_true rfl⟩) (pv_Br hI hE hT t1) rfl rfl hl.1 rfl (lv_room (Nat.le_of_ble_eq_true rfl)) d_Po_putTime_165 ⟨Nat.le_of_ble_eq_true rfl, Nat.le_of_ble_eq_true rfl⟩) (fun H locs f hI hT => ?_)
    refine lv_aload_n hx hb d_Po_putTime_168 rfl (lv_at hl 1 rfl) ?_
    refine lv_iload hx hb d_Po_putTime_169 (lv_at hl 5 rfl) ?_
    refine lv_bipush (v := 100) hx hb d_Po_putTime_171 (by decide) ?_
    refine lv_irem hx hb d_Po_putTime_173 (by decide) ?_
    refine lv_topi (fun x_13 e_14 => ?_)
    refine sm_v hI (va_runV (As := [.int (x_13)]) (rest := []) ⟨hx, hb, hml, hown, hts⟩ (c_Br_put l D ca _ _ _ _ hT x1 t1 x_13) (kv_Br_put hts rfl rfl (hts _ tw_651) ⟨Nat.le_of_ble_eq_true rfl, Nat.le_of_ble_eq_true rfl⟩) (pv_Br hI hE hT t1) rfl rfl hl.1 rfl (lv_room (Nat.le_of_ble_eq_true rfl)) d_Po_putTime_174 ⟨Nat.le_of_ble_eq_true rfl, Nat.le_of_ble_eq_true rfl⟩) (fun H locs f hI hT => ?_)
    exact sm_vret hx hb hr hlk hI ⟨rfl, hT⟩ d_Po_putTime_177
  have hJ_101 : ∀ (H : Heap) (locs : List Loc) (f : Nat → va_E) (ls : Array Slot) (y2 : Int32) (y3 : Int32) (y4 : Int32) (y5 : Int32) (y6 : Int32), sw_I D cl_all (ty_s ca) (va_A (va_pl L f0) sz) s H locs L f → ok_T ca T L f → lv_has ls 7 [(0, .ref h0), (1, .ref x1), (2, .int (y2)), (3, .int (y3)), (4, .int (y4)), (5, .int (y5)), (6, .int (y6))] → W p l e { frames := 2, cells := 0, slots := 0, locals := 41 } s m ([.ref h0, .ref x1] : List Value).toArray below meth c H locs 0 0 (MQ below (sm_Qv D (ty_s ca) L f0 sz (fun u => po_m ca T L u)) ([.ref h0, .ref x1] : List Value).toArray s 0 0 (va_A (va_pl L f0) sz)) (F0 m 101 ls []) := by
    intro H locs f ls y2 y3 y4 y5 y6 hI hT hl 
    refine lv_aload_n hx hb d_Po_putTime_101 rfl (lv_at hl 1 rfl) ?_
    refine lv_iload_n hx hb d_Po_putTime_102 rfl (lv_at hl 3 rfl) ?_
    refine lv_ldcw (v := 60000) hx hb hown (hts _ tw_649) d_Po_putTime_103 ?_
    refine lv_irem hx hb d_Po_putTime_106 (by decide) ?_
    refine lv_topi (fun x_15 e_16 => ?_)
    refine lv_iconst (v := 2) hx hb d_Po_putTime_107 (by decide) ?_
    refine sm_v hI (va_runV (As := [.int (x_15), .int (2)]) (rest := []) ⟨hx, hb, hml, hown, hts⟩ (c_Br_putNumber l D ca _ _ _ _ hT x1 t1 x_15 (2) (by omega)) (kv_Br_putNumber hts rfl rfl (hts _ tw_650) ⟨Nat.le_of_ble_eq_true rfl, Nat.le_of_ble_eq_true rfl⟩) (pv_Br hI hE hT t1) rfl rfl hl.1 rfl (lv_room (Nat.le_of_ble_eq_true rfl)) d_Po_putTime_108 ⟨Nat.le_of_ble_eq_true rfl, Nat.le_of_ble_eq_true rfl⟩) (fun H locs f hI hT => ?_)
    refine lv_aload_n hx hb d_Po_putTime_111 rfl (lv_at hl 1 rfl) ?_
    refine lv_iload_n hx hb d_Po_putTime_112 rfl (lv_at hl 3 rfl) ?_
    refine lv_ldcw (v := 60000) hx hb hown (hts _ tw_649) d_Po_putTime_113 ?_
    refine lv_idiv hx hb d_Po_putTime_116 (by decide) ?_
    refine lv_topi (fun x_17 e_18 => ?_)
    refine lv_bipush (v := 60) hx hb d_Po_putTime_117 (by decide) ?_
    refine lv_irem hx hb d_Po_putTime_119 (by decide) ?_
    refine lv_topi (fun x_19 e_20 => ?_)
    refine lv_aload_n hx hb d_Po_putTime_120 rfl (lv_at hl 0 rfl) ?_
    refine fg_Po_clockSet hx hb hts hown hI hT t0 (hts _ tw_372) (fun _ h9 => h9) d_Po_putTime_121 (fun x_21 p_22 => ?_)
    refine lv_if_eq (tgt := 131) hx hb d_Po_putTime_124 (by decide) (fun c_23 => ?_) (fun c_23 => ?_)
    · refine lv_sipush (v := 128) hx hb d_Po_putTime_131 (by decide) ?_
      exact hJ_134 _ _ _ _ y2 y3 y4 y5 y6 x_19 128 hI hT (lv_sub hl [0, 1, 2, 3, 4, 5, 6] rfl) 
    · refine lv_iconst (v := 0) hx hb d_Po_putTime_127 (by decide) ?_
      refine lv_goto (tgt := 134) hx hb d_Po_putTime_128 (by decide) ?_
      exact hJ_134 _ _ _ _ y2 y3 y4 y5 y6 x_19 0 hI hT (lv_sub hl [0, 1, 2, 3, 4, 5, 6] rfl) 
  have hJ_67 : ∀ (N k : Nat) (H : Heap) (locs : List Loc) (f : Nat → va_E) (ls : Array Slot) (y2 : Int32) (y3 : Int32) (y4 : Int32) (y5 : Int32), 11 + 1 - k ≤ N → k ≤ 11 → sw_I D cl_all (ty_s ca) (va_A (va_pl L f0) sz) s H locs L f → ok_T ca T L f → lv_has ls 7 [(0, .ref h0), (1, .ref x1), (2, .int (y2)), (3, .int (y3)), (4, .int (y4)), (5, .int (y5)), (6, .int (nI k))] → W p l e { frames := 2, cells := 0, slots := 0, locals := 41 } s m ([.ref h0, .ref x1] : List Value).toArray below meth c H locs 0 0 (MQ below (sm_Qv D (ty_s ca) L f0 sz (fun u => po_m ca T L u)) ([.ref h0, .ref x1] : List Value).toArray s 0 0 (va_A (va_pl L f0) sz)) (F0 m 67 ls []) := by
    intro N
    induction N with
    | zero => intros; omega
    | succ N ih =>
      intro k H locs f ls y2 y3 y4 y5 hN hk hI hT hl 
      refine lv_iload hx hb d_Po_putTime_67 (lv_at hl 6 rfl) ?_
      refine lv_bipush (v := 11) hx hb d_Po_putTime_69 (by decide) ?_
      refine lv_icmp_ge (tgt := 101) hx hb d_Po_putTime_71 (by decide) (fun c_24 => ?_) (fun c_24 => ?_)
      · have k_25 : 11 ≤ k := (nI_leI (a := 11) (b := k) (by omega) (by omega)).mp c_24
        exact hJ_101 _ _ _ _ y2 y3 y4 y5 (nI k) hI hT (lv_sub hl [0, 1, 2, 3, 4, 5, 6] rfl) 
      · have k_26 : k < 11 := Nat.lt_of_not_le (fun q => c_24 ((nI_leI (a := 11) (b := k) (by omega) (by omega)).mpr q))
        refine lv_iload_n hx hb d_Po_putTime_74 rfl (lv_at hl 2 rfl) ?_
        refine lv_iload hx hb d_Po_putTime_75 (lv_at hl 6 rfl) ?_
        refine lv_iload hx hb d_Po_putTime_77 (lv_at hl 5 rfl) ?_
        refine sm_iP hI (va_runS (As := [.int (nI k), .int (y5)]) (rest := [.int (y2)]) ⟨hx, hb, hml, hown, hts⟩ (c_Po_daysOfMonth l D ca _ _ _ _ hT (nI k) y5) (ks_Po_daysOfMonth hts rfl rfl (hts _ tw_644) ⟨Nat.le_of_ble_eq_true rfl, Nat.le_of_ble_eq_true rfl⟩) (sm_preS hI hE) rfl rfl hl.1 rfl (lv_room (Nat.le_of_ble_eq_true rfl)) d_Po_putTime_79 ⟨Nat.le_of_ble_eq_true rfl, Nat.le_of_ble_eq_true rfl⟩) (fun x_27 H locs p_28 hI => ?_)
        refine lv_icmp_lt (tgt := 101) hx hb d_Po_putTime_82 (by decide) (fun c_29 => ?_) (fun c_29 => ?_)
        · exact hJ_101 _ _ _ _ y2 y3 y4 y5 (nI k) hI hT (lv_sub hl [0, 1, 2, 3, 4, 5, 6] rfl)
        · refine lv_iload_n hx hb d_Po_putTime_85 rfl (lv_at hl 2 rfl) ?_
          refine lv_iload hx hb d_Po_putTime_86 (lv_at hl 6 rfl) ?_
          refine lv_iload hx hb d_Po_putTime_88 (lv_at hl 5 rfl) ?_
          refine sm_iP hI (va_runS (As := [.int (nI k), .int (y5)]) (rest := [.int (y2)]) ⟨hx, hb, hml, hown, hts⟩ (c_Po_daysOfMonth l D ca _ _ _ _ hT (nI k) y5) (ks_Po_daysOfMonth hts rfl rfl (hts _ tw_644) ⟨Nat.le_of_ble_eq_true rfl, Nat.le_of_ble_eq_true rfl⟩) (sm_preS hI hE) rfl rfl hl.1 rfl (lv_room (Nat.le_of_ble_eq_true rfl)) d_Po_putTime_90 ⟨Nat.le_of_ble_eq_true rfl, Nat.le_of_ble_eq_true rfl⟩) (fun x_30 H locs p_31 hI => ?_)
          refine lv_isub hx hb d_Po_putTime_93 ?_
          refine lv_topi (fun x_32 e_33 => ?_)
          refine lv_istore_n (lv' := [(2, .int (x_32)), (0, .ref h0), (1, .ref x1), (3, .int (y3)), (4, .int (y4)), (5, .int (y5)), (6, .int (nI k))]) hx hb d_Po_putTime_94 rfl hl (by decide) rfl (fun ls hl => ?_)
          refine lv_iinc (v := nI (k + 1)) (lv' := [(6, .int (nI (k + 1))), (2, .int (x_32)), (0, .ref h0), (1, .ref x1), (3, .int (y3)), (4, .int (y4)), (5, .int (y5))]) hx hb d_Po_putTime_95 hl (k := 6) rfl (nI_1 _) (by decide) rfl (fun ls hl => ?_)
          refine lv_goto (tgt := 67) hx hb d_Po_putTime_98 (by decide) ?_
          exact ih ((k + 1)) _ _ _ _ x_32 y3 y4 y5 (by omega) (by omega) hI hT (lv_sub hl [2, 3, 1, 4, 5, 6, 0] rfl) 
  have hJ_64 : ∀ (H : Heap) (locs : List Loc) (f : Nat → va_E) (ls : Array Slot) (y2 : Int32) (y3 : Int32) (y4 : Int32) (y5 : Int32), sw_I D cl_all (ty_s ca) (va_A (va_pl L f0) sz) s H locs L f → ok_T ca T L f → lv_has ls 7 [(0, .ref h0), (1, .ref x1), (2, .int (y2)), (3, .int (y3)), (4, .int (y4)), (5, .int (y5))] → W p l e { frames := 2, cells := 0, slots := 0, locals := 41 } s m ([.ref h0, .ref x1] : List Value).toArray below meth c H locs 0 0 (MQ below (sm_Qv D (ty_s ca) L f0 sz (fun u => po_m ca T L u)) ([.ref h0, .ref x1] : List Value).toArray s 0 0 (va_A (va_pl L f0) sz)) (F0 m 64 ls []) := by
    intro H locs f ls y2 y3 y4 y5 hI hT hl 
    refine lv_iconst (v := 0) hx hb d_Po_putTime_64 (by decide) ?_
    refine lv_istore (lv' := [(6, .int (0)), (0, .ref h0), (1, .ref x1), (2, .int (y2)), (3, .int (y3)), (4, .int (y4)), (5, .int (y5))]) hx hb d_Po_putTime_65 hl (by decide) rfl (fun ls hl => ?_)
    exact hJ_67 _ (0) _ _ _ _ y2 y3 y4 y5 (Nat.le_refl _) (by omega) hI hT (lv_sub hl [1, 2, 3, 4, 5, 6, 0] rfl) 
  have hJ_33 : ∀ (N k : Nat) (H : Heap) (locs : List Loc) (f : Nat → va_E) (ls : Array Slot) (y2 : Int32) (y3 : Int32) (y4 : Int32), 400 + 1 - k ≤ N → k ≤ 400 → sw_I D cl_all (ty_s ca) (va_A (va_pl L f0) sz) s H locs L f → ok_T ca T L f → lv_has ls 7 [(0, .ref h0), (1, .ref x1), (2, .int (y2)), (3, .int (y3)), (4, .int (y4)), (5, .int (nI k))] → W p l e { frames := 2, cells := 0, slots := 0, locals := 41 } s m ([.ref h0, .ref x1] : List Value).toArray below meth c H locs 0 0 (MQ below (sm_Qv D (ty_s ca) L f0 sz (fun u => po_m ca T L u)) ([.ref h0, .ref x1] : List Value).toArray s 0 0 (va_A (va_pl L f0) sz)) (F0 m 33 ls []) := by
    intro N
    induction N with
    | zero => intros; omega
    | succ N ih =>
      intro k H locs f ls y2 y3 y4 hN hk hI hT hl 
      refine lv_iload hx hb d_Po_putTime_33 (lv_at hl 5 rfl) ?_
      refine lv_sipush (v := 400) hx hb d_Po_putTime_35 (by decide) ?_
      refine lv_icmp_ge (tgt := 64) hx hb d_Po_putTime_38 (by decide) (fun c_34 => ?_) (fun c_34 => ?_)
      · have k_35 : 400 ≤ k := (nI_leI (a := 400) (b := k) (by omega) (by omega)).mp c_34
        exact hJ_64 _ _ _ _ y2 y3 y4 (nI k) hI hT (lv_sub hl [0, 1, 2, 3, 4, 5] rfl) 
      · have k_36 : k < 400 := Nat.lt_of_not_le (fun q => c_34 ((nI_leI (a := 400) (b := k) (by omega) (by omega)).mpr q))
        refine lv_iload_n hx hb d_Po_putTime_41 rfl (lv_at hl 2 rfl) ?_
        refine lv_iload hx hb d_Po_putTime_42 (lv_at hl 5 rfl) ?_
        refine sm_iP hI (va_runS (As := [.int (nI k)]) (rest := [.int (y2)]) ⟨hx, hb, hml, hown, hts⟩ (c_Po_daysOfYear l D ca _ _ _ _ hT (nI k)) (ks_Po_daysOfYear hts rfl rfl (hts _ tw_638) ⟨Nat.le_of_ble_eq_true rfl, Nat.le_of_ble_eq_true rfl⟩) (sm_preS hI hE) rfl rfl hl.1 rfl (lv_room (Nat.le_of_ble_eq_true rfl)) d_Po_putTime_44 ⟨Nat.le_of_ble_eq_true rfl, Nat.le_of_ble_eq_true rfl⟩) (fun x_37 H locs p_38 hI => ?_)
        refine lv_icmp_lt (tgt := 64) hx hb d_Po_putTime_47 (by decide) (fun c_39 => ?_) (fun c_39 => ?_)
        · exact hJ_64 _ _ _ _ y2 y3 y4 (nI k) hI hT (lv_sub hl [0, 1, 2, 3, 4, 5] rfl)
        · refine lv_iload_n hx hb d_Po_putTime_50 rfl (lv_at hl 2 rfl) ?_
          refine lv_iload hx hb d_Po_putTime_51 (lv_at hl 5 rfl) ?_
          refine sm_iP hI (va_runS (As := [.int (nI k)]) (rest := [.int (y2)]) ⟨hx, hb, hml, hown, hts⟩ (c_Po_daysOfYear l D ca _ _ _ _ hT (nI k)) (ks_Po_daysOfYear hts rfl rfl (hts _ tw_638) ⟨Nat.le_of_ble_eq_true rfl, Nat.le_of_ble_eq_true rfl⟩) (sm_preS hI hE) rfl rfl hl.1 rfl (lv_room (Nat.le_of_ble_eq_true rfl)) d_Po_putTime_53 ⟨Nat.le_of_ble_eq_true rfl, Nat.le_of_ble_eq_true rfl⟩) (fun x_40 H locs p_41 hI => ?_)
          refine lv_isub hx hb d_Po_putTime_56 ?_
          refine lv_topi (fun x_42 e_43 => ?_)
          refine lv_istore_n (lv' := [(2, .int (x_42)), (0, .ref h0), (1, .ref x1), (3, .int (y3)), (4, .int (y4)), (5, .int (nI k))]) hx hb d_Po_putTime_57 rfl hl (by decide) rfl (fun ls hl => ?_)
          refine lv_iinc (v := nI (k + 1)) (lv' := [(5, .int (nI (k + 1))), (2, .int (x_42)), (0, .ref h0), (1, .ref x1), (3, .int (y3)), (4, .int (y4))]) hx hb d_Po_putTime_58 hl (k := 5) rfl (nI_1 _) (by decide) rfl (fun ls hl => ?_)
          refine lv_goto (tgt := 33) hx hb d_Po_putTime_61 (by decide) ?_
          exact ih ((k + 1)) _ _ _ _ x_42 y3 y4 (by omega) (by omega) hI hT (lv_sub hl [2, 3, 1, 4, 5, 0] rfl) 
  refine lv_aload_n hx hb d_Po_putTime_0 rfl (lv_at hl 0 rfl) ?_
  refine fg_Po_clockTime hx hb hts hown hI hT t0 (hts _ tw_371) (fun _ h9 => h9) d_Po_putTime_1 (fun x_44 => ?_)
  refine lv_ldc2 (v := 86400000) hx hb hown (hts _ tw_637) d_Po_putTime_4 ?_
  refine lv_ldiv hx hb d_Po_putTime_7 (by decide) ?_
  refine lv_topl (fun x_45 e_46 => ?_)
  refine lv_l2i hx hb d_Po_putTime_8 rfl ?_
  refine lv_topi (fun x_47 e_48 => ?_)
  refine lv_istore_n (lv' := [(2, .int (x_47)), (0, .ref h0), (1, .ref x1)]) hx hb d_Po_putTime_9 rfl hl (by decide) rfl (fun ls hl => ?_)
  refine lv_aload_n hx hb d_Po_putTime_10 rfl (lv_at hl 1 rfl) ?_
  refine fg_Po_clockTime hx hb hts hown hI hT t0 (hts _ tw_371) (fun _ h9 => h9) d_Po_putTime_11 (fun x_49 => ?_)
  refine lv_ldc2 (v := 86400000) hx hb hown (hts _ tw_637) d_Po_putTime_14 ?_
  refine lv_lrem hx hb d_Po_putTime_17 (by decide) ?_
  refine lv_topl (fun x_50 e_51 => ?_)
  refine lv_l2i hx hb d_Po_putTime_18 rfl ?_
  refine lv_topi (fun x_52 e_53 => ?_)
  refine lv_istore_n (lv' := [(3, .int (x_52)), (2, .int (x_47)), (0, .ref h0), (1, .ref x1)]) hx hb d_Po_putTime_19 rfl hl (by decide) rfl (fun ls hl => ?_)
  refine lv_iload_n hx hb d_Po_putTime_20 rfl (lv_at hl 1 rfl) ?_
  refine lv_iconst (v := 5) hx hb d_Po_putTime_21 (by decide) ?_
  refine lv_iadd hx hb d_Po_putTime_22 ?_
  refine lv_topi (fun x_54 e_55 => ?_)
  refine lv_bipush (v := 7) hx hb d_Po_putTime_23 (by decide) ?_
  refine lv_irem hx hb d_Po_putTime_25 (by decide) ?_
  refine lv_topi (fun x_56 e_57 => ?_)
  refine lv_iconst (v := 1) hx hb d_Po_putTime_26 (by decide) ?_
  refine lv_iadd hx hb d_Po_putTime_27 ?_
  refine lv_topi (fun x_58 e_59 => ?_)
  refine lv_istore (lv' := [(4, .int (x_58)), (3, .int (x_52)), (2, .int (x_47)), (0, .ref h0), (1, .ref x1)]) hx hb d_Po_putTime_28 hl (by decide) rfl (fun ls hl => ?_)
  refine lv_iconst (v := 0) hx hb d_Po_putTime_30 (by decide) ?_
  refine lv_istore (lv' := [(5, .int (0)), (4, .int (x_58)), (3, .int (x_52)), (2, .int (x_47)), (0, .ref h0), (1, .ref x1)]) hx hb d_Po_putTime_31 hl (by decide) rfl (fun ls hl => ?_)
  exact hJ_33 _ (0) _ _ _ _ x_47 x_52 x_58 (Nat.le_refl _) (by omega) hI hT (lv_sub hl [4, 5, 3, 2, 1, 0] rfl) 
theorem d_Po_setClock_0 : decode b_Po_setClock 0 = .ok (.aload_n 0, 1) := by decide +kernel
theorem d_Po_setClock_1 : decode b_Po_setClock 1 = .ok (.getfield 53, 3) := by decide +kernel
theorem d_Po_setClock_4 : decode b_Po_setClock 4 = .ok (.iload_n 1, 1) := by decide +kernel
theorem d_Po_setClock_5 : decode b_Po_setClock 5 = .ok (.iconst 2, 1) := by decide +kernel
theorem d_Po_setClock_6 : decode b_Po_setClock 6 = .ok (.invokevirtual 377, 3) := by decide +kernel
theorem d_Po_setClock_9 : decode b_Po_setClock 9 = .ok (.istore_n 2, 1) := by decide +kernel
theorem d_Po_setClock_10 : decode b_Po_setClock 10 = .ok (.aload_n 0, 1) := by decide +kernel
theorem d_Po_setClock_11 : decode b_Po_setClock 11 = .ok (.getfield 53, 3) := by decide +kernel
theorem d_Po_setClock_14 : decode b_Po_setClock 14 = .ok (.iload_n 1, 1) := by decide +kernel
theorem d_Po_setClock_15 : decode b_Po_setClock 15 = .ok (.iconst 2, 1) := by decide +kernel
theorem d_Po_setClock_16 : decode b_Po_setClock 16 = .ok (.iadd, 1) := by decide +kernel
theorem d_Po_setClock_17 : decode b_Po_setClock 17 = .ok (.invokevirtual 216, 3) := by decide +kernel
theorem d_Po_setClock_20 : decode b_Po_setClock 20 = .ok (.bipush 63, 2) := by decide +kernel
theorem d_Po_setClock_22 : decode b_Po_setClock 22 = .ok (.iand, 1) := by decide +kernel
theorem d_Po_setClock_23 : decode b_Po_setClock 23 = .ok (.istore_n 3, 1) := by decide +kernel
theorem d_Po_setClock_24 : decode b_Po_setClock 24 = .ok (.aload_n 0, 1) := by decide +kernel
theorem d_Po_setClock_25 : decode b_Po_setClock 25 = .ok (.getfield 53, 3) := by decide +kernel
theorem d_Po_setClock_28 : decode b_Po_setClock 28 = .ok (.iload_n 1, 1) := by decide +kernel
theorem d_Po_setClock_29 : decode b_Po_setClock 29 = .ok (.iconst 3, 1) := by decide +kernel
theorem d_Po_setClock_30 : decode b_Po_setClock 30 = .ok (.iadd, 1) := by decide +kernel
theorem d_Po_setClock_31 : decode b_Po_setClock 31 = .ok (.invokevirtual 216, 3) := by decide +kernel
theorem d_Po_setClock_34 : decode b_Po_setClock 34 = .ok (.bipush 31, 2) := by decide +kernel
theorem d_Po_setClock_36 : decode b_Po_setClock 36 = .ok (.iand, 1) := by decide +kernel
theorem d_Po_setClock_37 : decode b_Po_setClock 37 = .ok (.istore 4, 2) := by decide +kernel
theorem d_Po_setClock_39 : decode b_Po_setClock 39 = .ok (.aload_n 0, 1) := by decide +kernel
theorem d_Po_setClock_40 : decode b_Po_setClock 40 = .ok (.getfield 53, 3) := by decide +kernel
theorem d_Po_setClock_43 : decode b_Po_setClock 43 = .ok (.iload_n 1, 1) := by decide +kernel
theorem d_Po_setClock_44 : decode b_Po_setClock 44 = .ok (.iconst 4, 1) := by decide +kernel
theorem d_Po_setClock_45 : decode b_Po_setClock 45 = .ok (.iadd, 1) := by decide +kernel
theorem d_Po_setClock_46 : decode b_Po_setClock 46 = .ok (.invokevirtual 216, 3) := by decide +kernel
theorem d_Po_setClock_49 : decode b_Po_setClock 49 = .ok (.bipush 31, 2) := by decide +kernel
theorem d_Po_setClock_51 : decode b_Po_setClock 51 = .ok (.iand, 1) := by decide +kernel
theorem d_Po_setClock_52 : decode b_Po_setClock 52 = .ok (.istore 5, 2) := by decide +kernel
theorem d_Po_setClock_54 : decode b_Po_setClock 54 = .ok (.aload_n 0, 1) := by decide +kernel
theorem d_Po_setClock_55 : decode b_Po_setClock 55 = .ok (.getfield 53, 3) := by decide +kernel
theorem d_Po_setClock_58 : decode b_Po_setClock 58 = .ok (.iload_n 1, 1) := by decide +kernel
theorem d_Po_setClock_59 : decode b_Po_setClock 59 = .ok (.iconst 5, 1) := by decide +kernel
theorem d_Po_setClock_60 : decode b_Po_setClock 60 = .ok (.iadd, 1) := by decide +kernel
theorem d_Po_setClock_61 : decode b_Po_setClock 61 = .ok (.invokevirtual 216, 3) := by decide +kernel
theorem d_Po_setClock_64 : decode b_Po_setClock 64 = .ok (.bipush 15, 2) := by decide +kernel
theorem d_Po_setClock_66 : decode b_Po_setClock 66 = .ok (.iand, 1) := by decide +kernel
theorem d_Po_setClock_67 : decode b_Po_setClock 67 = .ok (.iconst 1, 1) := by decide +kernel
theorem d_Po_setClock_68 : decode b_Po_setClock 68 = .ok (.isub, 1) := by decide +kernel
theorem d_Po_setClock_69 : decode b_Po_setClock 69 = .ok (.istore 6, 2) := by decide +kernel
theorem d_Po_setClock_71 : decode b_Po_setClock 71 = .ok (.aload_n 0, 1) := by decide +kernel
theorem d_Po_setClock_72 : decode b_Po_setClock 72 = .ok (.getfield 53, 3) := by decide +kernel
theorem d_Po_setClock_75 : decode b_Po_setClock 75 = .ok (.iload_n 1, 1) := by decide +kernel
theorem d_Po_setClock_76 : decode b_Po_setClock 76 = .ok (.bipush 6, 2) := by decide +kernel
theorem d_Po_setClock_78 : decode b_Po_setClock 78 = .ok (.iadd, 1) := by decide +kernel
theorem d_Po_setClock_79 : decode b_Po_setClock 79 = .ok (.invokevirtual 216, 3) := by decide +kernel
theorem d_Po_setClock_82 : decode b_Po_setClock 82 = .ok (.bipush 127, 2) := by decide +kernel
theorem d_Po_setClock_84 : decode b_Po_setClock 84 = .ok (.iand, 1) := by decide +kernel
theorem d_Po_setClock_85 : decode b_Po_setClock 85 = .ok (.istore 7, 2) := by decide +kernel
theorem d_Po_setClock_87 : decode b_Po_setClock 87 = .ok (.iload_n 2, 1) := by decide +kernel
theorem d_Po_setClock_88 : decode b_Po_setClock 88 = .ok (.ldc_w 682, 3) := by decide +kernel
theorem d_Po_setClock_91 : decode b_Po_setClock 91 = .ok (.if_icmp .ge 23, 3) := by decide +kernel
theorem d_Po_setClock_94 : decode b_Po_setClock 94 = .ok (.iload_n 3, 1) := by decide +kernel
theorem d_Po_setClock_95 : decode b_Po_setClock 95 = .ok (.bipush 60, 2) := by decide +kernel
theorem d_Po_setClock_97 : decode b_Po_setClock 97 = .ok (.if_icmp .ge 17, 3) := by decide +kernel
theorem d_Po_setClock_100 : decode b_Po_setClock 100 = .ok (.iload 4, 2) := by decide +kernel
theorem d_Po_setClock_102 : decode b_Po_setClock 102 = .ok (.bipush 24, 2) := by decide +kernel
theorem d_Po_setClock_104 : decode b_Po_setClock 104 = .ok (.if_icmp .ge 10, 3) := by decide +kernel
theorem d_Po_setClock_107 : decode b_Po_setClock 107 = .ok (.iload 7, 2) := by decide +kernel
theorem d_Po_setClock_109 : decode b_Po_setClock 109 = .ok (.bipush 100, 2) := by decide +kernel
theorem d_Po_setClock_111 : decode b_Po_setClock 111 = .ok (.if_icmp .lt 5, 3) := by decide +kernel
theorem d_Po_setClock_114 : decode b_Po_setClock 114 = .ok (.iconst 0, 1) := by decide +kernel
theorem d_Po_setClock_115 : decode b_Po_setClock 115 = .ok (.ireturn, 1) := by decide +kernel
theorem d_Po_setClock_116 : decode b_Po_setClock 116 = .ok (.iload 6, 2) := by decide +kernel
theorem d_Po_setClock_118 : decode b_Po_setClock 118 = .ok (.ifCond .lt 28, 3) := by decide +kernel
theorem d_Po_setClock_121 : decode b_Po_setClock 121 = .ok (.iload 6, 2) := by decide +kernel
theorem d_Po_setClock_123 : decode b_Po_setClock 123 = .ok (.bipush 11, 2) := by decide +kernel
theorem d_Po_setClock_125 : decode b_Po_setClock 125 = .ok (.if_icmp .gt 21, 3) := by decide +kernel
theorem d_Po_setClock_128 : decode b_Po_setClock 128 = .ok (.iload 5, 2) := by decide +kernel
theorem d_Po_setClock_130 : decode b_Po_setClock 130 = .ok (.iconst 1, 1) := by decide +kernel
theorem d_Po_setClock_131 : decode b_Po_setClock 131 = .ok (.if_icmp .lt 15, 3) := by decide +kernel
theorem d_Po_setClock_134 : decode b_Po_setClock 134 = .ok (.iload 5, 2) := by decide +kernel
theorem d_Po_setClock_136 : decode b_Po_setClock 136 = .ok (.iload 6, 2) := by decide +kernel
theorem d_Po_setClock_138 : decode b_Po_setClock 138 = .ok (.iload 7, 2) := by decide +kernel
theorem d_Po_setClock_140 : decode b_Po_setClock 140 = .ok (.invokestatic 679, 3) := by decide +kernel
theorem d_Po_setClock_143 : decode b_Po_setClock 143 = .ok (.if_icmp .le 5, 3) := by decide +kernel
theorem d_Po_setClock_146 : decode b_Po_setClock 146 = .ok (.iconst 0, 1) := by decide +kernel
theorem d_Po_setClock_147 : decode b_Po_setClock 147 = .ok (.ireturn, 1) := by decide +kernel
theorem d_Po_setClock_148 : decode b_Po_setClock 148 = .ok (.iload 5, 2) := by decide +kernel
theorem d_Po_setClock_150 : decode b_Po_setClock 150 = .ok (.iconst 1, 1) := by decide +kernel
theorem d_Po_setClock_151 : decode b_Po_setClock 151 = .ok (.isub, 1) := by decide +kernel
theorem d_Po_setClock_152 : decode b_Po_setClock 152 = .ok (.i2l, 1) := by decide +kernel
theorem d_Po_setClock_153 : decode b_Po_setClock 153 = .ok (.lstore 8, 2) := by decide +kernel
theorem d_Po_setClock_155 : decode b_Po_setClock 155 = .ok (.iconst 0, 1) := by decide +kernel
theorem d_Po_setClock_156 : decode b_Po_setClock 156 = .ok (.istore 10, 2) := by decide +kernel
theorem d_Po_setClock_158 : decode b_Po_setClock 158 = .ok (.iload 10, 2) := by decide +kernel
theorem d_Po_setClock_160 : decode b_Po_setClock 160 = .ok (.iload 7, 2) := by decide +kernel
theorem d_Po_setClock_162 : decode b_Po_setClock 162 = .ok (.if_icmp .ge 20, 3) := by decide +kernel
theorem d_Po_setClock_165 : decode b_Po_setClock 165 = .ok (.lload 8, 2) := by decide +kernel
theorem d_Po_setClock_167 : decode b_Po_setClock 167 = .ok (.iload 10, 2) := by decide +kernel
theorem d_Po_setClock_169 : decode b_Po_setClock 169 = .ok (.invokestatic 676, 3) := by decide +kernel
theorem d_Po_setClock_172 : decode b_Po_setClock 172 = .ok (.i2l, 1) := by decide +kernel
theorem d_Po_setClock_173 : decode b_Po_setClock 173 = .ok (.ladd, 1) := by decide +kernel
theorem d_Po_setClock_174 : decode b_Po_setClock 174 = .ok (.lstore 8, 2) := by decide +kernel
theorem d_Po_setClock_176 : decode b_Po_setClock 176 = .ok (.iinc 10 1, 3) := by decide +kernel
theorem d_Po_setClock_179 : decode b_Po_setClock 179 = .ok (.goto (-21), 3) := by decide +kernel
theorem d_Po_setClock_182 : decode b_Po_setClock 182 = .ok (.iconst 0, 1) := by decide +kernel
theorem d_Po_setClock_183 : decode b_Po_setClock 183 = .ok (.istore 10, 2) := by decide +kernel
theorem d_Po_setClock_185 : decode b_Po_setClock 185 = .ok (.iload 10, 2) := by decide +kernel
theorem d_Po_setClock_187 : decode b_Po_setClock 187 = .ok (.iload 6, 2) := by decide +kernel
theorem d_Po_setClock_189 : decode b_Po_setClock 189 = .ok (.if_icmp .ge 22, 3) := by decide +kernel
theorem d_Po_setClock_192 : decode b_Po_setClock 192 = .ok (.lload 8, 2) := by decide +kernel
theorem d_Po_setClock_194 : decode b_Po_setClock 194 = .ok (.iload 10, 2) := by decide +kernel
theorem d_Po_setClock_196 : decode b_Po_setClock 196 = .ok (.iload 7, 2) := by decide +kernel
theorem d_Po_setClock_198 : decode b_Po_setClock 198 = .ok (.invokestatic 679, 3) := by decide +kernel
theorem d_Po_setClock_201 : decode b_Po_setClock 201 = .ok (.i2l, 1) := by decide +kernel
theorem d_Po_setClock_202 : decode b_Po_setClock 202 = .ok (.ladd, 1) := by decide +kernel
theorem d_Po_setClock_203 : decode b_Po_setClock 203 = .ok (.lstore 8, 2) := by decide +kernel
theorem d_Po_setClock_205 : decode b_Po_setClock 205 = .ok (.iinc 10 1, 3) := by decide +kernel
theorem d_Po_setClock_208 : decode b_Po_setClock 208 = .ok (.goto (-23), 3) := by decide +kernel
theorem d_Po_setClock_211 : decode b_Po_setClock 211 = .ok (.aload_n 0, 1) := by decide +kernel
theorem d_Po_setClock_212 : decode b_Po_setClock 212 = .ok (.lload 8, 2) := by decide +kernel
theorem d_Po_setClock_214 : decode b_Po_setClock 214 = .ok (.ldc2_w 674, 3) := by decide +kernel
theorem d_Po_setClock_217 : decode b_Po_setClock 217 = .ok (.lmul, 1) := by decide +kernel
theorem d_Po_setClock_218 : decode b_Po_setClock 218 = .ok (.iload 4, 2) := by decide +kernel
theorem d_Po_setClock_220 : decode b_Po_setClock 220 = .ok (.bipush 60, 2) := by decide +kernel
theorem d_Po_setClock_222 : decode b_Po_setClock 222 = .ok (.imul, 1) := by decide +kernel
theorem d_Po_setClock_223 : decode b_Po_setClock 223 = .ok (.iload_n 3, 1) := by decide +kernel
theorem d_Po_setClock_224 : decode b_Po_setClock 224 = .ok (.iadd, 1) := by decide +kernel
theorem d_Po_setClock_225 : decode b_Po_setClock 225 = .ok (.ldc_w 682, 3) := by decide +kernel
theorem d_Po_setClock_228 : decode b_Po_setClock 228 = .ok (.imul, 1) := by decide +kernel
theorem d_Po_setClock_229 : decode b_Po_setClock 229 = .ok (.i2l, 1) := by decide +kernel
theorem d_Po_setClock_230 : decode b_Po_setClock 230 = .ok (.ladd, 1) := by decide +kernel
theorem d_Po_setClock_231 : decode b_Po_setClock 231 = .ok (.iload_n 2, 1) := by decide +kernel
theorem d_Po_setClock_232 : decode b_Po_setClock 232 = .ok (.i2l, 1) := by decide +kernel
theorem d_Po_setClock_233 : decode b_Po_setClock 233 = .ok (.ladd, 1) := by decide +kernel
theorem d_Po_setClock_234 : decode b_Po_setClock 234 = .ok (.putfield 138, 3) := by decide +kernel
theorem d_Po_setClock_237 : decode b_Po_setClock 237 = .ok (.aload_n 0, 1) := by decide +kernel
theorem d_Po_setClock_238 : decode b_Po_setClock 238 = .ok (.iconst 1, 1) := by decide +kernel
theorem d_Po_setClock_239 : decode b_Po_setClock 239 = .ok (.putfield 142, 3) := by decide +kernel
theorem d_Po_setClock_242 : decode b_Po_setClock 242 = .ok (.iconst 1, 1) := by decide +kernel
theorem d_Po_setClock_243 : decode b_Po_setClock 243 = .ok (.ireturn, 1) := by decide +kernel
set_option maxRecDepth 100000 in
set_option maxHeartbeats 4000000 in
theorem c_Po_setClock (l : Launch) (D : va_G) (ca : Nat → ClassId) (T : ty_e) (L : List Nat) (f0 : Nat → va_E) (sz : Nat) (hT : ok_T ca T L f0) {g0 : List (Int32 × Int32)} (h0 : Nat) (t0 : T h0 = some (ty_po g0)) (x1 : Int32) :
    Met l y_Po_setClock (Cond.code y_Po_setClock b_Po_setClock 11 (some .boolean) :: wg) { frames := 2, cells := 0, slots := 0, locals := 45 } (va_Pc [.ref h0, .int (x1)] (sm_P D cl_all (ty_s ca) ek L f0 sz)) (sm_Qi D (ty_s ca) L f0 sz (fun r u => (r = 0 ∨ r = 1) ∧ po_m ca T L u)) 0 0 (va_A (va_pl L f0) sz) := by
  refine sm_start (by decide) (Nat.le_of_ble_eq_true rfl) ?_
  intro p e s m below meth c ls hx hb hml hr hlk hnm hts hown hsz hE hI hl
  have hl : lv_has ls 11 [(0, .ref h0), (1, .int (x1))] := hl
  have hJ_185 : ∀ (N : Nat) (k : Int32) (H : Heap) (locs : List Loc) (f : Nat → va_E) (ls : Array Slot) (y2 : Int32) (y3 : Int32) (y4 : Int32) (y5 : Int32) (y6 : Int32) (y7 : Int32) (y8 : Int64), (y6.toInt - k.toInt).toNat + 1 ≤ N → sw_I D cl_all (ty_s ca) (va_A (va_pl L f0) sz) s H locs L f → ok_T ca T L f → lv_has ls 11 [(0, .ref h0), (1, .int (x1)), (2, .int (y2)), (3, .int (y3)), (4, .int (y4)), (5, .int (y5)), (6, .int (y6)), (7, .int (y7)), (8, .long (y8)), (10, .int (k))] → W p l e { frames := 2, cells := 0, slots := 0, locals := 45 } s m ([.ref h0, .int (x1)] : List Value).toArray below meth c H locs 0 0 (MQ below (sm_Qi D (ty_s ca) L f0 sz (fun r u => (r = 0 ∨ r = 1) ∧ po_m ca T L u)) ([.ref h0, .int (x1)] : List Value).toArray s 0 0 (va_A (va_pl L f0) sz)) (F0 m 185 ls []) := by
    intro N
    induction N with
    | zero => intros; omega
    | succ N ih =>
      intro k H locs f ls y2 y3 y4 y5 y6 y7 y8 hN hI hT hl 
      refine lv_iload hx hb d_Po_setClock_185 (lv_at hl 9 rfl) ?_
      refine lv_iload hx hb d_Po_setClock_187 (lv_at hl 6 rfl) ?_
      refine lv_icmp_ge (tgt := 211) hx hb d_Po_setClock_189 (by decide) (fun c_1 => ?_) (fun c_1 => ?_)
      · refine lv_aload_n hx hb d_Po_setClock_211 rfl (lv_at hl 0 rfl) ?_
        refine lv_lload hx hb d_Po_setClock_212 (lv_at hl 8 rfl) ?_
        refine lv_ldc2 (v := 86400000) hx hb hown (hts _ tw_637) d_Po_setClock_214 ?_
        refine lv_lmul hx hb d_Po_setClock_217 ?_
        refine lv_topl (fun x_2 e_3 => ?_)
        refine lv_iload hx hb d_Po_setClock_218 (lv_at hl 4 rfl) ?_
        refine lv_bipush (v := 60) hx hb d_Po_setClock_220 (by decide) ?_
        refine lv_imul hx hb d_Po_setClock_222 ?_
        refine lv_topi (fun x_4 e_5 => ?_)
        refine lv_iload_n hx hb d_Po_setClock_223 rfl (lv_at hl 3 rfl) ?_
        refine lv_iadd hx hb d_Po_setClock_224 ?_
        refine lv_topi (fun x_6 e_7 => ?_)
        refine lv_ldcw (v := 60000) hx hb hown (hts _ tw_649) d_Po_setClock_225 ?_
        refine lv_imul hx hb d_Po_setClock_228 ?_
        refine lv_topi (fun x_8 e_9 => ?_)
        refine lv_i2l hx hb d_Po_setClock_229 rfl ?_
        refine lv_topl (fun x_10 e_11 => ?_)
        refine lv_ladd hx hb d_Po_setClock_230 ?_
        refine lv_topl (fun x_12 e_13 => ?_)
        refine lv_iload_n hx hb d_Po_setClock_231 rfl (lv_at hl 2 rfl) ?_
        refine lv_i2l hx hb d_Po_setClock_232 rfl ?_
        refine lv_topl (fun x_14 e_15 => ?_)
        refine lv_ladd hx hb d_Po_setClock_233 ?_
        refine lv_topl (fun x_16 e_17 => ?_)
        refine fp_Po_clockTime hx hb hts hown hI hT t0 (hts _ tw_371) (fun _ h9 => h9) d_Po_setClock_234 (fun H locs f hI hT => ?_)
        refine lv_aload_n hx hb d_Po_setClock_237 rfl (lv_at hl 0 rfl) ?_
        refine lv_iconst (v := 1) hx hb d_Po_setClock_238 (by decide) ?_
        refine fp_Po_clockSet hx hb hts hown hI hT t0 (hts _ tw_372) (fun _ h9 => h9) (by decide) d_Po_setClock_239 (fun H locs f hI hT => ?_)
        refine lv_iconst (v := 1) hx hb d_Po_setClock_242 (by decide) ?_
        exact sm_zret hx hb hr hlk hI (by decide) ⟨(by decide), ⟨rfl, hT⟩⟩ d_Po_setClock_243
      · refine lv_lload hx hb d_Po_setClock_192 (lv_at hl 8 rfl) ?_
        refine lv_iload hx hb d_Po_setClock_194 (lv_at hl 9 rfl) ?_
        refine lv_iload hx hb d_Po_setClock_196 (lv_at hl 7 rfl) ?_
        refine sm_iP hI (va_runS (As := [.int (k), .int (y7)]) (rest := [.long (y8)]) ⟨hx, hb, hml, hown, hts⟩ (c_Po_daysOfMonth l D ca _ _ _ _ hT k y7) (ks_Po_daysOfMonth hts rfl rfl (hts _ tw_644) ⟨Nat.le_of_ble_eq_true rfl, Nat.le_of_ble_eq_true rfl⟩) (sm_preS hI hE) rfl rfl hl.1 rfl (lv_room (Nat.le_of_ble_eq_true rfl)) d_Po_setClock_198 ⟨Nat.le_of_ble_eq_true rfl, Nat.le_of_ble_eq_true rfl⟩) (fun x_18 H locs p_19 hI => ?_)
        refine lv_i2l hx hb d_Po_setClock_201 rfl ?_
        refine lv_topl (fun x_20 e_21 => ?_)
        refine lv_ladd hx hb d_Po_setClock_202 ?_
        refine lv_topl (fun x_22 e_23 => ?_)
        refine lv_lstore (lv' := [(8, .long (x_22)), (0, .ref h0), (1, .int (x1)), (2, .int (y2)), (3, .int (y3)), (4, .int (y4)), (5, .int (y5)), (6, .int (y6)), (7, .int (y7)), (10, .int (k))]) hx hb d_Po_setClock_203 hl (by decide) rfl (fun ls hl => ?_)
        obtain ⟨x_24, hx_x_24⟩ : ∃ z, z = k + Int32.ofInt (1) := ⟨_, rfl⟩
        refine lv_iinc (v := x_24) (lv' := [(10, .int (x_24)), (8, .long (x_22)), (0, .ref h0), (1, .int (x1)), (2, .int (y2)), (3, .int (y3)), (4, .int (y4)), (5, .int (y5)), (6, .int (y6)), (7, .int (y7))]) hx hb d_Po_setClock_205 hl (k := 9) rfl hx_x_24.symm (by decide) rfl (fun ls hl => ?_)
        refine lv_goto (tgt := 185) hx hb d_Po_setClock_208 (by decide) ?_
        exact ih (x_24) _ _ _ _ y2 y3 y4 y5 y6 y7 x_22 (Nat.le_trans (up_m c_1 hx_x_24) (Nat.le_of_succ_le_succ hN)) hI hT (lv_sub hl [2, 3, 4, 5, 6, 7, 8, 9, 1, 0] rfl) 
  have hJ_158 : ∀ (N : Nat) (k : Int32) (H : Heap) (locs : List Loc) (f : Nat → va_E) (ls : Array Slot) (y2 : Int32) (y3 : Int32) (y4 : Int32) (y5 : Int32) (y6 : Int32) (y7 : Int32) (y8 : Int64), (y7.toInt - k.toInt).toNat + 1 ≤ N → sw_I D cl_all (ty_s ca) (va_A (va_pl L f0) sz) s H locs L f → ok_T ca T L f → lv_has ls 11 [(0, .ref h0), (1, .int (x1)), (2, .int (y2)), (3, .int (y3)), (4, .int (y4)), (5, .int (y5)), (6, .int (y6)), (7, .int (y7)), (8, .long (y8)), (10, .int (k))] → W p l e { frames := 2, cells := 0, slots := 0, locals := 45 } s m ([.ref h0, .int (x1)] : List Value).toArray below meth c H locs 0 0 (MQ below (sm_Qi D (ty_s ca) L f0 sz (fun r u => (r = 0 ∨ r = 1) ∧ po_m ca T L u)) ([.ref h0, .int (x1)] : List Value).toArray s 0 0 (va_A (va_pl L f0) sz)) (F0 m 158 ls []) := by
    intro N
    induction N with
    | zero => intros; omega
    | succ N ih =>
      intro k H locs f ls y2 y3 y4 y5 y6 y7 y8 hN hI hT hl 
      refine lv_iload hx hb d_Po_setClock_158 (lv_at hl 9 rfl) ?_
      refine lv_iload hx hb d_Po_setClock_160 (lv_at hl 7 rfl) ?_
      refine lv_icmp_ge (tgt := 182) hx hb d_Po_setClock_162 (by decide) (fun c_25 => ?_) (fun c_25 => ?_)
      · refine lv_iconst (v := 0) hx hb d_Po_setClock_182 (by decide) ?_
        refine lv_istore (lv' := [(10, .int (0)), (0, .ref h0), (1, .int (x1)), (2, .int (y2)), (3, .int (y3)), (4, .int (y4)), (5, .int (y5)), (6, .int (y6)), (7, .int (y7)), (8, .long (y8))]) hx hb d_Po_setClock_183 hl (by decide) rfl (fun ls hl => ?_)
        exact hJ_185 _ (0) _ _ _ _ y2 y3 y4 y5 y6 y7 y8 (Nat.le_refl _) hI hT (lv_sub hl [1, 2, 3, 4, 5, 6, 7, 8, 9, 0] rfl) 
      · refine lv_lload hx hb d_Po_setClock_165 (lv_at hl 8 rfl) ?_
        refine lv_iload hx hb d_Po_setClock_167 (lv_at hl 9 rfl) ?_
        refine sm_iP hI (va_runS (As := [.int (k)]) (rest := [.long (y8)]) ⟨hx, hb, hml, hown, hts⟩ (c_Po_daysOfYear l D ca _ _ _ _ hT k) (ks_Po_daysOfYear hts rfl rfl (hts _ tw_638) ⟨Nat.le_of_ble_eq_true rfl, Nat.le_of_ble_eq_true rfl⟩) (sm_preS hI hE) rfl rfl hl.1 rfl (lv_room (Nat.le_of_ble_eq_true rfl)) d_Po_setClock_169 ⟨Nat.le_of_ble_eq_true rfl, Nat.le_of_ble_eq_true rfl⟩) (fun x_26 H locs p_27 hI => ?_)
        refine lv_i2l hx hb d_Po_setClock_172 rfl ?_
        refine lv_topl (fun x_28 e_29 => ?_)
        refine lv_ladd hx hb d_Po_setClock_173 ?_
        refine lv_topl (fun x_30 e_31 => ?_)
        refine lv_lstore (lv' := [(8, .long (x_30)), (0, .ref h0), (1, .int (x1)), (2, .int (y2)), (3, .int (y3)), (4, .int (y4)), (5, .int (y5)), (6, .int (y6)), (7, .int (y7)), (10, .int (k))]) hx hb d_Po_setClock_174 hl (by decide) rfl (fun ls hl => ?_)
        obtain ⟨x_32, hx_x_32⟩ : ∃ z, z = k + Int32.ofInt (1) := ⟨_, rfl⟩
        refine lv_iinc (v := x_32) (lv' := [(10, .int (x_32)), (8, .long (x_30)), (0, .ref h0), (1, .int (x1)), (2, .int (y2)), (3, .int (y3)), (4, .int (y4)), (5, .int (y5)), (6, .int (y6)), (7, .int (y7))]) hx hb d_Po_setClock_176 hl (k := 9) rfl hx_x_32.symm (by decide) rfl (fun ls hl => ?_)
        refine lv_goto (tgt := 158) hx hb d_Po_setClock_179 (by decide) ?_
        exact ih (x_32) _ _ _ _ y2 y3 y4 y5 y6 y7 x_30 (Nat.le_trans (up_m c_25 hx_x_32) (Nat.le_of_succ_le_succ hN)) hI hT (lv_sub hl [2, 3, 4, 5, 6, 7, 8, 9, 1, 0] rfl) 
  refine lv_aload_n hx hb d_Po_setClock_0 rfl (lv_at hl 0 rfl) ?_
  refine fg_Po_asked hx hb hts hown hI hT t0 (hts _ tw_375) (fun _ h9 => h9) d_Po_setClock_1 (fun r_33 t_34 => ?_)
  refine lv_iload_n hx hb d_Po_setClock_4 rfl (lv_at hl 1 rfl) ?_
  refine lv_iconst (v := 2) hx hb d_Po_setClock_5 (by decide) ?_
  refine sm_iP hI (va_runV (As := [.int (x1), .int (2)]) (rest := []) ⟨hx, hb, hml, hown, hts⟩ (c_Br_number l D ca _ _ _ _ hT r_33 t_34 x1 (2) (by omega)) (kv_Br_number hts rfl rfl (hts _ tw_940) ⟨Nat.le_of_ble_eq_true rfl, Nat.le_of_ble_eq_true rfl⟩) (pv_Br hI hE hT t_34) rfl rfl hl.1 rfl (lv_room (Nat.le_of_ble_eq_true rfl)) d_Po_setClock_6 ⟨Nat.le_of_ble_eq_true rfl, Nat.le_of_ble_eq_true rfl⟩) (fun x_35 H locs p_36 hI => ?_)
  refine lv_istore_n (lv' := [(2, .int (x_35)), (0, .ref h0), (1, .int (x1))]) hx hb d_Po_setClock_9 rfl hl (by decide) rfl (fun ls hl => ?_)
  refine lv_aload_n hx hb d_Po_setClock_10 rfl (lv_at hl 1 rfl) ?_
  refine fg_Po_asked hx hb hts hown hI hT t0 (hts _ tw_375) (fun _ h9 => h9) d_Po_setClock_11 (fun r_37 t_38 => ?_)
  refine lv_iload_n hx hb d_Po_setClock_14 rfl (lv_at hl 2 rfl) ?_
  refine lv_iconst (v := 2) hx hb d_Po_setClock_15 (by decide) ?_
  refine lv_iadd hx hb d_Po_setClock_16 ?_
  refine lv_topi (fun x_39 e_40 => ?_)
  refine sm_iP hI (va_runV (As := [.int (x_39)]) (rest := []) ⟨hx, hb, hml, hown, hts⟩ (c_Br_at l D ca _ _ _ _ hT r_37 t_38 x_39) (kv_Br_at hts rfl rfl (hts _ tw_697) ⟨Nat.le_of_ble_eq_true rfl, Nat.le_of_ble_eq_true rfl⟩) (pv_Br hI hE hT t_38) rfl rfl hl.1 rfl (lv_room (Nat.le_of_ble_eq_true rfl)) d_Po_setClock_17 ⟨Nat.le_of_ble_eq_true rfl, Nat.le_of_ble_eq_true rfl⟩) (fun x_41 H locs p_42 hI => ?_)
  refine lv_bipush (v := 63) hx hb d_Po_setClock_20 (by decide) ?_
  refine lv_iand hx hb d_Po_setClock_22 ?_
  refine lv_topi (fun x_43 e_44 => ?_)
  refine lv_istore_n (lv' := [(3, .int (x_43)), (2, .int (x_35)), (0, .ref h0), (1, .int (x1))]) hx hb d_Po_setClock_23 rfl hl (by decide) rfl (fun ls hl => ?_)
  refine lv_aload_n hx hb d_Po_setClock_24 rfl (lv_at hl 2 rfl) ?_
  refine fg_Po_asked hx hb hts hown hI hT t0 (hts _ tw_375) (fun _ h9 => h9) d_Po_setClock_25 (fun r_45 t_46 => ?_)
  refine lv_iload_n hx hb d_Po_setClock_28 rfl (lv_at hl 3 rfl) ?_
  refine lv_iconst (v := 3) hx hb d_Po_setClock_29 (by decide) ?_
  refine lv_iadd hx hb d_Po_setClock_30 ?_
  refine lv_topi (fun x_47 e_48 => ?_)
  refine sm_iP hI (va_runV (As := [.int (x_47)]) (rest := []) ⟨hx, hb, hml, hown, hts⟩ (c_Br_at l D ca _ _ _ _ hT r_45 t_46 x_47) (kv_Br_at hts rfl rfl (hts _ tw_697) ⟨Nat.le_of_ble_eq_true rfl, Nat.le_of_ble_eq_true rfl⟩) (pv_Br hI hE hT t_46) rfl rfl hl.1 rfl (lv_room (Nat.le_of_ble_eq_true rfl)) d_Po_setClock_31 ⟨Nat.le_of_ble_eq_true rfl, Nat.le_of_ble_eq_true rfl⟩) (fun x_49 H locs p_50 hI => ?_)
  refine lv_bipush (v := 31) hx hb d_Po_setClock_34 (by decide) ?_
  refine lv_iand hx hb d_Po_setClock_36 ?_
  refine lv_topi (fun x_51 e_52 => ?_)
  refine lv_istore (lv' := [(4, .int (x_51)), (3, .int (x_43)), (2, .int (x_35)), (0, .ref h0), (1, .int (x1))]) hx hb d_Po_setClock_37 hl (by decide) rfl (fun ls hl => ?_)
  refine lv_aload_n hx hb d_Po_setClock_39 rfl (lv_at hl 3 rfl) ?_
  refine fg_Po_asked hx hb hts hown hI hT t0 (hts _ tw_375) (fun _ h9 => h9) d_Po_setClock_40 (fun r_53 t_54 => ?_)
  refine lv_iload_n hx hb d_Po_setClock_43 rfl (lv_at hl 4 rfl) ?_
  refine lv_iconst (v := 4) hx hb d_Po_setClock_44 (by decide) ?_
  refine lv_iadd hx hb d_Po_setClock_45 ?_
  refine lv_topi (fun x_55 e_56 => ?_)
  refine sm_iP hI (va_runV (As := [.int (x_55)]) (rest := []) ⟨hx, hb, hml, hown, hts⟩ (c_Br_at l D ca _ _ _ _ hT r_53 t_54 x_55) (kv_Br_at hts rfl rfl (hts _ tw_697) ⟨Nat.le_of_ble_eq_true rfl, Nat.le_of_ble_eq_true rfl⟩) (pv_Br hI hE hT t_54) rfl rfl hl.1 rfl (lv_room (Nat.le_of_ble_eq_true rfl)) d_Po_setClock_46 ⟨Nat.le_of_ble_eq_true rfl, Nat.le_of_ble_eq_true rfl⟩) (fun x_57 H locs p_58 hI => ?_)
  refine lv_bipush (v := 31) hx hb d_Po_setClock_49 (by decide) ?_
  refine lv_iand hx hb d_Po_setClock_51 ?_
  refine lv_topi (fun x_59 e_60 => ?_)
  refine lv_istore (lv' := [(5, .int (x_59)), (4, .int (x_51)), (3, .int (x_43)), (2, .int (x_35)), (0, .ref h0), (1, .int (x1))]) hx hb d_Po_setClock_52 hl (by decide) rfl (fun ls hl => ?_)
  refine lv_aload_n hx hb d_Po_setClock_54 rfl (lv_at hl 4 rfl) ?_
  refine fg_Po_asked hx hb hts hown hI hT t0 (hts _ tw_375) (fun _ h9 => h9) d_Po_setClock_55 (fun r_61 t_62 => ?_)
  refine lv_iload_n hx hb d_Po_setClock_58 rfl (lv_at hl 5 rfl) ?_
  refine lv_iconst (v := 5) hx hb d_Po_setClock_59 (by decide) ?_
  refine lv_iadd hx hb d_Po_setClock_60 ?_
  refine lv_topi (fun x_63 e_64 => ?_)
  refine sm_iP hI (va_runV (As := [.int (x_63)]) (rest := []) ⟨hx, hb, hml, hown, hts⟩ (c_Br_at l D ca _ _ _ _ hT r_61 t_62 x_63) (kv_Br_at hts rfl rfl (hts _ tw_697) ⟨Nat.le_of_ble_eq_true rfl, Nat.le_of_ble_eq_true rfl⟩) (pv_Br hI hE hT t_62) rfl rfl hl.1 rfl (lv_room (Nat.le_of_ble_eq_true rfl)) d_Po_setClock_61 ⟨Nat.le_of_ble_eq_true rfl, Nat.le_of_ble_eq_true rfl⟩) (fun x_65 H locs p_66 hI => ?_)
  refine lv_bipush (v := 15) hx hb d_Po_setClock_64 (by decide) ?_
  refine lv_iand hx hb d_Po_setClock_66 ?_
  refine lv_topi (fun x_67 e_68 => ?_)
  refine lv_iconst (v := 1) hx hb d_Po_setClock_67 (by decide) ?_
  refine lv_isub hx hb d_Po_setClock_68 ?_
  refine lv_topi (fun x_69 e_70 => ?_)
  refine lv_istore (lv' := [(6, .int (x_69)), (5, .int (x_59)), (4, .int (x_51)), (3, .int (x_43)), (2, .int (x_35)), (0, .ref h0), (1, .int (x1))]) hx hb d_Po_setClock_69 hl (by decide) rfl (fun ls hl => ?_)
  refine lv_aload_n hx hb d_Po_setClock_71 rfl (lv_at hl 5 rfl) ?_
  refine fg_Po_asked hx hb hts hown hI hT t0 (hts _ tw_375) (fun _ h9 => h9) d_Po_setClock_72 (fun r_71 t_72 => ?_)
  refine lv_iload_n hx hb d_Po_setClock_75 rfl (lv_at hl 6 rfl) ?_
  refine lv_bipush (v := 6) hx hb d_Po_setClock_76 (by decide) ?_
  refine lv_iadd hx hb d_Po_setClock_78 ?_
  refine lv_topi (fun x_73 e_74 => ?_)
  refine sm_iP hI (va_runV (As := [.int (x_73)]) (rest := []) ⟨hx, hb, hml, hown, hts⟩ (c_Br_at l D ca _ _ _ _ hT r_71 t_72 x_73) (kv_Br_at hts rfl rfl (hts _ tw_697) ⟨Nat.le_of_ble_eq_true rfl, Nat.le_of_ble_eq_true rfl⟩) (pv_Br hI hE hT t_72) rfl rfl hl.1 rfl (lv_room (Nat.le_of_ble_eq_true rfl)) d_Po_setClock_79 ⟨Nat.le_of_ble_eq_true rfl, Nat.le_of_ble_eq_true rfl⟩) (fun x_75 H locs p_76 hI => ?_)
  refine lv_bipush (v := 127) hx hb d_Po_setClock_82 (by decide) ?_
  refine lv_iand hx hb d_Po_setClock_84 ?_
  refine lv_topi (fun x_77 e_78 => ?_)
  refine lv_istore (lv' := [(7, .int (x_77)), (6, .int (x_69)), (5, .int (x_59)), (4, .int (x_51)), (3, .int (x_43)), (2, .int (x_35)), (0, .ref h0), (1, .int (x1))]) hx hb d_Po_setClock_85 hl (by decide) rfl (fun ls hl => ?_)
  refine lv_iload_n hx hb d_Po_setClock_87 rfl (lv_at hl 5 rfl) ?_
  refine lv_ldcw (v := 60000) hx hb hown (hts _ tw_649) d_Po_setClock_88 ?_
  refine lv_icmp_ge (tgt := 114) hx hb d_Po_setClock_91 (by decide) (fun c_79 => ?_) (fun c_79 => ?_)
  · refine lv_iconst (v := 0) hx hb d_Po_setClock_114 (by decide) ?_
    exact sm_zret hx hb hr hlk hI (by decide) ⟨(by decide), ⟨rfl, hT⟩⟩ d_Po_setClock_115
  · refine lv_iload_n hx hb d_Po_setClock_94 rfl (lv_at hl 4 rfl) ?_
    refine lv_bipush (v := 60) hx hb d_Po_setClock_95 (by decide) ?_
    refine lv_icmp_ge (tgt := 114) hx hb d_Po_setClock_97 (by decide) (fun c_80 => ?_) (fun c_80 => ?_)
    · refine lv_iconst (v := 0) hx hb d_Po_setClock_114 (by decide) ?_
      exact sm_zret hx hb hr hlk hI (by decide) ⟨(by decide), ⟨rfl, hT⟩⟩ d_Po_setClock_115
    · refine lv_iload hx hb d_Po_setClock_100 (lv_at hl 3 rfl) ?_
      refine lv_bipush (v := 24) hx hb d_Po_setClock_102 (by decide) ?_
      refine lv_icmp_ge (tgt := 114) hx hb d_Po_setClock_104 (by decide) (fun c_81 => ?_) (fun c_81 => ?_)
      · refine lv_iconst (v := 0) hx hb d_Po_setClock_114 (by decide) ?_
        exact sm_zret hx hb hr hlk hI (by decide) ⟨(by decide), ⟨rfl, hT⟩⟩ d_Po_setClock_115
      · refine lv_iload hx hb d_Po_setClock_107 (lv_at hl 0 rfl) ?_
        refine lv_bipush (v := 100) hx hb d_Po_setClock_109 (by decide) ?_
        refine lv_icmp_lt (tgt := 116) hx hb d_Po_setClock_111 (by decide) (fun c_82 => ?_) (fun c_82 => ?_)
        · refine lv_iload hx hb d_Po_setClock_116 (lv_at hl 1 rfl) ?_
          refine lv_if_lt (tgt := 146) hx hb d_Po_setClock_118 (by decide) (fun c_83 => ?_) (fun c_83 => ?_)
          · refine lv_iconst (v := 0) hx hb d_Po_setClock_146 (by decide) ?_
            exact sm_zret hx hb hr hlk hI (by decide) ⟨(by decide), ⟨rfl, hT⟩⟩ d_Po_setClock_147
          · refine lv_iload hx hb d_Po_setClock_121 (lv_at hl 1 rfl) ?_
            refine lv_bipush (v := 11) hx hb d_Po_setClock_123 (by decide) ?_
            refine lv_icmp_gt (tgt := 146) hx hb d_Po_setClock_125 (by decide) (fun c_84 => ?_) (fun c_84 => ?_)
            · refine lv_iconst (v := 0) hx hb d_Po_setClock_146 (by decide) ?_
              exact sm_zret hx hb hr hlk hI (by decide) ⟨(by decide), ⟨rfl, hT⟩⟩ d_Po_setClock_147
            · refine lv_iload hx hb d_Po_setClock_128 (lv_at hl 2 rfl) ?_
              refine lv_iconst (v := 1) hx hb d_Po_setClock_130 (by decide) ?_
              refine lv_icmp_lt (tgt := 146) hx hb d_Po_setClock_131 (by decide) (fun c_85 => ?_) (fun c_85 => ?_)
              · refine lv_iconst (v := 0) hx hb d_Po_setClock_146 (by decide) ?_
                exact sm_zret hx hb hr hlk hI (by decide) ⟨(by decide), ⟨rfl, hT⟩⟩ d_Po_setClock_147
              · refine lv_iload hx hb d_Po_setClock_134 (lv_at hl 2 rfl) ?_
                refine lv_iload hx hb d_Po_setClock_136 (lv_at hl 1 rfl) ?_
                refine lv_iload hx hb d_Po_setClock_138 (lv_at hl 0 rfl) ?_
                refine sm_iP hI (va_runS (As := [.int (x_69), .int (x_77)]) (rest := [.int (x_59)]) ⟨hx, hb, hml, hown, hts⟩ (c_Po_daysOfMonth l D ca _ _ _ _ hT x_69 x_77) (ks_Po_daysOfMonth hts rfl rfl (hts _ tw_644) ⟨Nat.le_of_ble_eq_true rfl, Nat.le_of_ble_eq_true rfl⟩) (sm_preS hI hE) rfl rfl hl.1 rfl (lv_room (Nat.le_of_ble_eq_true rfl)) d_Po_setClock_140 ⟨Nat.le_of_ble_eq_true rfl, Nat.le_of_ble_eq_true rfl⟩) (fun x_86 H locs p_87 hI => ?_)
                refine lv_icmp_le (tgt := 148) hx hb d_Po_setClock_143 (by decide) (fun c_88 => ?_) (fun c_88 => ?_)
                · refine lv_iload hx hb d_Po_setClock_148 (lv_at hl 2 rfl) ?_
                  refine lv_iconst (v := 1) hx hb d_Po_setClock_150 (by decide) ?_
                  refine lv_isub hx hb d_Po_setClock_151 ?_
                  refine lv_topi (fun x_89 e_90 => ?_)
                  refine lv_i2l hx hb d_Po_setClock_152 rfl ?_
                  refine lv_topl (fun x_91 e_92 => ?_)
                  refine lv_lstore (lv' := [(8, .long (x_91)), (7, .int (x_77)), (6, .int (x_69)), (5, .int (x_59)), (4, .int (x_51)), (3, .int (x_43)), (2, .int (x_35)), (0, .ref h0), (1, .int (x1))]) hx hb d_Po_setClock_153 hl (by decide) rfl (fun ls hl => ?_)
                  refine lv_iconst (v := 0) hx hb d_Po_setClock_155 (by decide) ?_
                  refine lv_istore (lv' := [(10, .int (0)), (8, .long (x_91)), (7, .int (x_77)), (6, .int (x_69)), (5, .int (x_59)), (4, .int (x_51)), (3, .int (x_43)), (2, .int (x_35)), (0, .ref h0), (1, .int (x1))]) hx hb d_Po_setClock_156 hl (by decide) rfl (fun ls hl => ?_)
                  exact hJ_158 _ (0) _ _ _ _ x_35 x_43 x_51 x_59 x_69 x_77 x_91 (Nat.le_refl _) hI hT (lv_sub hl [8, 9, 7, 6, 5, 4, 3, 2, 1, 0] rfl) 
                · refine lv_iconst (v := 0) hx hb d_Po_setClock_146 (by decide) ?_
                  exact sm_zret hx hb hr hlk hI (by decide) ⟨(by decide), ⟨rfl, hT⟩⟩ d_Po_setClock_147
        · refine lv_iconst (v := 0) hx hb d_Po_setClock_114 (by decide) ?_
          exact sm_zret hx hb hr hlk hI (by decide) ⟨(by decide), ⟨rfl, hT⟩⟩ d_Po_setClock_115
theorem d_Po_makeEvent_0 : decode b_Po_makeEvent 0 = .ok (.aload_n 0, 1) := by decide +kernel
theorem d_Po_makeEvent_1 : decode b_Po_makeEvent 1 = .ok (.getfield 31, 3) := by decide +kernel
theorem d_Po_makeEvent_4 : decode b_Po_makeEvent 4 = .ok (.invokevirtual 310, 3) := by decide +kernel
theorem d_Po_makeEvent_7 : decode b_Po_makeEvent 7 = .ok (.astore_n 2, 1) := by decide +kernel
theorem d_Po_makeEvent_8 : decode b_Po_makeEvent 8 = .ok (.aload_n 2, 1) := by decide +kernel
theorem d_Po_makeEvent_9 : decode b_Po_makeEvent 9 = .ok (.ifnull 43, 3) := by decide +kernel
theorem d_Po_makeEvent_12 : decode b_Po_makeEvent 12 = .ok (.aload_n 2, 1) := by decide +kernel
theorem d_Po_makeEvent_13 : decode b_Po_makeEvent 13 = .ok (.getstatic 314, 3) := by decide +kernel
theorem d_Po_makeEvent_16 : decode b_Po_makeEvent 16 = .ok (.aload_n 1, 1) := by decide +kernel
theorem d_Po_makeEvent_17 : decode b_Po_makeEvent 17 = .ok (.getfield 318, 3) := by decide +kernel
theorem d_Po_makeEvent_20 : decode b_Po_makeEvent 20 = .ok (.iaload, 1) := by decide +kernel
theorem d_Po_makeEvent_21 : decode b_Po_makeEvent 21 = .ok (.putfield 321, 3) := by decide +kernel
theorem d_Po_makeEvent_24 : decode b_Po_makeEvent 24 = .ok (.aload_n 2, 1) := by decide +kernel
theorem d_Po_makeEvent_25 : decode b_Po_makeEvent 25 = .ok (.aload_n 1, 1) := by decide +kernel
theorem d_Po_makeEvent_26 : decode b_Po_makeEvent 26 = .ok (.getfield 289, 3) := by decide +kernel
theorem d_Po_makeEvent_29 : decode b_Po_makeEvent 29 = .ok (.putfield 326, 3) := by decide +kernel
theorem d_Po_makeEvent_32 : decode b_Po_makeEvent 32 = .ok (.aload_n 1, 1) := by decide +kernel
theorem d_Po_makeEvent_33 : decode b_Po_makeEvent 33 = .ok (.aload_n 2, 1) := by decide +kernel
theorem d_Po_makeEvent_34 : decode b_Po_makeEvent 34 = .ok (.getfield 327, 3) := by decide +kernel
theorem d_Po_makeEvent_37 : decode b_Po_makeEvent 37 = .ok (.aload_n 0, 1) := by decide +kernel
theorem d_Po_makeEvent_38 : decode b_Po_makeEvent 38 = .ok (.getfield 330, 3) := by decide +kernel
theorem d_Po_makeEvent_41 : decode b_Po_makeEvent 41 = .ok (.invokevirtual 333, 3) := by decide +kernel
theorem d_Po_makeEvent_44 : decode b_Po_makeEvent 44 = .ok (.aload_n 0, 1) := by decide +kernel
theorem d_Po_makeEvent_45 : decode b_Po_makeEvent 45 = .ok (.aload_n 2, 1) := by decide +kernel
theorem d_Po_makeEvent_46 : decode b_Po_makeEvent 46 = .ok (.getfield 327, 3) := by decide +kernel
theorem d_Po_makeEvent_49 : decode b_Po_makeEvent 49 = .ok (.invokevirtual 337, 3) := by decide +kernel
theorem d_Po_makeEvent_52 : decode b_Po_makeEvent 52 = .ok (.return_, 1) := by decide +kernel
set_option maxRecDepth 100000 in
set_option maxHeartbeats 4000000 in
theorem c_Po_makeEvent (l : Launch) (D : va_G) (ca : Nat → ClassId) (T : ty_e) (L : List Nat) (f0 : Nat → va_E) (sz : Nat) (hT : ok_T ca T L f0) {g0 : List (Int32 × Int32)} (h0 : Nat) (t0 : T h0 = some (ty_po g0)) {q1 : Int32 × Int32} (x1 : Nat) (t1 : T x1 = some (ty_pt q1)) (hk : q1.2.toInt ≤ 6) :
    Met l y_Po_makeEvent (Cond.code y_Po_makeEvent b_Po_makeEvent 3 none :: wg) { frames := 3, cells := 0, slots := 0, locals := 67 } (va_Pc [.ref h0, .ref x1] (sm_P D cl_all (ty_s ca) ek L f0 sz)) (sm_Qv D (ty_s ca) L f0 sz (fun u => po_m ca T L u)) 0 0 (va_A (va_pl L f0) sz) := by
  refine sm_start (by decide) (Nat.le_of_ble_eq_true rfl) ?_
  intro p e s m below meth c ls hx hb hml hr hlk hnm hts hown hsz hE hI hl
  have hl : lv_has ls 3 [(0, .ref h0), (1, .ref x1)] := hl
  refine lv_aload_n hx hb d_Po_makeEvent_0 rfl (lv_at hl 0 rfl) ?_
  refine fg_Po_events hx hb hts hown hI hT t0 (hts _ tw_367) (fun _ h9 => h9) d_Po_makeEvent_1 (fun r_1 t_2 => ?_)
  refine sm_q hI (va_runV (As := []) (rest := []) ⟨hx, hb, hml, hown, hts⟩ (c_Es_add l D ca _ _ _ _ hT r_1 t_2) (kv_Es_add hts rfl rfl (hts _ tw_606) ⟨Nat.le_of_ble_eq_true rfl, Nat.le_of_ble_eq_true rfl⟩) (pv_Es hI hE hT t_2) rfl rfl hl.1 rfl (lv_room (Nat.le_of_ble_eq_true rfl)) d_Po_makeEvent_4 ⟨Nat.le_of_ble_eq_true rfl, Nat.le_of_ble_eq_true rfl⟩) (fun o_3 H locs f p_4 hI hT => ?_)
  rcases o_3 with _ | r_5
  · refine lv_astore_nN (lv' := [(2, .null), (0, .ref h0), (1, .ref x1)]) hx hb d_Po_makeEvent_7 rfl hl (by decide) rfl (fun ls hl => ?_)
    refine lv_aload_nN hx hb d_Po_makeEvent_8 rfl (lv_at hl 0 rfl) ?_
    refine lv_ifnullN (tgt := 52) hx hb d_Po_makeEvent_9 (by decide) ?_
    exact sm_vret hx hb hr hlk hI ⟨rfl, hT⟩ d_Po_makeEvent_52
  · have t_6 := p_4 r_5 rfl
    refine lv_astore_n (lv' := [(2, .ref r_5), (0, .ref h0), (1, .ref x1)]) hx hb d_Po_makeEvent_7 rfl hl (by decide) rfl (fun ls hl => ?_)
    refine lv_aload_n hx hb d_Po_makeEvent_8 rfl (lv_at hl 0 rfl) ?_
    refine lv_ifnull hx hb d_Po_makeEvent_9 ?_
    refine lv_aload_n hx hb d_Po_makeEvent_12 rfl (lv_at hl 0 rfl) ?_
    obtain ⟨b_7, hz_8, ht_9⟩ := hE.2.2.2.1 1 (by decide)
    refine va_gets hx hb hz_8 hI.2.2.1 hown (hts _ tw_619) (fun _ h9 => h9) d_Po_makeEvent_13 ?_
    refine lv_aload_n hx hb d_Po_makeEvent_16 rfl (lv_at hl 2 rfl) ?_
    refine fgN_Pt_kind hx hb hts hown hI hT t1 (va_Nw.use rfl (hE.1 _ tn_522 rfl)) (fun _ h9 => h9) d_Po_makeEvent_17 (fun h_10 => ?_)
    refine lv_topi (fun x_11 e_12 => ?_)
    obtain ⟨j_13, h_14, rfl⟩ : ∃ j : Nat, j < 7 ∧ x_11 = nI j := ix_le (by rw [e_12]; exact h_10.1) (by rw [e_12]; omega) (by decide)
    refine fa_tb (i := 1) (j := j_13) hx hb hI ht_9 (by show j_13 < 7; omega) (by decide) d_Po_makeEvent_20 ?_
    refine lv_topi (fun x_17 e_18 => ?_)
    refine fpN_Ev_type hx hb hts hown hI hT t_6 (va_Nw.use rfl (hE.1 _ tn_217 rfl)) (fun _ h9 => h9) d_Po_makeEvent_21 (fun H locs f hI hT => ?_)
    refine lv_aload_n hx hb d_Po_makeEvent_24 rfl (lv_at hl 0 rfl) ?_
    refine lv_aload_n hx hb d_Po_makeEvent_25 rfl (lv_at hl 2 rfl) ?_
    refine fgN_Pt_address hx hb hts hown hI hT t1 (va_Nw.use rfl (hE.1 _ tn_519 rfl)) (fun _ h9 => h9) d_Po_makeEvent_26 (fun h_19 => ?_)
    refine fpN_Ev_address hx hb hts hown hI hT t_6 (va_Nw.use rfl (hE.1 _ tn_218 rfl)) (fun _ h9 => h9) d_Po_makeEvent_29 (fun H locs f hI hT => ?_)
    refine lv_aload_n hx hb d_Po_makeEvent_32 rfl (lv_at hl 2 rfl) ?_
    refine lv_aload_n hx hb d_Po_makeEvent_33 rfl (lv_at hl 0 rfl) ?_
    refine fgN_Ev_body hx hb hts hown hI hT t_6 (va_Nw.use rfl (hE.1 _ tn_221 rfl)) (fun _ h9 => h9) d_Po_makeEvent_34 (fun r_20 t_21 => ?_)
    refine lv_aload_n hx hb d_Po_makeEvent_37 rfl (lv_at hl 1 rfl) ?_
    refine fg_Po_countersBegun hx hb hts hown hI hT t0 (hts _ tw_370) (fun _ h9 => h9) d_Po_makeEvent_38 (fun x_22 => ?_)
    refine sm_v hI (va_runV (As := [.ref r_20, .int (x_22)]) (rest := []) ⟨hx, hb, hml, hown, hts⟩ (c_Pt_tell l D ca _ _ _ _ hT x1 t1 r_20 t_21 x_22) (kv_Pt_tell hts rfl rfl (hts _ tw_621) ⟨Nat.le_of_ble_eq_true rfl, Nat.le_of_ble_eq_true rfl⟩) (pv_Pt hI hE hT t1) rfl rfl hl.1 rfl (lv_room (Nat.le_of_ble_eq_true rfl)) d_Po_makeEvent_41 ⟨Nat.le_of_ble_eq_true rfl, Nat.le_of_ble_eq_true rfl⟩) (fun H locs f hI hT => ?_)
    refine lv_aload_n hx hb d_Po_makeEvent_44 rfl (lv_at hl 1 rfl) ?_
    refine lv_aload_n hx hb d_Po_makeEvent_45 rfl (lv_at hl 0 rfl) ?_
    refine fgN_Ev_body hx hb hts hown hI hT t_6 (va_Nw.use rfl (hE.1 _ tn_221 rfl)) (fun _ h9 => h9) d_Po_makeEvent_46 (fun r_23 t_24 => ?_)
    refine sm_v hI (va_runV (As := [.ref r_23]) (rest := []) ⟨hx, hb, hml, hown, hts⟩ (c_Po_putTime l D ca _ _ _ _ hT h0 t0 r_23 t_24) (kv_Po_putTime hts rfl rfl (hts _ tw_633) ⟨Nat.le_of_ble_eq_true rfl, Nat.le_of_ble_eq_true rfl⟩) (pv_Po hI hE hT t0) rfl rfl hl.1 rfl (lv_room (Nat.le_of_ble_eq_true rfl)) d_Po_makeEvent_49 ⟨Nat.le_of_ble_eq_true rfl, Nat.le_of_ble_eq_true rfl⟩) (fun H locs f hI hT => ?_)
    exact sm_vret hx hb hr hlk hI ⟨rfl, hT⟩ d_Po_makeEvent_52
theorem d_Po_tellPoints_0 : decode b_Po_tellPoints 0 = .ok (.aload_n 0, 1) := by decide +kernel
theorem d_Po_tellPoints_1 : decode b_Po_tellPoints 1 = .ok (.aload_n 2, 1) := by decide +kernel
theorem d_Po_tellPoints_2 : decode b_Po_tellPoints 2 = .ok (.invokevirtual 493, 3) := by decide +kernel
theorem d_Po_tellPoints_5 : decode b_Po_tellPoints 5 = .ok (.astore_n 3, 1) := by decide +kernel
theorem d_Po_tellPoints_6 : decode b_Po_tellPoints 6 = .ok (.aload_n 3, 1) := by decide +kernel
theorem d_Po_tellPoints_7 : decode b_Po_tellPoints 7 = .ok (.ifnonnull 7, 3) := by decide +kernel
theorem d_Po_tellPoints_10 : decode b_Po_tellPoints 10 = .ok (.iconst 0, 1) := by decide +kernel
theorem d_Po_tellPoints_11 : decode b_Po_tellPoints 11 = .ok (.goto 7, 3) := by decide +kernel
theorem d_Po_tellPoints_14 : decode b_Po_tellPoints 14 = .ok (.aload_n 3, 1) := by decide +kernel
theorem d_Po_tellPoints_15 : decode b_Po_tellPoints 15 = .ok (.getfield 318, 3) := by decide +kernel
theorem d_Po_tellPoints_18 : decode b_Po_tellPoints 18 = .ok (.istore 4, 2) := by decide +kernel
theorem d_Po_tellPoints_20 : decode b_Po_tellPoints 20 = .ok (.aload_n 1, 1) := by decide +kernel
theorem d_Po_tellPoints_21 : decode b_Po_tellPoints 21 = .ok (.getfield 467, 3) := by decide +kernel
theorem d_Po_tellPoints_24 : decode b_Po_tellPoints 24 = .ok (.getstatic 497, 3) := by decide +kernel
theorem d_Po_tellPoints_27 : decode b_Po_tellPoints 27 = .ok (.iload 4, 2) := by decide +kernel
theorem d_Po_tellPoints_29 : decode b_Po_tellPoints 29 = .ok (.iaload, 1) := by decide +kernel
theorem d_Po_tellPoints_30 : decode b_Po_tellPoints 30 = .ok (.iadd, 1) := by decide +kernel
theorem d_Po_tellPoints_31 : decode b_Po_tellPoints 31 = .ok (.istore 5, 2) := by decide +kernel
theorem d_Po_tellPoints_33 : decode b_Po_tellPoints 33 = .ok (.aload_n 0, 1) := by decide +kernel
theorem d_Po_tellPoints_34 : decode b_Po_tellPoints 34 = .ok (.aload_n 1, 1) := by decide +kernel
theorem d_Po_tellPoints_35 : decode b_Po_tellPoints 35 = .ok (.getstatic 500, 3) := by decide +kernel
theorem d_Po_tellPoints_38 : decode b_Po_tellPoints 38 = .ok (.iload 4, 2) := by decide +kernel
theorem d_Po_tellPoints_40 : decode b_Po_tellPoints 40 = .ok (.iaload, 1) := by decide +kernel
theorem d_Po_tellPoints_41 : decode b_Po_tellPoints 41 = .ok (.aload_n 2, 1) := by decide +kernel
theorem d_Po_tellPoints_42 : decode b_Po_tellPoints 42 = .ok (.getfield 477, 3) := by decide +kernel
theorem d_Po_tellPoints_45 : decode b_Po_tellPoints 45 = .ok (.iconst 2, 1) := by decide +kernel
theorem d_Po_tellPoints_46 : decode b_Po_tellPoints 46 = .ok (.invokevirtual 216, 3) := by decide +kernel
theorem d_Po_tellPoints_49 : decode b_Po_tellPoints 49 = .ok (.sipush 128, 3) := by decide +kernel
theorem d_Po_tellPoints_52 : decode b_Po_tellPoints 52 = .ok (.iand, 1) := by decide +kernel
theorem d_Po_tellPoints_53 : decode b_Po_tellPoints 53 = .ok (.aload_n 2, 1) := by decide +kernel
theorem d_Po_tellPoints_54 : decode b_Po_tellPoints 54 = .ok (.invokevirtual 503, 3) := by decide +kernel
theorem d_Po_tellPoints_57 : decode b_Po_tellPoints 57 = .ok (.ior, 1) := by decide +kernel
theorem d_Po_tellPoints_58 : decode b_Po_tellPoints 58 = .ok (.aload_n 0, 1) := by decide +kernel
theorem d_Po_tellPoints_59 : decode b_Po_tellPoints 59 = .ok (.aload_n 1, 1) := by decide +kernel
theorem d_Po_tellPoints_60 : decode b_Po_tellPoints 60 = .ok (.aload_n 2, 1) := by decide +kernel
theorem d_Po_tellPoints_61 : decode b_Po_tellPoints 61 = .ok (.getfield 477, 3) := by decide +kernel
theorem d_Po_tellPoints_64 : decode b_Po_tellPoints 64 = .ok (.invokevirtual 506, 3) := by decide +kernel
theorem d_Po_tellPoints_67 : decode b_Po_tellPoints 67 = .ok (.invokevirtual 463, 3) := by decide +kernel
theorem d_Po_tellPoints_70 : decode b_Po_tellPoints 70 = .ok (.iconst 0, 1) := by decide +kernel
theorem d_Po_tellPoints_71 : decode b_Po_tellPoints 71 = .ok (.istore 6, 2) := by decide +kernel
theorem d_Po_tellPoints_73 : decode b_Po_tellPoints 73 = .ok (.iload 6, 2) := by decide +kernel
theorem d_Po_tellPoints_75 : decode b_Po_tellPoints 75 = .ok (.bipush 32, 2) := by decide +kernel
theorem d_Po_tellPoints_77 : decode b_Po_tellPoints 77 = .ok (.if_icmp .ge 79, 3) := by decide +kernel
theorem d_Po_tellPoints_80 : decode b_Po_tellPoints 80 = .ok (.aload_n 3, 1) := by decide +kernel
theorem d_Po_tellPoints_81 : decode b_Po_tellPoints 81 = .ok (.ifnull 75, 3) := by decide +kernel
theorem d_Po_tellPoints_84 : decode b_Po_tellPoints 84 = .ok (.aload_n 3, 1) := by decide +kernel
theorem d_Po_tellPoints_85 : decode b_Po_tellPoints 85 = .ok (.getfield 318, 3) := by decide +kernel
theorem d_Po_tellPoints_88 : decode b_Po_tellPoints 88 = .ok (.iload 4, 2) := by decide +kernel
theorem d_Po_tellPoints_90 : decode b_Po_tellPoints 90 = .ok (.if_icmp .ne 66, 3) := by decide +kernel
theorem d_Po_tellPoints_93 : decode b_Po_tellPoints 93 = .ok (.aload_n 0, 1) := by decide +kernel
theorem d_Po_tellPoints_94 : decode b_Po_tellPoints 94 = .ok (.getfield 57, 3) := by decide +kernel
theorem d_Po_tellPoints_97 : decode b_Po_tellPoints 97 = .ok (.getfield 207, 3) := by decide +kernel
theorem d_Po_tellPoints_100 : decode b_Po_tellPoints 100 = .ok (.iload 5, 2) := by decide +kernel
theorem d_Po_tellPoints_102 : decode b_Po_tellPoints 102 = .ok (.iadd, 1) := by decide +kernel
theorem d_Po_tellPoints_103 : decode b_Po_tellPoints 103 = .ok (.sipush 249, 3) := by decide +kernel
theorem d_Po_tellPoints_106 : decode b_Po_tellPoints 106 = .ok (.if_icmp .gt 50, 3) := by decide +kernel
theorem d_Po_tellPoints_109 : decode b_Po_tellPoints 109 = .ok (.aload_n 0, 1) := by decide +kernel
theorem d_Po_tellPoints_110 : decode b_Po_tellPoints 110 = .ok (.getfield 57, 3) := by decide +kernel
theorem d_Po_tellPoints_113 : decode b_Po_tellPoints 113 = .ok (.aload_n 3, 1) := by decide +kernel
theorem d_Po_tellPoints_114 : decode b_Po_tellPoints 114 = .ok (.getfield 289, 3) := by decide +kernel
theorem d_Po_tellPoints_117 : decode b_Po_tellPoints 117 = .ok (.aload_n 1, 1) := by decide +kernel
theorem d_Po_tellPoints_118 : decode b_Po_tellPoints 118 = .ok (.getfield 467, 3) := by decide +kernel
theorem d_Po_tellPoints_121 : decode b_Po_tellPoints 121 = .ok (.invokevirtual 425, 3) := by decide +kernel
theorem d_Po_tellPoints_124 : decode b_Po_tellPoints 124 = .ok (.aload_n 3, 1) := by decide +kernel
theorem d_Po_tellPoints_125 : decode b_Po_tellPoints 125 = .ok (.aload_n 0, 1) := by decide +kernel
theorem d_Po_tellPoints_126 : decode b_Po_tellPoints 126 = .ok (.getfield 57, 3) := by decide +kernel
theorem d_Po_tellPoints_129 : decode b_Po_tellPoints 129 = .ok (.aload_n 0, 1) := by decide +kernel
theorem d_Po_tellPoints_130 : decode b_Po_tellPoints 130 = .ok (.getfield 330, 3) := by decide +kernel
theorem d_Po_tellPoints_133 : decode b_Po_tellPoints 133 = .ok (.invokevirtual 333, 3) := by decide +kernel
theorem d_Po_tellPoints_136 : decode b_Po_tellPoints 136 = .ok (.aload_n 2, 1) := by decide +kernel
theorem d_Po_tellPoints_137 : decode b_Po_tellPoints 137 = .ok (.aload_n 3, 1) := by decide +kernel
theorem d_Po_tellPoints_138 : decode b_Po_tellPoints 138 = .ok (.getfield 289, 3) := by decide +kernel
theorem d_Po_tellPoints_141 : decode b_Po_tellPoints 141 = .ok (.putfield 510, 3) := by decide +kernel
theorem d_Po_tellPoints_144 : decode b_Po_tellPoints 144 = .ok (.iinc 6 1, 3) := by decide +kernel
theorem d_Po_tellPoints_147 : decode b_Po_tellPoints 147 = .ok (.aload_n 0, 1) := by decide +kernel
theorem d_Po_tellPoints_148 : decode b_Po_tellPoints 148 = .ok (.aload_n 2, 1) := by decide +kernel
theorem d_Po_tellPoints_149 : decode b_Po_tellPoints 149 = .ok (.invokevirtual 493, 3) := by decide +kernel
theorem d_Po_tellPoints_152 : decode b_Po_tellPoints 152 = .ok (.astore_n 3, 1) := by decide +kernel
theorem d_Po_tellPoints_153 : decode b_Po_tellPoints 153 = .ok (.goto (-80), 3) := by decide +kernel
theorem d_Po_tellPoints_156 : decode b_Po_tellPoints 156 = .ok (.aload_n 0, 1) := by decide +kernel
theorem d_Po_tellPoints_157 : decode b_Po_tellPoints 157 = .ok (.getfield 57, 3) := by decide +kernel
theorem d_Po_tellPoints_160 : decode b_Po_tellPoints 160 = .ok (.iconst 1, 1) := by decide +kernel
theorem d_Po_tellPoints_161 : decode b_Po_tellPoints 161 = .ok (.iload 6, 2) := by decide +kernel
theorem d_Po_tellPoints_163 : decode b_Po_tellPoints 163 = .ok (.invokevirtual 488, 3) := by decide +kernel
theorem d_Po_tellPoints_166 : decode b_Po_tellPoints 166 = .ok (.return_, 1) := by decide +kernel
set_option maxRecDepth 100000 in
set_option maxHeartbeats 4000000 in
theorem c_Po_tellPoints (l : Launch) (D : va_G) (ca : Nat → ClassId) (T : ty_e) (L : List Nat) (f0 : Nat → va_E) (sz : Nat) (hT : ok_T ca T L f0) {g0 : List (Int32 × Int32)} (h0 : Nat) (t0 : T h0 = some (ty_po g0)) (x1 : Nat) (t1 : is_li T x1) (x2 : Nat) (t2 : T x2 = some (ty_an)) :
    Met l y_Po_tellPoints (Cond.code y_Po_tellPoints b_Po_tellPoints 7 none :: wg) { frames := 2, cells := 0, slots := 0, locals := 47 } (va_Pc [.ref h0, .ref x1, .ref x2] (sm_P D cl_all (ty_s ca) ek L f0 sz)) (sm_Qv D (ty_s ca) L f0 sz (fun u => po_m ca T L u)) 0 0 (va_A (va_pl L f0) sz) := by
  refine sm_start (by decide) (Nat.le_of_ble_eq_true rfl) ?_
  intro p e s m below meth c ls hx hb hml hr hlk hnm hts hown hsz hE hI hl
  have hl : lv_has ls 7 [(0, .ref h0), (1, .ref x1), (2, .ref x2)] := hl
  have hJ_73 : ∀ (N k : Nat) (H : Heap) (locs : List Loc) (f : Nat → va_E) (ls : Array Slot) (y3 : Option Nat) (y4 : Int32) (y5 : Int32), 32 + 1 - k ≤ N → k ≤ 32 → sw_I D cl_all (ty_s ca) (va_A (va_pl L f0) sz) s H locs L f → ok_T ca T L f → lv_has ls 7 [(0, .ref h0), (1, .ref x1), (2, .ref x2), (3, va_rf y3), (4, .int (y4)), (5, .int (y5)), (6, .int (nI k))] → (∀ b : Nat, y3 = some b → ∃ q : Int32 × Int32, T b = some (ty_pt q) ∧ q.2.toInt ≤ 6) → W p l e { frames := 2, cells := 0, slots := 0, locals := 47 } s m ([.ref h0, .ref x1, .ref x2] : List Value).toArray below meth c H locs 0 0 (MQ below (sm_Qv D (ty_s ca) L f0 sz (fun u => po_m ca T L u)) ([.ref h0, .ref x1, .ref x2] : List Value).toArray s 0 0 (va_A (va_pl L f0) sz)) (F0 m 73 ls []) := by
    intro N
    induction N with
    | zero => intros; omega
    | succ N ih =>
      intro k H locs f ls y3 y4 y5 hN hk hI hT hl fy3
      rcases y3 with _ | r_1
      · refine lv_iload hx hb d_Po_tellPoints_73 (lv_at hl 6 rfl) ?_
        refine lv_bipush (v := 32) hx hb d_Po_tellPoints_75 (by decide) ?_
        refine lv_icmp_ge (tgt := 156) hx hb d_Po_tellPoints_77 (by decide) (fun c_2 => ?_) (fun c_2 => ?_)
        · have k_3 : 32 ≤ k := (nI_leI (a := 32) (b := k) (by omega) (by omega)).mp c_2
          refine lv_aload_n hx hb d_Po_tellPoints_156 rfl (lv_at hl 0 rfl) ?_
          refine fg_Po_told hx hb hts hown hI hT t0 (hts _ tw_376) (fun _ h9 => h9) d_Po_tellPoints_157 (fun r_4 t_5 => ?_)
          refine lv_iconst (v := 1) hx hb d_Po_tellPoints_160 (by decide) ?_
          refine lv_iload hx hb d_Po_tellPoints_161 (lv_at hl 6 rfl) ?_
          refine sm_v hI (va_runV (As := [.int (1), .int (nI k)]) (rest := []) ⟨hx, hb, hml, hown, hts⟩ (c_Br_set l D ca _ _ _ _ hT r_4 t_5 1 (nI k)) (kv_Br_set hts rfl rfl (hts _ tw_714) ⟨Nat.le_of_ble_eq_true rfl, Nat.le_of_ble_eq_true rfl⟩) (pv_Br hI hE hT t_5) rfl rfl hl.1 rfl (lv_room (Nat.le_of_ble_eq_true rfl)) d_Po_tellPoints_163 ⟨Nat.le_of_ble_eq_true rfl, Nat.le_of_ble_eq_true rfl⟩) (fun H locs f hI hT => ?_)
          exact sm_vret hx hb hr hlk hI ⟨rfl, hT⟩ d_Po_tellPoints_166
        · have k_6 : k < 32 := Nat.lt_of_not_le (fun q => c_2 ((nI_leI (a := 32) (b := k) (by omega) (by omega)).mpr q))
          refine lv_aload_nN hx hb d_Po_tellPoints_80 rfl (lv_at hl 3 rfl) ?_
          refine lv_ifnullN (tgt := 156) hx hb d_Po_tellPoints_81 (by decide) ?_
          refine lv_aload_n hx hb d_Po_tellPoints_156 rfl (lv_at hl 0 rfl) ?_
          refine fg_Po_told hx hb hts hown hI hT t0 (hts _ tw_376) (fun _ h9 => h9) d_Po_tellPoints_157 (fun r_7 t_8 => ?_)
          refine lv_iconst (v := 1) hx hb d_Po_tellPoints_160 (by decide) ?_
          refine lv_iload hx hb d_Po_tellPoints_161 (lv_at hl 6 rfl) ?_
          refine sm_v hI (va_runV (As := [.int (1), .int (nI k)]) (rest := []) ⟨hx, hb, hml, hown, hts⟩ (c_Br_set l D ca _ _ _ _ hT r_7 t_8 1 (nI k)) (kv_Br_set hts rfl rfl (hts _ tw_714) ⟨Nat.le_of_ble_eq_true rfl, Nat.le_of_ble_eq_true rfl⟩) (pv_Br hI hE hT t_8) rfl rfl hl.1 rfl (lv_room (Nat.le_of_ble_eq_true rfl)) d_Po_tellPoints_163 ⟨Nat.le_of_ble_eq_true rfl, Nat.le_of_ble_eq_true rfl⟩) (fun H locs f hI hT => ?_)
          exact sm_vret hx hb hr hlk hI ⟨rfl, hT⟩ d_Po_tellPoints_166
      · obtain ⟨q_10, t_9, h_11⟩ := fy3 r_1 rfl
        refine lv_iload hx hb d_Po_tellPoints_73 (lv_at hl 6 rfl) ?_
        refine lv_bipush (v := 32) hx hb d_Po_tellPoints_75 (by decide) ?_
        refine lv_icmp_ge (tgt := 156) hx hb d_Po_tellPoints_77 (by decide) (fun c_12 => ?_) (fun c_12 => ?_)
        · have k_13 : 32 ≤ k := (nI_leI (a := 32) (b := k) (by omega) (by omega)).mp c_12
          refine lv_aload_n hx hb d_Po_tellPoints_156 rfl (lv_at hl 0 rfl) ?_
          refine fg_Po_told hx hb hts hown hI hT t0 (hts _ tw_376) (fun _ h9 => h9) d_Po_tellPoints_157 (fun r_14 t_15 => ?_)
          refine lv_iconst (v := 1) hx hb d_Po_tellPoints_160 (by decide) ?_
          refine lv_iload hx hb d_Po_tellPoints_161 (lv_at hl 6 rfl) ?_
          refine sm_v hI (va_runV (As := [.int (1), .int (nI k)]) (rest := []) ⟨hx, hb, hml, hown, hts⟩ (c_Br_set l D ca _ _ _ _ hT r_14 t_15 1 (nI k)) (kv_Br_set hts rfl rfl (hts _ tw_714) ⟨Nat.le_of_ble_eq_true rfl, Nat.le_of_ble_eq_true rfl⟩) (pv_Br hI hE hT t_15) rfl rfl hl.1 rfl (lv_room (Nat.le_of_ble_eq_true rfl)) d_Po_tellPoints_163 ⟨Nat.le_of_ble_eq_true rfl, Nat.le_of_ble_eq_true rfl⟩) (fun H locs f hI hT => ?_)
          exact sm_vret hx hb hr hlk hI ⟨rfl, hT⟩ d_Po_tellPoints_166
        · have k_16 : k < 32 := Nat.lt_of_not_le (fun q => c_12 ((nI_leI (a := 32) (b := k) (by omega) (by omega)).mpr q))
          refine lv_aload_n hx hb d_Po_tellPoints_80 rfl (lv_at hl 3 rfl) ?_
          refine lv_ifnull hx hb d_Po_tellPoints_81 ?_
          refine lv_aload_n hx hb d_Po_tellPoints_84 rfl (lv_at hl 3 rfl) ?_
          refine fgN_Pt_kind hx hb hts hown hI hT t_9 (va_Nw.use rfl (hE.1 _ tn_522 rfl)) (fun _ h9 => h9) d_Po_tellPoints_85 (fun h_17 => ?_)
          refine lv_iload hx hb d_Po_tellPoints_88 (lv_at hl 4 rfl) ?_
          refine lv_icmp_ne (tgt := 156) hx hb d_Po_tellPoints_90 (by decide) (fun c_18 => ?_) (fun c_18 => ?_)
          · refine lv_aload_n hx hb d_Po_tellPoints_156 rfl (lv_at hl 0 rfl) ?_
            refine fg_Po_told hx hb hts hown hI hT t0 (hts _ tw_376) (fun _ h9 => h9) d_Po_tellPoints_157 (fun r_19 t_20 => ?_)
            refine lv_iconst (v := 1) hx hb d_Po_tellPoints_160 (by decide) ?_
            refine lv_iload hx hb d_Po_tellPoints_161 (lv_at hl 6 rfl) ?_
            refine sm_v hI (va_runV (As := [.int (1), .int (nI k)]) (rest := []) ⟨hx, hb, hml, hown, hts⟩ (c_Br_set l D ca _ _ _ _ hT r_19 t_20 1 (nI k)) (kv_Br_set hts rfl rfl (hts _ tw_714) ⟨Nat.le_of_ble_eq_true rfl, Nat.le_of_ble_eq_true rfl⟩) (pv_Br hI hE hT t_20) rfl rfl hl.1 rfl (lv_room (Nat.le_of_ble_eq_true rfl)) d_Po_tellPoints_163 ⟨Nat.le_of_ble_eq_true rfl, Nat.le_of_ble_eq_true rfl⟩) (fun H locs f hI hT => ?_)
            exact sm_vret hx hb hr hlk hI ⟨rfl, hT⟩ d_Po_tellPoints_166
          · refine lv_aload_n hx hb d_Po_tellPoints_93 rfl (lv_at hl 0 rfl) ?_
            refine fg_Po_told hx hb hts hown hI hT t0 (hts _ tw_376) (fun _ h9 => h9) d_Po_tellPoints_94 (fun r_21 t_22 => ?_)
            refine fgN_Br_length hx hb hts hown hI hT t_22 (va_Nw.use rfl (hE.1 _ tn_51 rfl)) (fun _ h9 => h9) d_Po_tellPoints_97 (fun n_23 h_24 => ?_)
            refine lv_iload hx hb d_Po_tellPoints_100 (lv_at hl 5 rfl) ?_
            refine lv_iadd hx hb d_Po_tellPoints_102 ?_
            refine lv_topi (fun x_25 e_26 => ?_)
            refine lv_sipush (v := 249) hx hb d_Po_tellPoints_103 (by decide) ?_
            refine lv_icmp_gt (tgt := 156) hx hb d_Po_tellPoints_106 (by decide) (fun c_27 => ?_) (fun c_27 => ?_)
            · refine lv_aload_n hx hb d_Po_tellPoints_156 rfl (lv_at hl 0 rfl) ?_
              refine fg_Po_told hx hb hts hown hI hT t0 (hts _ tw_376) (fun _ h9 => h9) d_Po_tellPoints_157 (fun r_28 t_29 => ?_)
              refine lv_iconst (v := 1) hx hb d_Po_tellPoints_160 (by decide) ?_
              refine lv_iload hx hb d_Po_tellPoints_161 (lv_at hl 6 rfl) ?_
              refine sm_v hI (va_runV (As := [.int (1), .int (nI k)]) (rest := []) ⟨hx, hb, hml, hown, hts⟩ (c_Br_set l D ca _ _ _ _ hT r_28 t_29 1 (nI k)) (kv_Br_set hts rfl rfl (hts _ tw_714) ⟨Nat.le_of_ble_eq_true rfl, Nat.le_of_ble_eq_true rfl⟩) (pv_Br hI hE hT t_29) rfl rfl hl.1 rfl (lv_room (Nat.le_of_ble_eq_true rfl)) d_Po_tellPoints_163 ⟨Nat.le_of_ble_eq_true rfl, Nat.le_of_ble_eq_true rfl⟩) (fun H locs f hI hT => ?_)
              exact sm_vret hx hb hr hlk hI ⟨rfl, hT⟩ d_Po_tellPoints_166
            · refine lv_aload_n hx hb d_Po_tellPoints_109 rfl (lv_at hl 0 rfl) ?_
              refine fg_Po_told hx hb hts hown hI hT t0 (hts _ tw_376) (fun _ h9 => h9) d_Po_tellPoints_110 (fun r_30 t_31 => ?_)
              refine lv_aload_n hx hb d_Po_tellPoints_113 rfl (lv_at hl 3 rfl) ?_
              refine fgN_Pt_address hx hb hts hown hI hT t_9 (va_Nw.use rfl (hE.1 _ tn_519 rfl)) (fun _ h9 => h9) d_Po_tellPoints_114 (fun h_32 => ?_)
              refine lv_aload_n hx hb d_Po_tellPoints_117 rfl (lv_at hl 1 rfl) ?_
              refine fg_Li_objectSize hx hb hts hown hI hT t1 (hts _ tw_162) (fun _ h9 => h9) d_Po_tellPoints_118 (fun n_33 h_34 => ?_)
              refine sm_v hI (va_runV (As := [.int (q_10.1), .int (nI n_33)]) (rest := []) ⟨hx, hb, hml, hown, hts⟩ (c_Br_putNumber l D ca _ _ _ _ hT r_30 t_31 (q_10.1) (n_33) (by omega)) (kv_Br_putNumber hts rfl rfl (hts _ tw_650) ⟨Nat.le_of_ble_eq_true rfl, Nat.le_of_ble_eq_true rfl⟩) (pv_Br hI hE hT t_31) rfl rfl hl.1 rfl (lv_room (Nat.le_of_ble_eq_true rfl)) d_Po_tellPoints_121 ⟨Nat.le_of_ble_eq_true rfl, Nat.le_of_ble_eq_true rfl⟩) (fun H locs f hI hT => ?_)
              refine lv_aload_n hx hb d_Po_tellPoints_124 rfl (lv_at hl 3 rfl) ?_
              refine lv_aload_n hx hb d_Po_tellPoints_125 rfl (lv_at hl 0 rfl) ?_
              refine fg_Po_told hx hb hts hown hI hT t0 (hts _ tw_376) (fun _ h9 => h9) d_Po_tellPoints_126 (fun r_35 t_36 => ?_)
              refine lv_aload_n hx hb d_Po_tellPoints_129 rfl (lv_at hl 0 rfl) ?_
              refine fg_Po_countersBegun hx hb hts hown hI hT t0 (hts _ tw_370) (fun _ h9 => h9) d_Po_tellPoints_130 (fun x_37 => ?_)
              refine sm_v hI (va_runV (As := [.ref r_35, .int (x_37)]) (rest := []) ⟨hx, hb, hml, hown, hts⟩ (c_Pt_tell l D ca _ _ _ _ hT r_1 t_9 r_35 t_36 x_37) (kv_Pt_tell hts rfl rfl (hts _ tw_621) ⟨Nat.le_of_ble_eq_true rfl, Nat.le_of_ble_eq_true rfl⟩) (pv_Pt hI hE hT t_9) rfl rfl hl.1 rfl (lv_room (Nat.le_of_ble_eq_true rfl)) d_Po_tellPoints_133 ⟨Nat.le_of_ble_eq_true rfl, Nat.le_of_ble_eq_true rfl⟩) (fun H locs f hI hT => ?_)
              refine lv_aload_n hx hb d_Po_tellPoints_136 rfl (lv_at hl 2 rfl) ?_
              refine lv_aload_n hx hb d_Po_tellPoints_137 rfl (lv_at hl 3 rfl) ?_
              refine fgN_Pt_address hx hb hts hown hI hT t_9 (va_Nw.use rfl (hE.1 _ tn_519 rfl)) (fun _ h9 => h9) d_Po_tellPoints_138 (fun h_38 => ?_)
              refine fpN_An_lastTold hx hb hts hown hI hT t2 (va_Nw.use rfl (hE.1 _ tn_84 rfl)) (fun _ h9 => h9) d_Po_tellPoints_141 (fun H locs f hI hT => ?_)
              refine lv_iinc (v := nI (k + 1)) (lv' := [(6, .int (nI (k + 1))), (0, .ref h0), (1, .ref x1), (2, .ref x2), (3, .ref r_1), (4, .int (y4)), (5, .int (y5))]) hx hb d_Po_tellPoints_144 hl (k := 6) rfl (nI_1 _) (by decide) rfl (fun ls hl => ?_)
              refine lv_aload_n hx hb d_Po_tellPoints_147 rfl (lv_at hl 1 rfl) ?_
              refine lv_aload_n hx hb d_Po_tellPoints_148 rfl (lv_at hl 3 rfl) ?_
              refine sm_qP hI (va_runV (As := [.ref x2]) (rest := []) ⟨hx, hb, hml, hown, hts⟩ (c_Po_nextToTell l D ca _ _ _ _ hT h0 t0 x2 t2) (kv_Po_nextToTell hts rfl rfl (hts _ tw_681) ⟨Nat.le_of_ble_eq_true rfl, Nat.le_of_ble_eq_true rfl⟩) (pv_Po hI hE hT t0) rfl rfl hl.1 rfl (lv_room (Nat.le_of_ble_eq_true rfl)) d_Po_tellPoints_149 ⟨Nat.le_of_ble_eq_true rfl, Nat.le_of_ble_eq_true rfl⟩) (fun o_39 H locs p_40 hI => ?_)
              rcases o_39 with _ | r_41
              · refine lv_astore_nN (lv' := [(3, .null), (6, .int (nI (k + 1))), (0, .ref h0), (1, .ref x1), (2, .ref x2), (4, .int (y4)), (5, .int (y5))]) hx hb d_Po_tellPoints_152 rfl hl (by decide) rfl (fun ls hl => ?_)
                refine lv_goto (tgt := 73) hx hb d_Po_tellPoints_153 (by decide) ?_
                exact ih ((k + 1)) _ _ _ _ none y4 y5 (by omega) (by omega) hI hT (lv_sub hl [2, 3, 4, 0, 5, 6, 1] rfl) (fun b h => by cases h)
              · obtain ⟨q_43, t_42, h_44⟩ := p_40 r_41 rfl
                refine lv_astore_n (lv' := [(3, .ref r_41), (6, .int (nI (k + 1))), (0, .ref h0), (1, .ref x1), (2, .ref x2), (4, .int (y4)), (5, .int (y5))]) hx hb d_Po_tellPoints_152 rfl hl (by decide) rfl (fun ls hl => ?_)
                refine lv_goto (tgt := 73) hx hb d_Po_tellPoints_153 (by decide) ?_
                exact ih ((k + 1)) _ _ _ _ (some r_41) y4 y5 (by omega) (by omega) hI hT (lv_sub hl [2, 3, 4, 0, 5, 6, 1] rfl) (fun b h => by cases h; exact ⟨_, t_42, h_44⟩)
  refine lv_aload_n hx hb d_Po_tellPoints_0 rfl (lv_at hl 0 rfl) ?_
  refine lv_aload_n hx hb d_Po_tellPoints_1 rfl (lv_at hl 2 rfl) ?_
  refine sm_qP hI (va_runV (As := [.ref x2]) (rest := []) ⟨hx, hb, hml, hown, hts⟩ (c_Po_nextToTell l D ca _ _ _ _ hT h0 t0 x2 t2) (kv_Po_nextToTell hts rfl rfl (hts _ tw_681) ⟨Nat.le_of_ble_eq_true rfl, Nat.le_of_ble_eq_true rfl⟩) (pv_Po hI hE hT t0) rfl rfl hl.1 rfl (lv_room (Nat.le_of_ble_eq_true rfl)) d_Po_tellPoints_2 ⟨Nat.le_of_ble_eq_true rfl, Nat.le_of_ble_eq_true rfl⟩) (fun o_45 H locs p_46 hI => ?_)
  rcases o_45 with _ | r_47
  · refine lv_astore_nN (lv' := [(3, .null), (0, .ref h0), (1, .ref x1), (2, .ref x2)]) hx hb d_Po_tellPoints_5 rfl hl (by decide) rfl (fun ls hl => ?_)
    refine lv_aload_nN hx hb d_Po_tellPoints_6 rfl (lv_at hl 0 rfl) ?_
    refine lv_ifnonnullN hx hb d_Po_tellPoints_7 ?_
    refine lv_iconst (v := 0) hx hb d_Po_tellPoints_10 (by decide) ?_
    refine lv_goto (tgt := 18) hx hb d_Po_tellPoints_11 (by decide) ?_
    refine lv_istore (lv' := [(4, .int (0)), (3, .null), (0, .ref h0), (1, .ref x1), (2, .ref x2)]) hx hb d_Po_tellPoints_18 hl (by decide) rfl (fun ls hl => ?_)
    refine lv_aload_n hx hb d_Po_tellPoints_20 rfl (lv_at hl 3 rfl) ?_
    refine fg_Li_objectSize hx hb hts hown hI hT t1 (hts _ tw_162) (fun _ h9 => h9) d_Po_tellPoints_21 (fun n_48 h_49 => ?_)
    obtain ⟨b_50, hz_51, ht_52⟩ := hE.2.2.2.1 4 (by decide)
    refine va_gets hx hb hz_51 hI.2.2.1 hown (hts _ tw_693) (fun _ h9 => h9) d_Po_tellPoints_24 ?_
    refine lv_iload hx hb d_Po_tellPoints_27 (lv_at hl 0 rfl) ?_
    refine lv_topi (fun x_53 e_54 => ?_)
    obtain ⟨j_55, h_56, rfl⟩ : ∃ j : Nat, j < 7 ∧ x_53 = nI j := ⟨0, by decide, by rw [e_54]; rfl⟩
    refine fa_tb (i := 4) (j := j_55) hx hb hI ht_52 (by show j_55 < 7; omega) (by decide) d_Po_tellPoints_29 ?_
    refine lv_topi (fun x_59 e_60 => ?_)
    refine lv_iadd hx hb d_Po_tellPoints_30 ?_
    refine lv_topi (fun x_61 e_62 => ?_)
    refine lv_istore (lv' := [(5, .int (x_61)), (4, .int (0)), (3, .null), (0, .ref h0), (1, .ref x1), (2, .ref x2)]) hx hb d_Po_tellPoints_31 hl (by decide) rfl (fun ls hl => ?_)
    refine lv_aload_n hx hb d_Po_tellPoints_33 rfl (lv_at hl 3 rfl) ?_
    refine lv_aload_n hx hb d_Po_tellPoints_34 rfl (lv_at hl 4 rfl) ?_
    obtain ⟨b_63, hz_64, ht_65⟩ := hE.2.2.2.1 0 (by decide)
    refine va_gets hx hb hz_64 hI.2.2.1 hown (hts _ tw_695) (fun _ h9 => h9) d_Po_tellPoints_35 ?_
    refine lv_iload hx hb d_Po_tellPoints_38 (lv_at hl 1 rfl) ?_
    refine lv_topi (fun x_66 e_67 => ?_)
    obtain ⟨j_68, h_69, rfl⟩ : ∃ j : Nat, j < 7 ∧ x_66 = nI j := ⟨0, by decide, by rw [e_67]; rfl⟩
    refine fa_tb (i := 0) (j := j_68) hx hb hI ht_65 (by show j_68 < 7; omega) (by decide) d_Po_tellPoints_40 ?_
    refine lv_topi (fun x_72 e_73 => ?_)
    refine lv_aload_n hx hb d_Po_tellPoints_41 rfl (lv_at hl 5 rfl) ?_
    refine fgN_An_row hx hb hts hown hI hT t2 (va_Nw.use rfl (hE.1 _ tn_74 rfl)) (fun _ h9 => h9) d_Po_tellPoints_42 (fun r_74 t_75 => ?_)
    refine lv_iconst (v := 2) hx hb d_Po_tellPoints_45 (by decide) ?_
    refine sm_iP hI (va_runV (As := [.int (2)]) (rest := [.int (x_72), .ref x1, .ref h0]) ⟨hx, hb, hml, hown, hts⟩ (c_Br_at l D ca _ _ _ _ hT r_74 t_75 2) (kv_Br_at hts rfl rfl (hts _ tw_697) ⟨Nat.le_of_ble_eq_true rfl, Nat.le_of_ble_eq_true rfl⟩) (pv_Br hI hE hT t_75) rfl rfl hl.1 rfl (lv_room (Nat.le_of_ble_eq_true rfl)) d_Po_tellPoints_46 ⟨Nat.le_of_ble_eq_true rfl, Nat.le_of_ble_eq_true rfl⟩) (fun x_76 H locs p_77 hI => ?_)
    refine lv_sipush (v := 128) hx hb d_Po_tellPoints_49 (by decide) ?_
    refine lv_iand hx hb d_Po_tellPoints_52 ?_
    refine lv_topi (fun x_78 e_79 => ?_)
    refine lv_aload_n hx hb d_Po_tellPoints_53 rfl (lv_at hl 5 rfl) ?_
    refine sm_iP hI (va_runV (As := []) (rest := [.int (x_78), .int (x_72), .ref x1, .ref h0]) ⟨hx, hb, hml, hown, hts⟩ (c_An_cause l D ca _ _ _ _ hT x2 t2) (kv_An_cause hts rfl rfl (hts _ tw_701) ⟨Nat.le_of_ble_eq_true rfl, Nat.le_of_ble_eq_true rfl⟩) (pv_An hI hE hT t2) rfl rfl hl.1 rfl (lv_room (Nat.le_of_ble_eq_true rfl)) d_Po_tellPoints_54 ⟨Nat.le_of_ble_eq_true rfl, Nat.le_of_ble_eq_true rfl⟩) (fun x_80 H locs p_81 hI => ?_)
    refine lv_ior hx hb d_Po_tellPoints_57 ?_
    refine lv_topi (fun x_82 e_83 => ?_)
    refine lv_aload_n hx hb d_Po_tellPoints_58 rfl (lv_at hl 3 rfl) ?_
    refine lv_aload_n hx hb d_Po_tellPoints_59 rfl (lv_at hl 4 rfl) ?_
    refine lv_aload_n hx hb d_Po_tellPoints_60 rfl (lv_at hl 5 rfl) ?_
    refine fgN_An_row hx hb hts hown hI hT t2 (va_Nw.use rfl (hE.1 _ tn_74 rfl)) (fun _ h9 => h9) d_Po_tellPoints_61 (fun r_84 t_85 => ?_)
    refine sm_iP hI (va_runV (As := [.ref x1, .ref r_84]) (rest := [.int (x_82), .int (x_72), .ref x1, .ref h0]) ⟨hx, hb, hml, hown, hts⟩ (c_Po_originOf l D ca _ _ _ _ hT h0 t0 x1 t1 r_84 t_85) (kv_Po_originOf hts rfl rfl (hts _ tw_705) ⟨Nat.le_of_ble_eq_true rfl, Nat.le_of_ble_eq_true rfl⟩) (pv_Po hI hE hT t0) rfl rfl hl.1 rfl (lv_room (Nat.le_of_ble_eq_true rfl)) d_Po_tellPoints_64 ⟨Nat.le_of_ble_eq_true rfl, Nat.le_of_ble_eq_true rfl⟩) (fun x_86 H locs p_87 hI => ?_)
    refine sm_v hI (va_runV (As := [.ref x1, .int (x_72), .int (x_82), .int (x_86)]) (rest := []) ⟨hx, hb, hml, hown, hts⟩ (c_Po_putHead l D ca _ _ _ _ hT h0 t0 x1 t1 x_72 x_82 x_86) (kv_Po_putHead hts rfl rfl (hts _ tw_709) ⟨Nat.le_of_ble_eq_true rfl, Nat.le_of_ble_eq_true rfl⟩) (pv_Po hI hE hT t0) rfl rfl hl.1 rfl (lv_room (Nat.le_of_ble_eq_true rfl)) d_Po_tellPoints_67 ⟨Nat.le_of_ble_eq_true rfl, Nat.le_of_ble_eq_true rfl⟩) (fun H locs f hI hT => ?_)
    refine lv_iconst (v := 0) hx hb d_Po_tellPoints_70 (by decide) ?_
    refine lv_istore (lv' := [(6, .int (0)), (5, .int (x_61)), (4, .int (0)), (3, .null), (0, .ref h0), (1, .ref x1), (2, .ref x2)]) hx hb d_Po_tellPoints_71 hl (by decide) rfl (fun ls hl => ?_)
    exact hJ_73 _ (0) _ _ _ _ none 0 x_61 (Nat.le_refl _) (by omega) hI hT (lv_sub hl [4, 5, 6, 3, 2, 1, 0] rfl) (fun b h => by cases h)
  · obtain ⟨q_89, t_88, h_90⟩ := p_46 r_47 rfl
    refine lv_astore_n (lv' := [(3, .ref r_47), (0, .ref h0), (1, .ref x1), (2, .ref x2)]) hx hb d_Po_tellPoints_5 rfl hl (by decide) rfl (fun ls hl => ?_)
    refine lv_aload_n hx hb d_Po_tellPoints_6 rfl (lv_at hl 0 rfl) ?_
    refine lv_ifnonnull (tgt := 14) hx hb d_Po_tellPoints_7 (by decide) ?_
    refine lv_aload_n hx hb d_Po_tellPoints_14 rfl (lv_at hl 0 rfl) ?_
    refine fgN_Pt_kind hx hb hts hown hI hT t_88 (va_Nw.use rfl (hE.1 _ tn_522 rfl)) (fun _ h9 => h9) d_Po_tellPoints_15 (fun h_91 => ?_)
    refine lv_istore (lv' := [(4, .int (q_89.2)), (3, .ref r_47), (0, .ref h0), (1, .ref x1), (2, .ref x2)]) hx hb d_Po_tellPoints_18 hl (by decide) rfl (fun ls hl => ?_)
    refine lv_aload_n hx hb d_Po_tellPoints_20 rfl (lv_at hl 3 rfl) ?_
    refine fg_Li_objectSize hx hb hts hown hI hT t1 (hts _ tw_162) (fun _ h9 => h9) d_Po_tellPoints_21 (fun n_92 h_93 => ?_)
    obtain ⟨b_94, hz_95, ht_96⟩ := hE.2.2.2.1 4 (by decide)
    refine va_gets hx hb hz_95 hI.2.2.1 hown (hts _ tw_693) (fun _ h9 => h9) d_Po_tellPoints_24 ?_
    refine lv_iload hx hb d_Po_tellPoints_27 (lv_at hl 0 rfl) ?_
    refine lv_topi (fun x_97 e_98 => ?_)
    obtain ⟨j_99, h_100, rfl⟩ : ∃ j : Nat, j < 7 ∧ x_97 = nI j := ix_le (by rw [e_98]; exact h_91.1) (by rw [e_98]; have := h_90; omega) (by decide)
    refine fa_tb (i := 4) (j := j_99) hx hb hI ht_96 (by show j_99 < 7; omega) (by decide) d_Po_tellPoints_29 ?_
    refine lv_topi (fun x_103 e_104 => ?_)
    refine lv_iadd hx hb d_Po_tellPoints_30 ?_
    refine lv_topi (fun x_105 e_106 => ?_)
    refine lv_istore (lv' := [(5, .int (x_105)), (4, .int (q_89.2)), (3, .ref r_47), (0, .ref h0), (1, .ref x1), (2, .ref x2)]) hx hb d_Po_tellPoints_31 hl (by decide) rfl (fun ls hl => ?_)
    refine lv_aload_n hx hb d_Po_tellPoints_33 rfl (lv_at hl 3 rfl) ?_
    refine lv_aload_n hx hb d_Po_tellPoints_34 rfl (lv_at hl 4 rfl) ?_
    obtain ⟨b_107, hz_108, ht_109⟩ := hE.2.2.2.1 0 (by decide)
    refine va_gets hx hb hz_108 hI.2.2.1 hown (hts _ tw_695) (fun _ h9 => h9) d_Po_tellPoints_35 ?_
    refine lv_iload hx hb d_Po_tellPoints_38 (lv_at hl 1 rfl) ?_
    refine lv_topi (fun x_110 e_111 => ?_)
    obtain ⟨j_112, h_113, rfl⟩ : ∃ j : Nat, j < 7 ∧ x_110 = nI j := ix_le (by rw [e_111]; exact h_91.1) (by rw [e_111]; have := h_90; omega) (by decide)
    refine fa_tb (i := 0) (j := j_112) hx hb hI ht_109 (by show j_112 < 7; omega) (by decide) d_Po_tellPoints_40 ?_
    refine lv_topi (fun x_116 e_117 => ?_)
    refine lv_aload_n hx hb d_Po_tellPoints_41 rfl (lv_at hl 5 rfl) ?_
    refine fgN_An_row hx hb hts hown hI hT t2 (va_Nw.use rfl (hE.1 _ tn_74 rfl)) (fun _ h9 => h9) d_Po_tellPoints_42 (fun r_118 t_119 => ?_)
    refine lv_iconst (v := 2) hx hb d_Po_tellPoints_45 (by decide) ?_
    refine sm_iP hI (va_runV (As := [.int (2)]) (rest := [.int (x_116), .ref x1, .ref h0]) ⟨hx, hb, hml, hown, hts⟩ (c_Br_at l D ca _ _ _ _ hT r_118 t_119 2) (kv_Br_at hts rfl rfl (hts _ tw_697) ⟨Nat.le_of_ble_eq_true rfl, Nat.le_of_ble_eq_true rfl⟩) (pv_Br hI hE hT t_119) rfl rfl hl.1 rfl (lv_room (Nat.le_of_ble_eq_true rfl)) d_Po_tellPoints_46 ⟨Nat.le_of_ble_eq_true rfl, Nat.le_of_ble_eq_true rfl⟩) (fun x_120 H locs p_121 hI => ?_)
    refine lv_sipush (v := 128) hx hb d_Po_tellPoints_49 (by decide) ?_
    refine lv_iand hx hb d_Po_tellPoints_52 ?_
    refine lv_topi (fun x_122 e_123 => ?_)
    refine lv_aload_n hx hb d_Po_tellPoints_53 rfl (lv_at hl 5 rfl) ?_
    refine sm_iP hI (va_runV (As := []) (rest := [.int (x_122), .int (x_116), .ref x1, .ref h0]) ⟨hx, hb, hml, hown, hts⟩ (c_An_cause l D ca _ _ _ _ hT x2 t2) (kv_An_cause hts rfl rfl (hts _ tw_701) ⟨Nat.le_of_ble_eq_true rfl, Nat.le_of_ble_eq_true rfl⟩) (pv_An hI hE hT t2) rfl rfl hl.1 rfl (lv_room (Nat.le_of_ble_eq_true rfl)) d_Po_tellPoints_54 ⟨Nat.le_of_ble_eq_true rfl, Nat.le_of_ble_eq_true rfl⟩) (fun x_124 H locs p_125 hI => ?_)
    refine lv_ior hx hb d_Po_tellPoints_57 ?_
    refine lv_topi (fun x_126 e_127 => ?_)
    refine lv_aload_n hx hb d_Po_tellPoints_58 rfl (lv_at hl 3 rfl) ?_
    refine lv_aload_n hx hb d_Po_tellPoints_59 rfl (lv_at hl 4 rfl) ?_
    refine lv_aload_n hx hb d_Po_tellPoints_60 rfl (lv_at hl 5 rfl) ?_
    refine fgN_An_row hx hb hts hown hI hT t2 (va_Nw.use rfl (hE.1 _ tn_74 rfl)) (fun _ h9 => h9) d_Po_tellPoints_61 (fun r_128 t_129 => ?_)
    refine sm_iP hI (va_runV (As := [.ref x1, .ref r_128]) (rest := [.int (x_126), .int (x_116), .ref x1, .ref h0]) ⟨hx, hb, hml, hown, hts⟩ (c_Po_originOf l D ca _ _ _ _ hT h0 t0 x1 t1 r_128 t_129) (kv_Po_originOf hts rfl rfl (hts _ tw_705) ⟨Nat.le_of_ble_eq_true rfl, Nat.le_of_ble_eq_true rfl⟩) (pv_Po hI hE hT t0) rfl rfl hl.1 rfl (lv_room (Nat.le_of_ble_eq_true rfl)) d_Po_tellPoints_64 ⟨Nat.le_of_ble_eq_true rfl, Nat.le_of_ble_eq_true rfl⟩) (fun x_130 H locs p_131 hI => ?_)
    refine sm_v hI (va_runV (As := [.ref x1, .int (x_116), .int (x_126), .int (x_130)]) (rest := []) ⟨hx, hb, hml, hown, hts⟩ (c_Po_putHead l D ca _ _ _ _ hT h0 t0 x1 t1 x_116 x_126 x_130) (kv_Po_putHead hts rfl rfl (hts _ tw_709) ⟨Nat.le_of_ble_eq_true rfl, Nat.le_of_ble_eq_true rfl⟩) (pv_Po hI hE hT t0) rfl rfl hl.1 rfl (lv_room (Nat.le_of_ble_eq_true rfl)) d_Po_tellPoints_67 ⟨Nat.le_of_ble_eq_true rfl, Nat.le_of_ble_eq_true rfl⟩) (fun H locs f hI hT => ?_)
    refine lv_iconst (v := 0) hx hb d_Po_tellPoints_70 (by decide) ?_
    refine lv_istore (lv' := [(6, .int (0)), (5, .int (x_105)), (4, .int (q_89.2)), (3, .ref r_47), (0, .ref h0), (1, .ref x1), (2, .ref x2)]) hx hb d_Po_tellPoints_71 hl (by decide) rfl (fun ls hl => ?_)
    exact hJ_73 _ (0) _ _ _ _ (some r_47) (q_89.2) x_105 (Nat.le_refl _) (by omega) hI hT (lv_sub hl [4, 5, 6, 3, 2, 1, 0] rfl) (fun b h => by cases h; exact ⟨_, t_88, h_90⟩)
theorem d_Po_mayExecute_0 : decode b_Po_mayExecute 0 = .ok (.aload_n 0, 1) := by decide +kernel
theorem d_Po_mayExecute_1 : decode b_Po_mayExecute 1 = .ok (.getfield 11, 3) := by decide +kernel
theorem d_Po_mayExecute_4 : decode b_Po_mayExecute 4 = .ok (.iload_n 2, 1) := by decide +kernel
theorem d_Po_mayExecute_5 : decode b_Po_mayExecute 5 = .ok (.aaload, 1) := by decide +kernel
theorem d_Po_mayExecute_6 : decode b_Po_mayExecute 6 = .ok (.getfield 657, 3) := by decide +kernel
theorem d_Po_mayExecute_9 : decode b_Po_mayExecute 9 = .ok (.ifCond .eq 52, 3) := by decide +kernel
theorem d_Po_mayExecute_12 : decode b_Po_mayExecute 12 = .ok (.aload_n 0, 1) := by decide +kernel
theorem d_Po_mayExecute_13 : decode b_Po_mayExecute 13 = .ok (.getfield 44, 3) := by decide +kernel
theorem d_Po_mayExecute_16 : decode b_Po_mayExecute 16 = .ok (.getfield 663, 3) := by decide +kernel
theorem d_Po_mayExecute_19 : decode b_Po_mayExecute 19 = .ok (.iload_n 3, 1) := by decide +kernel
theorem d_Po_mayExecute_20 : decode b_Po_mayExecute 20 = .ok (.if_icmp .ne 22, 3) := by decide +kernel
theorem d_Po_mayExecute_23 : decode b_Po_mayExecute 23 = .ok (.aload_n 0, 1) := by decide +kernel
theorem d_Po_mayExecute_24 : decode b_Po_mayExecute 24 = .ok (.getfield 44, 3) := by decide +kernel
theorem d_Po_mayExecute_27 : decode b_Po_mayExecute 27 = .ok (.getfield 664, 3) := by decide +kernel
theorem d_Po_mayExecute_30 : decode b_Po_mayExecute 30 = .ok (.iload 4, 2) := by decide +kernel
theorem d_Po_mayExecute_32 : decode b_Po_mayExecute 32 = .ok (.bipush 127, 2) := by decide +kernel
theorem d_Po_mayExecute_34 : decode b_Po_mayExecute 34 = .ok (.iand, 1) := by decide +kernel
theorem d_Po_mayExecute_35 : decode b_Po_mayExecute 35 = .ok (.if_icmp .ne 7, 3) := by decide +kernel
theorem d_Po_mayExecute_38 : decode b_Po_mayExecute 38 = .ok (.iconst 1, 1) := by decide +kernel
theorem d_Po_mayExecute_39 : decode b_Po_mayExecute 39 = .ok (.goto 4, 3) := by decide +kernel
theorem d_Po_mayExecute_42 : decode b_Po_mayExecute 42 = .ok (.iconst 0, 1) := by decide +kernel
theorem d_Po_mayExecute_43 : decode b_Po_mayExecute 43 = .ok (.istore 5, 2) := by decide +kernel
theorem d_Po_mayExecute_45 : decode b_Po_mayExecute 45 = .ok (.aload_n 0, 1) := by decide +kernel
theorem d_Po_mayExecute_46 : decode b_Po_mayExecute 46 = .ok (.aload_n 1, 1) := by decide +kernel
theorem d_Po_mayExecute_47 : decode b_Po_mayExecute 47 = .ok (.iload_n 2, 1) := by decide +kernel
theorem d_Po_mayExecute_48 : decode b_Po_mayExecute 48 = .ok (.invokevirtual 644, 3) := by decide +kernel
theorem d_Po_mayExecute_51 : decode b_Po_mayExecute 51 = .ok (.ifCond .eq 8, 3) := by decide +kernel
theorem d_Po_mayExecute_54 : decode b_Po_mayExecute 54 = .ok (.iload 5, 2) := by decide +kernel
theorem d_Po_mayExecute_56 : decode b_Po_mayExecute 56 = .ok (.ifCond .ne 5, 3) := by decide +kernel
theorem d_Po_mayExecute_59 : decode b_Po_mayExecute 59 = .ok (.iconst 0, 1) := by decide +kernel
theorem d_Po_mayExecute_60 : decode b_Po_mayExecute 60 = .ok (.ireturn, 1) := by decide +kernel
theorem d_Po_mayExecute_61 : decode b_Po_mayExecute 61 = .ok (.iconst 0, 1) := by decide +kernel
theorem d_Po_mayExecute_62 : decode b_Po_mayExecute 62 = .ok (.istore 5, 2) := by decide +kernel
theorem d_Po_mayExecute_64 : decode b_Po_mayExecute 64 = .ok (.iconst 0, 1) := by decide +kernel
theorem d_Po_mayExecute_65 : decode b_Po_mayExecute 65 = .ok (.istore 6, 2) := by decide +kernel
theorem d_Po_mayExecute_67 : decode b_Po_mayExecute 67 = .ok (.iload 6, 2) := by decide +kernel
theorem d_Po_mayExecute_69 : decode b_Po_mayExecute 69 = .ok (.aload_n 0, 1) := by decide +kernel
theorem d_Po_mayExecute_70 : decode b_Po_mayExecute 70 = .ok (.getfield 37, 3) := by decide +kernel
theorem d_Po_mayExecute_73 : decode b_Po_mayExecute 73 = .ok (.arraylength, 1) := by decide +kernel
theorem d_Po_mayExecute_74 : decode b_Po_mayExecute 74 = .ok (.if_icmp .ge 61, 3) := by decide +kernel
theorem d_Po_mayExecute_77 : decode b_Po_mayExecute 77 = .ok (.aload_n 0, 1) := by decide +kernel
theorem d_Po_mayExecute_78 : decode b_Po_mayExecute 78 = .ok (.getfield 37, 3) := by decide +kernel
theorem d_Po_mayExecute_81 : decode b_Po_mayExecute 81 = .ok (.iload 6, 2) := by decide +kernel
theorem d_Po_mayExecute_83 : decode b_Po_mayExecute 83 = .ok (.aaload, 1) := by decide +kernel
theorem d_Po_mayExecute_84 : decode b_Po_mayExecute 84 = .ok (.getfield 226, 3) := by decide +kernel
theorem d_Po_mayExecute_87 : decode b_Po_mayExecute 87 = .ok (.ifCond .eq 19, 3) := by decide +kernel
theorem d_Po_mayExecute_90 : decode b_Po_mayExecute 90 = .ok (.aload_n 0, 1) := by decide +kernel
theorem d_Po_mayExecute_91 : decode b_Po_mayExecute 91 = .ok (.getfield 37, 3) := by decide +kernel
theorem d_Po_mayExecute_94 : decode b_Po_mayExecute 94 = .ok (.iload 6, 2) := by decide +kernel
theorem d_Po_mayExecute_96 : decode b_Po_mayExecute 96 = .ok (.aaload, 1) := by decide +kernel
theorem d_Po_mayExecute_97 : decode b_Po_mayExecute 97 = .ok (.getfield 249, 3) := by decide +kernel
theorem d_Po_mayExecute_100 : decode b_Po_mayExecute 100 = .ok (.iload_n 2, 1) := by decide +kernel
theorem d_Po_mayExecute_101 : decode b_Po_mayExecute 101 = .ok (.if_icmp .ne 5, 3) := by decide +kernel
theorem d_Po_mayExecute_104 : decode b_Po_mayExecute 104 = .ok (.iconst 0, 1) := by decide +kernel
theorem d_Po_mayExecute_105 : decode b_Po_mayExecute 105 = .ok (.ireturn, 1) := by decide +kernel
theorem d_Po_mayExecute_106 : decode b_Po_mayExecute 106 = .ok (.iload 5, 2) := by decide +kernel
theorem d_Po_mayExecute_108 : decode b_Po_mayExecute 108 = .ok (.aload_n 0, 1) := by decide +kernel
theorem d_Po_mayExecute_109 : decode b_Po_mayExecute 109 = .ok (.getfield 37, 3) := by decide +kernel
theorem d_Po_mayExecute_112 : decode b_Po_mayExecute 112 = .ok (.iload 6, 2) := by decide +kernel
theorem d_Po_mayExecute_114 : decode b_Po_mayExecute 114 = .ok (.aaload, 1) := by decide +kernel
theorem d_Po_mayExecute_115 : decode b_Po_mayExecute 115 = .ok (.getfield 226, 3) := by decide +kernel
theorem d_Po_mayExecute_118 : decode b_Po_mayExecute 118 = .ok (.ifCond .eq 7, 3) := by decide +kernel
theorem d_Po_mayExecute_121 : decode b_Po_mayExecute 121 = .ok (.iconst 1, 1) := by decide +kernel
theorem d_Po_mayExecute_122 : decode b_Po_mayExecute 122 = .ok (.goto 4, 3) := by decide +kernel
theorem d_Po_mayExecute_125 : decode b_Po_mayExecute 125 = .ok (.iconst 0, 1) := by decide +kernel
theorem d_Po_mayExecute_126 : decode b_Po_mayExecute 126 = .ok (.iadd, 1) := by decide +kernel
theorem d_Po_mayExecute_127 : decode b_Po_mayExecute 127 = .ok (.istore 5, 2) := by decide +kernel
theorem d_Po_mayExecute_129 : decode b_Po_mayExecute 129 = .ok (.iinc 6 1, 3) := by decide +kernel
theorem d_Po_mayExecute_132 : decode b_Po_mayExecute 132 = .ok (.goto (-65), 3) := by decide +kernel
theorem d_Po_mayExecute_135 : decode b_Po_mayExecute 135 = .ok (.iload 5, 2) := by decide +kernel
theorem d_Po_mayExecute_137 : decode b_Po_mayExecute 137 = .ok (.bipush 8, 2) := by decide +kernel
theorem d_Po_mayExecute_139 : decode b_Po_mayExecute 139 = .ok (.if_icmp .ge 7, 3) := by decide +kernel
theorem d_Po_mayExecute_142 : decode b_Po_mayExecute 142 = .ok (.iconst 1, 1) := by decide +kernel
theorem d_Po_mayExecute_143 : decode b_Po_mayExecute 143 = .ok (.goto 4, 3) := by decide +kernel
theorem d_Po_mayExecute_146 : decode b_Po_mayExecute 146 = .ok (.iconst 0, 1) := by decide +kernel
theorem d_Po_mayExecute_147 : decode b_Po_mayExecute 147 = .ok (.ireturn, 1) := by decide +kernel
set_option maxRecDepth 100000 in
set_option maxHeartbeats 4000000 in
theorem c_Po_mayExecute (l : Launch) (D : va_G) (ca : Nat → ClassId) (T : ty_e) (L : List Nat) (f0 : Nat → va_E) (sz : Nat) (hT : ok_T ca T L f0) {g0 : List (Int32 × Int32)} (h0 : Nat) (t0 : T h0 = some (ty_po g0)) (x1 : Nat) (t1 : is_li T x1) (j2 : Nat) (q2 : j2 ≤ 31) (x3 : Int32) (x4 : Int32) (hp : j2 < g0.length) :
    Met l y_Po_mayExecute (Cond.code y_Po_mayExecute b_Po_mayExecute 7 (some .boolean) :: wg) { frames := 3, cells := 0, slots := 0, locals := 69 } (va_Pc [.ref h0, .ref x1, .int (nI j2), .int (x3), .int (x4)] (sm_P D cl_all (ty_s ca) ek L f0 sz)) (sm_Qi D (ty_s ca) L f0 sz (fun r u => (r = 0 ∨ r = 1) ∧ po_m ca T L u)) 0 0 (va_A (va_pl L f0) sz) := by
  refine sm_start (by decide) (Nat.le_of_ble_eq_true rfl) ?_
  intro p e s m below meth c ls hx hb hml hr hlk hnm hts hown hsz hE hI hl
  have hl : lv_has ls 7 [(0, .ref h0), (1, .ref x1), (2, .int (nI j2)), (3, .int (x3)), (4, .int (x4))] := hl
  have hJ_67 : ∀ (N k : Nat) (H : Heap) (locs : List Loc) (f : Nat → va_E) (ls : Array Slot) (y5 : Int32), 24 + 1 - k ≤ N → k ≤ 24 → sw_I D cl_all (ty_s ca) (va_A (va_pl L f0) sz) s H locs L f → ok_T ca T L f → lv_has ls 7 [(0, .ref h0), (1, .ref x1), (2, .int (nI j2)), (3, .int (x3)), (4, .int (x4)), (5, .int (y5)), (6, .int (nI k))] → W p l e { frames := 3, cells := 0, slots := 0, locals := 69 } s m ([.ref h0, .ref x1, .int (nI j2), .int (x3), .int (x4)] : List Value).toArray below meth c H locs 0 0 (MQ below (sm_Qi D (ty_s ca) L f0 sz (fun r u => (r = 0 ∨ r = 1) ∧ po_m ca T L u)) ([.ref h0, .ref x1, .int (nI j2), .int (x3), .int (x4)] : List Value).toArray s 0 0 (va_A (va_pl L f0) sz)) (F0 m 67 ls []) := by
    intro N
    induction N with
    | zero => intros; omega
    | succ N ih =>
      intro k H locs f ls y5 hN hk hI hT hl 
      refine lv_iload hx hb d_Po_mayExecute_67 (lv_at hl 6 rfl) ?_
      refine lv_aload_n hx hb d_Po_mayExecute_69 rfl (lv_at hl 0 rfl) ?_
      refine fg_Po_operations hx hb hts hown hI hT t0 (hts _ tw_368) (fun _ h9 => h9) d_Po_mayExecute_70 (fun r_1 t_2 => ?_)
      refine fl_ops hx hb hI hT t_2 d_Po_mayExecute_73 ?_
      refine lv_icmp_ge (tgt := 135) hx hb d_Po_mayExecute_74 (by decide) (fun c_3 => ?_) (fun c_3 => ?_)
      · have k_4 : 24 ≤ k := (nI_leI (a := 24) (b := k) (by omega) (by omega)).mp c_3
        refine lv_iload hx hb d_Po_mayExecute_135 (lv_at hl 5 rfl) ?_
        refine lv_bipush (v := 8) hx hb d_Po_mayExecute_137 (by decide) ?_
        refine lv_icmp_ge (tgt := 146) hx hb d_Po_mayExecute_139 (by decide) (fun c_5 => ?_) (fun c_5 => ?_)
        · refine lv_iconst (v := 0) hx hb d_Po_mayExecute_146 (by decide) ?_
          exact sm_zret hx hb hr hlk hI (by decide) ⟨(by decide), ⟨rfl, hT⟩⟩ d_Po_mayExecute_147
        · refine lv_iconst (v := 1) hx hb d_Po_mayExecute_142 (by decide) ?_
          refine lv_goto (tgt := 147) hx hb d_Po_mayExecute_143 (by decide) ?_
          exact sm_zret hx hb hr hlk hI (by decide) ⟨(by decide), ⟨rfl, hT⟩⟩ d_Po_mayExecute_147
      · have k_6 : k < 24 := Nat.lt_of_not_le (fun q => c_3 ((nI_leI (a := 24) (b := k) (by omega) (by omega)).mpr q))
        refine lv_aload_n hx hb d_Po_mayExecute_77 rfl (lv_at hl 0 rfl) ?_
        refine fg_Po_operations hx hb hts hown hI hT t0 (hts _ tw_368) (fun _ h9 => h9) d_Po_mayExecute_78 (fun r_7 t_8 => ?_)
        refine lv_iload hx hb d_Po_mayExecute_81 (lv_at hl 6 rfl) ?_
        refine fa_ops (j := k) hx hb hI hT t_8 (by omega) d_Po_mayExecute_83 (fun r_9 t_10 => ?_)
        refine fgN_Op_goesOn hx hb hts hown hI hT t_10 (va_Nw.use rfl (hE.1 _ tn_342 rfl)) (fun _ h9 => h9) d_Po_mayExecute_84 (fun x_11 p_12 => ?_)
        refine lv_if_eq (tgt := 106) hx hb d_Po_mayExecute_87 (by decide) (fun c_13 => ?_) (fun c_13 => ?_)
        · refine lv_iload hx hb d_Po_mayExecute_106 (lv_at hl 5 rfl) ?_
          refine lv_aload_n hx hb d_Po_mayExecute_108 rfl (lv_at hl 0 rfl) ?_
          refine fg_Po_operations hx hb hts hown hI hT t0 (hts _ tw_368) (fun _ h9 => h9) d_Po_mayExecute_109 (fun r_14 t_15 => ?_)
          refine lv_iload hx hb d_Po_mayExecute_112 (lv_at hl 6 rfl) ?_
          refine fa_ops (j := k) hx hb hI hT t_15 (by omega) d_Po_mayExecute_114 (fun r_16 t_17 => ?_)
          refine fgN_Op_goesOn hx hb hts hown hI hT t_17 (va_Nw.use rfl (hE.1 _ tn_342 rfl)) (fun _ h9 => h9) d_Po_mayExecute_115 (fun x_18 p_19 => ?_)
          refine lv_if_eq (tgt := 125) hx hb d_Po_mayExecute_118 (by decide) (fun c_20 => ?_) (fun c_20 => ?_)
          · refine lv_iconst (v := 0) hx hb d_Po_mayExecute_125 (by decide) ?_
            refine lv_iadd hx hb d_Po_mayExecute_126 ?_
            refine lv_topi (fun x_21 e_22 => ?_)
            refine lv_istore (lv' := [(5, .int (x_21)), (0, .ref h0), (1, .ref x1), (2, .int (nI j2)), (3, .int (x3)), (4, .int (x4)), (6, .int (nI k))]) hx hb d_Po_mayExecute_127 hl (by decide) rfl (fun ls hl => ?_)
            refine lv_iinc (v := nI (k + 1)) (lv' := [(6, .int (nI (k + 1))), (5, .int (x_21)), (0, .ref h0), (1, .ref x1), (2, .int (nI j2)), (3, .int (x3)), (4, .int (x4))]) hx hb d_Po_mayExecute_129 hl (k := 6) rfl (nI_1 _) (by decide) rfl (fun ls hl => ?_)
            refine lv_goto (tgt := 67) hx hb d_Po_mayExecute_132 (by decide) ?_
            exact ih ((k + 1)) _ _ _ _ x_21 (by omega) (by omega) hI hT (lv_sub hl [2, 3, 4, 5, 6, 1, 0] rfl) 
          · refine lv_iconst (v := 1) hx hb d_Po_mayExecute_121 (by decide) ?_
            refine lv_goto (tgt := 126) hx hb d_Po_mayExecute_122 (by decide) ?_
            refine lv_iadd hx hb d_Po_mayExecute_126 ?_
            refine lv_topi (fun x_23 e_24 => ?_)
            refine lv_istore (lv' := [(5, .int (x_23)), (0, .ref h0), (1, .ref x1), (2, .int (nI j2)), (3, .int (x3)), (4, .int (x4)), (6, .int (nI k))]) hx hb d_Po_mayExecute_127 hl (by decide) rfl (fun ls hl => ?_)
            refine lv_iinc (v := nI (k + 1)) (lv' := [(6, .int (nI (k + 1))), (5, .int (x_23)), (0, .ref h0), (1, .ref x1), (2, .int (nI j2)), (3, .int (x3)), (4, .int (x4))]) hx hb d_Po_mayExecute_129 hl (k := 6) rfl (nI_1 _) (by decide) rfl (fun ls hl => ?_)
            refine lv_goto (tgt := 67) hx hb d_Po_mayExecute_132 (by decide) ?_
            exact ih ((k + 1)) _ _ _ _ x_23 (by omega) (by omega) hI hT (lv_sub hl [2, 3, 4, 5, 6, 1, 0] rfl) 
        · refine lv_aload_n hx hb d_Po_mayExecute_90 rfl (lv_at hl 0 rfl) ?_
          refine fg_Po_operations hx hb hts hown hI hT t0 (hts _ tw_368) (fun _ h9 => h9) d_Po_mayExecute_91 (fun r_25 t_26 => ?_)
          refine lv_iload hx hb d_Po_mayExecute_94 (lv_at hl 6 rfl) ?_
          refine fa_ops (j := k) hx hb hI hT t_26 (by omega) d_Po_mayExecute_96 (fun r_27 t_28 => ?_)
          refine fgN_Op_point hx hb hts hown hI hT t_28 (va_Nw.use rfl (hE.1 _ tn_337 rfl)) (fun _ h9 => h9) d_Po_mayExecute_97 (fun x_29 => ?_)
          refine lv_iload_n hx hb d_Po_mayExecute_100 rfl (lv_at hl 2 rfl) ?_
          refine lv_icmp_ne (tgt := 106) hx hb d_Po_mayExecute_101 (by decide) (fun c_30 => ?_) (fun c_30 => ?_)
          · refine lv_iload hx hb d_Po_mayExecute_106 (lv_at hl 5 rfl) ?_
            refine lv_aload_n hx hb d_Po_mayExecute_108 rfl (lv_at hl 0 rfl) ?_
            refine fg_Po_operations hx hb hts hown hI hT t0 (hts _ tw_368) (fun _ h9 => h9) d_Po_mayExecute_109 (fun r_31 t_32 => ?_)
            refine lv_iload hx hb d_Po_mayExecute_112 (lv_at hl 6 rfl) ?_
            refine fa_ops (j := k) hx hb hI hT t_32 (by omega) d_Po_mayExecute_114 (fun r_33 t_34 => ?_)
            refine fgN_Op_goesOn hx hb hts hown hI hT t_34 (va_Nw.use rfl (hE.1 _ tn_342 rfl)) (fun _ h9 => h9) d_Po_mayExecute_115 (fun x_35 p_36 => ?_)
            refine lv_if_eq (tgt := 125) hx hb d_Po_mayExecute_118 (by decide) (fun c_37 => ?_) (fun c_37 => ?_)
            · refine lv_iconst (v := 0) hx hb d_Po_mayExecute_125 (by decide) ?_
              refine lv_iadd hx hb d_Po_mayExecute_126 ?_
              refine lv_topi (fun x_38 e_39 => ?_)
              refine lv_istore (lv' := [(5, .int (x_38)), (0, .ref h0), (1, .ref x1), (2, .int (nI j2)), (3, .int (x3)), (4, .int (x4)), (6, .int (nI k))]) hx hb d_Po_mayExecute_127 hl (by decide) rfl (fun ls hl => ?_)
              refine lv_iinc (v := nI (k + 1)) (lv' := [(6, .int (nI (k + 1))), (5, .int (x_38)), (0, .ref h0), (1, .ref x1), (2, .int (nI j2)), (3, .int (x3)), (4, .int (x4))]) hx hb d_Po_mayExecute_129 hl (k := 6) rfl (nI_1 _) (by decide) rfl (fun ls hl => ?_)
              refine lv_goto (tgt := 67) hx hb d_Po_mayExecute_132 (by decide) ?_
              exact ih ((k + 1)) _ _ _ _ x_38 (by omega) (by omega) hI hT (lv_sub hl [2, 3, 4, 5, 6, 1, 0] rfl) 
            · refine lv_iconst (v := 1) hx hb d_Po_mayExecute_121 (by decide) ?_
              refine lv_goto (tgt := 126) hx hb d_Po_mayExecute_122 (by decide) ?_
              refine lv_iadd hx hb d_Po_mayExecute_126 ?_
              refine lv_topi (fun x_40 e_41 => ?_)
              refine lv_istore (lv' := [(5, .int (x_40)), (0, .ref h0), (1, .ref x1), (2, .int (nI j2)), (3, .int (x3)), (4, .int (x4)), (6, .int (nI k))]) hx hb d_Po_mayExecute_127 hl (by decide) rfl (fun ls hl => ?_)
              refine lv_iinc (v := nI (k + 1)) (lv' := [(6, .int (nI (k + 1))), (5, .int (x_40)), (0, .ref h0), (1, .ref x1), (2, .int (nI j2)), (3, .int (x3)), (4, .int (x4))]) hx hb d_Po_mayExecute_129 hl (k := 6) rfl (nI_1 _) (by decide) rfl (fun ls hl => ?_)
              refine lv_goto (tgt := 67) hx hb d_Po_mayExecute_132 (by decide) ?_
              exact ih ((k + 1)) _ _ _ _ x_40 (by omega) (by omega) hI hT (lv_sub hl [2, 3, 4, 5, 6, 1, 0] rfl) 
          · refine lv_iconst (v := 0) hx hb d_Po_mayExecute_104 (by decide) ?_
            exact sm_zret hx hb hr hlk hI (by decide) ⟨(by decide), ⟨rfl, hT⟩⟩ d_Po_mayExecute_105
  have hJ_61 : ∀ (H : Heap) (locs : List Loc) (f : Nat → va_E) (ls : Array Slot) , sw_I D cl_all (ty_s ca) (va_A (va_pl L f0) sz) s H locs L f → ok_T ca T L f → lv_has ls 7 [(0, .ref h0), (1, .ref x1), (2, .int (nI j2)), (3, .int (x3)), (4, .int (x4))] → W p l e { frames := 3, cells := 0, slots := 0, locals := 69 } s m ([.ref h0, .ref x1, .int (nI j2), .int (x3), .int (x4)] : List Value).toArray below meth c H locs 0 0 (MQ below (sm_Qi D (ty_s ca) L f0 sz (fun r u => (r = 0 ∨ r = 1) ∧ po_m ca T L u)) ([.ref h0, .ref x1, .int (nI j2), .int (x3), .int (x4)] : List Value).toArray s 0 0 (va_A (va_pl L f0) sz)) (F0 m 61 ls []) := by
    intro H locs f ls  hI hT hl 
    refine lv_iconst (v := 0) hx hb d_Po_mayExecute_61 (by decide) ?_
    refine lv_istore (lv' := [(5, .int (0)), (0, .ref h0), (1, .ref x1), (2, .int (nI j2)), (3, .int (x3)), (4, .int (x4))]) hx hb d_Po_mayExecute_62 hl (by decide) rfl (fun ls hl => ?_)
    refine lv_iconst (v := 0) hx hb d_Po_mayExecute_64 (by decide) ?_
    refine lv_istore (lv' := [(6, .int (0)), (5, .int (0)), (0, .ref h0), (1, .ref x1), (2, .int (nI j2)), (3, .int (x3)), (4, .int (x4))]) hx hb d_Po_mayExecute_65 hl (by decide) rfl (fun ls hl => ?_)
    exact hJ_67 _ (0) _ _ _ _ 0 (Nat.le_refl _) (by omega) hI hT (lv_sub hl [2, 3, 4, 5, 6, 1, 0] rfl) 
  have hJ_43 : ∀ (H : Heap) (locs : List Loc) (f : Nat → va_E) (ls : Array Slot) (z0 : Int32), sw_I D cl_all (ty_s ca) (va_A (va_pl L f0) sz) s H locs L f → ok_T ca T L f → lv_has ls 7 [(0, .ref h0), (1, .ref x1), (2, .int (nI j2)), (3, .int (x3)), (4, .int (x4))] → (z0 = 0 ∨ z0 = 1) → W p l e { frames := 3, cells := 0, slots := 0, locals := 69 } s m ([.ref h0, .ref x1, .int (nI j2), .int (x3), .int (x4)] : List Value).toArray below meth c H locs 0 0 (MQ below (sm_Qi D (ty_s ca) L f0 sz (fun r u => (r = 0 ∨ r = 1) ∧ po_m ca T L u)) ([.ref h0, .ref x1, .int (nI j2), .int (x3), .int (x4)] : List Value).toArray s 0 0 (va_A (va_pl L f0) sz)) (F0 m 43 ls [.int (z0)]) := by
    intro H locs f ls z0 hI hT hl pz0
    refine lv_istore (lv' := [(5, .int (z0)), (0, .ref h0), (1, .ref x1), (2, .int (nI j2)), (3, .int (x3)), (4, .int (x4))]) hx hb d_Po_mayExecute_43 hl (by decide) rfl (fun ls hl => ?_)
    refine lv_aload_n hx hb d_Po_mayExecute_45 rfl (lv_at hl 1 rfl) ?_
    refine lv_aload_n hx hb d_Po_mayExecute_46 rfl (lv_at hl 2 rfl) ?_
    refine lv_iload_n hx hb d_Po_mayExecute_47 rfl (lv_at hl 3 rfl) ?_
    refine sm_i hI (va_runV (As := [.ref x1, .int (nI j2)]) (rest := []) ⟨hx, hb, hml, hown, hts⟩ (c_Po_leaveSelected l D ca _ _ _ _ hT h0 t0 x1 t1 (nI j2)) (kv_Po_leaveSelected hts rfl rfl (hts _ tw_978) ⟨Nat.le_of_ble_eq_true rfl, Nat.le_of_ble_eq_true rfl⟩) (pv_Po hI hE hT t0) rfl rfl hl.1 rfl (lv_room (Nat.le_of_ble_eq_true rfl)) d_Po_mayExecute_48 ⟨Nat.le_of_ble_eq_true rfl, Nat.le_of_ble_eq_true rfl⟩) (fun x_42 H locs f p_43 hI hT => ?_)
    refine lv_if_eq (tgt := 59) hx hb d_Po_mayExecute_51 (by decide) (fun c_44 => ?_) (fun c_44 => ?_)
    · refine lv_iconst (v := 0) hx hb d_Po_mayExecute_59 (by decide) ?_
      exact sm_zret hx hb hr hlk hI (by decide) ⟨(by decide), ⟨rfl, hT⟩⟩ d_Po_mayExecute_60
    · refine lv_iload hx hb d_Po_mayExecute_54 (lv_at hl 0 rfl) ?_
      refine lv_if_ne (tgt := 61) hx hb d_Po_mayExecute_56 (by decide) (fun c_45 => ?_) (fun c_45 => ?_)
      · exact hJ_61 _ _ _ _  hI hT (lv_sub hl [1, 2, 3, 4, 5] rfl)
      · refine lv_iconst (v := 0) hx hb d_Po_mayExecute_59 (by decide) ?_
        exact sm_zret hx hb hr hlk hI (by decide) ⟨(by decide), ⟨rfl, hT⟩⟩ d_Po_mayExecute_60
  have hJ_42 : ∀ (H : Heap) (locs : List Loc) (f : Nat → va_E) (ls : Array Slot) , sw_I D cl_all (ty_s ca) (va_A (va_pl L f0) sz) s H locs L f → ok_T ca T L f → lv_has ls 7 [(0, .ref h0), (1, .ref x1), (2, .int (nI j2)), (3, .int (x3)), (4, .int (x4))] → W p l e { frames := 3, cells := 0, slots := 0, locals := 69 } s m ([.ref h0, .ref x1, .int (nI j2), .int (x3), .int (x4)] : List Value).toArray below meth c H locs 0 0 (MQ below (sm_Qi D (ty_s ca) L f0 sz (fun r u => (r = 0 ∨ r = 1) ∧ po_m ca T L u)) ([.ref h0, .ref x1, .int (nI j2), .int (x3), .int (x4)] : List Value).toArray s 0 0 (va_A (va_pl L f0) sz)) (F0 m 42 ls []) := by
    intro H locs f ls  hI hT hl 
    refine lv_iconst (v := 0) hx hb d_Po_mayExecute_42 (by decide) ?_
    exact hJ_43 _ _ _ _ 0 hI hT (lv_sub hl [0, 1, 2, 3, 4] rfl) (by decide)
  refine lv_aload_n hx hb d_Po_mayExecute_0 rfl (lv_at hl 0 rfl) ?_
  refine fg_Po_points hx hb hts hown hI hT t0 (hts _ tw_363) (fun _ h9 => h9) d_Po_mayExecute_1 (fun r_46 t_47 => ?_)
  refine lv_iload_n hx hb d_Po_mayExecute_4 rfl (lv_at hl 2 rfl) ?_
  obtain ⟨q_48, h_49⟩ : ∃ z, g0[j2]? = some z := ⟨_, List.getElem?_eq_getElem (by omega)⟩
  refine fa_pts (j := j2) hx hb hI hT t_47 h_49 (by omega) d_Po_mayExecute_5 (fun r_50 t_51 => ?_)
  refine fgN_Pt_selects hx hb hts hown hI hT t_51 (va_Nw.use rfl (hE.1 _ tn_526 rfl)) (fun _ h9 => h9) d_Po_mayExecute_6 (fun x_52 p_53 => ?_)
  refine lv_if_eq (tgt := 61) hx hb d_Po_mayExecute_9 (by decide) (fun c_54 => ?_) (fun c_54 => ?_)
  · exact hJ_61 _ _ _ _  hI hT (lv_sub hl [0, 1, 2, 3, 4] rfl)
  · refine lv_aload_n hx hb d_Po_mayExecute_12 rfl (lv_at hl 0 rfl) ?_
    refine fg_Po_selection hx hb hts hown hI hT t0 (hts _ tw_374) (fun _ h9 => h9) d_Po_mayExecute_13 (fun r_55 t_56 => ?_)
    refine fgN_Se_value hx hb hts hown hI hT t_56 (va_Nw.use rfl (hE.1 _ tn_263 rfl)) (fun _ h9 => h9) d_Po_mayExecute_16 (fun x_57 => ?_)
    refine lv_iload_n hx hb d_Po_mayExecute_19 rfl (lv_at hl 3 rfl) ?_
    refine lv_icmp_ne (tgt := 42) hx hb d_Po_mayExecute_20 (by decide) (fun c_58 => ?_) (fun c_58 => ?_)
    · exact hJ_42 _ _ _ _  hI hT (lv_sub hl [0, 1, 2, 3, 4] rfl)
    · refine lv_aload_n hx hb d_Po_mayExecute_23 rfl (lv_at hl 0 rfl) ?_
      refine fg_Po_selection hx hb hts hown hI hT t0 (hts _ tw_374) (fun _ h9 => h9) d_Po_mayExecute_24 (fun r_59 t_60 => ?_)
      refine fgN_Se_qualifier hx hb hts hown hI hT t_60 (va_Nw.use rfl (hE.1 _ tn_264 rfl)) (fun _ h9 => h9) d_Po_mayExecute_27 (fun x_61 => ?_)
      refine lv_iload hx hb d_Po_mayExecute_30 (lv_at hl 4 rfl) ?_
      refine lv_bipush (v := 127) hx hb d_Po_mayExecute_32 (by decide) ?_
      refine lv_iand hx hb d_Po_mayExecute_34 ?_
      refine lv_topi (fun x_62 e_63 => ?_)
      refine lv_icmp_ne (tgt := 42) hx hb d_Po_mayExecute_35 (by decide) (fun c_64 => ?_) (fun c_64 => ?_)
      · exact hJ_42 _ _ _ _  hI hT (lv_sub hl [0, 1, 2, 3, 4] rfl)
      · refine lv_iconst (v := 1) hx hb d_Po_mayExecute_38 (by decide) ?_
        refine lv_goto (tgt := 43) hx hb d_Po_mayExecute_39 (by decide) ?_
        exact hJ_43 _ _ _ _ 1 hI hT (lv_sub hl [0, 1, 2, 3, 4] rfl) (by decide)
theorem d_Po_select_0 : decode b_Po_select 0 = .ok (.aload_n 0, 1) := by decide +kernel
theorem d_Po_select_1 : decode b_Po_select 1 = .ok (.getfield 11, 3) := by decide +kernel
theorem d_Po_select_4 : decode b_Po_select 4 = .ok (.iload_n 2, 1) := by decide +kernel
theorem d_Po_select_5 : decode b_Po_select 5 = .ok (.aaload, 1) := by decide +kernel
theorem d_Po_select_6 : decode b_Po_select 6 = .ok (.getfield 657, 3) := by decide +kernel
theorem d_Po_select_9 : decode b_Po_select 9 = .ok (.ifCond .eq 17, 3) := by decide +kernel
theorem d_Po_select_12 : decode b_Po_select 12 = .ok (.aload_n 0, 1) := by decide +kernel
theorem d_Po_select_13 : decode b_Po_select 13 = .ok (.getfield 44, 3) := by decide +kernel
theorem d_Po_select_16 : decode b_Po_select 16 = .ok (.aload_n 0, 1) := by decide +kernel
theorem d_Po_select_17 : decode b_Po_select 17 = .ok (.getfield 147, 3) := by decide +kernel
theorem d_Po_select_20 : decode b_Po_select 20 = .ok (.invokevirtual 282, 3) := by decide +kernel
theorem d_Po_select_23 : decode b_Po_select 23 = .ok (.ifCond .eq 5, 3) := by decide +kernel
theorem d_Po_select_26 : decode b_Po_select 26 = .ok (.iconst 0, 1) := by decide +kernel
theorem d_Po_select_27 : decode b_Po_select 27 = .ok (.ireturn, 1) := by decide +kernel
theorem d_Po_select_28 : decode b_Po_select 28 = .ok (.aload_n 0, 1) := by decide +kernel
theorem d_Po_select_29 : decode b_Po_select 29 = .ok (.getfield 44, 3) := by decide +kernel
theorem d_Po_select_32 : decode b_Po_select 32 = .ok (.iload_n 2, 1) := by decide +kernel
theorem d_Po_select_33 : decode b_Po_select 33 = .ok (.putfield 286, 3) := by decide +kernel
theorem d_Po_select_36 : decode b_Po_select 36 = .ok (.aload_n 0, 1) := by decide +kernel
theorem d_Po_select_37 : decode b_Po_select 37 = .ok (.getfield 44, 3) := by decide +kernel
theorem d_Po_select_40 : decode b_Po_select 40 = .ok (.aload_n 1, 1) := by decide +kernel
theorem d_Po_select_41 : decode b_Po_select 41 = .ok (.getfield 246, 3) := by decide +kernel
theorem d_Po_select_44 : decode b_Po_select 44 = .ok (.putfield 660, 3) := by decide +kernel
theorem d_Po_select_47 : decode b_Po_select 47 = .ok (.aload_n 0, 1) := by decide +kernel
theorem d_Po_select_48 : decode b_Po_select 48 = .ok (.getfield 44, 3) := by decide +kernel
theorem d_Po_select_51 : decode b_Po_select 51 = .ok (.aload_n 0, 1) := by decide +kernel
theorem d_Po_select_52 : decode b_Po_select 52 = .ok (.getfield 147, 3) := by decide +kernel
theorem d_Po_select_55 : decode b_Po_select 55 = .ok (.putfield 661, 3) := by decide +kernel
theorem d_Po_select_58 : decode b_Po_select 58 = .ok (.aload_n 0, 1) := by decide +kernel
theorem d_Po_select_59 : decode b_Po_select 59 = .ok (.getfield 44, 3) := by decide +kernel
theorem d_Po_select_62 : decode b_Po_select 62 = .ok (.iload_n 3, 1) := by decide +kernel
theorem d_Po_select_63 : decode b_Po_select 63 = .ok (.putfield 663, 3) := by decide +kernel
theorem d_Po_select_66 : decode b_Po_select 66 = .ok (.aload_n 0, 1) := by decide +kernel
theorem d_Po_select_67 : decode b_Po_select 67 = .ok (.getfield 44, 3) := by decide +kernel
theorem d_Po_select_70 : decode b_Po_select 70 = .ok (.iload 4, 2) := by decide +kernel
theorem d_Po_select_72 : decode b_Po_select 72 = .ok (.bipush 127, 2) := by decide +kernel
theorem d_Po_select_74 : decode b_Po_select 74 = .ok (.iand, 1) := by decide +kernel
theorem d_Po_select_75 : decode b_Po_select 75 = .ok (.putfield 664, 3) := by decide +kernel
theorem d_Po_select_78 : decode b_Po_select 78 = .ok (.iconst 1, 1) := by decide +kernel
theorem d_Po_select_79 : decode b_Po_select 79 = .ok (.ireturn, 1) := by decide +kernel
set_option maxRecDepth 100000 in
set_option maxHeartbeats 4000000 in
theorem c_Po_select (l : Launch) (D : va_G) (ca : Nat → ClassId) (T : ty_e) (L : List Nat) (f0 : Nat → va_E) (sz : Nat) (hT : ok_T ca T L f0) {g0 : List (Int32 × Int32)} (h0 : Nat) (t0 : T h0 = some (ty_po g0)) (x1 : Nat) (t1 : is_li T x1) (j2 : Nat) (q2 : j2 ≤ 31) (x3 : Int32) (x4 : Int32) (hp : j2 < g0.length) :
    Met l y_Po_select (Cond.code y_Po_select b_Po_select 5 (some .boolean) :: wg) { frames := 1, cells := 0, slots := 0, locals := 22 } (va_Pc [.ref h0, .ref x1, .int (nI j2), .int (x3), .int (x4)] (sm_P D cl_all (ty_s ca) ek L f0 sz)) (sm_Qi D (ty_s ca) L f0 sz (fun r u => (r = 0 ∨ r = 1) ∧ po_m ca T L u)) 0 0 (va_A (va_pl L f0) sz) := by
  refine sm_start (by decide) (Nat.le_of_ble_eq_true rfl) ?_
  intro p e s m below meth c ls hx hb hml hr hlk hnm hts hown hsz hE hI hl
  have hl : lv_has ls 5 [(0, .ref h0), (1, .ref x1), (2, .int (nI j2)), (3, .int (x3)), (4, .int (x4))] := hl
  refine lv_aload_n hx hb d_Po_select_0 rfl (lv_at hl 0 rfl) ?_
  refine fg_Po_points hx hb hts hown hI hT t0 (hts _ tw_363) (fun _ h9 => h9) d_Po_select_1 (fun r_1 t_2 => ?_)
  refine lv_iload_n hx hb d_Po_select_4 rfl (lv_at hl 2 rfl) ?_
  obtain ⟨q_3, h_4⟩ : ∃ z, g0[j2]? = some z := ⟨_, List.getElem?_eq_getElem (by omega)⟩
  refine fa_pts (j := j2) hx hb hI hT t_2 h_4 (by omega) d_Po_select_5 (fun r_5 t_6 => ?_)
  refine fgN_Pt_selects hx hb hts hown hI hT t_6 (va_Nw.use rfl (hE.1 _ tn_526 rfl)) (fun _ h9 => h9) d_Po_select_6 (fun x_7 p_8 => ?_)
  refine lv_if_eq (tgt := 26) hx hb d_Po_select_9 (by decide) (fun c_9 => ?_) (fun c_9 => ?_)
  · refine lv_iconst (v := 0) hx hb d_Po_select_26 (by decide) ?_
    exact sm_zret hx hb hr hlk hI (by decide) ⟨(by decide), ⟨rfl, hT⟩⟩ d_Po_select_27
  · refine lv_aload_n hx hb d_Po_select_12 rfl (lv_at hl 0 rfl) ?_
    refine fg_Po_selection hx hb hts hown hI hT t0 (hts _ tw_374) (fun _ h9 => h9) d_Po_select_13 (fun r_10 t_11 => ?_)
    refine lv_aload_n hx hb d_Po_select_16 rfl (lv_at hl 0 rfl) ?_
    refine fg_Po_now hx hb hts hown hI hT t0 (hts _ tw_373) (fun _ h9 => h9) d_Po_select_17 (fun x_12 => ?_)
    refine sm_iP hI (va_runV (As := [.long (x_12)]) (rest := []) ⟨hx, hb, hml, hown, hts⟩ (c_Se_isLive l D ca _ _ _ _ hT r_10 t_11 x_12) (kv_Se_isLive hts rfl rfl (hts _ tw_996) ⟨Nat.le_of_ble_eq_true rfl, Nat.le_of_ble_eq_true rfl⟩) (pv_Se hI hE hT t_11) rfl rfl hl.1 rfl (lv_room (Nat.le_of_ble_eq_true rfl)) d_Po_select_20 ⟨Nat.le_of_ble_eq_true rfl, Nat.le_of_ble_eq_true rfl⟩) (fun x_13 H locs p_14 hI => ?_)
    refine lv_if_eq (tgt := 28) hx hb d_Po_select_23 (by decide) (fun c_15 => ?_) (fun c_15 => ?_)
    · refine lv_aload_n hx hb d_Po_select_28 rfl (lv_at hl 0 rfl) ?_
      refine fg_Po_selection hx hb hts hown hI hT t0 (hts _ tw_374) (fun _ h9 => h9) d_Po_select_29 (fun r_16 t_17 => ?_)
      refine lv_iload_n hx hb d_Po_select_32 rfl (lv_at hl 2 rfl) ?_
      refine fpN_Se_point hx hb hts hown hI hT t_17 (va_Nw.use rfl (hE.1 _ tn_258 rfl)) (fun _ h9 => h9) d_Po_select_33 (fun H locs f hI hT => ?_)
      refine lv_aload_n hx hb d_Po_select_36 rfl (lv_at hl 0 rfl) ?_
      refine fg_Po_selection hx hb hts hown hI hT t0 (hts _ tw_374) (fun _ h9 => h9) d_Po_select_37 (fun r_18 t_19 => ?_)
      refine lv_aload_n hx hb d_Po_select_40 rfl (lv_at hl 1 rfl) ?_
      refine fg_Li_index hx hb hts hown hI hT t1 (hts _ tw_120) (fun _ h9 => h9) d_Po_select_41 (fun n_20 h_22 => ?_)
      have h_21 := li_le h_22
      refine fpN_Se_line hx hb hts hown hI hT t_19 (va_Nw.use rfl (hE.1 _ tn_260 rfl)) (fun _ h9 => h9) d_Po_select_44 (fun H locs f hI hT => ?_)
      refine lv_aload_n hx hb d_Po_select_47 rfl (lv_at hl 0 rfl) ?_
      refine fg_Po_selection hx hb hts hown hI hT t0 (hts _ tw_374) (fun _ h9 => h9) d_Po_select_48 (fun r_23 t_24 => ?_)
      refine lv_aload_n hx hb d_Po_select_51 rfl (lv_at hl 0 rfl) ?_
      refine fg_Po_now hx hb hts hown hI hT t0 (hts _ tw_373) (fun _ h9 => h9) d_Po_select_52 (fun x_25 => ?_)
      refine fpN_Se_at hx hb hts hown hI hT t_24 (va_Nw.use rfl (hE.1 _ tn_262 rfl)) (fun _ h9 => h9) d_Po_select_55 (fun H locs f hI hT => ?_)
      refine lv_aload_n hx hb d_Po_select_58 rfl (lv_at hl 0 rfl) ?_
      refine fg_Po_selection hx hb hts hown hI hT t0 (hts _ tw_374) (fun _ h9 => h9) d_Po_select_59 (fun r_26 t_27 => ?_)
      refine lv_iload_n hx hb d_Po_select_62 rfl (lv_at hl 3 rfl) ?_
      refine fpN_Se_value hx hb hts hown hI hT t_27 (va_Nw.use rfl (hE.1 _ tn_263 rfl)) (fun _ h9 => h9) d_Po_select_63 (fun H locs f hI hT => ?_)
      refine lv_aload_n hx hb d_Po_select_66 rfl (lv_at hl 0 rfl) ?_
      refine fg_Po_selection hx hb hts hown hI hT t0 (hts _ tw_374) (fun _ h9 => h9) d_Po_select_67 (fun r_28 t_29 => ?_)
      refine lv_iload hx hb d_Po_select_70 (lv_at hl 4 rfl) ?_
      refine lv_bipush (v := 127) hx hb d_Po_select_72 (by decide) ?_
      refine lv_iand hx hb d_Po_select_74 ?_
      refine lv_topi (fun x_30 e_31 => ?_)
      refine fpN_Se_qualifier hx hb hts hown hI hT t_29 (va_Nw.use rfl (hE.1 _ tn_264 rfl)) (fun _ h9 => h9) d_Po_select_75 (fun H locs f hI hT => ?_)
      refine lv_iconst (v := 1) hx hb d_Po_select_78 (by decide) ?_
      exact sm_zret hx hb hr hlk hI (by decide) ⟨(by decide), ⟨rfl, hT⟩⟩ d_Po_select_79
    · refine lv_iconst (v := 0) hx hb d_Po_select_26 (by decide) ?_
      exact sm_zret hx hb hr hlk hI (by decide) ⟨(by decide), ⟨rfl, hT⟩⟩ d_Po_select_27
theorem d_Po_answerSerial_0 : decode b_Po_answerSerial 0 = .ok (.aload_n 1, 1) := by decide +kernel
theorem d_Po_answerSerial_1 : decode b_Po_answerSerial 1 = .ok (.invokevirtual 188, 3) := by decide +kernel
theorem d_Po_answerSerial_4 : decode b_Po_answerSerial 4 = .ok (.iload_n 3, 1) := by decide +kernel
theorem d_Po_answerSerial_5 : decode b_Po_answerSerial 5 = .ok (.ifCond .eq 35, 3) := by decide +kernel
theorem d_Po_answerSerial_8 : decode b_Po_answerSerial 8 = .ok (.aload_n 1, 1) := by decide +kernel
theorem d_Po_answerSerial_9 : decode b_Po_answerSerial 9 = .ok (.bipush 104, 2) := by decide +kernel
theorem d_Po_answerSerial_11 : decode b_Po_answerSerial 11 = .ok (.invokevirtual 182, 3) := by decide +kernel
theorem d_Po_answerSerial_14 : decode b_Po_answerSerial 14 = .ok (.aload_n 1, 1) := by decide +kernel
theorem d_Po_answerSerial_15 : decode b_Po_answerSerial 15 = .ok (.aload_n 0, 1) := by decide +kernel
theorem d_Po_answerSerial_16 : decode b_Po_answerSerial 16 = .ok (.getfield 57, 3) := by decide +kernel
theorem d_Po_answerSerial_19 : decode b_Po_answerSerial 19 = .ok (.getfield 207, 3) := by decide +kernel
theorem d_Po_answerSerial_22 : decode b_Po_answerSerial 22 = .ok (.iconst 2, 1) := by decide +kernel
theorem d_Po_answerSerial_23 : decode b_Po_answerSerial 23 = .ok (.iadd, 1) := by decide +kernel
theorem d_Po_answerSerial_24 : decode b_Po_answerSerial 24 = .ok (.invokevirtual 182, 3) := by decide +kernel
theorem d_Po_answerSerial_27 : decode b_Po_answerSerial 27 = .ok (.aload_n 1, 1) := by decide +kernel
theorem d_Po_answerSerial_28 : decode b_Po_answerSerial 28 = .ok (.aload_n 0, 1) := by decide +kernel
theorem d_Po_answerSerial_29 : decode b_Po_answerSerial 29 = .ok (.getfield 57, 3) := by decide +kernel
theorem d_Po_answerSerial_32 : decode b_Po_answerSerial 32 = .ok (.getfield 207, 3) := by decide +kernel
theorem d_Po_answerSerial_35 : decode b_Po_answerSerial 35 = .ok (.iconst 2, 1) := by decide +kernel
theorem d_Po_answerSerial_36 : decode b_Po_answerSerial 36 = .ok (.iadd, 1) := by decide +kernel
theorem d_Po_answerSerial_37 : decode b_Po_answerSerial 37 = .ok (.invokevirtual 182, 3) := by decide +kernel
theorem d_Po_answerSerial_40 : decode b_Po_answerSerial 40 = .ok (.aload_n 1, 1) := by decide +kernel
theorem d_Po_answerSerial_41 : decode b_Po_answerSerial 41 = .ok (.iload_n 3, 1) := by decide +kernel
theorem d_Po_answerSerial_42 : decode b_Po_answerSerial 42 = .ok (.ifCond .eq 8, 3) := by decide +kernel
theorem d_Po_answerSerial_45 : decode b_Po_answerSerial 45 = .ok (.bipush 104, 2) := by decide +kernel
theorem d_Po_answerSerial_47 : decode b_Po_answerSerial 47 = .ok (.goto 5, 3) := by decide +kernel
theorem d_Po_answerSerial_50 : decode b_Po_answerSerial 50 = .ok (.bipush 16, 2) := by decide +kernel
theorem d_Po_answerSerial_52 : decode b_Po_answerSerial 52 = .ok (.invokevirtual 182, 3) := by decide +kernel
theorem d_Po_answerSerial_55 : decode b_Po_answerSerial 55 = .ok (.aload_n 1, 1) := by decide +kernel
theorem d_Po_answerSerial_56 : decode b_Po_answerSerial 56 = .ok (.getfield 207, 3) := by decide +kernel
theorem d_Po_answerSerial_59 : decode b_Po_answerSerial 59 = .ok (.istore 4, 2) := by decide +kernel
theorem d_Po_answerSerial_61 : decode b_Po_answerSerial 61 = .ok (.aload_n 1, 1) := by decide +kernel
theorem d_Po_answerSerial_62 : decode b_Po_answerSerial 62 = .ok (.aload_n 0, 1) := by decide +kernel
theorem d_Po_answerSerial_63 : decode b_Po_answerSerial 63 = .ok (.invokevirtual 566, 3) := by decide +kernel
theorem d_Po_answerSerial_66 : decode b_Po_answerSerial 66 = .ok (.ifCond .eq 10, 3) := by decide +kernel
theorem d_Po_answerSerial_69 : decode b_Po_answerSerial 69 = .ok (.iload_n 2, 1) := by decide +kernel
theorem d_Po_answerSerial_70 : decode b_Po_answerSerial 70 = .ok (.bipush 32, 2) := by decide +kernel
theorem d_Po_answerSerial_72 : decode b_Po_answerSerial 72 = .ok (.iadd, 1) := by decide +kernel
theorem d_Po_answerSerial_73 : decode b_Po_answerSerial 73 = .ok (.goto 4, 3) := by decide +kernel
theorem d_Po_answerSerial_76 : decode b_Po_answerSerial 76 = .ok (.iload_n 2, 1) := by decide +kernel
theorem d_Po_answerSerial_77 : decode b_Po_answerSerial 77 = .ok (.invokevirtual 182, 3) := by decide +kernel
theorem d_Po_answerSerial_80 : decode b_Po_answerSerial 80 = .ok (.aload_n 1, 1) := by decide +kernel
theorem d_Po_answerSerial_81 : decode b_Po_answerSerial 81 = .ok (.aload_n 0, 1) := by decide +kernel
theorem d_Po_answerSerial_82 : decode b_Po_answerSerial 82 = .ok (.getfield 24, 3) := by decide +kernel
theorem d_Po_answerSerial_85 : decode b_Po_answerSerial 85 = .ok (.getfield 569, 3) := by decide +kernel
theorem d_Po_answerSerial_88 : decode b_Po_answerSerial 88 = .ok (.invokevirtual 182, 3) := by decide +kernel
theorem d_Po_answerSerial_91 : decode b_Po_answerSerial 91 = .ok (.iload_n 3, 1) := by decide +kernel
theorem d_Po_answerSerial_92 : decode b_Po_answerSerial 92 = .ok (.ifCond .eq 11, 3) := by decide +kernel
theorem d_Po_answerSerial_95 : decode b_Po_answerSerial 95 = .ok (.aload_n 1, 1) := by decide +kernel
theorem d_Po_answerSerial_96 : decode b_Po_answerSerial 96 = .ok (.aload_n 0, 1) := by decide +kernel
theorem d_Po_answerSerial_97 : decode b_Po_answerSerial 97 = .ok (.getfield 57, 3) := by decide +kernel
theorem d_Po_answerSerial_100 : decode b_Po_answerSerial 100 = .ok (.invokevirtual 451, 3) := by decide +kernel
theorem d_Po_answerSerial_103 : decode b_Po_answerSerial 103 = .ok (.aload_n 1, 1) := by decide +kernel
theorem d_Po_answerSerial_104 : decode b_Po_answerSerial 104 = .ok (.aload_n 1, 1) := by decide +kernel
theorem d_Po_answerSerial_105 : decode b_Po_answerSerial 105 = .ok (.iload 4, 2) := by decide +kernel
theorem d_Po_answerSerial_107 : decode b_Po_answerSerial 107 = .ok (.aload_n 1, 1) := by decide +kernel
theorem d_Po_answerSerial_108 : decode b_Po_answerSerial 108 = .ok (.getfield 207, 3) := by decide +kernel
theorem d_Po_answerSerial_111 : decode b_Po_answerSerial 111 = .ok (.invokevirtual 570, 3) := by decide +kernel
theorem d_Po_answerSerial_114 : decode b_Po_answerSerial 114 = .ok (.invokevirtual 182, 3) := by decide +kernel
theorem d_Po_answerSerial_117 : decode b_Po_answerSerial 117 = .ok (.aload_n 1, 1) := by decide +kernel
theorem d_Po_answerSerial_118 : decode b_Po_answerSerial 118 = .ok (.bipush 22, 2) := by decide +kernel
theorem d_Po_answerSerial_120 : decode b_Po_answerSerial 120 = .ok (.invokevirtual 182, 3) := by decide +kernel
theorem d_Po_answerSerial_123 : decode b_Po_answerSerial 123 = .ok (.aload_n 0, 1) := by decide +kernel
theorem d_Po_answerSerial_124 : decode b_Po_answerSerial 124 = .ok (.getfield 24, 3) := by decide +kernel
theorem d_Po_answerSerial_127 : decode b_Po_answerSerial 127 = .ok (.aload_n 1, 1) := by decide +kernel
theorem d_Po_answerSerial_128 : decode b_Po_answerSerial 128 = .ok (.invokevirtual 573, 3) := by decide +kernel
theorem d_Po_answerSerial_131 : decode b_Po_answerSerial 131 = .ok (.return_, 1) := by decide +kernel
set_option maxRecDepth 100000 in
set_option maxHeartbeats 4000000 in
theorem c_Po_answerSerial (l : Launch) (D : va_G) (ca : Nat → ClassId) (T : ty_e) (L : List Nat) (f0 : Nat → va_E) (sz : Nat) (hT : ok_T ca T L f0) {g0 : List (Int32 × Int32)} (h0 : Nat) (t0 : T h0 = some (ty_po g0)) {m1 : Nat} (x1 : Nat) (t1 : T x1 = some (ty_row m1)) (x2 : Int32) (x3 : Int32) (p3 : x3 = 0 ∨ x3 = 1) :
    Met l y_Po_answerSerial (Cond.code y_Po_answerSerial b_Po_answerSerial 5 none :: wg) { frames := 4, cells := 0, slots := 0, locals := 88 } (va_Pc [.ref h0, .ref x1, .int (x2), .int (x3)] (sm_P D cl_all (ty_s ca) ek L f0 sz)) (sm_Qv D (ty_s ca) L f0 sz (fun u => po_m ca T L u)) 0 0 (va_A (va_pl L f0) sz) := by
  refine sm_start (by decide) (Nat.le_of_ble_eq_true rfl) ?_
  intro p e s m below meth c ls hx hb hml hr hlk hnm hts hown hsz hE hI hl
  have hl : lv_has ls 5 [(0, .ref h0), (1, .ref x1), (2, .int (x2)), (3, .int (x3))] := hl
  have hJ_103 : ∀ (H : Heap) (locs : List Loc) (f : Nat → va_E) (ls : Array Slot) (y4 : Int32), sw_I D cl_all (ty_s ca) (va_A (va_pl L f0) sz) s H locs L f → ok_T ca T L f → lv_has ls 5 [(0, .ref h0), (1, .ref x1), (2, .int (x2)), (3, .int (x3)), (4, .int (y4))] → W p l e { frames := 4, cells := 0, slots := 0, locals := 88 } s m ([.ref h0, .ref x1, .int (x2), .int (x3)] : List Value).toArray below meth c H locs 0 0 (MQ below (sm_Qv D (ty_s ca) L f0 sz (fun u => po_m ca T L u)) ([.ref h0, .ref x1, .int (x2), .int (x3)] : List Value).toArray s 0 0 (va_A (va_pl L f0) sz)) (F0 m 103 ls []) := by
    intro H locs f ls y4 hI hT hl 
    refine lv_aload_n hx hb d_Po_answerSerial_103 rfl (lv_at hl 1 rfl) ?_
    refine lv_aload_n hx hb d_Po_answerSerial_104 rfl (lv_at hl 1 rfl) ?_
    refine lv_iload hx hb d_Po_answerSerial_105 (lv_at hl 4 rfl) ?_
    refine lv_aload_n hx hb d_Po_answerSerial_107 rfl (lv_at hl 1 rfl) ?_
    refine fgN_Br_length hx hb hts hown hI hT t1 (va_Nw.use rfl (hE.1 _ tn_51 rfl)) (fun _ h9 => h9) d_Po_answerSerial_108 (fun n_1 h_2 => ?_)
    refine sm_iP hI (va_runV (As := [.int (y4), .int (nI n_1)]) (rest := [.ref x1]) ⟨hx, hb, hml, hown, hts⟩ (c_Br_sum l D ca _ _ _ _ hT x1 t1 y4 (nI n_1)) (kv_Br_sum hts rfl rfl (hts _ tw_931) ⟨Nat.le_of_ble_eq_true rfl, Nat.le_of_ble_eq_true rfl⟩) (pv_Br hI hE hT t1) rfl rfl hl.1 rfl (lv_room (Nat.le_of_ble_eq_true rfl)) d_Po_answerSerial_111 ⟨Nat.le_of_ble_eq_true rfl, Nat.le_of_ble_eq_true rfl⟩) (fun x_3 H locs p_4 hI => ?_)
    refine sm_v hI (va_runV (As := [.int (x_3)]) (rest := []) ⟨hx, hb, hml, hown, hts⟩ (c_Br_put l D ca _ _ _ _ hT x1 t1 x_3) (kv_Br_put hts rfl rfl (hts _ tw_651) ⟨Nat.le_of_ble_eq_true rfl, Nat.le_of_ble_eq_true rfl⟩) (pv_Br hI hE hT t1) rfl rfl hl.1 rfl (lv_room (Nat.le_of_ble_eq_true rfl)) d_Po_answerSerial_114 ⟨Nat.le_of_ble_eq_true rfl, Nat.le_of_ble_eq_true rfl⟩) (fun H locs f hI hT => ?_)
    refine lv_aload_n hx hb d_Po_answerSerial_117 rfl (lv_at hl 1 rfl) ?_
    refine lv_bipush (v := 22) hx hb d_Po_answerSerial_118 (by decide) ?_
    refine sm_v hI (va_runV (As := [.int (22)]) (rest := []) ⟨hx, hb, hml, hown, hts⟩ (c_Br_put l D ca _ _ _ _ hT x1 t1 22) (kv_Br_put hts rfl rfl (hts _ tw_651) ⟨Nat.le_of_ble_eq_true rfl, Nat.le_of_ble_eq_true rfl⟩) (pv_Br hI hE hT t1) rfl rfl hl.1 rfl (lv_room (Nat.le_of_ble_eq_true rfl)) d_Po_answerSerial_120 ⟨Nat.le_of_ble_eq_true rfl, Nat.le_of_ble_eq_true rfl⟩) (fun H locs f hI hT => ?_)
    refine lv_aload_n hx hb d_Po_answerSerial_123 rfl (lv_at hl 0 rfl) ?_
    refine fg_Po_serialLine hx hb hts hown hI hT t0 (hts _ tw_366) (fun _ h9 => h9) d_Po_answerSerial_124 (fun r_5 t_6 => ?_)
    refine lv_aload_n hx hb d_Po_answerSerial_127 rfl (lv_at hl 1 rfl) ?_
    refine sm_v hI (va_runV (As := [.ref x1]) (rest := []) ⟨hx, hb, hml, hown, hts⟩ (c_Sr_send l D ca _ _ _ _ hT r_5 t_6 x1 t1) (kv_Sr_send hts rfl rfl (hts _ tw_932) ⟨Nat.le_of_ble_eq_true rfl, Nat.le_of_ble_eq_true rfl⟩) (pv_Sr hI hE hT t_6) rfl rfl hl.1 rfl (lv_room (Nat.le_of_ble_eq_true rfl)) d_Po_answerSerial_128 ⟨Nat.le_of_ble_eq_true rfl, Nat.le_of_ble_eq_true rfl⟩) (fun H locs f hI hT => ?_)
    exact sm_vret hx hb hr hlk hI ⟨rfl, hT⟩ d_Po_answerSerial_131
  have hJ_77 : ∀ (H : Heap) (locs : List Loc) (f : Nat → va_E) (ls : Array Slot) (y4 : Int32) (z1 : Int32), sw_I D cl_all (ty_s ca) (va_A (va_pl L f0) sz) s H locs L f → ok_T ca T L f → lv_has ls 5 [(0, .ref h0), (1, .ref x1), (2, .int (x2)), (3, .int (x3)), (4, .int (y4))] → W p l e { frames := 4, cells := 0, slots := 0, locals := 88 } s m ([.ref h0, .ref x1, .int (x2), .int (x3)] : List Value).toArray below meth c H locs 0 0 (MQ below (sm_Qv D (ty_s ca) L f0 sz (fun u => po_m ca T L u)) ([.ref h0, .ref x1, .int (x2), .int (x3)] : List Value).toArray s 0 0 (va_A (va_pl L f0) sz)) (F0 m 77 ls [.int (z1), .ref x1]) := by
    intro H locs f ls y4 z1 hI hT hl 
    refine sm_v hI (va_runV (As := [.int (z1)]) (rest := []) ⟨hx, hb, hml, hown, hts⟩ (c_Br_put l D ca _ _ _ _ hT x1 t1 z1) (kv_Br_put hts rfl rfl (hts _ tw_651) ⟨Nat.le_of_ble_eq_true rfl, Nat.le_of_ble_eq_true rfl⟩) (pv_Br hI hE hT t1) rfl rfl hl.1 rfl (lv_room (Nat.le_of_ble_eq_true rfl)) d_Po_answerSerial_77 ⟨Nat.le_of_ble_eq_true rfl, Nat.le_of_ble_eq_true rfl⟩) (fun H locs f hI hT => ?_)
    refine lv_aload_n hx hb d_Po_answerSerial_80 rfl (lv_at hl 1 rfl) ?_
    refine lv_aload_n hx hb d_Po_answerSerial_81 rfl (lv_at hl 0 rfl) ?_
    refine fg_Po_serialLine hx hb hts hown hI hT t0 (hts _ tw_366) (fun _ h9 => h9) d_Po_answerSerial_82 (fun r_7 t_8 => ?_)
    refine fgN_Sr_address hx hb hts hown hI hT t_8 (va_Nw.use rfl (hE.1 _ tn_112 rfl)) (fun _ h9 => h9) d_Po_answerSerial_85 (fun x_9 => ?_)
    refine sm_v hI (va_runV (As := [.int (x_9)]) (rest := []) ⟨hx, hb, hml, hown, hts⟩ (c_Br_put l D ca _ _ _ _ hT x1 t1 x_9) (kv_Br_put hts rfl rfl (hts _ tw_651) ⟨Nat.le_of_ble_eq_true rfl, Nat.le_of_ble_eq_true rfl⟩) (pv_Br hI hE hT t1) rfl rfl hl.1 rfl (lv_room (Nat.le_of_ble_eq_true rfl)) d_Po_answerSerial_88 ⟨Nat.le_of_ble_eq_true rfl, Nat.le_of_ble_eq_true rfl⟩) (fun H locs f hI hT => ?_)
    refine lv_iload_n hx hb d_Po_answerSerial_91 rfl (lv_at hl 3 rfl) ?_
    refine lv_if_eq (tgt := 103) hx hb d_Po_answerSerial_92 (by decide) (fun c_10 => ?_) (fun c_10 => ?_)
    · exact hJ_103 _ _ _ _ y4 hI hT (lv_sub hl [0, 1, 2, 3, 4] rfl)
    · refine lv_aload_n hx hb d_Po_answerSerial_95 rfl (lv_at hl 1 rfl) ?_
      refine lv_aload_n hx hb d_Po_answerSerial_96 rfl (lv_at hl 0 rfl) ?_
      refine fg_Po_told hx hb hts hown hI hT t0 (hts _ tw_376) (fun _ h9 => h9) d_Po_answerSerial_97 (fun r_11 t_12 => ?_)
      refine sm_v hI (va_runV (As := [.ref r_11]) (rest := []) ⟨hx, hb, hml, hown, hts⟩ (c_Br_append l D ca _ _ _ _ hT x1 t1 r_11 t_12) (kv_Br_append hts rfl rfl (hts _ tw_734) ⟨Nat.le_of_ble_eq_true rfl, Nat.le_of_ble_eq_true rfl⟩) (pv_Br hI hE hT t1) rfl rfl hl.1 rfl (lv_room (Nat.le_of_ble_eq_true rfl)) d_Po_answerSerial_100 ⟨Nat.le_of_ble_eq_true rfl, Nat.le_of_ble_eq_true rfl⟩) (fun H locs f hI hT => ?_)
      exact hJ_103 _ _ _ _ y4 hI hT (lv_sub hl [0, 1, 2, 3, 4] rfl) 
  have hJ_52 : ∀ (H : Heap) (locs : List Loc) (f : Nat → va_E) (ls : Array Slot) (z1 : Int32), sw_I D cl_all (ty_s ca) (va_A (va_pl L f0) sz) s H locs L f → ok_T ca T L f → lv_has ls 5 [(0, .ref h0), (1, .ref x1), (2, .int (x2)), (3, .int (x3))] → W p l e { frames := 4, cells := 0, slots := 0, locals := 88 } s m ([.ref h0, .ref x1, .int (x2), .int (x3)] : List Value).toArray below meth c H locs 0 0 (MQ below (sm_Qv D (ty_s ca) L f0 sz (fun u => po_m ca T L u)) ([.ref h0, .ref x1, .int (x2), .int (x3)] : List Value).toArray s 0 0 (va_A (va_pl L f0) sz)) (F0 m 52 ls [.int (z1), .ref x1]) := by
    intro H locs f ls z1 hI hT hl 
    refine sm_v hI (va_runV (As := [.int (z1)]) (rest := []) ⟨hx, hb, hml, hown, hts⟩ (c_Br_put l D ca _ _ _ _ hT x1 t1 z1) (kv_Br_put hts rfl rfl (hts _ tw_651) ⟨Nat.le_of_ble_eq_true rfl, Nat.le_of_ble_eq_true rfl⟩) (pv_Br hI hE hT t1) rfl rfl hl.1 rfl (lv_room (Nat.le_of_ble_eq_true rfl)) d_Po_answerSerial_52 ⟨Nat.le_of_ble_eq_true rfl, Nat.le_of_ble_eq_true rfl⟩) (fun H locs f hI hT => ?_)
    refine lv_aload_n hx hb d_Po_answerSerial_55 rfl (lv_at hl 1 rfl) ?_
    refine fgN_Br_length hx hb hts hown hI hT t1 (va_Nw.use rfl (hE.1 _ tn_51 rfl)) (fun _ h9 => h9) d_Po_answerSerial_56 (fun n_13 h_14 => ?_)
    refine lv_istore (lv' := [(4, .int (nI n_13)), (0, .ref h0), (1, .ref x1), (2, .int (x2)), (3, .int (x3))]) hx hb d_Po_answerSerial_59 hl (by decide) rfl (fun ls hl => ?_)
    refine lv_aload_n hx hb d_Po_answerSerial_61 rfl (lv_at hl 2 rfl) ?_
    refine lv_aload_n hx hb d_Po_answerSerial_62 rfl (lv_at hl 1 rfl) ?_
    refine sm_iP hI (va_runV (As := []) (rest := [.ref x1]) ⟨hx, hb, hml, hown, hts⟩ (c_Po_hasClassOne l D ca _ _ _ _ hT h0 t0) (kv_Po_hasClassOne hts rfl rfl (hts _ tw_927) ⟨Nat.le_of_ble_eq_true rfl, Nat.le_of_ble_eq_true rfl⟩) (pv_Po hI hE hT t0) rfl rfl hl.1 rfl (lv_room (Nat.le_of_ble_eq_true rfl)) d_Po_answerSerial_63 ⟨Nat.le_of_ble_eq_true rfl, Nat.le_of_ble_eq_true rfl⟩) (fun x_15 H locs p_16 hI => ?_)
    refine lv_if_eq (tgt := 76) hx hb d_Po_answerSerial_66 (by decide) (fun c_17 => ?_) (fun c_17 => ?_)
    · refine lv_iload_n hx hb d_Po_answerSerial_76 rfl (lv_at hl 3 rfl) ?_
      exact hJ_77 _ _ _ _ (nI n_13) x2 hI hT (lv_sub hl [1, 2, 3, 4, 0] rfl) 
    · refine lv_iload_n hx hb d_Po_answerSerial_69 rfl (lv_at hl 3 rfl) ?_
      refine lv_bipush (v := 32) hx hb d_Po_answerSerial_70 (by decide) ?_
      refine lv_iadd hx hb d_Po_answerSerial_72 ?_
      refine lv_topi (fun x_18 e_19 => ?_)
      refine lv_goto (tgt := 77) hx hb d_Po_answerSerial_73 (by decide) ?_
      exact hJ_77 _ _ _ _ (nI n_13) x_18 hI hT (lv_sub hl [1, 2, 3, 4, 0] rfl) 
  have hJ_40 : ∀ (H : Heap) (locs : List Loc) (f : Nat → va_E) (ls : Array Slot) , sw_I D cl_all (ty_s ca) (va_A (va_pl L f0) sz) s H locs L f → ok_T ca T L f → lv_has ls 5 [(0, .ref h0), (1, .ref x1), (2, .int (x2)), (3, .int (x3))] → W p l e { frames := 4, cells := 0, slots := 0, locals := 88 } s m ([.ref h0, .ref x1, .int (x2), .int (x3)] : List Value).toArray below meth c H locs 0 0 (MQ below (sm_Qv D (ty_s ca) L f0 sz (fun u => po_m ca T L u)) ([.ref h0, .ref x1, .int (x2), .int (x3)] : List Value).toArray s 0 0 (va_A (va_pl L f0) sz)) (F0 m 40 ls []) := by
    intro H locs f ls  hI hT hl 
    refine lv_aload_n hx hb d_Po_answerSerial_40 rfl (lv_at hl 1 rfl) ?_
    refine lv_iload_n hx hb d_Po_answerSerial_41 rfl (lv_at hl 3 rfl) ?_
    refine lv_if_eq (tgt := 50) hx hb d_Po_answerSerial_42 (by decide) (fun c_20 => ?_) (fun c_20 => ?_)
    · refine lv_bipush (v := 16) hx hb d_Po_answerSerial_50 (by decide) ?_
      exact hJ_52 _ _ _ _ 16 hI hT (lv_sub hl [0, 1, 2, 3] rfl) 
    · refine lv_bipush (v := 104) hx hb d_Po_answerSerial_45 (by decide) ?_
      refine lv_goto (tgt := 52) hx hb d_Po_answerSerial_47 (by decide) ?_
      exact hJ_52 _ _ _ _ 104 hI hT (lv_sub hl [0, 1, 2, 3] rfl) 
  refine lv_aload_n hx hb d_Po_answerSerial_0 rfl (lv_at hl 1 rfl) ?_
  refine sm_v hI (va_runV (As := []) (rest := []) ⟨hx, hb, hml, hown, hts⟩ (c_Br_clear l D ca _ _ _ _ hT x1 t1) (kv_Br_clear hts rfl rfl (hts _ tw_713) ⟨Nat.le_of_ble_eq_true rfl, Nat.le_of_ble_eq_true rfl⟩) (pv_Br hI hE hT t1) rfl rfl hl.1 rfl (lv_room (Nat.le_of_ble_eq_true rfl)) d_Po_answerSerial_1 ⟨Nat.le_of_ble_eq_true rfl, Nat.le_of_ble_eq_true rfl⟩) (fun H locs f hI hT => ?_)
  refine lv_iload_n hx hb d_Po_answerSerial_4 rfl (lv_at hl 3 rfl) ?_
  refine lv_if_eq (tgt := 40) hx hb d_Po_answerSerial_5 (by decide) (fun c_21 => ?_) (fun c_21 => ?_)
  · exact hJ_40 _ _ _ _  hI hT (lv_sub hl [0, 1, 2, 3] rfl)
  · refine lv_aload_n hx hb d_Po_answerSerial_8 rfl (lv_at hl 1 rfl) ?_
    refine lv_bipush (v := 104) hx hb d_Po_answerSerial_9 (by decide) ?_
    refine sm_v hI (va_runV (As := [.int (104)]) (rest := []) ⟨hx, hb, hml, hown, hts⟩ (c_Br_put l D ca _ _ _ _ hT x1 t1 104) (kv_Br_put hts rfl rfl (hts _ tw_651) ⟨Nat.le_of_ble_eq_true rfl, Nat.le_of_ble_eq_true rfl⟩) (pv_Br hI hE hT t1) rfl rfl hl.1 rfl (lv_room (Nat.le_of_ble_eq_true rfl)) d_Po_answerSerial_11 ⟨Nat.le_of_ble_eq_true rfl, Nat.le_of_ble_eq_true rfl⟩) (fun H locs f hI hT => ?_)
    refine lv_aload_n hx hb d_Po_answerSerial_14 rfl (lv_at hl 1 rfl) ?_
    refine lv_aload_n hx hb d_Po_answerSerial_15 rfl (lv_at hl 0 rfl) ?_
    refine fg_Po_told hx hb hts hown hI hT t0 (hts _ tw_376) (fun _ h9 => h9) d_Po_answerSerial_16 (fun r_22 t_23 => ?_)
    refine fgN_Br_length hx hb hts hown hI hT t_23 (va_Nw.use rfl (hE.1 _ tn_51 rfl)) (fun _ h9 => h9) d_Po_answerSerial_19 (fun n_24 h_25 => ?_)
    refine lv_iconst (v := 2) hx hb d_Po_answerSerial_22 (by decide) ?_
    refine lv_iadd hx hb d_Po_answerSerial_23 ?_
    refine lv_topi (fun x_26 e_27 => ?_)
    obtain rfl : x_26 = nI (n_24 + 2) := by rw [e_27]; exact nI_add _ _
    refine sm_v hI (va_runV (As := [.int (nI (n_24 + 2))]) (rest := []) ⟨hx, hb, hml, hown, hts⟩ (c_Br_put l D ca _ _ _ _ hT x1 t1 (nI (n_24 + 2))) (kv_Br_put hts rfl rfl (hts _ tw_651) ⟨Nat.le_of_ble_eq_true rfl, Nat.le_of_ble_eq_true rfl⟩) (pv_Br hI hE hT t1) rfl rfl hl.1 rfl (lv_room (Nat.le_of_ble_eq_true rfl)) d_Po_answerSerial_24 ⟨Nat.le_of_ble_eq_true rfl, Nat.le_of_ble_eq_true rfl⟩) (fun H locs f hI hT => ?_)
    refine lv_aload_n hx hb d_Po_answerSerial_27 rfl (lv_at hl 1 rfl) ?_
    refine lv_aload_n hx hb d_Po_answerSerial_28 rfl (lv_at hl 0 rfl) ?_
    refine fg_Po_told hx hb hts hown hI hT t0 (hts _ tw_376) (fun _ h9 => h9) d_Po_answerSerial_29 (fun r_28 t_29 => ?_)
    refine fgN_Br_length hx hb hts hown hI hT t_29 (va_Nw.use rfl (hE.1 _ tn_51 rfl)) (fun _ h9 => h9) d_Po_answerSerial_32 (fun n_30 h_31 => ?_)
    refine lv_iconst (v := 2) hx hb d_Po_answerSerial_35 (by decide) ?_
    refine lv_iadd hx hb d_Po_answerSerial_36 ?_
    refine lv_topi (fun x_32 e_33 => ?_)
    obtain rfl : x_32 = nI (n_30 + 2) := by rw [e_33]; exact nI_add _ _
    refine sm_v hI (va_runV (As := [.int (nI (n_30 + 2))]) (rest := []) ⟨hx, hb, hml, hown, hts⟩ (c_Br_put l D ca _ _ _ _ hT x1 t1 (nI (n_30 + 2))) (kv_Br_put hts rfl rfl (hts _ tw_651) ⟨Nat.le_of_ble_eq_true rfl, Nat.le_of_ble_eq_true rfl⟩) (pv_Br hI hE hT t1) rfl rfl hl.1 rfl (lv_room (Nat.le_of_ble_eq_true rfl)) d_Po_answerSerial_37 ⟨Nat.le_of_ble_eq_true rfl, Nat.le_of_ble_eq_true rfl⟩) (fun H locs f hI hT => ?_)
    exact hJ_40 _ _ _ _  hI hT (lv_sub hl [0, 1, 2, 3] rfl) 
theorem d_Po_resetSerial_0 : decode b_Po_resetSerial 0 = .ok (.aload_n 0, 1) := by decide +kernel
theorem d_Po_resetSerial_1 : decode b_Po_resetSerial 1 = .ok (.getfield 24, 3) := by decide +kernel
theorem d_Po_resetSerial_4 : decode b_Po_resetSerial 4 = .ok (.invokevirtual 562, 3) := by decide +kernel
theorem d_Po_resetSerial_7 : decode b_Po_resetSerial 7 = .ok (.aload_n 0, 1) := by decide +kernel
theorem d_Po_resetSerial_8 : decode b_Po_resetSerial 8 = .ok (.getfield 31, 3) := by decide +kernel
theorem d_Po_resetSerial_11 : decode b_Po_resetSerial 11 = .ok (.iconst 3, 1) := by decide +kernel
theorem d_Po_resetSerial_12 : decode b_Po_resetSerial 12 = .ok (.invokevirtual 304, 3) := by decide +kernel
theorem d_Po_resetSerial_15 : decode b_Po_resetSerial 15 = .ok (.aload_n 0, 1) := by decide +kernel
theorem d_Po_resetSerial_16 : decode b_Po_resetSerial 16 = .ok (.invokevirtual 405, 3) := by decide +kernel
theorem d_Po_resetSerial_19 : decode b_Po_resetSerial 19 = .ok (.aload_n 0, 1) := by decide +kernel
theorem d_Po_resetSerial_20 : decode b_Po_resetSerial 20 = .ok (.aload_n 0, 1) := by decide +kernel
theorem d_Po_resetSerial_21 : decode b_Po_resetSerial 21 = .ok (.getfield 24, 3) := by decide +kernel
theorem d_Po_resetSerial_24 : decode b_Po_resetSerial 24 = .ok (.getfield 548, 3) := by decide +kernel
theorem d_Po_resetSerial_27 : decode b_Po_resetSerial 27 = .ok (.iconst 0, 1) := by decide +kernel
theorem d_Po_resetSerial_28 : decode b_Po_resetSerial 28 = .ok (.iconst 0, 1) := by decide +kernel
theorem d_Po_resetSerial_29 : decode b_Po_resetSerial 29 = .ok (.invokevirtual 551, 3) := by decide +kernel
theorem d_Po_resetSerial_32 : decode b_Po_resetSerial 32 = .ok (.return_, 1) := by decide +kernel
set_option maxRecDepth 100000 in
set_option maxHeartbeats 4000000 in
theorem c_Po_resetSerial (l : Launch) (D : va_G) (ca : Nat → ClassId) (T : ty_e) (L : List Nat) (f0 : Nat → va_E) (sz : Nat) (hT : ok_T ca T L f0) {g0 : List (Int32 × Int32)} (h0 : Nat) (t0 : T h0 = some (ty_po g0)) :
    Met l y_Po_resetSerial (Cond.code y_Po_resetSerial b_Po_resetSerial 1 none :: wg) { frames := 5, cells := 0, slots := 0, locals := 112 } (va_Pc [.ref h0] (sm_P D cl_all (ty_s ca) ek L f0 sz)) (sm_Qv D (ty_s ca) L f0 sz (fun u => po_m ca T L u)) 0 0 (va_A (va_pl L f0) sz) := by
  refine sm_start (by decide) (Nat.le_of_ble_eq_true rfl) ?_
  intro p e s m below meth c ls hx hb hml hr hlk hnm hts hown hsz hE hI hl
  have hl : lv_has ls 1 [(0, .ref h0)] := hl
  refine lv_aload_n hx hb d_Po_resetSerial_0 rfl (lv_at hl 0 rfl) ?_
  refine fg_Po_serialLine hx hb hts hown hI hT t0 (hts _ tw_366) (fun _ h9 => h9) d_Po_resetSerial_1 (fun r_1 t_2 => ?_)
  refine sm_v hI (va_runV (As := []) (rest := []) ⟨hx, hb, hml, hown, hts⟩ (c_Sr_reset l D ca _ _ _ _ hT r_1 t_2) (kv_Sr_reset hts rfl rfl (hts _ tw_911) ⟨Nat.le_of_ble_eq_true rfl, Nat.le_of_ble_eq_true rfl⟩) (pv_Sr hI hE hT t_2) rfl rfl hl.1 rfl (lv_room (Nat.le_of_ble_eq_true rfl)) d_Po_resetSerial_4 ⟨Nat.le_of_ble_eq_true rfl, Nat.le_of_ble_eq_true rfl⟩) (fun H locs f hI hT => ?_)
  refine lv_aload_n hx hb d_Po_resetSerial_7 rfl (lv_at hl 0 rfl) ?_
  refine fg_Po_events hx hb hts hown hI hT t0 (hts _ tw_367) (fun _ h9 => h9) d_Po_resetSerial_8 (fun r_3 t_4 => ?_)
  refine lv_iconst (v := 3) hx hb d_Po_resetSerial_11 (by decide) ?_
  refine sm_v hI (va_runV (As := [.int (3)]) (rest := []) ⟨hx, hb, hml, hown, hts⟩ (c_Es_unsend l D ca _ _ _ _ hT r_3 t_4 3) (kv_Es_unsend hts rfl rfl (hts _ tw_789) ⟨Nat.le_of_ble_eq_true rfl, Nat.le_of_ble_eq_true rfl⟩) (pv_Es hI hE hT t_4) rfl rfl hl.1 rfl (lv_room (Nat.le_of_ble_eq_true rfl)) d_Po_resetSerial_12 ⟨Nat.le_of_ble_eq_true rfl, Nat.le_of_ble_eq_true rfl⟩) (fun H locs f hI hT => ?_)
  refine lv_aload_n hx hb d_Po_resetSerial_15 rfl (lv_at hl 0 rfl) ?_
  refine sm_v hI (va_runV (As := []) (rest := []) ⟨hx, hb, hml, hown, hts⟩ (c_Po_takeEventsToActiveLine l D ca _ _ _ _ hT h0 t0) (kv_Po_takeEventsToActiveLine hts rfl rfl (hts _ tw_915) ⟨Nat.le_of_ble_eq_true rfl, Nat.le_of_ble_eq_true rfl⟩) (pv_Po hI hE hT t0) rfl rfl hl.1 rfl (lv_room (Nat.le_of_ble_eq_true rfl)) d_Po_resetSerial_16 ⟨Nat.le_of_ble_eq_true rfl, Nat.le_of_ble_eq_true rfl⟩) (fun H locs f hI hT => ?_)
  refine lv_aload_n hx hb d_Po_resetSerial_19 rfl (lv_at hl 0 rfl) ?_
  refine lv_aload_n hx hb d_Po_resetSerial_20 rfl (lv_at hl 0 rfl) ?_
  refine fg_Po_serialLine hx hb hts hown hI hT t0 (hts _ tw_366) (fun _ h9 => h9) d_Po_resetSerial_21 (fun r_5 t_6 => ?_)
  refine fgN_Sr_plain hx hb hts hown hI hT t_6 (va_Nw.use rfl (hE.1 _ tn_118 rfl)) (fun _ h9 => h9) d_Po_resetSerial_24 (fun r_7 t_8 => ?_)
  refine lv_iconst (v := 0) hx hb d_Po_resetSerial_27 (by decide) ?_
  refine lv_iconst (v := 0) hx hb d_Po_resetSerial_28 (by decide) ?_
  refine sm_v hI (va_runV (As := [.ref r_7, .int (0), .int (0)]) (rest := []) ⟨hx, hb, hml, hown, hts⟩ (c_Po_answerSerial l D ca _ _ _ _ hT h0 t0 r_7 t_8 0 0 (by decide)) (kv_Po_answerSerial hts rfl rfl (hts _ tw_923) ⟨Nat.le_of_ble_eq_true rfl, Nat.le_of_ble_eq_true rfl⟩) (pv_Po hI hE hT t0) rfl rfl hl.1 rfl (lv_room (Nat.le_of_ble_eq_true rfl)) d_Po_resetSerial_29 ⟨Nat.le_of_ble_eq_true rfl, Nat.le_of_ble_eq_true rfl⟩) (fun H locs f hI hT => ?_)
  exact sm_vret hx hb hr hlk hI ⟨rfl, hT⟩ d_Po_resetSerial_32
