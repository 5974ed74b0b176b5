/-! TelecontrolPost: take, done, receive (written by wip/tools) -/
theorem d_Po_take_0 : decode b_Po_take 0 = .ok (.iload_n 1, 1) := by decide +kernel
theorem d_Po_take_1 : decode b_Po_take 1 = .ok (.ifCond .lt 8, 3) := by decide +kernel
theorem d_Po_take_4 : decode b_Po_take 4 = .ok (.iload_n 1, 1) := by decide +kernel
theorem d_Po_take_5 : decode b_Po_take 5 = .ok (.iconst 3, 1) := by decide +kernel
theorem d_Po_take_6 : decode b_Po_take 6 = .ok (.if_icmp .le 13, 3) := by decide +kernel
theorem d_Po_take_9 : decode b_Po_take 9 = .ok (.new 68, 3) := by decide +kernel
theorem d_Po_take_12 : decode b_Po_take 12 = .ok (.dup, 1) := by decide +kernel
theorem d_Po_take_13 : decode b_Po_take 13 = .ok (.ldc 157, 2) := by decide +kernel
theorem d_Po_take_15 : decode b_Po_take 15 = .ok (.invokespecial 72, 3) := by decide +kernel
theorem d_Po_take_18 : decode b_Po_take 18 = .ok (.athrow, 1) := by decide +kernel
theorem d_Po_take_19 : decode b_Po_take 19 = .ok (.aload_n 0, 1) := by decide +kernel
theorem d_Po_take_20 : decode b_Po_take 20 = .ok (.iload_n 1, 1) := by decide +kernel
theorem d_Po_take_21 : decode b_Po_take 21 = .ok (.invokevirtual 171, 3) := by decide +kernel
theorem d_Po_take_24 : decode b_Po_take 24 = .ok (.getfield 204, 3) := by decide +kernel
theorem d_Po_take_27 : decode b_Po_take 27 = .ok (.astore_n 2, 1) := by decide +kernel
theorem d_Po_take_28 : decode b_Po_take 28 = .ok (.bipush 7, 2) := by decide +kernel
theorem d_Po_take_30 : decode b_Po_take 30 = .ok (.aload_n 2, 1) := by decide +kernel
theorem d_Po_take_31 : decode b_Po_take 31 = .ok (.getfield 207, 3) := by decide +kernel
theorem d_Po_take_34 : decode b_Po_take 34 = .ok (.invokestatic 210, 3) := by decide +kernel
theorem d_Po_take_37 : decode b_Po_take 37 = .ok (.istore_n 3, 1) := by decide +kernel
theorem d_Po_take_38 : decode b_Po_take 38 = .ok (.iload_n 3, 1) := by decide +kernel
theorem d_Po_take_39 : decode b_Po_take 39 = .ok (.i2l, 1) := by decide +kernel
theorem d_Po_take_40 : decode b_Po_take 40 = .ok (.lstore 4, 2) := by decide +kernel
theorem d_Po_take_42 : decode b_Po_take 42 = .ok (.iconst 0, 1) := by decide +kernel
theorem d_Po_take_43 : decode b_Po_take 43 = .ok (.istore 6, 2) := by decide +kernel
theorem d_Po_take_45 : decode b_Po_take 45 = .ok (.iload 6, 2) := by decide +kernel
theorem d_Po_take_47 : decode b_Po_take 47 = .ok (.bipush 7, 2) := by decide +kernel
theorem d_Po_take_49 : decode b_Po_take 49 = .ok (.if_icmp .ge 24, 3) := by decide +kernel
theorem d_Po_take_52 : decode b_Po_take 52 = .ok (.lload 4, 2) := by decide +kernel
theorem d_Po_take_54 : decode b_Po_take 54 = .ok (.bipush 8, 2) := by decide +kernel
theorem d_Po_take_56 : decode b_Po_take 56 = .ok (.lshl, 1) := by decide +kernel
theorem d_Po_take_57 : decode b_Po_take 57 = .ok (.aload_n 2, 1) := by decide +kernel
theorem d_Po_take_58 : decode b_Po_take 58 = .ok (.iload 6, 2) := by decide +kernel
theorem d_Po_take_60 : decode b_Po_take 60 = .ok (.invokevirtual 216, 3) := by decide +kernel
theorem d_Po_take_63 : decode b_Po_take 63 = .ok (.i2l, 1) := by decide +kernel
theorem d_Po_take_64 : decode b_Po_take 64 = .ok (.lor, 1) := by decide +kernel
theorem d_Po_take_65 : decode b_Po_take 65 = .ok (.lstore 4, 2) := by decide +kernel
theorem d_Po_take_67 : decode b_Po_take 67 = .ok (.iinc 6 1, 3) := by decide +kernel
theorem d_Po_take_70 : decode b_Po_take 70 = .ok (.goto (-25), 3) := by decide +kernel
theorem d_Po_take_73 : decode b_Po_take 73 = .ok (.aload_n 2, 1) := by decide +kernel
theorem d_Po_take_74 : decode b_Po_take 74 = .ok (.iload_n 3, 1) := by decide +kernel
theorem d_Po_take_75 : decode b_Po_take 75 = .ok (.invokevirtual 219, 3) := by decide +kernel
theorem d_Po_take_78 : decode b_Po_take 78 = .ok (.aload_n 0, 1) := by decide +kernel
theorem d_Po_take_79 : decode b_Po_take 79 = .ok (.iload_n 1, 1) := by decide +kernel
theorem d_Po_take_80 : decode b_Po_take 80 = .ok (.invokevirtual 131, 3) := by decide +kernel
theorem d_Po_take_83 : decode b_Po_take 83 = .ok (.lload 4, 2) := by decide +kernel
theorem d_Po_take_85 : decode b_Po_take 85 = .ok (.lreturn, 1) := by decide +kernel
set_option maxRecDepth 100000 in
set_option maxHeartbeats 4000000 in
theorem c_Po_take (l : Launch) (D : va_G) (ca : Nat → ClassId) (T : ty_e) (L : List Nat) (f0 : Nat → va_E) (sz : Nat) (hT : ok_T ca T L f0) {g0 : List (Int32 × Int32)} (h0 : Nat) (t0 : T h0 = some (ty_po g0)) (x1 : Int32) (hfl : l.flags = Jvm.pinnedFlags ++ [Jvm.noTraceFlag]) :
    MetO l y_Po_take (Cond.code y_Po_take b_Po_take 7 (some .long) :: wg) { frames := 6, cells := 1, slots := 6, locals := 119 } (va_Pc [.ref h0, .int (x1)] (sm_P D cl_all (ty_s ca) ek3 L f0 sz)) (sm_Ql D (ty_s ca) L f0 sz (fun r u => True ∧ po_m ca T L u)) (sm_Qt D (ty_s ca) L f0 sz (fun X u => (True) ∧ po_m ca T L u) [xIA]) 1 6 (va_A (va_pl L f0) sz) := by
  refine sm_startO (by decide) (Nat.le_of_ble_eq_true rfl) ?_
  intro p e s m below meth c ls hx hb hml hr hlk hno hts hown hsz hE3 hI hl
  have hE := hE3.1.1
  have hl : lv_has ls 7 [(0, .ref h0), (1, .int (x1))] := hl
  have hJ_45 : ∀ (N k : Nat) (H : Heap) (locs : List Loc) (f : Nat → va_E) (ls : Array Slot) (gy2 : Nat) (y2 : Nat) (r3 : Nat) (y4 : Int64), 7 + 1 - k ≤ N → k ≤ 7 → sw_I D cl_all (ty_s ca) (va_A (va_pl L f0) sz) s H locs L f → ok_T ca T L f → lv_has ls 7 [(0, .ref h0), (1, .int (x1)), (2, .ref y2), (3, .int (nI r3)), (4, .long (y4)), (6, .int (nI k))] → (T y2 = some (ty_row gy2)) → (r3 ≤ 7) → W p l e { frames := 6, cells := 1, slots := 6, locals := 119 } s m ([.ref h0, .int (x1)] : List Value).toArray below meth c H locs 0 0 (MO below (sm_Ql D (ty_s ca) L f0 sz (fun r u => True ∧ po_m ca T L u)) (sm_Qt D (ty_s ca) L f0 sz (fun X u => (True) ∧ po_m ca T L u) [xIA]) ([.ref h0, .int (x1)] : List Value).toArray s 1 6 (va_A (va_pl L f0) sz)) (F0 m 45 ls []) := by
    intro N
    induction N with
    | zero => intros; omega
    | succ N ih =>
      intro k H locs f ls gy2 y2 r3 y4 hN hk hI hT hl ty2 hq3
      refine lv_iload hx hb d_Po_take_45 (lv_at hl 5 rfl) ?_
      refine lv_bipush (v := 7) hx hb d_Po_take_47 (by decide) ?_
      refine lv_icmp_ge (tgt := 73) hx hb d_Po_take_49 (by decide) (fun c_1 => ?_) (fun c_1 => ?_)
      · have k_2 : 7 ≤ k := (nI_leI (a := 7) (b := k) (by omega) (by omega)).mp c_1
        refine lv_aload_n hx hb d_Po_take_73 rfl (lv_at hl 2 rfl) ?_
        refine lv_iload_n hx hb d_Po_take_74 rfl (lv_at hl 3 rfl) ?_
        refine sm_v hI (va_runV (As := [.int (nI r3)]) (rest := []) ⟨hx, hb, hml, hown, hts⟩ (c_Br_removeFirst l D ca _ _ _ _ hT y2 ty2 (r3) (by omega)) (kv_Br_removeFirst hts rfl rfl (hts _ tw_1113) ⟨Nat.le_of_ble_eq_true rfl, Nat.le_of_ble_eq_true rfl⟩) (pv_Br hI hE hT ty2) rfl rfl hl.1 rfl (lv_room (Nat.le_of_ble_eq_true rfl)) d_Po_take_75 ⟨Nat.le_of_ble_eq_true rfl, Nat.le_of_ble_eq_true rfl⟩) (fun H locs f hI hT => ?_)
        refine lv_aload_n hx hb d_Po_take_78 rfl (lv_at hl 0 rfl) ?_
        refine lv_iload_n hx hb d_Po_take_79 rfl (lv_at hl 1 rfl) ?_
        refine sm_v hI (va_runV (As := [.int (x1)]) (rest := []) ⟨hx, hb, hml, hown, hts⟩ (c_Po_sendWhatMay l D ca _ _ _ _ hT h0 t0 x1) (kv_Po_sendWhatMay hts rfl rfl (hts _ tw_657) ⟨Nat.le_of_ble_eq_true rfl, Nat.le_of_ble_eq_true rfl⟩) (pv_Po hI hE hT t0) rfl rfl hl.1 rfl (lv_room (Nat.le_of_ble_eq_true rfl)) d_Po_take_80 ⟨Nat.le_of_ble_eq_true rfl, Nat.le_of_ble_eq_true rfl⟩) (fun H locs f hI hT => ?_)
        refine lv_lload hx hb d_Po_take_83 (lv_at hl 4 rfl) ?_
        refine W.mono (fun _ h => Or.inl h) (W.widen (k := 1) (n := 6) (by decide) (by decide) ?_)
        exact sm_lret hx hb hr hlk hI ⟨trivial, ⟨rfl, hT⟩⟩ d_Po_take_85
      · have k_3 : k < 7 := Nat.lt_of_not_le (fun q => c_1 ((nI_leI (a := 7) (b := k) (by omega) (by omega)).mpr q))
        refine lv_lload hx hb d_Po_take_52 (lv_at hl 4 rfl) ?_
        refine lv_bipush (v := 8) hx hb d_Po_take_54 (by decide) ?_
        refine lv_lshl hx hb d_Po_take_56 rfl ?_
        refine lv_topl (fun x_4 e_5 => ?_)
        refine lv_aload_n hx hb d_Po_take_57 rfl (lv_at hl 2 rfl) ?_
        refine lv_iload hx hb d_Po_take_58 (lv_at hl 5 rfl) ?_
        refine sm_iP hI (va_runV (As := [.int (nI k)]) (rest := [.long (x_4)]) ⟨hx, hb, hml, hown, hts⟩ (c_Br_at l D ca _ _ _ _ hT y2 ty2 (nI k)) (kv_Br_at hts rfl rfl (hts _ tw_697) ⟨Nat.le_of_ble_eq_true rfl, Nat.le_of_ble_eq_true rfl⟩) (pv_Br hI hE hT ty2) rfl rfl hl.1 rfl (lv_room (Nat.le_of_ble_eq_true rfl)) d_Po_take_60 ⟨Nat.le_of_ble_eq_true rfl, Nat.le_of_ble_eq_true rfl⟩) (fun x_6 H locs p_7 hI => ?_)
        refine lv_i2l hx hb d_Po_take_63 rfl ?_
        refine lv_topl (fun x_8 e_9 => ?_)
        refine lv_lor hx hb d_Po_take_64 ?_
        refine lv_topl (fun x_10 e_11 => ?_)
        refine lv_lstore (lv' := [(4, .long (x_10)), (0, .ref h0), (1, .int (x1)), (2, .ref y2), (3, .int (nI r3)), (6, .int (nI k))]) hx hb d_Po_take_65 hl (by decide) rfl (fun ls hl => ?_)
        refine lv_iinc (v := nI (k + 1)) (lv' := [(6, .int (nI (k + 1))), (4, .long (x_10)), (0, .ref h0), (1, .int (x1)), (2, .ref y2), (3, .int (nI r3))]) hx hb d_Po_take_67 hl (k := 5) rfl (nI_1 _) (by decide) rfl (fun ls hl => ?_)
        refine lv_goto (tgt := 45) hx hb d_Po_take_70 (by decide) ?_
        exact ih ((k + 1)) _ _ _ _ _ y2 (r3) x_10 (by omega) (by omega) hI hT (lv_sub hl [2, 3, 4, 5, 1, 0] rfl) ty2 (by omega)
  refine lv_iload_n hx hb d_Po_take_0 rfl (lv_at hl 1 rfl) ?_
  refine lv_if_lt (tgt := 9) hx hb d_Po_take_1 (by decide) (fun c_12 => ?_) (fun c_12 => ?_)
  · exact sm_thr (k := 157) (n := 15) hx hb hts hown hlk hno hfl hE3 hI (hl.1.trans hml.symm) (by decide) (fun _ _ _ h1 h2 => oa_IA h1 h2) tw_425 tw_426 tw_16 tn_810 ⟨trivial, rfl, hT⟩ (by decide) (Nat.le_of_ble_eq_true rfl) (Nat.le_of_ble_eq_true rfl) (Nat.le_of_ble_eq_true rfl) (Nat.le_of_ble_eq_true rfl) (Nat.le_of_ble_eq_true rfl) (Nat.le_of_ble_eq_true rfl) d_Po_take_9 d_Po_take_12 (Or.inl ⟨d_Po_take_13, rfl⟩) d_Po_take_15 d_Po_take_18
  · refine lv_iload_n hx hb d_Po_take_4 rfl (lv_at hl 1 rfl) ?_
    refine lv_iconst (v := 3) hx hb d_Po_take_5 (by decide) ?_
    refine lv_icmp_le (tgt := 19) hx hb d_Po_take_6 (by decide) (fun c_13 => ?_) (fun c_13 => ?_)
    · refine lv_aload_n hx hb d_Po_take_19 rfl (lv_at hl 0 rfl) ?_
      refine lv_iload_n hx hb d_Po_take_20 rfl (lv_at hl 1 rfl) ?_
      refine sm_qP hI (va_runV (As := [.int (x1)]) (rest := []) ⟨hx, hb, hml, hown, hts⟩ (c_Po_lineOf l D ca _ _ _ _ hT h0 t0 x1) (kv_Po_lineOf hts rfl rfl (hts _ tw_828) ⟨Nat.le_of_ble_eq_true rfl, Nat.le_of_ble_eq_true rfl⟩) (pv_Po hI hE hT t0) rfl rfl hl.1 rfl (lv_room (Nat.le_of_ble_eq_true rfl)) d_Po_take_21 ⟨Nat.le_of_ble_eq_true rfl, Nat.le_of_ble_eq_true rfl⟩) (fun o_14 H locs p_15 hI => ?_)
      obtain ⟨r_16, rfl, t_17⟩ := p_15
      refine fg_Li_waiting hx hb hts hown hI hT t_17 (hts _ tw_124) (fun _ h9 => h9) d_Po_take_24 (fun r_18 n_19 t_20 => ?_)
      refine lv_astore_n (lv' := [(2, .ref r_18), (0, .ref h0), (1, .int (x1))]) hx hb d_Po_take_27 rfl hl (by decide) rfl (fun ls hl => ?_)
      refine lv_bipush (v := 7) hx hb d_Po_take_28 (by decide) ?_
      refine lv_aload_n hx hb d_Po_take_30 rfl (lv_at hl 0 rfl) ?_
      refine fgN_Br_length hx hb hts hown hI hT t_20 (va_Nw.use rfl (hE.1 _ tn_51 rfl)) (fun _ h9 => h9) d_Po_take_31 (fun n_21 h_22 => ?_)
      refine va_mmin hx hb (by rw [hml]; exact hl.1.symm) hown (hts _ tw_1110) (hts _ tw_1111) (hts _ tw_19) (hts _ tw_1112) (Nat.le_of_ble_eq_true rfl) (Nat.le_of_ble_eq_true rfl) (Nat.le_of_ble_eq_true rfl) (Nat.le_of_ble_eq_true rfl) d_Po_take_34 ?_
      refine lv_topi (fun x_23 e_24 => ?_)
      obtain rfl : x_23 = nI (min 7 n_21) := by rw [e_24]; exact mn_nat (a := 7) (b := n_21) (by omega) (by omega)
      refine lv_istore_n (lv' := [(3, .int (nI (min 7 n_21))), (2, .ref r_18), (0, .ref h0), (1, .int (x1))]) hx hb d_Po_take_37 rfl hl (by decide) rfl (fun ls hl => ?_)
      refine lv_iload_n hx hb d_Po_take_38 rfl (lv_at hl 0 rfl) ?_
      refine lv_i2l hx hb d_Po_take_39 rfl ?_
      refine lv_topl (fun x_25 e_26 => ?_)
      refine lv_lstore (lv' := [(4, .long (x_25)), (3, .int (nI (min 7 n_21))), (2, .ref r_18), (0, .ref h0), (1, .int (x1))]) hx hb d_Po_take_40 hl (by decide) rfl (fun ls hl => ?_)
      refine lv_iconst (v := 0) hx hb d_Po_take_42 (by decide) ?_
      refine lv_istore (lv' := [(6, .int (0)), (4, .long (x_25)), (3, .int (nI (min 7 n_21))), (2, .ref r_18), (0, .ref h0), (1, .int (x1))]) hx hb d_Po_take_43 hl (by decide) rfl (fun ls hl => ?_)
      exact hJ_45 _ (0) _ _ _ _ _ r_18 ((min 7 n_21)) x_25 (Nat.le_refl _) (by omega) hI hT (lv_sub hl [4, 5, 3, 2, 1, 0] rfl) t_20 (by omega)
    · exact sm_thr (k := 157) (n := 15) hx hb hts hown hlk hno hfl hE3 hI (hl.1.trans hml.symm) (by decide) (fun _ _ _ h1 h2 => oa_IA h1 h2) tw_425 tw_426 tw_16 tn_810 ⟨trivial, rfl, hT⟩ (by decide) (Nat.le_of_ble_eq_true rfl) (Nat.le_of_ble_eq_true rfl) (Nat.le_of_ble_eq_true rfl) (Nat.le_of_ble_eq_true rfl) (Nat.le_of_ble_eq_true rfl) (Nat.le_of_ble_eq_true rfl) d_Po_take_9 d_Po_take_12 (Or.inl ⟨d_Po_take_13, rfl⟩) d_Po_take_15 d_Po_take_18
theorem d_Po_done_0 : decode b_Po_done 0 = .ok (.aload_n 0, 1) := by decide +kernel
theorem d_Po_done_1 : decode b_Po_done 1 = .ok (.iload_n 1, 1) := by decide +kernel
theorem d_Po_done_2 : decode b_Po_done 2 = .ok (.invokevirtual 222, 3) := by decide +kernel
theorem d_Po_done_5 : decode b_Po_done 5 = .ok (.astore_n 3, 1) := by decide +kernel
theorem d_Po_done_6 : decode b_Po_done 6 = .ok (.aload_n 3, 1) := by decide +kernel
theorem d_Po_done_7 : decode b_Po_done 7 = .ok (.ifnull 10, 3) := by decide +kernel
theorem d_Po_done_10 : decode b_Po_done 10 = .ok (.aload_n 3, 1) := by decide +kernel
theorem d_Po_done_11 : decode b_Po_done 11 = .ok (.getfield 226, 3) := by decide +kernel
theorem d_Po_done_14 : decode b_Po_done 14 = .ok (.ifCond .ne 13, 3) := by decide +kernel
theorem d_Po_done_17 : decode b_Po_done 17 = .ok (.new 68, 3) := by decide +kernel
theorem d_Po_done_20 : decode b_Po_done 20 = .ok (.dup, 1) := by decide +kernel
theorem d_Po_done_21 : decode b_Po_done 21 = .ok (.ldc 229, 2) := by decide +kernel
theorem d_Po_done_23 : decode b_Po_done 23 = .ok (.invokespecial 72, 3) := by decide +kernel
theorem d_Po_done_26 : decode b_Po_done 26 = .ok (.athrow, 1) := by decide +kernel
theorem d_Po_done_27 : decode b_Po_done 27 = .ok (.aload_n 3, 1) := by decide +kernel
theorem d_Po_done_28 : decode b_Po_done 28 = .ok (.iconst 0, 1) := by decide +kernel
theorem d_Po_done_29 : decode b_Po_done 29 = .ok (.putfield 226, 3) := by decide +kernel
theorem d_Po_done_32 : decode b_Po_done 32 = .ok (.aload_n 0, 1) := by decide +kernel
theorem d_Po_done_33 : decode b_Po_done 33 = .ok (.aload_n 3, 1) := by decide +kernel
theorem d_Po_done_34 : decode b_Po_done 34 = .ok (.getfield 231, 3) := by decide +kernel
theorem d_Po_done_37 : decode b_Po_done 37 = .ok (.invokevirtual 171, 3) := by decide +kernel
theorem d_Po_done_40 : decode b_Po_done 40 = .ok (.astore 4, 2) := by decide +kernel
theorem d_Po_done_42 : decode b_Po_done 42 = .ok (.aload_n 3, 1) := by decide +kernel
theorem d_Po_done_43 : decode b_Po_done 43 = .ok (.getfield 234, 3) := by decide +kernel
theorem d_Po_done_46 : decode b_Po_done 46 = .ok (.aload 4, 2) := by decide +kernel
theorem d_Po_done_48 : decode b_Po_done 48 = .ok (.getfield 237, 3) := by decide +kernel
theorem d_Po_done_51 : decode b_Po_done 51 = .ok (.if_icmp .ne 40, 3) := by decide +kernel
theorem d_Po_done_54 : decode b_Po_done 54 = .ok (.aload_n 0, 1) := by decide +kernel
theorem d_Po_done_55 : decode b_Po_done 55 = .ok (.aload 4, 2) := by decide +kernel
theorem d_Po_done_57 : decode b_Po_done 57 = .ok (.aload_n 3, 1) := by decide +kernel
theorem d_Po_done_58 : decode b_Po_done 58 = .ok (.getfield 238, 3) := by decide +kernel
theorem d_Po_done_61 : decode b_Po_done 61 = .ok (.iload_n 2, 1) := by decide +kernel
theorem d_Po_done_62 : decode b_Po_done 62 = .ok (.ifCond .eq 8, 3) := by decide +kernel
theorem d_Po_done_65 : decode b_Po_done 65 = .ok (.bipush 10, 2) := by decide +kernel
theorem d_Po_done_67 : decode b_Po_done 67 = .ok (.goto 5, 3) := by decide +kernel
theorem d_Po_done_70 : decode b_Po_done 70 = .ok (.bipush 74, 2) := by decide +kernel
theorem d_Po_done_72 : decode b_Po_done 72 = .ok (.invokevirtual 239, 3) := by decide +kernel
theorem d_Po_done_75 : decode b_Po_done 75 = .ok (.pop, 1) := by decide +kernel
theorem d_Po_done_76 : decode b_Po_done 76 = .ok (.aload_n 0, 1) := by decide +kernel
theorem d_Po_done_77 : decode b_Po_done 77 = .ok (.aload 4, 2) := by decide +kernel
theorem d_Po_done_79 : decode b_Po_done 79 = .ok (.invokevirtual 243, 3) := by decide +kernel
theorem d_Po_done_82 : decode b_Po_done 82 = .ok (.aload_n 0, 1) := by decide +kernel
theorem d_Po_done_83 : decode b_Po_done 83 = .ok (.aload 4, 2) := by decide +kernel
theorem d_Po_done_85 : decode b_Po_done 85 = .ok (.getfield 246, 3) := by decide +kernel
theorem d_Po_done_88 : decode b_Po_done 88 = .ok (.invokevirtual 131, 3) := by decide +kernel
theorem d_Po_done_91 : decode b_Po_done 91 = .ok (.aload_n 3, 1) := by decide +kernel
theorem d_Po_done_92 : decode b_Po_done 92 = .ok (.getfield 249, 3) := by decide +kernel
theorem d_Po_done_95 : decode b_Po_done 95 = .ok (.ireturn, 1) := by decide +kernel
set_option maxRecDepth 100000 in
set_option maxHeartbeats 4000000 in
theorem c_Po_done (l : Launch) (D : va_G) (ca : Nat → ClassId) (T0 : ty_e) (L0 : List Nat) (f0 : Nat → va_E) (sz : Nat) (hT : ok_T ca T0 L0 f0) {g0 : List (Int32 × Int32)} (h0 : Nat) (t0 : T0 h0 = some (ty_po g0)) (x1 : Int32) (x2 : Int32) (p2 : x2 = 0 ∨ x2 = 1) (hfl : l.flags = Jvm.pinnedFlags ++ [Jvm.noTraceFlag]) :
    MetO l y_Po_done (Cond.code y_Po_done b_Po_done 5 (some .int) :: wg) { frames := 6, cells := 1, slots := 259, locals := 119 } (va_Pc [.ref h0, .int (x1), .int (x2)] (sm_P D cl_all (ty_s ca) ek3 L0 f0 sz)) (sm_Qi D (ty_s ca) L0 f0 sz (fun r u => po_a ca T0 (fun _ => (True)) u)) (sm_Qt D (ty_s ca) L0 f0 sz (fun X u => (True) ∧ po_a ca T0 (fun _ => True) u) [xIA]) 1 259 (va_A (va_pl L0 f0) sz) := by
  refine sm_startO (by decide) (Nat.le_of_ble_eq_true rfl) ?_
  intro p e s m below meth c ls hx hb hml hr hlk hno hts hown hsz hE3 hI hl
  have hE := hE3.1.1
  have hl : lv_has ls 5 [(0, .ref h0), (1, .int (x1)), (2, .int (x2))] := hl
  have hle : ty_le T0 T0 := ty_rf
  refine lv_aload_n hx hb d_Po_done_0 rfl (lv_at hl 0 rfl) ?_
  refine lv_iload_n hx hb d_Po_done_1 rfl (lv_at hl 1 rfl) ?_
  refine sm_qP hI (va_runV (As := [.int (x1)]) (rest := []) ⟨hx, hb, hml, hown, hts⟩ (c_Po_findOperation l D ca _ _ _ _ hT h0 t0 x1) (kv_Po_findOperation hts rfl rfl (hts _ tw_1125) ⟨Nat.le_of_ble_eq_true rfl, Nat.le_of_ble_eq_true rfl⟩) (pv_Po hI hE hT t0) rfl rfl hl.1 rfl (lv_room (Nat.le_of_ble_eq_true rfl)) d_Po_done_2 ⟨Nat.le_of_ble_eq_true rfl, Nat.le_of_ble_eq_true rfl⟩) (fun o_1 H locs p_2 hI => ?_)
  rcases o_1 with _ | r_3
  · refine lv_astore_nN (lv' := [(3, .null), (0, .ref h0), (1, .int (x1)), (2, .int (x2))]) hx hb d_Po_done_5 rfl hl (by decide) rfl (fun ls hl => ?_)
    refine lv_aload_nN hx hb d_Po_done_6 rfl (lv_at hl 0 rfl) ?_
    refine lv_ifnullN (tgt := 17) hx hb d_Po_done_7 (by decide) ?_
    exact sm_thr (k := 229) (n := 23) hx hb hts hown hlk hno hfl hE3 hI (hl.1.trans hml.symm) (by decide) (fun _ _ _ h1 h2 => oa_IA h1 h2) tw_425 tw_426 tw_16 tn_1129 ⟨trivial, _, hle, hT, trivial⟩ (by decide) (Nat.le_of_ble_eq_true rfl) (Nat.le_of_ble_eq_true rfl) (Nat.le_of_ble_eq_true rfl) (Nat.le_of_ble_eq_true rfl) (Nat.le_of_ble_eq_true rfl) (Nat.le_of_ble_eq_true rfl) d_Po_done_17 d_Po_done_20 (Or.inl ⟨d_Po_done_21, rfl⟩) d_Po_done_23 d_Po_done_26
  · have t_4 := p_2 r_3 rfl
    refine lv_astore_n (lv' := [(3, .ref r_3), (0, .ref h0), (1, .int (x1)), (2, .int (x2))]) hx hb d_Po_done_5 rfl hl (by decide) rfl (fun ls hl => ?_)
    refine lv_aload_n hx hb d_Po_done_6 rfl (lv_at hl 0 rfl) ?_
    refine lv_ifnull hx hb d_Po_done_7 ?_
    refine lv_aload_n hx hb d_Po_done_10 rfl (lv_at hl 0 rfl) ?_
    refine fgN_Op_goesOn hx hb hts hown hI hT t_4 (va_Nw.use rfl (hE.1 _ tn_342 rfl)) (fun _ h9 => h9) d_Po_done_11 (fun x_5 p_6 => ?_)
    refine lv_if_ne (tgt := 27) hx hb d_Po_done_14 (by decide) (fun c_7 => ?_) (fun c_7 => ?_)
    · refine lv_aload_n hx hb d_Po_done_27 rfl (lv_at hl 0 rfl) ?_
      refine lv_iconst (v := 0) hx hb d_Po_done_28 (by decide) ?_
      refine fpN_Op_goesOn hx hb hts hown hI hT t_4 (va_Nw.use rfl (hE.1 _ tn_342 rfl)) (fun _ h9 => h9) (by decide) d_Po_done_29 (fun H locs f hI hT => ?_)
      refine lv_aload_n hx hb d_Po_done_32 rfl (lv_at hl 1 rfl) ?_
      refine lv_aload_n hx hb d_Po_done_33 rfl (lv_at hl 0 rfl) ?_
      refine fgN_Op_line hx hb hts hown hI hT t_4 (va_Nw.use rfl (hE.1 _ tn_340 rfl)) (fun _ h9 => h9) d_Po_done_34 (fun x_8 => ?_)
      refine sm_qP hI (va_runV (As := [.int (x_8)]) (rest := []) ⟨hx, hb, hml, hown, hts⟩ (c_Po_lineOf l D ca _ _ _ _ hT h0 t0 x_8) (kv_Po_lineOf hts rfl rfl (hts _ tw_828) ⟨Nat.le_of_ble_eq_true rfl, Nat.le_of_ble_eq_true rfl⟩) (pv_Po hI hE hT t0) rfl rfl hl.1 rfl (lv_room (Nat.le_of_ble_eq_true rfl)) d_Po_done_37 ⟨Nat.le_of_ble_eq_true rfl, Nat.le_of_ble_eq_true rfl⟩) (fun o_9 H locs p_10 hI => ?_)
      obtain ⟨r_11, rfl, t_12⟩ := p_10
      refine lv_astore (lv' := [(4, .ref r_11), (3, .ref r_3), (0, .ref h0), (1, .int (x1)), (2, .int (x2))]) hx hb d_Po_done_40 hl (by decide) rfl (fun ls hl => ?_)
      refine lv_aload_n hx hb d_Po_done_42 rfl (lv_at hl 1 rfl) ?_
      refine fgN_Op_closings hx hb hts hown hI hT t_4 (va_Nw.use rfl (hE.1 _ tn_341 rfl)) (fun _ h9 => h9) d_Po_done_43 (fun x_13 => ?_)
      refine lv_aload hx hb d_Po_done_46 (lv_at hl 0 rfl) ?_
      refine fg_Li_closings hx hb hts hown hI hT t_12 (hts _ tw_166) (fun _ h9 => h9) d_Po_done_48 (fun x_14 => ?_)
      refine lv_icmp_ne (tgt := 91) hx hb d_Po_done_51 (by decide) (fun c_15 => ?_) (fun c_15 => ?_)
      · refine lv_aload_n hx hb d_Po_done_91 rfl (lv_at hl 1 rfl) ?_
        refine fgN_Op_point hx hb hts hown hI hT t_4 (va_Nw.use rfl (hE.1 _ tn_337 rfl)) (fun _ h9 => h9) d_Po_done_92 (fun x_16 => ?_)
        refine W.mono (fun _ h => Or.inl h) ?_
        refine W.widen (k := 1) (n := 259) (by decide) (by decide) ?_
        exact sm_iret hx hb hr hlk hI ⟨_, hle, hT, trivial⟩ d_Po_done_95
      · refine lv_aload_n hx hb d_Po_done_54 rfl (lv_at hl 2 rfl) ?_
        refine lv_aload hx hb d_Po_done_55 (lv_at hl 0 rfl) ?_
        refine lv_aload_n hx hb d_Po_done_57 rfl (lv_at hl 1 rfl) ?_
        refine fgN_Op_asked hx hb hts hown hI hT t_4 (va_Nw.use rfl (hE.1 _ tn_344 rfl)) (fun _ h9 => h9) d_Po_done_58 (fun r_17 t_18 => ?_)
        refine lv_iload_n hx hb d_Po_done_61 rfl (lv_at hl 4 rfl) ?_
        refine lv_if_eq (tgt := 70) hx hb d_Po_done_62 (by decide) (fun c_19 => ?_) (fun c_19 => ?_)
        · refine lv_bipush (v := 74) hx hb d_Po_done_70 (by decide) ?_
          refine sm_qA hI (va_runV (As := [.ref r_11, .ref r_17, .int (74)]) (rest := []) ⟨hx, hb, hml, hown, hts⟩ (c_Po_comeBack l D ca _ _ _ _ hT h0 t0 r_11 t_12 r_17 t_18 74 (by omega) (by omega)) (kv_Po_comeBack hts rfl rfl (hts _ tw_962) ⟨Nat.le_of_ble_eq_true rfl, Nat.le_of_ble_eq_true rfl⟩) (pv_Po hI hE hT t0) rfl rfl hl.1 rfl (lv_room (Nat.le_of_ble_eq_true rfl)) d_Po_done_72 ⟨Nat.le_of_ble_eq_true rfl, Nat.le_of_ble_eq_true rfl⟩) (fun o_20 T L H locs f p_21 hle1 hI hT => ?_)
          have hle := ty_tr hle hle1
          have t_12 := li_up hle1 t_12
          have t_4 := hle1 _ _ t_4
          have t0 := hle1 _ _ t0
          rcases o_20 with _ | r_22
          · refine lv_pop hx hb d_Po_done_75 rfl ?_
            refine lv_aload_n hx hb d_Po_done_76 rfl (lv_at hl 2 rfl) ?_
            refine lv_aload hx hb d_Po_done_77 (lv_at hl 0 rfl) ?_
            refine sm_v hI (va_runV (As := [.ref r_11]) (rest := []) ⟨hx, hb, hml, hown, hts⟩ (c_Po_shutIfTooMany l D ca _ _ _ _ hT h0 t0 r_11 t_12) (kv_Po_shutIfTooMany hts rfl rfl (hts _ tw_1038) ⟨Nat.le_of_ble_eq_true rfl, Nat.le_of_ble_eq_true rfl⟩) (pv_Po hI hE hT t0) rfl rfl hl.1 rfl (lv_room (Nat.le_of_ble_eq_true rfl)) d_Po_done_79 ⟨Nat.le_of_ble_eq_true rfl, Nat.le_of_ble_eq_true rfl⟩) (fun H locs f hI hT => ?_)
            refine lv_aload_n hx hb d_Po_done_82 rfl (lv_at hl 2 rfl) ?_
            refine lv_aload hx hb d_Po_done_83 (lv_at hl 0 rfl) ?_
            refine fg_Li_index hx hb hts hown hI hT t_12 (hts _ tw_120) (fun _ h9 => h9) d_Po_done_85 (fun n_23 h_25 => ?_)
            have h_24 := li_le h_25
            refine sm_v hI (va_runV (As := [.int (nI n_23)]) (rest := []) ⟨hx, hb, hml, hown, hts⟩ (c_Po_sendWhatMay l D ca _ _ _ _ hT h0 t0 (nI n_23)) (kv_Po_sendWhatMay hts rfl rfl (hts _ tw_657) ⟨Nat.le_of_ble_eq_true rfl, Nat.le_of_ble_eq_true rfl⟩) (pv_Po hI hE hT t0) rfl rfl hl.1 rfl (lv_room (Nat.le_of_ble_eq_true rfl)) d_Po_done_88 ⟨Nat.le_of_ble_eq_true rfl, Nat.le_of_ble_eq_true rfl⟩) (fun H locs f hI hT => ?_)
            refine lv_aload_n hx hb d_Po_done_91 rfl (lv_at hl 1 rfl) ?_
            refine fgN_Op_point hx hb hts hown hI hT t_4 (va_Nw.use rfl (hE.1 _ tn_337 rfl)) (fun _ h9 => h9) d_Po_done_92 (fun x_26 => ?_)
            refine W.mono (fun _ h => Or.inl h) ?_
            refine W.widen (k := 1) (n := 259) (by decide) (by decide) ?_
            exact sm_iret hx hb hr hlk hI ⟨_, hle, hT, trivial⟩ d_Po_done_95
          · have t_27 := p_21 r_22 rfl
            refine lv_pop hx hb d_Po_done_75 rfl ?_
            refine lv_aload_n hx hb d_Po_done_76 rfl (lv_at hl 2 rfl) ?_
            refine lv_aload hx hb d_Po_done_77 (lv_at hl 0 rfl) ?_
            refine sm_v hI (va_runV (As := [.ref r_11]) (rest := []) ⟨hx, hb, hml, hown, hts⟩ (c_Po_shutIfTooMany l D ca _ _ _ _ hT h0 t0 r_11 t_12) (kv_Po_shutIfTooMany hts rfl rfl (hts _ tw_1038) ⟨Nat.le_of_ble_eq_true rfl, Nat.le_of_ble_eq_true rfl⟩) (pv_Po hI hE hT t0) rfl rfl hl.1 rfl (lv_room (Nat.le_of_ble_eq_true rfl)) d_Po_done_79 ⟨Nat.le_of_ble_eq_true rfl, Nat.le_of_ble_eq_true rfl⟩) (fun H locs f hI hT => ?_)
            refine lv_aload_n hx hb d_Po_done_82 rfl (lv_at hl 2 rfl) ?_
            refine lv_aload hx hb d_Po_done_83 (lv_at hl 0 rfl) ?_
            refine fg_Li_index hx hb hts hown hI hT t_12 (hts _ tw_120) (fun _ h9 => h9) d_Po_done_85 (fun n_28 h_30 => ?_)
            have h_29 := li_le h_30
            refine sm_v hI (va_runV (As := [.int (nI n_28)]) (rest := []) ⟨hx, hb, hml, hown, hts⟩ (c_Po_sendWhatMay l D ca _ _ _ _ hT h0 t0 (nI n_28)) (kv_Po_sendWhatMay hts rfl rfl (hts _ tw_657) ⟨Nat.le_of_ble_eq_true rfl, Nat.le_of_ble_eq_true rfl⟩) (pv_Po hI hE hT t0) rfl rfl hl.1 rfl (lv_room (Nat.le_of_ble_eq_true rfl)) d_Po_done_88 ⟨Nat.le_of_ble_eq_true rfl, Nat.le_of_ble_eq_true rfl⟩) (fun H locs f hI hT => ?_)
            refine lv_aload_n hx hb d_Po_done_91 rfl (lv_at hl 1 rfl) ?_
            refine fgN_Op_point hx hb hts hown hI hT t_4 (va_Nw.use rfl (hE.1 _ tn_337 rfl)) (fun _ h9 => h9) d_Po_done_92 (fun x_31 => ?_)
            refine W.mono (fun _ h => Or.inl h) ?_
            refine W.widen (k := 1) (n := 259) (by decide) (by decide) ?_
            exact sm_iret hx hb hr hlk hI ⟨_, hle, hT, trivial⟩ d_Po_done_95
        · refine lv_bipush (v := 10) hx hb d_Po_done_65 (by decide) ?_
          refine lv_goto (tgt := 72) hx hb d_Po_done_67 (by decide) ?_
          refine sm_qA hI (va_runV (As := [.ref r_11, .ref r_17, .int (10)]) (rest := []) ⟨hx, hb, hml, hown, hts⟩ (c_Po_comeBack l D ca _ _ _ _ hT h0 t0 r_11 t_12 r_17 t_18 10 (by omega) (by omega)) (kv_Po_comeBack hts rfl rfl (hts _ tw_962) ⟨Nat.le_of_ble_eq_true rfl, Nat.le_of_ble_eq_true rfl⟩) (pv_Po hI hE hT t0) rfl rfl hl.1 rfl (lv_room (Nat.le_of_ble_eq_true rfl)) d_Po_done_72 ⟨Nat.le_of_ble_eq_true rfl, Nat.le_of_ble_eq_true rfl⟩) (fun o_32 T L H locs f p_33 hle1 hI hT => ?_)
          have hle := ty_tr hle hle1
          have t_12 := li_up hle1 t_12
          have t_4 := hle1 _ _ t_4
          have t0 := hle1 _ _ t0
          rcases o_32 with _ | r_34
          · refine lv_pop hx hb d_Po_done_75 rfl ?_
            refine lv_aload_n hx hb d_Po_done_76 rfl (lv_at hl 2 rfl) ?_
            refine lv_aload hx hb d_Po_done_77 (lv_at hl 0 rfl) ?_
            refine sm_v hI (va_runV (As := [.ref r_11]) (rest := []) ⟨hx, hb, hml, hown, hts⟩ (c_Po_shutIfTooMany l D ca _ _ _ _ hT h0 t0 r_11 t_12) (kv_Po_shutIfTooMany hts rfl rfl (hts _ tw_1038) ⟨Nat.le_of_ble_eq_true rfl, Nat.le_of_ble_eq_true rfl⟩) (pv_Po hI hE hT t0) rfl rfl hl.1 rfl (lv_room (Nat.le_of_ble_eq_true rfl)) d_Po_done_79 ⟨Nat.le_of_ble_eq_true rfl, Nat.le_of_ble_eq_true rfl⟩) (fun H locs f hI hT => ?_)
            refine lv_aload_n hx hb d_Po_done_82 rfl (lv_at hl 2 rfl) ?_
            refine lv_aload hx hb d_Po_done_83 (lv_at hl 0 rfl) ?_
            refine fg_Li_index hx hb hts hown hI hT t_12 (hts _ tw_120) (fun _ h9 => h9) d_Po_done_85 (fun n_35 h_37 => ?_)
            have h_36 := li_le h_37
            refine sm_v hI (va_runV (As := [.int (nI n_35)]) (rest := []) ⟨hx, hb, hml, hown, hts⟩ (c_Po_sendWhatMay l D ca _ _ _ _ hT h0 t0 (nI n_35)) (kv_Po_sendWhatMay hts rfl rfl (hts _ tw_657) ⟨Nat.le_of_ble_eq_true rfl, Nat.le_of_ble_eq_true rfl⟩) (pv_Po hI hE hT t0) rfl rfl hl.1 rfl (lv_room (Nat.le_of_ble_eq_true rfl)) d_Po_done_88 ⟨Nat.le_of_ble_eq_true rfl, Nat.le_of_ble_eq_true rfl⟩) (fun H locs f hI hT => ?_)
            refine lv_aload_n hx hb d_Po_done_91 rfl (lv_at hl 1 rfl) ?_
            refine fgN_Op_point hx hb hts hown hI hT t_4 (va_Nw.use rfl (hE.1 _ tn_337 rfl)) (fun _ h9 => h9) d_Po_done_92 (fun x_38 => ?_)
            refine W.mono (fun _ h => Or.inl h) ?_
            refine W.widen (k := 1) (n := 259) (by decide) (by decide) ?_
            exact sm_iret hx hb hr hlk hI ⟨_, hle, hT, trivial⟩ d_Po_done_95
          · have t_39 := p_33 r_34 rfl
            refine lv_pop hx hb d_Po_done_75 rfl ?_
            refine lv_aload_n hx hb d_Po_done_76 rfl (lv_at hl 2 rfl) ?_
            refine lv_aload hx hb d_Po_done_77 (lv_at hl 0 rfl) ?_
            refine sm_v hI (va_runV (As := [.ref r_11]) (rest := []) ⟨hx, hb, hml, hown, hts⟩ (c_Po_shutIfTooMany l D ca _ _ _ _ hT h0 t0 r_11 t_12) (kv_Po_shutIfTooMany hts rfl rfl (hts _ tw_1038) ⟨Nat.le_of_ble_eq_true rfl, Nat.le_of_ble_eq_true rfl⟩) (pv_Po hI hE hT t0) rfl rfl hl.1 rfl (lv_room (Nat.le_of_ble_eq_true rfl)) d_Po_done_79 ⟨Nat.le_of_ble_eq_true rfl, Nat.le_of_ble_eq_true rfl⟩) (fun H locs f hI hT => ?_)
            refine lv_aload_n hx hb d_Po_done_82 rfl (lv_at hl 2 rfl) ?_
            refine lv_aload hx hb d_Po_done_83 (lv_at hl 0 rfl) ?_
            refine fg_Li_index hx hb hts hown hI hT t_12 (hts _ tw_120) (fun _ h9 => h9) d_Po_done_85 (fun n_40 h_42 => ?_)
            have h_41 := li_le h_42
            refine sm_v hI (va_runV (As := [.int (nI n_40)]) (rest := []) ⟨hx, hb, hml, hown, hts⟩ (c_Po_sendWhatMay l D ca _ _ _ _ hT h0 t0 (nI n_40)) (kv_Po_sendWhatMay hts rfl rfl (hts _ tw_657) ⟨Nat.le_of_ble_eq_true rfl, Nat.le_of_ble_eq_true rfl⟩) (pv_Po hI hE hT t0) rfl rfl hl.1 rfl (lv_room (Nat.le_of_ble_eq_true rfl)) d_Po_done_88 ⟨Nat.le_of_ble_eq_true rfl, Nat.le_of_ble_eq_true rfl⟩) (fun H locs f hI hT => ?_)
            refine lv_aload_n hx hb d_Po_done_91 rfl (lv_at hl 1 rfl) ?_
            refine fgN_Op_point hx hb hts hown hI hT t_4 (va_Nw.use rfl (hE.1 _ tn_337 rfl)) (fun _ h9 => h9) d_Po_done_92 (fun x_43 => ?_)
            refine W.mono (fun _ h => Or.inl h) ?_
            refine W.widen (k := 1) (n := 259) (by decide) (by decide) ?_
            exact sm_iret hx hb hr hlk hI ⟨_, hle, hT, trivial⟩ d_Po_done_95
    · exact sm_thr (k := 229) (n := 23) hx hb hts hown hlk hno hfl hE3 hI (hl.1.trans hml.symm) (by decide) (fun _ _ _ h1 h2 => oa_IA h1 h2) tw_425 tw_426 tw_16 tn_1129 ⟨trivial, _, hle, hT, trivial⟩ (by decide) (Nat.le_of_ble_eq_true rfl) (Nat.le_of_ble_eq_true rfl) (Nat.le_of_ble_eq_true rfl) (Nat.le_of_ble_eq_true rfl) (Nat.le_of_ble_eq_true rfl) (Nat.le_of_ble_eq_true rfl) d_Po_done_17 d_Po_done_20 (Or.inl ⟨d_Po_done_21, rfl⟩) d_Po_done_23 d_Po_done_26
theorem d_Po_receive_0 : decode b_Po_receive 0 = .ok (.iload_n 1, 1) := by decide +kernel
theorem d_Po_receive_1 : decode b_Po_receive 1 = .ok (.ifCond .lt 21, 3) := by decide +kernel
theorem d_Po_receive_4 : decode b_Po_receive 4 = .ok (.iload_n 1, 1) := by decide +kernel
theorem d_Po_receive_5 : decode b_Po_receive 5 = .ok (.iconst 3, 1) := by decide +kernel
theorem d_Po_receive_6 : decode b_Po_receive 6 = .ok (.if_icmp .gt 16, 3) := by decide +kernel
theorem d_Po_receive_9 : decode b_Po_receive 9 = .ok (.iload 4, 2) := by decide +kernel
theorem d_Po_receive_11 : decode b_Po_receive 11 = .ok (.iconst 1, 1) := by decide +kernel
theorem d_Po_receive_12 : decode b_Po_receive 12 = .ok (.if_icmp .lt 10, 3) := by decide +kernel
theorem d_Po_receive_15 : decode b_Po_receive 15 = .ok (.iload 4, 2) := by decide +kernel
theorem d_Po_receive_17 : decode b_Po_receive 17 = .ok (.bipush 8, 2) := by decide +kernel
theorem d_Po_receive_19 : decode b_Po_receive 19 = .ok (.if_icmp .le 13, 3) := by decide +kernel
theorem d_Po_receive_22 : decode b_Po_receive 22 = .ok (.new 68, 3) := by decide +kernel
theorem d_Po_receive_25 : decode b_Po_receive 25 = .ok (.dup, 1) := by decide +kernel
theorem d_Po_receive_26 : decode b_Po_receive 26 = .ok (.ldc 169, 2) := by decide +kernel
theorem d_Po_receive_28 : decode b_Po_receive 28 = .ok (.invokespecial 72, 3) := by decide +kernel
theorem d_Po_receive_31 : decode b_Po_receive 31 = .ok (.athrow, 1) := by decide +kernel
theorem d_Po_receive_32 : decode b_Po_receive 32 = .ok (.aload_n 0, 1) := by decide +kernel
theorem d_Po_receive_33 : decode b_Po_receive 33 = .ok (.iload_n 1, 1) := by decide +kernel
theorem d_Po_receive_34 : decode b_Po_receive 34 = .ok (.invokevirtual 171, 3) := by decide +kernel
theorem d_Po_receive_37 : decode b_Po_receive 37 = .ok (.astore 5, 2) := by decide +kernel
theorem d_Po_receive_39 : decode b_Po_receive 39 = .ok (.aload 5, 2) := by decide +kernel
theorem d_Po_receive_41 : decode b_Po_receive 41 = .ok (.getfield 175, 3) := by decide +kernel
theorem d_Po_receive_44 : decode b_Po_receive 44 = .ok (.ifCond .ne 13, 3) := by decide +kernel
theorem d_Po_receive_47 : decode b_Po_receive 47 = .ok (.new 84, 3) := by decide +kernel
theorem d_Po_receive_50 : decode b_Po_receive 50 = .ok (.dup, 1) := by decide +kernel
theorem d_Po_receive_51 : decode b_Po_receive 51 = .ok (.ldc 164, 2) := by decide +kernel
theorem d_Po_receive_53 : decode b_Po_receive 53 = .ok (.invokespecial 88, 3) := by decide +kernel
theorem d_Po_receive_56 : decode b_Po_receive 56 = .ok (.athrow, 1) := by decide +kernel
theorem d_Po_receive_57 : decode b_Po_receive 57 = .ok (.aload 5, 2) := by decide +kernel
theorem d_Po_receive_59 : decode b_Po_receive 59 = .ok (.aload_n 0, 1) := by decide +kernel
theorem d_Po_receive_60 : decode b_Po_receive 60 = .ok (.getfield 147, 3) := by decide +kernel
theorem d_Po_receive_63 : decode b_Po_receive 63 = .ok (.putfield 178, 3) := by decide +kernel
theorem d_Po_receive_66 : decode b_Po_receive 66 = .ok (.iconst 0, 1) := by decide +kernel
theorem d_Po_receive_67 : decode b_Po_receive 67 = .ok (.istore 6, 2) := by decide +kernel
theorem d_Po_receive_69 : decode b_Po_receive 69 = .ok (.iload 6, 2) := by decide +kernel
theorem d_Po_receive_71 : decode b_Po_receive 71 = .ok (.iload 4, 2) := by decide +kernel
theorem d_Po_receive_73 : decode b_Po_receive 73 = .ok (.if_icmp .ge 99, 3) := by decide +kernel
theorem d_Po_receive_76 : decode b_Po_receive 76 = .ok (.aload 5, 2) := by decide +kernel
theorem d_Po_receive_78 : decode b_Po_receive 78 = .ok (.getfield 175, 3) := by decide +kernel
theorem d_Po_receive_81 : decode b_Po_receive 81 = .ok (.ifCond .eq 91, 3) := by decide +kernel
theorem d_Po_receive_84 : decode b_Po_receive 84 = .ok (.iinc 6 1, 3) := by decide +kernel
theorem d_Po_receive_87 : decode b_Po_receive 87 = .ok (.aload 5, 2) := by decide +kernel
theorem d_Po_receive_89 : decode b_Po_receive 89 = .ok (.getfield 179, 3) := by decide +kernel
theorem d_Po_receive_92 : decode b_Po_receive 92 = .ok (.lload_n 2, 1) := by decide +kernel
theorem d_Po_receive_93 : decode b_Po_receive 93 = .ok (.bipush 8, 2) := by decide +kernel
theorem d_Po_receive_95 : decode b_Po_receive 95 = .ok (.iload 4, 2) := by decide +kernel
theorem d_Po_receive_97 : decode b_Po_receive 97 = .ok (.iload 6, 2) := by decide +kernel
theorem d_Po_receive_99 : decode b_Po_receive 99 = .ok (.isub, 1) := by decide +kernel
theorem d_Po_receive_100 : decode b_Po_receive 100 = .ok (.imul, 1) := by decide +kernel
theorem d_Po_receive_101 : decode b_Po_receive 101 = .ok (.lshr, 1) := by decide +kernel
theorem d_Po_receive_102 : decode b_Po_receive 102 = .ok (.l2i, 1) := by decide +kernel
theorem d_Po_receive_103 : decode b_Po_receive 103 = .ok (.invokevirtual 182, 3) := by decide +kernel
theorem d_Po_receive_106 : decode b_Po_receive 106 = .ok (.aload 5, 2) := by decide +kernel
theorem d_Po_receive_108 : decode b_Po_receive 108 = .ok (.invokevirtual 185, 3) := by decide +kernel
theorem d_Po_receive_111 : decode b_Po_receive 111 = .ok (.ifCond .ne 20, 3) := by decide +kernel
theorem d_Po_receive_114 : decode b_Po_receive 114 = .ok (.aload 5, 2) := by decide +kernel
theorem d_Po_receive_116 : decode b_Po_receive 116 = .ok (.getfield 179, 3) := by decide +kernel
theorem d_Po_receive_119 : decode b_Po_receive 119 = .ok (.invokevirtual 188, 3) := by decide +kernel
theorem d_Po_receive_122 : decode b_Po_receive 122 = .ok (.aload_n 0, 1) := by decide +kernel
theorem d_Po_receive_123 : decode b_Po_receive 123 = .ok (.aload 5, 2) := by decide +kernel
theorem d_Po_receive_125 : decode b_Po_receive 125 = .ok (.invokevirtual 191, 3) := by decide +kernel
theorem d_Po_receive_128 : decode b_Po_receive 128 = .ok (.goto (-59), 3) := by decide +kernel
theorem d_Po_receive_131 : decode b_Po_receive 131 = .ok (.aload 5, 2) := by decide +kernel
theorem d_Po_receive_133 : decode b_Po_receive 133 = .ok (.invokevirtual 195, 3) := by decide +kernel
theorem d_Po_receive_136 : decode b_Po_receive 136 = .ok (.ifCond .eq (-67), 3) := by decide +kernel
theorem d_Po_receive_139 : decode b_Po_receive 139 = .ok (.iload_n 1, 1) := by decide +kernel
theorem d_Po_receive_140 : decode b_Po_receive 140 = .ok (.iconst 3, 1) := by decide +kernel
theorem d_Po_receive_141 : decode b_Po_receive 141 = .ok (.if_icmp .ne 10, 3) := by decide +kernel
theorem d_Po_receive_144 : decode b_Po_receive 144 = .ok (.aload_n 0, 1) := by decide +kernel
theorem d_Po_receive_145 : decode b_Po_receive 145 = .ok (.invokevirtual 198, 3) := by decide +kernel
theorem d_Po_receive_148 : decode b_Po_receive 148 = .ok (.goto 13, 3) := by decide +kernel
theorem d_Po_receive_151 : decode b_Po_receive 151 = .ok (.aload_n 0, 1) := by decide +kernel
theorem d_Po_receive_152 : decode b_Po_receive 152 = .ok (.aload_n 0, 1) := by decide +kernel
theorem d_Po_receive_153 : decode b_Po_receive 153 = .ok (.getfield 17, 3) := by decide +kernel
theorem d_Po_receive_156 : decode b_Po_receive 156 = .ok (.iload_n 1, 1) := by decide +kernel
theorem d_Po_receive_157 : decode b_Po_receive 157 = .ok (.aaload, 1) := by decide +kernel
theorem d_Po_receive_158 : decode b_Po_receive 158 = .ok (.invokevirtual 201, 3) := by decide +kernel
theorem d_Po_receive_161 : decode b_Po_receive 161 = .ok (.aload 5, 2) := by decide +kernel
theorem d_Po_receive_163 : decode b_Po_receive 163 = .ok (.getfield 179, 3) := by decide +kernel
theorem d_Po_receive_166 : decode b_Po_receive 166 = .ok (.invokevirtual 188, 3) := by decide +kernel
theorem d_Po_receive_169 : decode b_Po_receive 169 = .ok (.goto (-100), 3) := by decide +kernel
theorem d_Po_receive_172 : decode b_Po_receive 172 = .ok (.iload 6, 2) := by decide +kernel
theorem d_Po_receive_174 : decode b_Po_receive 174 = .ok (.ireturn, 1) := by decide +kernel
set_option maxRecDepth 100000 in
set_option maxHeartbeats 4000000 in
theorem c_Po_receive (l : Launch) (D : va_G) (ca : Nat → ClassId) (T0 : ty_e) (L0 : List Nat) (f0 : Nat → va_E) (sz : Nat) (hT : ok_T ca T0 L0 f0) {g0 : List (Int32 × Int32)} (h0 : Nat) (t0 : T0 h0 = some (ty_po g0)) (x1 : Int32) (x2 : Int64) (x3 : Int32) (hfl : l.flags = Jvm.pinnedFlags ++ [Jvm.noTraceFlag]) :
    MetO l y_Po_receive (Cond.code y_Po_receive b_Po_receive 7 (some .int) :: wg) { frames := 7, cells := 16, slots := 4144, locals := 172 } (va_Pc [.ref h0, .int (x1), .long (x2), .int (x3)] (sm_P D cl_all (ty_s ca) ek3 L0 f0 sz)) (sm_Qi D (ty_s ca) L0 f0 sz (fun r u => po_a ca T0 (fun _ => (True)) u)) (sm_Qt D (ty_s ca) L0 f0 sz (fun X u => (True) ∧ po_a ca T0 (fun _ => True) u) [xIA, xIS]) 16 4144 (va_A (va_pl L0 f0) sz) := by
  refine sm_startO (by decide) (Nat.le_of_ble_eq_true rfl) ?_
  intro p e s m below meth c ls hx hb hml hr hlk hno hts hown hsz hE3 hI hl
  have hE := hE3.1.1
  have hl : lv_has ls 7 [(0, .ref h0), (1, .int (x1)), (2, .long (x2)), (4, .int (x3))] := hl
  have hle : ty_le T0 T0 := ty_rf
  have hJ_69 : ∀ (N k : Nat) (T : ty_e) (L : List Nat) (H : Heap) (locs : List Loc) (f : Nat → va_E) (ls : Array Slot) (y5 : Nat), 8 + 1 - k ≤ N → k ≤ 8 → ty_le T0 T → sw_I D cl_all (ty_s ca) (va_A (va_pl L0 f0) sz) s H locs L f → ok_T ca T L f → lv_has ls 7 [(0, .ref h0), (1, .int (x1)), (2, .long (x2)), (4, .int (x3)), (5, .ref y5), (6, .int (nI k))] → (is_li T y5) → (x3 ≤ 8) → (∃ j : Nat, j ≤ 3 ∧ x1 = nI j) → W p l e { frames := 7, cells := 16, slots := 4144, locals := 172 } s m ([.ref h0, .int (x1), .long (x2), .int (x3)] : List Value).toArray below meth c H locs (2 * k) (518 * k) (MO below (sm_Qi D (ty_s ca) L0 f0 sz (fun r u => po_a ca T0 (fun _ => (True)) u)) (sm_Qt D (ty_s ca) L0 f0 sz (fun X u => (True) ∧ po_a ca T0 (fun _ => True) u) [xIA, xIS]) ([.ref h0, .int (x1), .long (x2), .int (x3)] : List Value).toArray s 16 4144 (va_A (va_pl L0 f0) sz)) (F0 m 69 ls []) := by
    intro N
    induction N with
    | zero => intros; omega
    | succ N ih =>
      intro k T L H locs f ls y5 hN hk hle hI hT hl ty5 hn4 hx1
      have t0 := hle _ _ t0
      refine lv_iload hx hb d_Po_receive_69 (lv_at hl 5 rfl) ?_
      refine lv_iload hx hb d_Po_receive_71 (lv_at hl 3 rfl) ?_
      refine lv_icmp_ge (tgt := 172) hx hb d_Po_receive_73 (by decide) (fun c_1 => ?_) (fun c_1 => ?_)
      · refine lv_iload hx hb d_Po_receive_172 (lv_at hl 5 rfl) ?_
        refine W.mono (fun _ h => Or.inl h) ?_
        refine W.widen (k := 16) (n := 4144) (by omega) (by omega) ?_
        exact sm_iret hx hb hr hlk hI ⟨_, hle, hT, trivial⟩ d_Po_receive_174
      · have hk8 : k < 8 := rc_lt c_1 hn4 hk
        refine lv_aload hx hb d_Po_receive_76 (lv_at hl 4 rfl) ?_
        refine fg_Li_state hx hb hts hown hI hT ty5 (hts _ tw_149) (fun _ h9 => h9) d_Po_receive_78 (fun x_2 => ?_)
        refine lv_if_eq (tgt := 172) hx hb d_Po_receive_81 (by decide) (fun c_3 => ?_) (fun c_3 => ?_)
        · refine lv_iload hx hb d_Po_receive_172 (lv_at hl 5 rfl) ?_
          refine W.mono (fun _ h => Or.inl h) ?_
          refine W.widen (k := 16) (n := 4144) (by omega) (by omega) ?_
          exact sm_iret hx hb hr hlk hI ⟨_, hle, hT, trivial⟩ d_Po_receive_174
        · refine lv_iinc (v := nI (k + 1)) (lv' := [(6, .int (nI (k + 1))), (0, .ref h0), (1, .int (x1)), (2, .long (x2)), (4, .int (x3)), (5, .ref y5)]) hx hb d_Po_receive_84 hl (k := 5) rfl (nI_1 _) (by decide) rfl (fun ls hl => ?_)
          refine lv_aload hx hb d_Po_receive_87 (lv_at hl 5 rfl) ?_
          refine fg_Li_heard hx hb hts hown hI hT ty5 (hts _ tw_135) (fun _ h9 => h9) d_Po_receive_89 (fun r_4 t_5 => ?_)
          refine lv_lload_n hx hb d_Po_receive_92 rfl (lv_at hl 3 rfl) ?_
          refine lv_bipush (v := 8) hx hb d_Po_receive_93 (by decide) ?_
          refine lv_iload hx hb d_Po_receive_95 (lv_at hl 4 rfl) ?_
          refine lv_iload hx hb d_Po_receive_97 (lv_at hl 0 rfl) ?_
          refine lv_isub hx hb d_Po_receive_99 ?_
          refine lv_topi (fun x_6 e_7 => ?_)
          refine lv_imul hx hb d_Po_receive_100 ?_
          refine lv_topi (fun x_8 e_9 => ?_)
          refine lv_lshr hx hb d_Po_receive_101 rfl ?_
          refine lv_topl (fun x_10 e_11 => ?_)
          refine lv_l2i hx hb d_Po_receive_102 rfl ?_
          refine lv_topi (fun x_12 e_13 => ?_)
          refine sm_v hI (va_runV (As := [.int (x_12)]) (rest := []) ⟨hx, hb, hml, hown, hts⟩ (c_Br_put l D ca _ _ _ _ hT r_4 t_5 x_12) (kv_Br_put hts rfl rfl (hts _ tw_651) ⟨Nat.le_of_ble_eq_true rfl, Nat.le_of_ble_eq_true rfl⟩) (pv_Br hI hE hT t_5) rfl rfl hl.1 rfl (lv_room (Nat.le_of_ble_eq_true rfl)) d_Po_receive_103 ⟨by show 2 * k + 0 + 0 ≤ 16; omega, by show 518 * k + 0 + 0 ≤ 4144; omega⟩) (fun H locs f hI hT => ?_)
          refine lv_aload hx hb d_Po_receive_106 (lv_at hl 5 rfl) ?_
          refine sm_iP (mc := 0) (ms := 0) (rest := []) (F := fun r => r = 0 ∨ r = 1) (a := #[.ref y5]) hI (by
            rcases ty5 with ⟨k9, t9⟩ | t9
            · exact va_runU (As := []) (rest := []) ⟨hx, hb, hml, hown, hts⟩ (c_Cn_mayBecomeFrame l D ca _ _ _ _ hT y5 t9) (cu_of (owner := R_Li) hts tw_837 tw_10 (by decide) (by decide +kernel) tw_832 tw_834 (hE.1 _ tn_833 rfl) tw_835 tw_836 rfl rfl ⟨Nat.le_of_ble_eq_true rfl, Nat.le_of_ble_eq_true rfl⟩) (pv_Cn hI hE hT t9) rfl rfl hl.1 rfl (lv_room (Nat.le_of_ble_eq_true rfl)) d_Po_receive_108 ⟨by show 2 * k + 0 ≤ 16; omega, by show 518 * k + 0 ≤ 4144; omega⟩
            · exact va_runU (As := []) (rest := []) ⟨hx, hb, hml, hown, hts⟩ (c_Sr_mayBecomeFrame l D ca _ _ _ _ hT y5 t9) (cu_of (owner := R_Li) hts tw_841 tw_3 (by decide) (by decide +kernel) tw_832 tw_834 (hE.1 _ tn_833 rfl) tw_839 tw_840 rfl rfl ⟨Nat.le_of_ble_eq_true rfl, Nat.le_of_ble_eq_true rfl⟩) (pv_Sr hI hE hT t9) rfl rfl hl.1 rfl (lv_room (Nat.le_of_ble_eq_true rfl)) d_Po_receive_108 ⟨by show 2 * k + 0 ≤ 16; omega, by show 518 * k + 0 ≤ 4144; omega⟩) (fun x_14 H locs p_15 hI => ?_)
          refine lv_if_ne (tgt := 131) hx hb d_Po_receive_111 (by decide) (fun c_16 => ?_) (fun c_16 => ?_)
          · refine lv_aload hx hb d_Po_receive_131 (lv_at hl 5 rfl) ?_
            refine sm_iP (mc := 0) (ms := 0) (rest := []) (F := fun r => r = 0 ∨ r = 1) (a := #[.ref y5]) hI (by
              rcases ty5 with ⟨k9, t9⟩ | t9
              · exact va_runU (As := []) (rest := []) ⟨hx, hb, hml, hown, hts⟩ (c_Cn_isWholeFrame l D ca _ _ _ _ hT y5 t9) (cu_of (owner := R_Li) hts tw_864 tw_10 (by decide) (by decide +kernel) tw_859 tw_861 (hE.1 _ tn_860 rfl) tw_862 tw_863 rfl rfl ⟨Nat.le_of_ble_eq_true rfl, Nat.le_of_ble_eq_true rfl⟩) (pv_Cn hI hE hT t9) rfl rfl hl.1 rfl (lv_room (Nat.le_of_ble_eq_true rfl)) d_Po_receive_133 ⟨by show 2 * k + 0 ≤ 16; omega, by show 518 * k + 0 ≤ 4144; omega⟩
              · exact va_runU (As := []) (rest := []) ⟨hx, hb, hml, hown, hts⟩ (c_Sr_isWholeFrame l D ca _ _ _ _ hT y5 t9) (cu_of (owner := R_Li) hts tw_867 tw_3 (by decide) (by decide +kernel) tw_859 tw_861 (hE.1 _ tn_860 rfl) tw_865 tw_866 rfl rfl ⟨Nat.le_of_ble_eq_true rfl, Nat.le_of_ble_eq_true rfl⟩) (pv_Sr hI hE hT t9) rfl rfl hl.1 rfl (lv_room (Nat.le_of_ble_eq_true rfl)) d_Po_receive_133 ⟨by show 2 * k + 0 ≤ 16; omega, by show 518 * k + 0 ≤ 4144; omega⟩) (fun x_17 H locs p_18 hI => ?_)
            refine lv_if_eq (tgt := 69) hx hb d_Po_receive_136 (by decide) (fun c_19 => ?_) (fun c_19 => ?_)
            · refine W.widen (k := 2 * (k + 1)) (n := 518 * (k + 1)) (by omega) (by omega) ?_
              exact ih ((k + 1)) _ _ _ _ _ _ y5 (by omega) (by omega) hle hI hT (lv_sub hl [1, 2, 3, 4, 5, 0] rfl) ty5 hn4 hx1
            · refine lv_iload_n hx hb d_Po_receive_139 rfl (lv_at hl 2 rfl) ?_
              refine lv_iconst (v := 3) hx hb d_Po_receive_140 (by decide) ?_
              refine lv_icmp_ne (tgt := 151) hx hb d_Po_receive_141 (by decide) (fun c_20 => ?_) (fun c_20 => ?_)
              · refine lv_aload_n hx hb d_Po_receive_151 rfl (lv_at hl 1 rfl) ?_
                refine lv_aload_n hx hb d_Po_receive_152 rfl (lv_at hl 1 rfl) ?_
                refine fg_Po_connections hx hb hts hown hI hT t0 (hts _ tw_365) (fun _ h9 => h9) d_Po_receive_153 (fun r_21 t_22 => ?_)
                refine lv_iload_n hx hb d_Po_receive_156 rfl (lv_at hl 2 rfl) ?_
                refine lv_topi (fun x_23 e_24 => ?_)
                obtain ⟨j_25, h_26, rfl⟩ : ∃ j : Nat, j < 3 ∧ x_23 = nI j := (by obtain ⟨j9, h9, e9⟩ := hx1; exact nb_3 h9 (e_24.trans e9) (by rw [e_24]; exact c_20))
                refine fa_cns (j := j_25) hx hb hI hT t_22 (by omega) d_Po_receive_157 (fun r_27 t_28 => ?_)
                refine sm_vA hI (va_runV (As := [.ref r_27]) (rest := []) ⟨hx, hb, hml, hown, hts⟩ (c_Po_hearFrame l D ca _ _ _ _ hT h0 t0 r_27 t_28) (kv_Po_hearFrame hts rfl rfl (hts _ tw_1046) ⟨Nat.le_of_ble_eq_true rfl, Nat.le_of_ble_eq_true rfl⟩) (pv_Po hI hE hT t0) rfl rfl hl.1 rfl (lv_room (Nat.le_of_ble_eq_true rfl)) d_Po_receive_158 ⟨by show 2 * k + 0 + 2 ≤ 16; omega, by show 518 * k + 0 + 518 ≤ 4144; omega⟩) (fun T L H locs f hle1 hI hT => ?_)
                have hle := ty_tr hle hle1
                have t0 := hle1 _ _ t0
                have ty5 := li_up hle1 ty5
                refine lv_aload hx hb d_Po_receive_161 (lv_at hl 5 rfl) ?_
                refine fg_Li_heard hx hb hts hown hI hT ty5 (hts _ tw_135) (fun _ h9 => h9) d_Po_receive_163 (fun r_29 t_30 => ?_)
                refine sm_v hI (va_runV (As := []) (rest := []) ⟨hx, hb, hml, hown, hts⟩ (c_Br_clear l D ca _ _ _ _ hT r_29 t_30) (kv_Br_clear hts rfl rfl (hts _ tw_713) ⟨Nat.le_of_ble_eq_true rfl, Nat.le_of_ble_eq_true rfl⟩) (pv_Br hI hE hT t_30) rfl rfl hl.1 rfl (lv_room (Nat.le_of_ble_eq_true rfl)) d_Po_receive_166 ⟨by show 2 * k + 2 + 0 ≤ 16; omega, by show 518 * k + 518 + 0 ≤ 4144; omega⟩) (fun H locs f hI hT => ?_)
                refine lv_goto (tgt := 69) hx hb d_Po_receive_169 (by decide) ?_
                refine W.widen (k := 2 * (k + 1)) (n := 518 * (k + 1)) (by omega) (by omega) ?_
                exact ih ((k + 1)) _ _ _ _ _ _ y5 (by omega) (by omega) hle hI hT (lv_sub hl [1, 2, 3, 4, 5, 0] rfl) ty5 hn4 hx1
              · refine lv_aload_n hx hb d_Po_receive_144 rfl (lv_at hl 1 rfl) ?_
                refine sm_vA hI (va_runV (As := []) (rest := []) ⟨hx, hb, hml, hown, hts⟩ (c_Po_hearSerialFrame l D ca _ _ _ _ hT h0 t0) (kv_Po_hearSerialFrame hts rfl rfl (hts _ tw_868) ⟨Nat.le_of_ble_eq_true rfl, Nat.le_of_ble_eq_true rfl⟩) (pv_Po hI hE hT t0) rfl rfl hl.1 rfl (lv_room (Nat.le_of_ble_eq_true rfl)) d_Po_receive_145 ⟨by show 2 * k + 0 + 2 ≤ 16; omega, by show 518 * k + 0 + 518 ≤ 4144; omega⟩) (fun T L H locs f hle1 hI hT => ?_)
                have hle := ty_tr hle hle1
                have t0 := hle1 _ _ t0
                have ty5 := li_up hle1 ty5
                refine lv_goto (tgt := 161) hx hb d_Po_receive_148 (by decide) ?_
                refine lv_aload hx hb d_Po_receive_161 (lv_at hl 5 rfl) ?_
                refine fg_Li_heard hx hb hts hown hI hT ty5 (hts _ tw_135) (fun _ h9 => h9) d_Po_receive_163 (fun r_31 t_32 => ?_)
                refine sm_v hI (va_runV (As := []) (rest := []) ⟨hx, hb, hml, hown, hts⟩ (c_Br_clear l D ca _ _ _ _ hT r_31 t_32) (kv_Br_clear hts rfl rfl (hts _ tw_713) ⟨Nat.le_of_ble_eq_true rfl, Nat.le_of_ble_eq_true rfl⟩) (pv_Br hI hE hT t_32) rfl rfl hl.1 rfl (lv_room (Nat.le_of_ble_eq_true rfl)) d_Po_receive_166 ⟨by show 2 * k + 2 + 0 ≤ 16; omega, by show 518 * k + 518 + 0 ≤ 4144; omega⟩) (fun H locs f hI hT => ?_)
                refine lv_goto (tgt := 69) hx hb d_Po_receive_169 (by decide) ?_
                refine W.widen (k := 2 * (k + 1)) (n := 518 * (k + 1)) (by omega) (by omega) ?_
                exact ih ((k + 1)) _ _ _ _ _ _ y5 (by omega) (by omega) hle hI hT (lv_sub hl [1, 2, 3, 4, 5, 0] rfl) ty5 hn4 hx1
          · refine lv_aload hx hb d_Po_receive_114 (lv_at hl 5 rfl) ?_
            refine fg_Li_heard hx hb hts hown hI hT ty5 (hts _ tw_135) (fun _ h9 => h9) d_Po_receive_116 (fun r_33 t_34 => ?_)
            refine sm_v hI (va_runV (As := []) (rest := []) ⟨hx, hb, hml, hown, hts⟩ (c_Br_clear l D ca _ _ _ _ hT r_33 t_34) (kv_Br_clear hts rfl rfl (hts _ tw_713) ⟨Nat.le_of_ble_eq_true rfl, Nat.le_of_ble_eq_true rfl⟩) (pv_Br hI hE hT t_34) rfl rfl hl.1 rfl (lv_room (Nat.le_of_ble_eq_true rfl)) d_Po_receive_119 ⟨by show 2 * k + 0 + 0 ≤ 16; omega, by show 518 * k + 0 + 0 ≤ 4144; omega⟩) (fun H locs f hI hT => ?_)
            refine lv_aload_n hx hb d_Po_receive_122 rfl (lv_at hl 1 rfl) ?_
            refine lv_aload hx hb d_Po_receive_123 (lv_at hl 5 rfl) ?_
            refine sm_v hI (va_runV (As := [.ref y5]) (rest := []) ⟨hx, hb, hml, hown, hts⟩ (c_Po_refuse l D ca _ _ _ _ hT h0 t0 y5 ty5) (kv_Po_refuse hts rfl rfl (hts _ tw_855) ⟨Nat.le_of_ble_eq_true rfl, Nat.le_of_ble_eq_true rfl⟩) (pv_Po hI hE hT t0) rfl rfl hl.1 rfl (lv_room (Nat.le_of_ble_eq_true rfl)) d_Po_receive_125 ⟨by show 2 * k + 0 + 0 ≤ 16; omega, by show 518 * k + 0 + 0 ≤ 4144; omega⟩) (fun H locs f hI hT => ?_)
            refine lv_goto (tgt := 69) hx hb d_Po_receive_128 (by decide) ?_
            refine W.widen (k := 2 * (k + 1)) (n := 518 * (k + 1)) (by omega) (by omega) ?_
            exact ih ((k + 1)) _ _ _ _ _ _ y5 (by omega) (by omega) hle hI hT (lv_sub hl [1, 2, 3, 4, 5, 0] rfl) ty5 hn4 hx1
  refine lv_iload_n hx hb d_Po_receive_0 rfl (lv_at hl 1 rfl) ?_
  refine lv_if_lt (tgt := 22) hx hb d_Po_receive_1 (by decide) (fun c_35 => ?_) (fun c_35 => ?_)
  · exact sm_thr (k := 169) (n := 28) hx hb hts hown hlk hno hfl hE3 hI (hl.1.trans hml.symm) (by decide) (fun _ _ _ h1 h2 => oa_IA h1 h2) tw_425 tw_426 tw_16 tn_827 ⟨trivial, _, hle, hT, trivial⟩ (by decide) (Nat.le_of_ble_eq_true rfl) (Nat.le_of_ble_eq_true rfl) (Nat.le_of_ble_eq_true rfl) (Nat.le_of_ble_eq_true rfl) (Nat.le_of_ble_eq_true rfl) (Nat.le_of_ble_eq_true rfl) d_Po_receive_22 d_Po_receive_25 (Or.inl ⟨d_Po_receive_26, rfl⟩) d_Po_receive_28 d_Po_receive_31
  · refine lv_iload_n hx hb d_Po_receive_4 rfl (lv_at hl 1 rfl) ?_
    refine lv_iconst (v := 3) hx hb d_Po_receive_5 (by decide) ?_
    refine lv_icmp_gt (tgt := 22) hx hb d_Po_receive_6 (by decide) (fun c_36 => ?_) (fun c_36 => ?_)
    · exact sm_thr (k := 169) (n := 28) hx hb hts hown hlk hno hfl hE3 hI (hl.1.trans hml.symm) (by decide) (fun _ _ _ h1 h2 => oa_IA h1 h2) tw_425 tw_426 tw_16 tn_827 ⟨trivial, _, hle, hT, trivial⟩ (by decide) (Nat.le_of_ble_eq_true rfl) (Nat.le_of_ble_eq_true rfl) (Nat.le_of_ble_eq_true rfl) (Nat.le_of_ble_eq_true rfl) (Nat.le_of_ble_eq_true rfl) (Nat.le_of_ble_eq_true rfl) d_Po_receive_22 d_Po_receive_25 (Or.inl ⟨d_Po_receive_26, rfl⟩) d_Po_receive_28 d_Po_receive_31
    · refine lv_iload hx hb d_Po_receive_9 (lv_at hl 3 rfl) ?_
      refine lv_iconst (v := 1) hx hb d_Po_receive_11 (by decide) ?_
      refine lv_icmp_lt (tgt := 22) hx hb d_Po_receive_12 (by decide) (fun c_37 => ?_) (fun c_37 => ?_)
      · exact sm_thr (k := 169) (n := 28) hx hb hts hown hlk hno hfl hE3 hI (hl.1.trans hml.symm) (by decide) (fun _ _ _ h1 h2 => oa_IA h1 h2) tw_425 tw_426 tw_16 tn_827 ⟨trivial, _, hle, hT, trivial⟩ (by decide) (Nat.le_of_ble_eq_true rfl) (Nat.le_of_ble_eq_true rfl) (Nat.le_of_ble_eq_true rfl) (Nat.le_of_ble_eq_true rfl) (Nat.le_of_ble_eq_true rfl) (Nat.le_of_ble_eq_true rfl) d_Po_receive_22 d_Po_receive_25 (Or.inl ⟨d_Po_receive_26, rfl⟩) d_Po_receive_28 d_Po_receive_31
      · refine lv_iload hx hb d_Po_receive_15 (lv_at hl 3 rfl) ?_
        refine lv_bipush (v := 8) hx hb d_Po_receive_17 (by decide) ?_
        refine lv_icmp_le (tgt := 32) hx hb d_Po_receive_19 (by decide) (fun c_38 => ?_) (fun c_38 => ?_)
        · refine lv_aload_n hx hb d_Po_receive_32 rfl (lv_at hl 0 rfl) ?_
          refine lv_iload_n hx hb d_Po_receive_33 rfl (lv_at hl 1 rfl) ?_
          refine sm_qP hI (va_runV (As := [.int (x1)]) (rest := []) ⟨hx, hb, hml, hown, hts⟩ (c_Po_lineOf l D ca _ _ _ _ hT h0 t0 x1) (kv_Po_lineOf hts rfl rfl (hts _ tw_828) ⟨Nat.le_of_ble_eq_true rfl, Nat.le_of_ble_eq_true rfl⟩) (pv_Po hI hE hT t0) rfl rfl hl.1 rfl (lv_room (Nat.le_of_ble_eq_true rfl)) d_Po_receive_34 ⟨Nat.le_of_ble_eq_true rfl, Nat.le_of_ble_eq_true rfl⟩) (fun o_39 H locs p_40 hI => ?_)
          obtain ⟨r_41, rfl, t_42⟩ := p_40
          refine lv_astore (lv' := [(5, .ref r_41), (0, .ref h0), (1, .int (x1)), (2, .long (x2)), (4, .int (x3))]) hx hb d_Po_receive_37 hl (by decide) rfl (fun ls hl => ?_)
          refine lv_aload hx hb d_Po_receive_39 (lv_at hl 0 rfl) ?_
          refine fg_Li_state hx hb hts hown hI hT t_42 (hts _ tw_149) (fun _ h9 => h9) d_Po_receive_41 (fun x_43 => ?_)
          refine lv_if_ne (tgt := 57) hx hb d_Po_receive_44 (by decide) (fun c_44 => ?_) (fun c_44 => ?_)
          · refine lv_aload hx hb d_Po_receive_57 (lv_at hl 0 rfl) ?_
            refine lv_aload_n hx hb d_Po_receive_59 rfl (lv_at hl 1 rfl) ?_
            refine fg_Po_now hx hb hts hown hI hT t0 (hts _ tw_373) (fun _ h9 => h9) d_Po_receive_60 (fun x_45 => ?_)
            refine fp_Li_heardAt hx hb hts hown hI hT t_42 (hts _ tw_165) (fun _ h9 => h9) d_Po_receive_63 (fun H locs f hI hT => ?_)
            refine lv_iconst (v := 0) hx hb d_Po_receive_66 (by decide) ?_
            refine lv_istore (lv' := [(6, .int (0)), (5, .ref r_41), (0, .ref h0), (1, .int (x1)), (2, .long (x2)), (4, .int (x3))]) hx hb d_Po_receive_67 hl (by decide) rfl (fun ls hl => ?_)
            refine W.widen (k := 2 * 0) (n := 518 * 0) (by omega) (by omega) ?_
            exact hJ_69 _ (0) _ _ _ _ _ _ r_41 (Nat.le_refl _) (by omega) hle hI hT (lv_sub hl [2, 3, 4, 5, 1, 0] rfl) t_42 c_38 (nb_gt c_35 c_36)
          · exact sm_thr (k := 164) (n := 53) hx hb hts hown hlk hno hfl hE3 hI (hl.1.trans hml.symm) (by decide) (fun _ _ _ h1 h2 => oa_IS h1 h2) tw_497 tw_498 tw_17 tn_819 ⟨trivial, _, hle, hT, trivial⟩ (by decide) (Nat.le_of_ble_eq_true rfl) (Nat.le_of_ble_eq_true rfl) (Nat.le_of_ble_eq_true rfl) (Nat.le_of_ble_eq_true rfl) (Nat.le_of_ble_eq_true rfl) (Nat.le_of_ble_eq_true rfl) d_Po_receive_47 d_Po_receive_50 (Or.inl ⟨d_Po_receive_51, rfl⟩) d_Po_receive_53 d_Po_receive_56
        · exact sm_thr (k := 169) (n := 28) hx hb hts hown hlk hno hfl hE3 hI (hl.1.trans hml.symm) (by decide) (fun _ _ _ h1 h2 => oa_IA h1 h2) tw_425 tw_426 tw_16 tn_827 ⟨trivial, _, hle, hT, trivial⟩ (by decide) (Nat.le_of_ble_eq_true rfl) (Nat.le_of_ble_eq_true rfl) (Nat.le_of_ble_eq_true rfl) (Nat.le_of_ble_eq_true rfl) (Nat.le_of_ble_eq_true rfl) (Nat.le_of_ble_eq_true rfl) d_Po_receive_22 d_Po_receive_25 (Or.inl ⟨d_Po_receive_26, rfl⟩) d_Po_receive_28 d_Po_receive_31
