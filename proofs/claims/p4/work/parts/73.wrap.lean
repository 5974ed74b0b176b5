/-! the law's wrappers (written by wip/tools/wrap.py) -/
theorem d_La_point_0 : decode b_La_point 0 = .ok (.aload 5, 2) := by decide +kernel
theorem d_La_point_2 : decode b_La_point 2 = .ok (.iconst 0, 1) := by decide +kernel
theorem d_La_point_3 : decode b_La_point 3 = .ok (.aload_n 0, 1) := by decide +kernel
theorem d_La_point_4 : decode b_La_point 4 = .ok (.iload_n 1, 1) := by decide +kernel
theorem d_La_point_5 : decode b_La_point 5 = .ok (.iload_n 2, 1) := by decide +kernel
theorem d_La_point_6 : decode b_La_point 6 = .ok (.iload_n 3, 1) := by decide +kernel
theorem d_La_point_7 : decode b_La_point 7 = .ok (.iload 4, 2) := by decide +kernel
theorem d_La_point_9 : decode b_La_point 9 = .ok (.invokevirtual 7, 3) := by decide +kernel
theorem d_La_point_12 : decode b_La_point 12 = .ok (.i2l, 1) := by decide +kernel
theorem d_La_point_13 : decode b_La_point 13 = .ok (.lastore, 1) := by decide +kernel
theorem d_La_point_14 : decode b_La_point 14 = .ok (.goto 11, 3) := by decide +kernel
theorem d_La_point_17 : decode b_La_point 17 = .ok (.astore 6, 2) := by decide +kernel
theorem d_La_point_19 : decode b_La_point 19 = .ok (.iconst 1, 1) := by decide +kernel
theorem d_La_point_20 : decode b_La_point 20 = .ok (.ireturn, 1) := by decide +kernel
theorem d_La_point_21 : decode b_La_point 21 = .ok (.astore 6, 2) := by decide +kernel
theorem d_La_point_23 : decode b_La_point 23 = .ok (.iconst 2, 1) := by decide +kernel
theorem d_La_point_24 : decode b_La_point 24 = .ok (.ireturn, 1) := by decide +kernel
theorem d_La_point_25 : decode b_La_point 25 = .ok (.iconst 0, 1) := by decide +kernel
theorem d_La_point_26 : decode b_La_point 26 = .ok (.ireturn, 1) := by decide +kernel
set_option maxRecDepth 100000 in
set_option maxHeartbeats 4000000 in
theorem c_La_point (l : Launch) (D : va_G) (ca : Nat → ClassId) (L : List Nat) (f0 : Nat → va_E) (sz : Nat) (o h0 : Nat) {g0 : List (Int32 × Int32)} (hw : pw ca o h0 L f0 (fun g => g = g0)) (x1 : Int32) (x2 : Int32) (x3 : Int32) (x4 : Int32) (p4 : x4 = 0 ∨ x4 = 1) (hfl : l.flags = Jvm.pinnedFlags ++ [Jvm.noTraceFlag]) :
    Met l y_La_point (Cond.codeWith y_La_point b_La_point 7 (some .int) [(0, 14, 17, 13), (0, 14, 21, 15)] :: wg) { frames := 7, cells := 1, slots := 6, locals := 106 } (va_Pc [.ref h0, .int (x1), .int (x2), .int (x3), .int (x4), .ref o] (sm_P D cl_all (ty_s ca) ek3 (o :: L) f0 sz)) (sm_Qi D (ty_s ca) (o :: L) f0 sz (fun r u => ∃ L1 : List Nat, u.1 = o :: L1 ∧ pw ca o h0 L1 u.2 (fun g => (r = 0 → g = g0 ++ [(x1, x2)]) ∧ (¬ r = 0 → g = g0)) ∧ (pt_is g0 x1 x2 x3 x4 r ∧ (r = 0 → ∃ gg : Nat → Int64, u.2 o = .inl (ca 1, 1, .inr (.inl gg)) ∧ gg 0 = (nI g0.length).toInt64)))) 1 6 (va_A (va_pl (o :: L) f0) sz) := by
  obtain ⟨hoL, ⟨gg, ho⟩, T, g1, hT, t0, hg1⟩ := hw
  subst hg1
  refine sm_startW (by decide) (Nat.le_of_ble_eq_true rfl) ?_
  intro p e s m below meth c ls hx hb hml hr hlk htab hts hown hsz hE3 hI hl
  have hl : lv_has ls 7 [(0, .ref h0), (1, .int (x1)), (2, .int (x2)), (3, .int (x3)), (4, .int (x4)), (5, .ref o)] := hl
  obtain ⟨hL0, v0, v1, v3, v4, v5, v6, v7, v8, v9, v10, v11, v12, v13, v14, e0, -⟩ := ok_po_at hT t0
  refine lv_aload hx hb d_La_point_0 (lv_at hl 5 rfl) ?_
  refine lv_iconst (v := 0) hx hb d_La_point_2 (by decide) ?_
  refine lv_aload_n hx hb d_La_point_3 rfl (lv_at hl 0 rfl) ?_
  refine lv_iload_n hx hb d_La_point_4 rfl (lv_at hl 1 rfl) ?_
  refine lv_iload_n hx hb d_La_point_5 rfl (lv_at hl 2 rfl) ?_
  refine lv_iload_n hx hb d_La_point_6 rfl (lv_at hl 3 rfl) ?_
  refine lv_iload hx hb d_La_point_7 (lv_at hl 4 rfl) ?_
  refine sd_try (L := [o]) (K := L) (own := "TelecontrolPostLaw") (n1 := 17) (n2 := 21) (r1 := { startPc := 0, endPc := 14, handlerPc := 17, catchType := 13 }) (rows := [{ startPc := 0, endPc := 14, handlerPc := 21, catchType := 15 }]) hts hown hE3 hI (va_tryV (As := [.int (x1), .int (x2), .int (x3), .int (x4)]) (rest := [.int (0), .ref o]) ⟨hx, hb, hml, hown, hts⟩ (c_Po_point l D ca T L _ _ hT h0 t0 x1 x2 x3 x4 p4 hfl) (kv_Po_point hts rfl rfl (hts _ tw_420) ⟨Nat.le_of_ble_eq_true rfl, Nat.le_of_ble_eq_true rfl⟩) (sd_preV3 (q := (R_Po, F_Po, 15)) (L := [o]) hI hE3 (List.mem_append_right _ hL0) e0 rfl) rfl rfl hl.1 rfl (lv_room (Nat.le_of_ble_eq_true rfl)) d_La_point_9 ⟨Nat.le_of_ble_eq_true rfl, Nat.le_of_ble_eq_true rfl⟩) (fun _ _ _ h9 => qi_R h9) htab (by decide) tw_418 (by decide) rfl (fun _ => ⟨_, _, rfl, by decide, tw_419, by decide, rfl⟩) (by decide) ?_ ?_ ?_
  · intro v u H locs hR hI hd
    obtain ⟨rr, rfl, hp⟩ := hR
    obtain ⟨rfl, hgd, hnt, hTT⟩ := hp
    have hw := (pw_imp (G2 := fun g => ((0 : Int32) = 0 → g = g1 ++ [(x1, x2)]) ∧ (¬ (0 : Int32) = 0 → g = g1)) (pw_x ho hd hTT.choose_spec.1 hTT.choose_spec.2 (G := fun g => g = g1 ++ [(x1, x2)]) rfl) (fun _ h9 => ⟨fun _ => h9, fun z9 => absurd rfl z9⟩))
    obtain ⟨-, ⟨gg2, ho2⟩, -⟩ := id hw
    refine lv_i2l hx hb d_La_point_12 rfl ?_
    refine sw_last hx hb hI List.mem_cons_self 1 ho2 rfl (by unfold vp_in; decide) d_La_point_13 (fun H locs hI => ?_)
    have hw := fun gg3 => pw_st (gg2 := gg3) hw
    refine lv_goto (tgt := 25) hx hb d_La_point_14 (by decide) ?_
    refine lv_iconst (v := 0) hx hb d_La_point_25 (by decide) ?_
    refine W.widen (k := 1) (n := 6) (by decide) (by decide) ?_
    exact sm_iret hx hb hr hlk hI ⟨u.1, rfl, hw _, ⟨Or.inr (Or.inr ⟨hgd, hnt, rfl⟩), fun _ => ⟨_, va_up_self _ _ _, by simp [vp_updL]⟩⟩⟩ d_La_point_26
  · intro x u H locs hp hI hd
    have hw := (pw_imp (G2 := fun g => ((1 : Int32) = 0 → g = g1 ++ [(x1, x2)]) ∧ (¬ (1 : Int32) = 0 → g = g1)) (pw_m ho hd hp.2 t0) (fun _ h9 => ⟨fun z9 => absurd z9 (by decide), fun _ => h9⟩))
    refine lv_astore (lv' := [(6, .ref x), (0, .ref h0), (1, .int (x1)), (2, .int (x2)), (3, .int (x3)), (4, .int (x4)), (5, .ref o)]) hx hb d_La_point_17 hl (by decide) rfl (fun ls hl => ?_)
    refine lv_iconst (v := 1) hx hb d_La_point_19 (by decide) ?_
    refine W.widen (k := 1) (n := 6) (by decide) (by decide) ?_
    exact sm_iret hx hb hr hlk hI ⟨u.1, rfl, hw, ⟨Or.inl ⟨hp.1.elim (fun z9 => z9.2) (fun z9 => absurd z9.1 (by decide)), rfl⟩, fun z9 => absurd z9 (by decide)⟩⟩ d_La_point_20
  · intro _ x u H locs hp hI hd
    have hw := (pw_imp (G2 := fun g => ((2 : Int32) = 0 → g = g1 ++ [(x1, x2)]) ∧ (¬ (2 : Int32) = 0 → g = g1)) (pw_m ho hd hp.2 t0) (fun _ h9 => ⟨fun z9 => absurd z9 (by decide), fun _ => h9⟩))
    refine lv_astore (lv' := [(6, .ref x), (0, .ref h0), (1, .int (x1)), (2, .int (x2)), (3, .int (x3)), (4, .int (x4)), (5, .ref o)]) hx hb d_La_point_21 hl (by decide) rfl (fun ls hl => ?_)
    refine lv_iconst (v := 2) hx hb d_La_point_23 (by decide) ?_
    refine W.widen (k := 1) (n := 6) (by decide) (by decide) ?_
    exact sm_iret hx hb hr hlk hI ⟨u.1, rfl, hw, ⟨Or.inr (Or.inl ⟨hp.1.elim (fun z9 => absurd z9.1 (by decide)) (fun z9 => z9.2.1), hp.1.elim (fun z9 => absurd z9.1 (by decide)) (fun z9 => z9.2.2), rfl⟩), fun z9 => absurd z9 (by decide)⟩⟩ d_La_point_24
theorem d_La_serial_0 : decode b_La_serial 0 = .ok (.aload_n 0, 1) := by decide +kernel
theorem d_La_serial_1 : decode b_La_serial 1 = .ok (.iload_n 1, 1) := by decide +kernel
theorem d_La_serial_2 : decode b_La_serial 2 = .ok (.iload_n 2, 1) := by decide +kernel
theorem d_La_serial_3 : decode b_La_serial 3 = .ok (.iload_n 3, 1) := by decide +kernel
theorem d_La_serial_4 : decode b_La_serial 4 = .ok (.iload 4, 2) := by decide +kernel
theorem d_La_serial_6 : decode b_La_serial 6 = .ok (.invokevirtual 17, 3) := by decide +kernel
theorem d_La_serial_9 : decode b_La_serial 9 = .ok (.goto 7, 3) := by decide +kernel
theorem d_La_serial_12 : decode b_La_serial 12 = .ok (.astore 5, 2) := by decide +kernel
theorem d_La_serial_14 : decode b_La_serial 14 = .ok (.iconst 1, 1) := by decide +kernel
theorem d_La_serial_15 : decode b_La_serial 15 = .ok (.ireturn, 1) := by decide +kernel
theorem d_La_serial_16 : decode b_La_serial 16 = .ok (.iconst 0, 1) := by decide +kernel
theorem d_La_serial_17 : decode b_La_serial 17 = .ok (.ireturn, 1) := by decide +kernel
set_option maxRecDepth 100000 in
set_option maxHeartbeats 4000000 in
theorem c_La_serial (l : Launch) (D : va_G) (ca : Nat → ClassId) (L : List Nat) (f0 : Nat → va_E) (sz : Nat) (o h0 : Nat) {g0 : List (Int32 × Int32)} (hw : pw ca o h0 L f0 (fun g => g = g0)) (x1 : Int32) (x2 : Int32) (x3 : Int32) (x4 : Int32) (hfl : l.flags = Jvm.pinnedFlags ++ [Jvm.noTraceFlag]) :
    Met l y_La_serial (Cond.codeWith y_La_serial b_La_serial 6 (some .int) [(0, 9, 12, 13)] :: wg) { frames := 7, cells := 1, slots := 6, locals := 106 } (va_Pc [.ref h0, .int (x1), .int (x2), .int (x3), .int (x4)] (sm_P D cl_all (ty_s ca) ek3 (o :: L) f0 sz)) (sm_Qi D (ty_s ca) (o :: L) f0 sz (fun r u => ∃ L1 : List Nat, u.1 = o :: L1 ∧ pw ca o h0 L1 u.2 (fun g => g = g0) ∧ (True))) 1 6 (va_A (va_pl (o :: L) f0) sz) := by
  obtain ⟨hoL, ⟨gg, ho⟩, T, g1, hT, t0, hg1⟩ := hw
  subst hg1
  refine sm_startW (by decide) (Nat.le_of_ble_eq_true rfl) ?_
  intro p e s m below meth c ls hx hb hml hr hlk htab hts hown hsz hE3 hI hl
  have hl : lv_has ls 6 [(0, .ref h0), (1, .int (x1)), (2, .int (x2)), (3, .int (x3)), (4, .int (x4))] := hl
  obtain ⟨hL0, v0, v1, v3, v4, v5, v6, v7, v8, v9, v10, v11, v12, v13, v14, e0, -⟩ := ok_po_at hT t0
  refine lv_aload_n hx hb d_La_serial_0 rfl (lv_at hl 0 rfl) ?_
  refine lv_iload_n hx hb d_La_serial_1 rfl (lv_at hl 1 rfl) ?_
  refine lv_iload_n hx hb d_La_serial_2 rfl (lv_at hl 2 rfl) ?_
  refine lv_iload_n hx hb d_La_serial_3 rfl (lv_at hl 3 rfl) ?_
  refine lv_iload hx hb d_La_serial_4 (lv_at hl 4 rfl) ?_
  refine sd_try (L := [o]) (K := L) (own := "TelecontrolPostLaw") (n1 := 12) (n2 := 0) (r1 := { startPc := 0, endPc := 9, handlerPc := 12, catchType := 13 }) (rows := []) hts hown hE3 hI (va_tryV (As := [.int (x1), .int (x2), .int (x3), .int (x4)]) (rest := []) ⟨hx, hb, hml, hown, hts⟩ (c_Po_serial l D ca T L _ _ hT h0 t0 x1 x2 x3 x4 hfl) (kv_Po_serial hts rfl rfl (hts _ tw_547) ⟨Nat.le_of_ble_eq_true rfl, Nat.le_of_ble_eq_true rfl⟩) (sd_preV3 (q := (R_Po, F_Po, 15)) (L := [o]) hI hE3 (List.mem_append_right _ hL0) e0 rfl) rfl rfl hl.1 rfl (lv_room (Nat.le_of_ble_eq_true rfl)) d_La_serial_6 ⟨Nat.le_of_ble_eq_true rfl, Nat.le_of_ble_eq_true rfl⟩) (fun _ _ _ h9 => qv_R h9) htab (by decide) tw_418 (by decide) rfl (fun h9 => absurd h9 (by decide)) (by decide) ?_ ?_ ?_
  · intro v u H locs hR hI hd
    obtain ⟨rfl, hp⟩ := hR
    have hw := (pw_m ho hd hp t0)
    refine lv_goto (tgt := 16) hx hb d_La_serial_9 (by decide) ?_
    refine lv_iconst (v := 0) hx hb d_La_serial_16 (by decide) ?_
    refine W.widen (k := 1) (n := 6) (by decide) (by decide) ?_
    exact sm_iret hx hb hr hlk hI ⟨u.1, rfl, hw, trivial⟩ d_La_serial_17
  · intro x u H locs hp hI hd
    have hw := (pw_m ho hd hp.2 t0)
    refine lv_astore (lv' := [(5, .ref x), (0, .ref h0), (1, .int (x1)), (2, .int (x2)), (3, .int (x3)), (4, .int (x4))]) hx hb d_La_serial_12 hl (by decide) rfl (fun ls hl => ?_)
    refine lv_iconst (v := 1) hx hb d_La_serial_14 (by decide) ?_
    refine W.widen (k := 1) (n := 6) (by decide) (by decide) ?_
    exact sm_iret hx hb hr hlk hI ⟨u.1, rfl, hw, trivial⟩ d_La_serial_15
  · exact fun h9 => absurd h9 (by decide)
theorem d_La_change_0 : decode b_La_change 0 = .ok (.aload_n 0, 1) := by decide +kernel
theorem d_La_change_1 : decode b_La_change 1 = .ok (.iload_n 1, 1) := by decide +kernel
theorem d_La_change_2 : decode b_La_change 2 = .ok (.iload_n 2, 1) := by decide +kernel
theorem d_La_change_3 : decode b_La_change 3 = .ok (.iload_n 3, 1) := by decide +kernel
theorem d_La_change_4 : decode b_La_change 4 = .ok (.iload 4, 2) := by decide +kernel
theorem d_La_change_6 : decode b_La_change 6 = .ok (.invokevirtual 21, 3) := by decide +kernel
theorem d_La_change_9 : decode b_La_change 9 = .ok (.goto 7, 3) := by decide +kernel
theorem d_La_change_12 : decode b_La_change 12 = .ok (.astore 5, 2) := by decide +kernel
theorem d_La_change_14 : decode b_La_change 14 = .ok (.iconst 1, 1) := by decide +kernel
theorem d_La_change_15 : decode b_La_change 15 = .ok (.ireturn, 1) := by decide +kernel
theorem d_La_change_16 : decode b_La_change 16 = .ok (.iconst 0, 1) := by decide +kernel
theorem d_La_change_17 : decode b_La_change 17 = .ok (.ireturn, 1) := by decide +kernel
set_option maxRecDepth 100000 in
set_option maxHeartbeats 4000000 in
theorem c_La_change (l : Launch) (D : va_G) (ca : Nat → ClassId) (L : List Nat) (f0 : Nat → va_E) (sz : Nat) (o h0 : Nat) {g0 : List (Int32 × Int32)} (hw : pw ca o h0 L f0 (fun g => g = g0)) (x1 : Int32) (x2 : Int32) (x3 : Int32) (x4 : Int32) (p4 : x4 = 0 ∨ x4 = 1) (hfl : l.flags = Jvm.pinnedFlags ++ [Jvm.noTraceFlag]) :
    Met l y_La_change (Cond.codeWith y_La_change b_La_change 6 (some .int) [(0, 9, 12, 13)] :: wg) { frames := 7, cells := 1, slots := 6, locals := 144 } (va_Pc [.ref h0, .int (x1), .int (x2), .int (x3), .int (x4)] (sm_P D cl_all (ty_s ca) ek3 (o :: L) f0 sz)) (sm_Qi D (ty_s ca) (o :: L) f0 sz (fun r u => ∃ L1 : List Nat, u.1 = o :: L1 ∧ pw ca o h0 L1 u.2 (fun g => g = g0) ∧ (ch_is g0 x1 x2 x3 r))) 1 6 (va_A (va_pl (o :: L) f0) sz) := by
  obtain ⟨hoL, ⟨gg, ho⟩, T, g1, hT, t0, hg1⟩ := hw
  subst hg1
  refine sm_startW (by decide) (Nat.le_of_ble_eq_true rfl) ?_
  intro p e s m below meth c ls hx hb hml hr hlk htab hts hown hsz hE3 hI hl
  have hl : lv_has ls 6 [(0, .ref h0), (1, .int (x1)), (2, .int (x2)), (3, .int (x3)), (4, .int (x4))] := hl
  obtain ⟨hL0, v0, v1, v3, v4, v5, v6, v7, v8, v9, v10, v11, v12, v13, v14, e0, -⟩ := ok_po_at hT t0
  refine lv_aload_n hx hb d_La_change_0 rfl (lv_at hl 0 rfl) ?_
  refine lv_iload_n hx hb d_La_change_1 rfl (lv_at hl 1 rfl) ?_
  refine lv_iload_n hx hb d_La_change_2 rfl (lv_at hl 2 rfl) ?_
  refine lv_iload_n hx hb d_La_change_3 rfl (lv_at hl 3 rfl) ?_
  refine lv_iload hx hb d_La_change_4 (lv_at hl 4 rfl) ?_
  refine sd_try (L := [o]) (K := L) (own := "TelecontrolPostLaw") (n1 := 12) (n2 := 0) (r1 := { startPc := 0, endPc := 9, handlerPc := 12, catchType := 13 }) (rows := []) hts hown hE3 hI (va_tryV (As := [.int (x1), .int (x2), .int (x3), .int (x4)]) (rest := []) ⟨hx, hb, hml, hown, hts⟩ (c_Po_change2 l D ca T L _ _ hT h0 t0 x1 x2 x3 x4 p4 hfl) (kv_Po_change hts rfl rfl (hts _ tw_583) ⟨Nat.le_of_ble_eq_true rfl, Nat.le_of_ble_eq_true rfl⟩) (sd_preV3 (q := (R_Po, F_Po, 15)) (L := [o]) hI hE3 (List.mem_append_right _ hL0) e0 rfl) rfl rfl hl.1 rfl (lv_room (Nat.le_of_ble_eq_true rfl)) d_La_change_6 ⟨Nat.le_of_ble_eq_true rfl, Nat.le_of_ble_eq_true rfl⟩) (fun _ _ _ h9 => qv_R h9) htab (by decide) tw_418 (by decide) rfl (fun h9 => absurd h9 (by decide)) (by decide) ?_ ?_ ?_
  · intro v u H locs hR hI hd
    obtain ⟨rfl, hp⟩ := hR
    have hw := (pw_m ho hd hp.2 t0)
    refine lv_goto (tgt := 16) hx hb d_La_change_9 (by decide) ?_
    refine lv_iconst (v := 0) hx hb d_La_change_16 (by decide) ?_
    refine W.widen (k := 1) (n := 6) (by decide) (by decide) ?_
    exact sm_iret hx hb hr hlk hI ⟨u.1, rfl, hw, (Or.inl ⟨hp.1, rfl⟩)⟩ d_La_change_17
  · intro x u H locs hp hI hd
    have hw := (pw_m ho hd hp.2 t0)
    refine lv_astore (lv' := [(5, .ref x), (0, .ref h0), (1, .int (x1)), (2, .int (x2)), (3, .int (x3)), (4, .int (x4))]) hx hb d_La_change_12 hl (by decide) rfl (fun ls hl => ?_)
    refine lv_iconst (v := 1) hx hb d_La_change_14 (by decide) ?_
    refine W.widen (k := 1) (n := 6) (by decide) (by decide) ?_
    exact sm_iret hx hb hr hlk hI ⟨u.1, rfl, hw, (Or.inr ⟨hp.1, rfl⟩)⟩ d_La_change_15
  · exact fun h9 => absurd h9 (by decide)
theorem d_La_clock_0 : decode b_La_clock 0 = .ok (.aload_n 0, 1) := by decide +kernel
theorem d_La_clock_1 : decode b_La_clock 1 = .ok (.lload_n 1, 1) := by decide +kernel
theorem d_La_clock_2 : decode b_La_clock 2 = .ok (.invokevirtual 25, 3) := by decide +kernel
theorem d_La_clock_5 : decode b_La_clock 5 = .ok (.goto 6, 3) := by decide +kernel
theorem d_La_clock_8 : decode b_La_clock 8 = .ok (.astore_n 3, 1) := by decide +kernel
theorem d_La_clock_9 : decode b_La_clock 9 = .ok (.iconst 1, 1) := by decide +kernel
theorem d_La_clock_10 : decode b_La_clock 10 = .ok (.ireturn, 1) := by decide +kernel
theorem d_La_clock_11 : decode b_La_clock 11 = .ok (.iconst 0, 1) := by decide +kernel
theorem d_La_clock_12 : decode b_La_clock 12 = .ok (.ireturn, 1) := by decide +kernel
set_option maxRecDepth 100000 in
set_option maxHeartbeats 4000000 in
theorem c_La_clock (l : Launch) (D : va_G) (ca : Nat → ClassId) (L : List Nat) (f0 : Nat → va_E) (sz : Nat) (o h0 : Nat) {g0 : List (Int32 × Int32)} (hw : pw ca o h0 L f0 (fun g => g = g0)) (x1 : Int64) (hfl : l.flags = Jvm.pinnedFlags ++ [Jvm.noTraceFlag]) :
    Met l y_La_clock (Cond.codeWith y_La_clock b_La_clock 4 (some .int) [(0, 5, 8, 13)] :: wg) { frames := 7, cells := 1, slots := 6, locals := 104 } (va_Pc [.ref h0, .long (x1)] (sm_P D cl_all (ty_s ca) ek3 (o :: L) f0 sz)) (sm_Qi D (ty_s ca) (o :: L) f0 sz (fun r u => ∃ L1 : List Nat, u.1 = o :: L1 ∧ pw ca o h0 L1 u.2 (fun g => g = g0) ∧ (r = if (0 ≤ x1 ∧ x1 ≤ 3155759999999) then 0 else 1))) 1 6 (va_A (va_pl (o :: L) f0) sz) := by
  obtain ⟨hoL, ⟨gg, ho⟩, T, g1, hT, t0, hg1⟩ := hw
  subst hg1
  refine sm_startW (by decide) (Nat.le_of_ble_eq_true rfl) ?_
  intro p e s m below meth c ls hx hb hml hr hlk htab hts hown hsz hE3 hI hl
  have hl : lv_has ls 4 [(0, .ref h0), (1, .long (x1))] := hl
  obtain ⟨hL0, v0, v1, v3, v4, v5, v6, v7, v8, v9, v10, v11, v12, v13, v14, e0, -⟩ := ok_po_at hT t0
  refine lv_aload_n hx hb d_La_clock_0 rfl (lv_at hl 0 rfl) ?_
  refine lv_lload_n hx hb d_La_clock_1 rfl (lv_at hl 1 rfl) ?_
  refine sd_try (L := [o]) (K := L) (own := "TelecontrolPostLaw") (n1 := 8) (n2 := 0) (r1 := { startPc := 0, endPc := 5, handlerPc := 8, catchType := 13 }) (rows := []) hts hown hE3 hI (va_tryV (As := [.long (x1)]) (rest := []) ⟨hx, hb, hml, hown, hts⟩ (c_Po_clock l D ca T L _ _ hT h0 t0 x1 hfl) (kv_Po_clock hts rfl rfl (hts _ tw_751) ⟨Nat.le_of_ble_eq_true rfl, Nat.le_of_ble_eq_true rfl⟩) (sd_preV3 (q := (R_Po, F_Po, 15)) (L := [o]) hI hE3 (List.mem_append_right _ hL0) e0 rfl) rfl rfl hl.1 rfl (lv_room (Nat.le_of_ble_eq_true rfl)) d_La_clock_2 ⟨Nat.le_of_ble_eq_true rfl, Nat.le_of_ble_eq_true rfl⟩) (fun _ _ _ h9 => qv_R h9) htab (by decide) tw_418 (by decide) rfl (fun h9 => absurd h9 (by decide)) (by decide) ?_ ?_ ?_
  · intro v u H locs hR hI hd
    obtain ⟨rfl, hp⟩ := hR
    have hw := (pw_m ho hd hp.2 t0)
    refine lv_goto (tgt := 11) hx hb d_La_clock_5 (by decide) ?_
    refine lv_iconst (v := 0) hx hb d_La_clock_11 (by decide) ?_
    refine W.widen (k := 1) (n := 6) (by decide) (by decide) ?_
    exact sm_iret hx hb hr hlk hI ⟨u.1, rfl, hw, (if_pos hp.1).symm⟩ d_La_clock_12
  · intro x u H locs hp hI hd
    have hw := (pw_m ho hd hp.2 t0)
    refine lv_astore_n (lv' := [(3, .ref x), (0, .ref h0), (1, .long (x1))]) hx hb d_La_clock_8 rfl hl (by decide) rfl (fun ls hl => ?_)
    refine lv_iconst (v := 1) hx hb d_La_clock_9 (by decide) ?_
    refine W.widen (k := 1) (n := 6) (by decide) (by decide) ?_
    exact sm_iret hx hb hr hlk hI ⟨u.1, rfl, hw, (if_neg hp.1).symm⟩ d_La_clock_10
  · exact fun h9 => absurd h9 (by decide)
theorem d_La_advance_0 : decode b_La_advance 0 = .ok (.aload_n 2, 1) := by decide +kernel
theorem d_La_advance_1 : decode b_La_advance 1 = .ok (.iconst 0, 1) := by decide +kernel
theorem d_La_advance_2 : decode b_La_advance 2 = .ok (.aload_n 0, 1) := by decide +kernel
theorem d_La_advance_3 : decode b_La_advance 3 = .ok (.iload_n 1, 1) := by decide +kernel
theorem d_La_advance_4 : decode b_La_advance 4 = .ok (.invokevirtual 29, 3) := by decide +kernel
theorem d_La_advance_7 : decode b_La_advance 7 = .ok (.i2l, 1) := by decide +kernel
theorem d_La_advance_8 : decode b_La_advance 8 = .ok (.lastore, 1) := by decide +kernel
theorem d_La_advance_9 : decode b_La_advance 9 = .ok (.goto 6, 3) := by decide +kernel
theorem d_La_advance_12 : decode b_La_advance 12 = .ok (.astore_n 3, 1) := by decide +kernel
theorem d_La_advance_13 : decode b_La_advance 13 = .ok (.iconst 1, 1) := by decide +kernel
theorem d_La_advance_14 : decode b_La_advance 14 = .ok (.ireturn, 1) := by decide +kernel
theorem d_La_advance_15 : decode b_La_advance 15 = .ok (.iconst 0, 1) := by decide +kernel
theorem d_La_advance_16 : decode b_La_advance 16 = .ok (.ireturn, 1) := by decide +kernel
set_option maxRecDepth 100000 in
set_option maxHeartbeats 4000000 in
theorem c_La_advance (l : Launch) (D : va_G) (ca : Nat → ClassId) (L : List Nat) (f0 : Nat → va_E) (sz : Nat) (o h0 : Nat) {g0 : List (Int32 × Int32)} (hw : pw ca o h0 L f0 (fun g => g = g0)) (x1 : Int32) (hfl : l.flags = Jvm.pinnedFlags ++ [Jvm.noTraceFlag]) :
    Met l y_La_advance (Cond.codeWith y_La_advance b_La_advance 4 (some .int) [(0, 9, 12, 13)] :: wg) { frames := 7, cells := 1, slots := 6, locals := 150 } (va_Pc [.ref h0, .int (x1), .ref o] (sm_P D cl_all (ty_s ca) ek3 (o :: L) f0 sz)) (sm_Qi D (ty_s ca) (o :: L) f0 sz (fun r u => ∃ L1 : List Nat, u.1 = o :: L1 ∧ pw ca o h0 L1 u.2 (fun g => g = g0) ∧ (True))) 1 6 (va_A (va_pl (o :: L) f0) sz) := by
  obtain ⟨hoL, ⟨gg, ho⟩, T, g1, hT, t0, hg1⟩ := hw
  subst hg1
  refine sm_startW (by decide) (Nat.le_of_ble_eq_true rfl) ?_
  intro p e s m below meth c ls hx hb hml hr hlk htab hts hown hsz hE3 hI hl
  have hl : lv_has ls 4 [(0, .ref h0), (1, .int (x1)), (2, .ref o)] := hl
  obtain ⟨hL0, v0, v1, v3, v4, v5, v6, v7, v8, v9, v10, v11, v12, v13, v14, e0, -⟩ := ok_po_at hT t0
  refine lv_aload_n hx hb d_La_advance_0 rfl (lv_at hl 2 rfl) ?_
  refine lv_iconst (v := 0) hx hb d_La_advance_1 (by decide) ?_
  refine lv_aload_n hx hb d_La_advance_2 rfl (lv_at hl 0 rfl) ?_
  refine lv_iload_n hx hb d_La_advance_3 rfl (lv_at hl 1 rfl) ?_
  refine sd_try (L := [o]) (K := L) (own := "TelecontrolPostLaw") (n1 := 12) (n2 := 0) (r1 := { startPc := 0, endPc := 9, handlerPc := 12, catchType := 13 }) (rows := []) hts hown hE3 hI (va_tryV (As := [.int (x1)]) (rest := [.int (0), .ref o]) ⟨hx, hb, hml, hown, hts⟩ (c_Po_advance l D ca T L _ _ hT h0 t0 x1 hfl) (kv_Po_advance hts rfl rfl (hts _ tw_760) ⟨Nat.le_of_ble_eq_true rfl, Nat.le_of_ble_eq_true rfl⟩) (sd_preV3 (q := (R_Po, F_Po, 15)) (L := [o]) hI hE3 (List.mem_append_right _ hL0) e0 rfl) rfl rfl hl.1 rfl (lv_room (Nat.le_of_ble_eq_true rfl)) d_La_advance_4 ⟨Nat.le_of_ble_eq_true rfl, Nat.le_of_ble_eq_true rfl⟩) (fun _ _ _ h9 => qi_R h9) htab (by decide) tw_418 (by decide) rfl (fun h9 => absurd h9 (by decide)) (by decide) ?_ ?_ ?_
  · intro v u H locs hR hI hd
    obtain ⟨rr, rfl, hp⟩ := hR
    have hw := (pw_m ho hd hp.2 t0)
    obtain ⟨-, ⟨gg2, ho2⟩, -⟩ := id hw
    refine lv_i2l hx hb d_La_advance_7 rfl ?_
    refine sw_last hx hb hI List.mem_cons_self 1 ho2 rfl (by unfold vp_in; decide) d_La_advance_8 (fun H locs hI => ?_)
    have hw := fun gg3 => pw_st (gg2 := gg3) hw
    refine lv_goto (tgt := 15) hx hb d_La_advance_9 (by decide) ?_
    refine lv_iconst (v := 0) hx hb d_La_advance_15 (by decide) ?_
    refine W.widen (k := 1) (n := 6) (by decide) (by decide) ?_
    exact sm_iret hx hb hr hlk hI ⟨u.1, rfl, hw _, trivial⟩ d_La_advance_16
  · intro x u H locs hp hI hd
    have hw := (pw_m ho hd hp.2 t0)
    refine lv_astore_n (lv' := [(3, .ref x), (0, .ref h0), (1, .int (x1)), (2, .ref o)]) hx hb d_La_advance_12 rfl hl (by decide) rfl (fun ls hl => ?_)
    refine lv_iconst (v := 1) hx hb d_La_advance_13 (by decide) ?_
    refine W.widen (k := 1) (n := 6) (by decide) (by decide) ?_
    exact sm_iret hx hb hr hlk hI ⟨u.1, rfl, hw, trivial⟩ d_La_advance_14
  · exact fun h9 => absurd h9 (by decide)
theorem d_La_open_0 : decode b_La_open 0 = .ok (.aload_n 0, 1) := by decide +kernel
theorem d_La_open_1 : decode b_La_open 1 = .ok (.iload_n 1, 1) := by decide +kernel
theorem d_La_open_2 : decode b_La_open 2 = .ok (.invokevirtual 33, 3) := by decide +kernel
theorem d_La_open_5 : decode b_La_open 5 = .ok (.goto 9, 3) := by decide +kernel
theorem d_La_open_8 : decode b_La_open 8 = .ok (.astore_n 2, 1) := by decide +kernel
theorem d_La_open_9 : decode b_La_open 9 = .ok (.iconst 1, 1) := by decide +kernel
theorem d_La_open_10 : decode b_La_open 10 = .ok (.ireturn, 1) := by decide +kernel
theorem d_La_open_11 : decode b_La_open 11 = .ok (.astore_n 2, 1) := by decide +kernel
theorem d_La_open_12 : decode b_La_open 12 = .ok (.iconst 2, 1) := by decide +kernel
theorem d_La_open_13 : decode b_La_open 13 = .ok (.ireturn, 1) := by decide +kernel
theorem d_La_open_14 : decode b_La_open 14 = .ok (.iconst 0, 1) := by decide +kernel
theorem d_La_open_15 : decode b_La_open 15 = .ok (.ireturn, 1) := by decide +kernel
set_option maxRecDepth 100000 in
set_option maxHeartbeats 4000000 in
theorem c_La_open (l : Launch) (D : va_G) (ca : Nat → ClassId) (L : List Nat) (f0 : Nat → va_E) (sz : Nat) (o h0 : Nat) {g0 : List (Int32 × Int32)} (hw : pw ca o h0 L f0 (fun g => g = g0)) (x1 : Int32) (hfl : l.flags = Jvm.pinnedFlags ++ [Jvm.noTraceFlag]) :
    Met l y_La_open (Cond.codeWith y_La_open b_La_open 3 (some .int) [(0, 5, 8, 13), (0, 5, 11, 15)] :: wg) { frames := 7, cells := 1, slots := 6, locals := 103 } (va_Pc [.ref h0, .int (x1)] (sm_P D cl_all (ty_s ca) ek3 (o :: L) f0 sz)) (sm_Qi D (ty_s ca) (o :: L) f0 sz (fun r u => ∃ L1 : List Nat, u.1 = o :: L1 ∧ pw ca o h0 L1 u.2 (fun g => g = g0) ∧ (True))) 1 6 (va_A (va_pl (o :: L) f0) sz) := by
  obtain ⟨hoL, ⟨gg, ho⟩, T, g1, hT, t0, hg1⟩ := hw
  subst hg1
  refine sm_startW (by decide) (Nat.le_of_ble_eq_true rfl) ?_
  intro p e s m below meth c ls hx hb hml hr hlk htab hts hown hsz hE3 hI hl
  have hl : lv_has ls 3 [(0, .ref h0), (1, .int (x1))] := hl
  obtain ⟨hL0, v0, v1, v3, v4, v5, v6, v7, v8, v9, v10, v11, v12, v13, v14, e0, -⟩ := ok_po_at hT t0
  refine lv_aload_n hx hb d_La_open_0 rfl (lv_at hl 0 rfl) ?_
  refine lv_iload_n hx hb d_La_open_1 rfl (lv_at hl 1 rfl) ?_
  refine sd_try (L := [o]) (K := L) (own := "TelecontrolPostLaw") (n1 := 8) (n2 := 11) (r1 := { startPc := 0, endPc := 5, handlerPc := 8, catchType := 13 }) (rows := [{ startPc := 0, endPc := 5, handlerPc := 11, catchType := 15 }]) hts hown hE3 hI (va_tryV (As := [.int (x1)]) (rest := []) ⟨hx, hb, hml, hown, hts⟩ (c_Po_open l D ca T L _ _ hT h0 t0 x1 hfl) (kv_Po_open hts rfl rfl (hts _ tw_806) ⟨Nat.le_of_ble_eq_true rfl, Nat.le_of_ble_eq_true rfl⟩) (sd_preV3 (q := (R_Po, F_Po, 15)) (L := [o]) hI hE3 (List.mem_append_right _ hL0) e0 rfl) rfl rfl hl.1 rfl (lv_room (Nat.le_of_ble_eq_true rfl)) d_La_open_2 ⟨Nat.le_of_ble_eq_true rfl, Nat.le_of_ble_eq_true rfl⟩) (fun _ _ _ h9 => qv_R h9) htab (by decide) tw_418 (by decide) rfl (fun _ => ⟨_, _, rfl, by decide, tw_419, by decide, rfl⟩) (by decide) ?_ ?_ ?_
  · intro v u H locs hR hI hd
    obtain ⟨rfl, hp⟩ := hR
    have hw := (pw_m ho hd hp t0)
    refine lv_goto (tgt := 14) hx hb d_La_open_5 (by decide) ?_
    refine lv_iconst (v := 0) hx hb d_La_open_14 (by decide) ?_
    refine W.widen (k := 1) (n := 6) (by decide) (by decide) ?_
    exact sm_iret hx hb hr hlk hI ⟨u.1, rfl, hw, trivial⟩ d_La_open_15
  · intro x u H locs hp hI hd
    have hw := (pw_m ho hd hp.2 t0)
    refine lv_astore_n (lv' := [(2, .ref x), (0, .ref h0), (1, .int (x1))]) hx hb d_La_open_8 rfl hl (by decide) rfl (fun ls hl => ?_)
    refine lv_iconst (v := 1) hx hb d_La_open_9 (by decide) ?_
    refine W.widen (k := 1) (n := 6) (by decide) (by decide) ?_
    exact sm_iret hx hb hr hlk hI ⟨u.1, rfl, hw, trivial⟩ d_La_open_10
  · intro _ x u H locs hp hI hd
    have hw := (pw_m ho hd hp.2 t0)
    refine lv_astore_n (lv' := [(2, .ref x), (0, .ref h0), (1, .int (x1))]) hx hb d_La_open_11 rfl hl (by decide) rfl (fun ls hl => ?_)
    refine lv_iconst (v := 2) hx hb d_La_open_12 (by decide) ?_
    refine W.widen (k := 1) (n := 6) (by decide) (by decide) ?_
    exact sm_iret hx hb hr hlk hI ⟨u.1, rfl, hw, trivial⟩ d_La_open_13
theorem d_La_close_0 : decode b_La_close 0 = .ok (.aload_n 0, 1) := by decide +kernel
theorem d_La_close_1 : decode b_La_close 1 = .ok (.iload_n 1, 1) := by decide +kernel
theorem d_La_close_2 : decode b_La_close 2 = .ok (.invokevirtual 37, 3) := by decide +kernel
theorem d_La_close_5 : decode b_La_close 5 = .ok (.goto 9, 3) := by decide +kernel
theorem d_La_close_8 : decode b_La_close 8 = .ok (.astore_n 2, 1) := by decide +kernel
theorem d_La_close_9 : decode b_La_close 9 = .ok (.iconst 1, 1) := by decide +kernel
theorem d_La_close_10 : decode b_La_close 10 = .ok (.ireturn, 1) := by decide +kernel
theorem d_La_close_11 : decode b_La_close 11 = .ok (.astore_n 2, 1) := by decide +kernel
theorem d_La_close_12 : decode b_La_close 12 = .ok (.iconst 2, 1) := by decide +kernel
theorem d_La_close_13 : decode b_La_close 13 = .ok (.ireturn, 1) := by decide +kernel
theorem d_La_close_14 : decode b_La_close 14 = .ok (.iconst 0, 1) := by decide +kernel
theorem d_La_close_15 : decode b_La_close 15 = .ok (.ireturn, 1) := by decide +kernel
set_option maxRecDepth 100000 in
set_option maxHeartbeats 4000000 in
theorem c_La_close (l : Launch) (D : va_G) (ca : Nat → ClassId) (L : List Nat) (f0 : Nat → va_E) (sz : Nat) (o h0 : Nat) {g0 : List (Int32 × Int32)} (hw : pw ca o h0 L f0 (fun g => g = g0)) (x1 : Int32) (hfl : l.flags = Jvm.pinnedFlags ++ [Jvm.noTraceFlag]) :
    Met l y_La_close (Cond.codeWith y_La_close b_La_close 3 (some .int) [(0, 5, 8, 13), (0, 5, 11, 15)] :: wg) { frames := 7, cells := 1, slots := 6, locals := 103 } (va_Pc [.ref h0, .int (x1)] (sm_P D cl_all (ty_s ca) ek3 (o :: L) f0 sz)) (sm_Qi D (ty_s ca) (o :: L) f0 sz (fun r u => ∃ L1 : List Nat, u.1 = o :: L1 ∧ pw ca o h0 L1 u.2 (fun g => g = g0) ∧ (True))) 1 6 (va_A (va_pl (o :: L) f0) sz) := by
  obtain ⟨hoL, ⟨gg, ho⟩, T, g1, hT, t0, hg1⟩ := hw
  subst hg1
  refine sm_startW (by decide) (Nat.le_of_ble_eq_true rfl) ?_
  intro p e s m below meth c ls hx hb hml hr hlk htab hts hown hsz hE3 hI hl
  have hl : lv_has ls 3 [(0, .ref h0), (1, .int (x1))] := hl
  obtain ⟨hL0, v0, v1, v3, v4, v5, v6, v7, v8, v9, v10, v11, v12, v13, v14, e0, -⟩ := ok_po_at hT t0
  refine lv_aload_n hx hb d_La_close_0 rfl (lv_at hl 0 rfl) ?_
  refine lv_iload_n hx hb d_La_close_1 rfl (lv_at hl 1 rfl) ?_
  refine sd_try (L := [o]) (K := L) (own := "TelecontrolPostLaw") (n1 := 8) (n2 := 11) (r1 := { startPc := 0, endPc := 5, handlerPc := 8, catchType := 13 }) (rows := [{ startPc := 0, endPc := 5, handlerPc := 11, catchType := 15 }]) hts hown hE3 hI (va_tryV (As := [.int (x1)]) (rest := []) ⟨hx, hb, hml, hown, hts⟩ (c_Po_close l D ca T L _ _ hT h0 t0 x1 hfl) (kv_Po_close hts rfl rfl (hts _ tw_815) ⟨Nat.le_of_ble_eq_true rfl, Nat.le_of_ble_eq_true rfl⟩) (sd_preV3 (q := (R_Po, F_Po, 15)) (L := [o]) hI hE3 (List.mem_append_right _ hL0) e0 rfl) rfl rfl hl.1 rfl (lv_room (Nat.le_of_ble_eq_true rfl)) d_La_close_2 ⟨Nat.le_of_ble_eq_true rfl, Nat.le_of_ble_eq_true rfl⟩) (fun _ _ _ h9 => qv_R h9) htab (by decide) tw_418 (by decide) rfl (fun _ => ⟨_, _, rfl, by decide, tw_419, by decide, rfl⟩) (by decide) ?_ ?_ ?_
  · intro v u H locs hR hI hd
    obtain ⟨rfl, hp⟩ := hR
    have hw := (pw_m ho hd hp t0)
    refine lv_goto (tgt := 14) hx hb d_La_close_5 (by decide) ?_
    refine lv_iconst (v := 0) hx hb d_La_close_14 (by decide) ?_
    refine W.widen (k := 1) (n := 6) (by decide) (by decide) ?_
    exact sm_iret hx hb hr hlk hI ⟨u.1, rfl, hw, trivial⟩ d_La_close_15
  · intro x u H locs hp hI hd
    have hw := (pw_m ho hd hp.2 t0)
    refine lv_astore_n (lv' := [(2, .ref x), (0, .ref h0), (1, .int (x1))]) hx hb d_La_close_8 rfl hl (by decide) rfl (fun ls hl => ?_)
    refine lv_iconst (v := 1) hx hb d_La_close_9 (by decide) ?_
    refine W.widen (k := 1) (n := 6) (by decide) (by decide) ?_
    exact sm_iret hx hb hr hlk hI ⟨u.1, rfl, hw, trivial⟩ d_La_close_10
  · intro _ x u H locs hp hI hd
    have hw := (pw_m ho hd hp.2 t0)
    refine lv_astore_n (lv' := [(2, .ref x), (0, .ref h0), (1, .int (x1))]) hx hb d_La_close_11 rfl hl (by decide) rfl (fun ls hl => ?_)
    refine lv_iconst (v := 2) hx hb d_La_close_12 (by decide) ?_
    refine W.widen (k := 1) (n := 6) (by decide) (by decide) ?_
    exact sm_iret hx hb hr hlk hI ⟨u.1, rfl, hw, trivial⟩ d_La_close_13
theorem d_La_receive_0 : decode b_La_receive 0 = .ok (.aload 5, 2) := by decide +kernel
theorem d_La_receive_2 : decode b_La_receive 2 = .ok (.iconst 0, 1) := by decide +kernel
theorem d_La_receive_3 : decode b_La_receive 3 = .ok (.aload_n 0, 1) := by decide +kernel
theorem d_La_receive_4 : decode b_La_receive 4 = .ok (.iload_n 1, 1) := by decide +kernel
theorem d_La_receive_5 : decode b_La_receive 5 = .ok (.lload_n 2, 1) := by decide +kernel
theorem d_La_receive_6 : decode b_La_receive 6 = .ok (.iload 4, 2) := by decide +kernel
theorem d_La_receive_8 : decode b_La_receive 8 = .ok (.invokevirtual 40, 3) := by decide +kernel
theorem d_La_receive_11 : decode b_La_receive 11 = .ok (.i2l, 1) := by decide +kernel
theorem d_La_receive_12 : decode b_La_receive 12 = .ok (.lastore, 1) := by decide +kernel
theorem d_La_receive_13 : decode b_La_receive 13 = .ok (.goto 11, 3) := by decide +kernel
theorem d_La_receive_16 : decode b_La_receive 16 = .ok (.astore 6, 2) := by decide +kernel
theorem d_La_receive_18 : decode b_La_receive 18 = .ok (.iconst 1, 1) := by decide +kernel
theorem d_La_receive_19 : decode b_La_receive 19 = .ok (.ireturn, 1) := by decide +kernel
theorem d_La_receive_20 : decode b_La_receive 20 = .ok (.astore 6, 2) := by decide +kernel
theorem d_La_receive_22 : decode b_La_receive 22 = .ok (.iconst 2, 1) := by decide +kernel
theorem d_La_receive_23 : decode b_La_receive 23 = .ok (.ireturn, 1) := by decide +kernel
theorem d_La_receive_24 : decode b_La_receive 24 = .ok (.iconst 0, 1) := by decide +kernel
theorem d_La_receive_25 : decode b_La_receive 25 = .ok (.ireturn, 1) := by decide +kernel
set_option maxRecDepth 100000 in
set_option maxHeartbeats 4000000 in
theorem c_La_receive (l : Launch) (D : va_G) (ca : Nat → ClassId) (L : List Nat) (f0 : Nat → va_E) (sz : Nat) (o h0 : Nat) {g0 : List (Int32 × Int32)} (hw : pw ca o h0 L f0 (fun g => g = g0)) (x1 : Int32) (x2 : Int64) (x3 : Int32) (hfl : l.flags = Jvm.pinnedFlags ++ [Jvm.noTraceFlag]) :
    Met l y_La_receive (Cond.codeWith y_La_receive b_La_receive 7 (some .int) [(0, 13, 16, 13), (0, 13, 20, 15)] :: wg) { frames := 8, cells := 16, slots := 4144, locals := 198 } (va_Pc [.ref h0, .int (x1), .long (x2), .int (x3), .ref o] (sm_P D cl_all (ty_s ca) ek3 (o :: L) f0 sz)) (sm_Qi D (ty_s ca) (o :: L) f0 sz (fun r u => ∃ L1 : List Nat, u.1 = o :: L1 ∧ pw ca o h0 L1 u.2 (fun g => g = g0) ∧ (True))) 16 4144 (va_A (va_pl (o :: L) f0) sz) := by
  obtain ⟨hoL, ⟨gg, ho⟩, T, g1, hT, t0, hg1⟩ := hw
  subst hg1
  refine sm_startW (by decide) (Nat.le_of_ble_eq_true rfl) ?_
  intro p e s m below meth c ls hx hb hml hr hlk htab hts hown hsz hE3 hI hl
  have hl : lv_has ls 7 [(0, .ref h0), (1, .int (x1)), (2, .long (x2)), (4, .int (x3)), (5, .ref o)] := hl
  obtain ⟨hL0, v0, v1, v3, v4, v5, v6, v7, v8, v9, v10, v11, v12, v13, v14, e0, -⟩ := ok_po_at hT t0
  refine lv_aload hx hb d_La_receive_0 (lv_at hl 4 rfl) ?_
  refine lv_iconst (v := 0) hx hb d_La_receive_2 (by decide) ?_
  refine lv_aload_n hx hb d_La_receive_3 rfl (lv_at hl 0 rfl) ?_
  refine lv_iload_n hx hb d_La_receive_4 rfl (lv_at hl 1 rfl) ?_
  refine lv_lload_n hx hb d_La_receive_5 rfl (lv_at hl 2 rfl) ?_
  refine lv_iload hx hb d_La_receive_6 (lv_at hl 3 rfl) ?_
  refine sd_try (L := [o]) (K := L) (own := "TelecontrolPostLaw") (n1 := 16) (n2 := 20) (r1 := { startPc := 0, endPc := 13, handlerPc := 16, catchType := 13 }) (rows := [{ startPc := 0, endPc := 13, handlerPc := 20, catchType := 15 }]) hts hown hE3 hI (va_tryV (As := [.int (x1), .long (x2), .int (x3)]) (rest := [.int (0), .ref o]) ⟨hx, hb, hml, hown, hts⟩ (c_Po_receive l D ca T L _ _ hT h0 t0 x1 x2 x3 hfl) (kv_Po_receive hts rfl rfl (hts _ tw_823) ⟨Nat.le_of_ble_eq_true rfl, Nat.le_of_ble_eq_true rfl⟩) (sd_preV3 (q := (R_Po, F_Po, 15)) (L := [o]) hI hE3 (List.mem_append_right _ hL0) e0 rfl) rfl rfl hl.1 rfl (lv_room (Nat.le_of_ble_eq_true rfl)) d_La_receive_8 ⟨Nat.le_of_ble_eq_true rfl, Nat.le_of_ble_eq_true rfl⟩) (fun _ _ _ h9 => qi_R h9) htab (by decide) tw_418 (by decide) rfl (fun _ => ⟨_, _, rfl, by decide, tw_419, by decide, rfl⟩) (by decide) ?_ ?_ ?_
  · intro v u H locs hR hI hd
    obtain ⟨rr, rfl, hp⟩ := hR
    have hw := (pw_a ho hd hp t0)
    obtain ⟨-, ⟨gg2, ho2⟩, -⟩ := id hw
    refine lv_i2l hx hb d_La_receive_11 rfl ?_
    refine sw_last hx hb hI List.mem_cons_self 1 ho2 rfl (by unfold vp_in; decide) d_La_receive_12 (fun H locs hI => ?_)
    have hw := fun gg3 => pw_st (gg2 := gg3) hw
    refine lv_goto (tgt := 24) hx hb d_La_receive_13 (by decide) ?_
    refine lv_iconst (v := 0) hx hb d_La_receive_24 (by decide) ?_
    refine W.widen (k := 16) (n := 4144) (by decide) (by decide) ?_
    exact sm_iret hx hb hr hlk hI ⟨u.1, rfl, hw _, trivial⟩ d_La_receive_25
  · intro x u H locs hp hI hd
    have hw := (pw_a ho hd hp.2 t0)
    refine lv_astore (lv' := [(6, .ref x), (0, .ref h0), (1, .int (x1)), (2, .long (x2)), (4, .int (x3)), (5, .ref o)]) hx hb d_La_receive_16 hl (by decide) rfl (fun ls hl => ?_)
    refine lv_iconst (v := 1) hx hb d_La_receive_18 (by decide) ?_
    refine W.widen (k := 16) (n := 4144) (by decide) (by decide) ?_
    exact sm_iret hx hb hr hlk hI ⟨u.1, rfl, hw, trivial⟩ d_La_receive_19
  · intro _ x u H locs hp hI hd
    have hw := (pw_a ho hd hp.2 t0)
    refine lv_astore (lv' := [(6, .ref x), (0, .ref h0), (1, .int (x1)), (2, .long (x2)), (4, .int (x3)), (5, .ref o)]) hx hb d_La_receive_20 hl (by decide) rfl (fun ls hl => ?_)
    refine lv_iconst (v := 2) hx hb d_La_receive_22 (by decide) ?_
    refine W.widen (k := 16) (n := 4144) (by decide) (by decide) ?_
    exact sm_iret hx hb hr hlk hI ⟨u.1, rfl, hw, trivial⟩ d_La_receive_23
theorem d_La_take_0 : decode b_La_take 0 = .ok (.aload_n 2, 1) := by decide +kernel
theorem d_La_take_1 : decode b_La_take 1 = .ok (.iconst 0, 1) := by decide +kernel
theorem d_La_take_2 : decode b_La_take 2 = .ok (.aload_n 0, 1) := by decide +kernel
theorem d_La_take_3 : decode b_La_take 3 = .ok (.iload_n 1, 1) := by decide +kernel
theorem d_La_take_4 : decode b_La_take 4 = .ok (.invokevirtual 44, 3) := by decide +kernel
theorem d_La_take_7 : decode b_La_take 7 = .ok (.lastore, 1) := by decide +kernel
theorem d_La_take_8 : decode b_La_take 8 = .ok (.goto 6, 3) := by decide +kernel
theorem d_La_take_11 : decode b_La_take 11 = .ok (.astore_n 3, 1) := by decide +kernel
theorem d_La_take_12 : decode b_La_take 12 = .ok (.iconst 1, 1) := by decide +kernel
theorem d_La_take_13 : decode b_La_take 13 = .ok (.ireturn, 1) := by decide +kernel
theorem d_La_take_14 : decode b_La_take 14 = .ok (.iconst 0, 1) := by decide +kernel
theorem d_La_take_15 : decode b_La_take 15 = .ok (.ireturn, 1) := by decide +kernel
set_option maxRecDepth 100000 in
set_option maxHeartbeats 4000000 in
theorem c_La_take (l : Launch) (D : va_G) (ca : Nat → ClassId) (L : List Nat) (f0 : Nat → va_E) (sz : Nat) (o h0 : Nat) {g0 : List (Int32 × Int32)} (hw : pw ca o h0 L f0 (fun g => g = g0)) (x1 : Int32) (hfl : l.flags = Jvm.pinnedFlags ++ [Jvm.noTraceFlag]) :
    Met l y_La_take (Cond.codeWith y_La_take b_La_take 4 (some .int) [(0, 8, 11, 13)] :: wg) { frames := 7, cells := 1, slots := 6, locals := 145 } (va_Pc [.ref h0, .int (x1), .ref o] (sm_P D cl_all (ty_s ca) ek3 (o :: L) f0 sz)) (sm_Qi D (ty_s ca) (o :: L) f0 sz (fun r u => ∃ L1 : List Nat, u.1 = o :: L1 ∧ pw ca o h0 L1 u.2 (fun g => g = g0) ∧ (True))) 1 6 (va_A (va_pl (o :: L) f0) sz) := by
  obtain ⟨hoL, ⟨gg, ho⟩, T, g1, hT, t0, hg1⟩ := hw
  subst hg1
  refine sm_startW (by decide) (Nat.le_of_ble_eq_true rfl) ?_
  intro p e s m below meth c ls hx hb hml hr hlk htab hts hown hsz hE3 hI hl
  have hl : lv_has ls 4 [(0, .ref h0), (1, .int (x1)), (2, .ref o)] := hl
  obtain ⟨hL0, v0, v1, v3, v4, v5, v6, v7, v8, v9, v10, v11, v12, v13, v14, e0, -⟩ := ok_po_at hT t0
  refine lv_aload_n hx hb d_La_take_0 rfl (lv_at hl 2 rfl) ?_
  refine lv_iconst (v := 0) hx hb d_La_take_1 (by decide) ?_
  refine lv_aload_n hx hb d_La_take_2 rfl (lv_at hl 0 rfl) ?_
  refine lv_iload_n hx hb d_La_take_3 rfl (lv_at hl 1 rfl) ?_
  refine sd_try (L := [o]) (K := L) (own := "TelecontrolPostLaw") (n1 := 11) (n2 := 0) (r1 := { startPc := 0, endPc := 8, handlerPc := 11, catchType := 13 }) (rows := []) hts hown hE3 hI (va_tryV (As := [.int (x1)]) (rest := [.int (0), .ref o]) ⟨hx, hb, hml, hown, hts⟩ (c_Po_take l D ca T L _ _ hT h0 t0 x1 hfl) (kv_Po_take hts rfl rfl (hts _ tw_1106) ⟨Nat.le_of_ble_eq_true rfl, Nat.le_of_ble_eq_true rfl⟩) (sd_preV3 (q := (R_Po, F_Po, 15)) (L := [o]) hI hE3 (List.mem_append_right _ hL0) e0 rfl) rfl rfl hl.1 rfl (lv_room (Nat.le_of_ble_eq_true rfl)) d_La_take_4 ⟨Nat.le_of_ble_eq_true rfl, Nat.le_of_ble_eq_true rfl⟩) (fun _ _ _ h9 => ql_R h9) htab (by decide) tw_418 (by decide) rfl (fun h9 => absurd h9 (by decide)) (by decide) ?_ ?_ ?_
  · intro v u H locs hR hI hd
    obtain ⟨rr, rfl, hp⟩ := hR
    have hw := (pw_m ho hd hp.2 t0)
    obtain ⟨-, ⟨gg2, ho2⟩, -⟩ := id hw
    refine sw_last hx hb hI List.mem_cons_self 1 ho2 rfl (by unfold vp_in; decide) d_La_take_7 (fun H locs hI => ?_)
    have hw := fun gg3 => pw_st (gg2 := gg3) hw
    refine lv_goto (tgt := 14) hx hb d_La_take_8 (by decide) ?_
    refine lv_iconst (v := 0) hx hb d_La_take_14 (by decide) ?_
    refine W.widen (k := 1) (n := 6) (by decide) (by decide) ?_
    exact sm_iret hx hb hr hlk hI ⟨u.1, rfl, hw _, trivial⟩ d_La_take_15
  · intro x u H locs hp hI hd
    have hw := (pw_m ho hd hp.2 t0)
    refine lv_astore_n (lv' := [(3, .ref x), (0, .ref h0), (1, .int (x1)), (2, .ref o)]) hx hb d_La_take_11 rfl hl (by decide) rfl (fun ls hl => ?_)
    refine lv_iconst (v := 1) hx hb d_La_take_12 (by decide) ?_
    refine W.widen (k := 1) (n := 6) (by decide) (by decide) ?_
    exact sm_iret hx hb hr hlk hI ⟨u.1, rfl, hw, trivial⟩ d_La_take_13
  · exact fun h9 => absurd h9 (by decide)
theorem d_La_done_0 : decode b_La_done 0 = .ok (.aload_n 3, 1) := by decide +kernel
theorem d_La_done_1 : decode b_La_done 1 = .ok (.iconst 0, 1) := by decide +kernel
theorem d_La_done_2 : decode b_La_done 2 = .ok (.aload_n 0, 1) := by decide +kernel
theorem d_La_done_3 : decode b_La_done 3 = .ok (.iload_n 1, 1) := by decide +kernel
theorem d_La_done_4 : decode b_La_done 4 = .ok (.iload_n 2, 1) := by decide +kernel
theorem d_La_done_5 : decode b_La_done 5 = .ok (.invokevirtual 48, 3) := by decide +kernel
theorem d_La_done_8 : decode b_La_done 8 = .ok (.i2l, 1) := by decide +kernel
theorem d_La_done_9 : decode b_La_done 9 = .ok (.lastore, 1) := by decide +kernel
theorem d_La_done_10 : decode b_La_done 10 = .ok (.goto 7, 3) := by decide +kernel
theorem d_La_done_13 : decode b_La_done 13 = .ok (.astore 4, 2) := by decide +kernel
theorem d_La_done_15 : decode b_La_done 15 = .ok (.iconst 1, 1) := by decide +kernel
theorem d_La_done_16 : decode b_La_done 16 = .ok (.ireturn, 1) := by decide +kernel
theorem d_La_done_17 : decode b_La_done 17 = .ok (.iconst 0, 1) := by decide +kernel
theorem d_La_done_18 : decode b_La_done 18 = .ok (.ireturn, 1) := by decide +kernel
set_option maxRecDepth 100000 in
set_option maxHeartbeats 4000000 in
theorem c_La_done (l : Launch) (D : va_G) (ca : Nat → ClassId) (L : List Nat) (f0 : Nat → va_E) (sz : Nat) (o h0 : Nat) {g0 : List (Int32 × Int32)} (hw : pw ca o h0 L f0 (fun g => g = g0)) (x1 : Int32) (x2 : Int32) (p2 : x2 = 0 ∨ x2 = 1) (hfl : l.flags = Jvm.pinnedFlags ++ [Jvm.noTraceFlag]) :
    Met l y_La_done (Cond.codeWith y_La_done b_La_done 5 (some .int) [(0, 10, 13, 13)] :: wg) { frames := 7, cells := 1, slots := 259, locals := 143 } (va_Pc [.ref h0, .int (x1), .int (x2), .ref o] (sm_P D cl_all (ty_s ca) ek3 (o :: L) f0 sz)) (sm_Qi D (ty_s ca) (o :: L) f0 sz (fun r u => ∃ L1 : List Nat, u.1 = o :: L1 ∧ pw ca o h0 L1 u.2 (fun g => g = g0) ∧ (True))) 1 259 (va_A (va_pl (o :: L) f0) sz) := by
  obtain ⟨hoL, ⟨gg, ho⟩, T, g1, hT, t0, hg1⟩ := hw
  subst hg1
  refine sm_startW (by decide) (Nat.le_of_ble_eq_true rfl) ?_
  intro p e s m below meth c ls hx hb hml hr hlk htab hts hown hsz hE3 hI hl
  have hl : lv_has ls 5 [(0, .ref h0), (1, .int (x1)), (2, .int (x2)), (3, .ref o)] := hl
  obtain ⟨hL0, v0, v1, v3, v4, v5, v6, v7, v8, v9, v10, v11, v12, v13, v14, e0, -⟩ := ok_po_at hT t0
  refine lv_aload_n hx hb d_La_done_0 rfl (lv_at hl 3 rfl) ?_
  refine lv_iconst (v := 0) hx hb d_La_done_1 (by decide) ?_
  refine lv_aload_n hx hb d_La_done_2 rfl (lv_at hl 0 rfl) ?_
  refine lv_iload_n hx hb d_La_done_3 rfl (lv_at hl 1 rfl) ?_
  refine lv_iload_n hx hb d_La_done_4 rfl (lv_at hl 2 rfl) ?_
  refine sd_try (L := [o]) (K := L) (own := "TelecontrolPostLaw") (n1 := 13) (n2 := 0) (r1 := { startPc := 0, endPc := 10, handlerPc := 13, catchType := 13 }) (rows := []) hts hown hE3 hI (va_tryV (As := [.int (x1), .int (x2)]) (rest := [.int (0), .ref o]) ⟨hx, hb, hml, hown, hts⟩ (c_Po_done l D ca T L _ _ hT h0 t0 x1 x2 p2 hfl) (kv_Po_done hts rfl rfl (hts _ tw_1121) ⟨Nat.le_of_ble_eq_true rfl, Nat.le_of_ble_eq_true rfl⟩) (sd_preV3 (q := (R_Po, F_Po, 15)) (L := [o]) hI hE3 (List.mem_append_right _ hL0) e0 rfl) rfl rfl hl.1 rfl (lv_room (Nat.le_of_ble_eq_true rfl)) d_La_done_5 ⟨Nat.le_of_ble_eq_true rfl, Nat.le_of_ble_eq_true rfl⟩) (fun _ _ _ h9 => qi_R h9) htab (by decide) tw_418 (by decide) rfl (fun h9 => absurd h9 (by decide)) (by decide) ?_ ?_ ?_
  · intro v u H locs hR hI hd
    obtain ⟨rr, rfl, hp⟩ := hR
    have hw := (pw_a ho hd hp t0)
    obtain ⟨-, ⟨gg2, ho2⟩, -⟩ := id hw
    refine lv_i2l hx hb d_La_done_8 rfl ?_
    refine sw_last hx hb hI List.mem_cons_self 1 ho2 rfl (by unfold vp_in; decide) d_La_done_9 (fun H locs hI => ?_)
    have hw := fun gg3 => pw_st (gg2 := gg3) hw
    refine lv_goto (tgt := 17) hx hb d_La_done_10 (by decide) ?_
    refine lv_iconst (v := 0) hx hb d_La_done_17 (by decide) ?_
    refine W.widen (k := 1) (n := 259) (by decide) (by decide) ?_
    exact sm_iret hx hb hr hlk hI ⟨u.1, rfl, hw _, trivial⟩ d_La_done_18
  · intro x u H locs hp hI hd
    have hw := (pw_a ho hd hp.2 t0)
    refine lv_astore (lv' := [(4, .ref x), (0, .ref h0), (1, .int (x1)), (2, .int (x2)), (3, .ref o)]) hx hb d_La_done_13 hl (by decide) rfl (fun ls hl => ?_)
    refine lv_iconst (v := 1) hx hb d_La_done_15 (by decide) ?_
    refine W.widen (k := 1) (n := 259) (by decide) (by decide) ?_
    exact sm_iret hx hb hr hlk hI ⟨u.1, rfl, hw, trivial⟩ d_La_done_16
  · exact fun h9 => absurd h9 (by decide)
theorem d_La_operation_0 : decode b_La_operation 0 = .ok (.aload_n 3, 1) := by decide +kernel
theorem d_La_operation_1 : decode b_La_operation 1 = .ok (.iconst 0, 1) := by decide +kernel
theorem d_La_operation_2 : decode b_La_operation 2 = .ok (.aload_n 0, 1) := by decide +kernel
theorem d_La_operation_3 : decode b_La_operation 3 = .ok (.iload_n 1, 1) := by decide +kernel
theorem d_La_operation_4 : decode b_La_operation 4 = .ok (.iload_n 2, 1) := by decide +kernel
theorem d_La_operation_5 : decode b_La_operation 5 = .ok (.invokevirtual 52, 3) := by decide +kernel
theorem d_La_operation_8 : decode b_La_operation 8 = .ok (.i2l, 1) := by decide +kernel
theorem d_La_operation_9 : decode b_La_operation 9 = .ok (.lastore, 1) := by decide +kernel
theorem d_La_operation_10 : decode b_La_operation 10 = .ok (.goto 7, 3) := by decide +kernel
theorem d_La_operation_13 : decode b_La_operation 13 = .ok (.astore 4, 2) := by decide +kernel
theorem d_La_operation_15 : decode b_La_operation 15 = .ok (.iconst 1, 1) := by decide +kernel
theorem d_La_operation_16 : decode b_La_operation 16 = .ok (.ireturn, 1) := by decide +kernel
theorem d_La_operation_17 : decode b_La_operation 17 = .ok (.iconst 0, 1) := by decide +kernel
theorem d_La_operation_18 : decode b_La_operation 18 = .ok (.ireturn, 1) := by decide +kernel
set_option maxRecDepth 100000 in
set_option maxHeartbeats 4000000 in
theorem c_La_operation (l : Launch) (D : va_G) (ca : Nat → ClassId) (L : List Nat) (f0 : Nat → va_E) (sz : Nat) (o h0 : Nat) {g0 : List (Int32 × Int32)} (hw : pw ca o h0 L f0 (fun g => g = g0)) (x1 : Int32) (x2 : Int32) (hfl : l.flags = Jvm.pinnedFlags ++ [Jvm.noTraceFlag]) :
    Met l y_La_operation (Cond.codeWith y_La_operation b_La_operation 5 (some .int) [(0, 10, 13, 13)] :: wg) { frames := 7, cells := 1, slots := 6, locals := 105 } (va_Pc [.ref h0, .int (x1), .int (x2), .ref o] (sm_P D cl_all (ty_s ca) ek3 (o :: L) f0 sz)) (sm_Qi D (ty_s ca) (o :: L) f0 sz (fun r u => ∃ L1 : List Nat, u.1 = o :: L1 ∧ pw ca o h0 L1 u.2 (fun g => g = g0) ∧ (True))) 1 6 (va_A (va_pl (o :: L) f0) sz) := by
  obtain ⟨hoL, ⟨gg, ho⟩, T, g1, hT, t0, hg1⟩ := hw
  subst hg1
  refine sm_startW (by decide) (Nat.le_of_ble_eq_true rfl) ?_
  intro p e s m below meth c ls hx hb hml hr hlk htab hts hown hsz hE3 hI hl
  have hl : lv_has ls 5 [(0, .ref h0), (1, .int (x1)), (2, .int (x2)), (3, .ref o)] := hl
  obtain ⟨hL0, v0, v1, v3, v4, v5, v6, v7, v8, v9, v10, v11, v12, v13, v14, e0, -⟩ := ok_po_at hT t0
  refine lv_aload_n hx hb d_La_operation_0 rfl (lv_at hl 3 rfl) ?_
  refine lv_iconst (v := 0) hx hb d_La_operation_1 (by decide) ?_
  refine lv_aload_n hx hb d_La_operation_2 rfl (lv_at hl 0 rfl) ?_
  refine lv_iload_n hx hb d_La_operation_3 rfl (lv_at hl 1 rfl) ?_
  refine lv_iload_n hx hb d_La_operation_4 rfl (lv_at hl 2 rfl) ?_
  refine sd_try (L := [o]) (K := L) (own := "TelecontrolPostLaw") (n1 := 13) (n2 := 0) (r1 := { startPc := 0, endPc := 10, handlerPc := 13, catchType := 13 }) (rows := []) hts hown hE3 hI (va_tryV (As := [.int (x1), .int (x2)]) (rest := [.int (0), .ref o]) ⟨hx, hb, hml, hown, hts⟩ (c_Po_operation l D ca T L _ _ hT h0 t0 x1 x2 hfl) (kv_Po_operation hts rfl rfl (hts _ tw_1133) ⟨Nat.le_of_ble_eq_true rfl, Nat.le_of_ble_eq_true rfl⟩) (sd_preV3 (q := (R_Po, F_Po, 15)) (L := [o]) hI hE3 (List.mem_append_right _ hL0) e0 rfl) rfl rfl hl.1 rfl (lv_room (Nat.le_of_ble_eq_true rfl)) d_La_operation_5 ⟨Nat.le_of_ble_eq_true rfl, Nat.le_of_ble_eq_true rfl⟩) (fun _ _ _ h9 => qi_R h9) htab (by decide) tw_418 (by decide) rfl (fun h9 => absurd h9 (by decide)) (by decide) ?_ ?_ ?_
  · intro v u H locs hR hI hd
    obtain ⟨rr, rfl, hp⟩ := hR
    have hw := (pw_p ho hd hp.2 hT t0)
    obtain ⟨-, ⟨gg2, ho2⟩, -⟩ := id hw
    refine lv_i2l hx hb d_La_operation_8 rfl ?_
    refine sw_last hx hb hI List.mem_cons_self 1 ho2 rfl (by unfold vp_in; decide) d_La_operation_9 (fun H locs hI => ?_)
    have hw := fun gg3 => pw_st (gg2 := gg3) hw
    refine lv_goto (tgt := 17) hx hb d_La_operation_10 (by decide) ?_
    refine lv_iconst (v := 0) hx hb d_La_operation_17 (by decide) ?_
    refine W.widen (k := 1) (n := 6) (by decide) (by decide) ?_
    exact sm_iret hx hb hr hlk hI ⟨u.1, rfl, hw _, trivial⟩ d_La_operation_18
  · intro x u H locs hp hI hd
    have hw := (pw_m ho hd hp.2 t0)
    refine lv_astore (lv' := [(4, .ref x), (0, .ref h0), (1, .int (x1)), (2, .int (x2)), (3, .ref o)]) hx hb d_La_operation_13 hl (by decide) rfl (fun ls hl => ?_)
    refine lv_iconst (v := 1) hx hb d_La_operation_15 (by decide) ?_
    refine W.widen (k := 1) (n := 6) (by decide) (by decide) ?_
    exact sm_iret hx hb hr hlk hI ⟨u.1, rfl, hw, trivial⟩ d_La_operation_16
  · exact fun h9 => absurd h9 (by decide)
theorem d_La_look_0 : decode b_La_look 0 = .ok (.aload_n 3, 1) := by decide +kernel
theorem d_La_look_1 : decode b_La_look 1 = .ok (.iconst 0, 1) := by decide +kernel
theorem d_La_look_2 : decode b_La_look 2 = .ok (.aload_n 0, 1) := by decide +kernel
theorem d_La_look_3 : decode b_La_look 3 = .ok (.iload_n 1, 1) := by decide +kernel
theorem d_La_look_4 : decode b_La_look 4 = .ok (.iload_n 2, 1) := by decide +kernel
theorem d_La_look_5 : decode b_La_look 5 = .ok (.invokevirtual 56, 3) := by decide +kernel
theorem d_La_look_8 : decode b_La_look 8 = .ok (.i2l, 1) := by decide +kernel
theorem d_La_look_9 : decode b_La_look 9 = .ok (.lastore, 1) := by decide +kernel
theorem d_La_look_10 : decode b_La_look 10 = .ok (.goto 7, 3) := by decide +kernel
theorem d_La_look_13 : decode b_La_look 13 = .ok (.astore 4, 2) := by decide +kernel
theorem d_La_look_15 : decode b_La_look 15 = .ok (.iconst 1, 1) := by decide +kernel
theorem d_La_look_16 : decode b_La_look 16 = .ok (.ireturn, 1) := by decide +kernel
theorem d_La_look_17 : decode b_La_look 17 = .ok (.iconst 0, 1) := by decide +kernel
theorem d_La_look_18 : decode b_La_look 18 = .ok (.ireturn, 1) := by decide +kernel
set_option maxRecDepth 100000 in
set_option maxHeartbeats 4000000 in
theorem c_La_look (l : Launch) (D : va_G) (ca : Nat → ClassId) (L : List Nat) (f0 : Nat → va_E) (sz : Nat) (o h0 : Nat) {g0 : List (Int32 × Int32)} (hw : pw ca o h0 L f0 (fun g => g = g0)) (x1 : Int32) (x2 : Int32) (hfl : l.flags = Jvm.pinnedFlags ++ [Jvm.noTraceFlag]) :
    Met l y_La_look (Cond.codeWith y_La_look b_La_look 5 (some .int) [(0, 10, 13, 13)] :: wg) { frames := 7, cells := 1, slots := 6, locals := 105 } (va_Pc [.ref h0, .int (x1), .int (x2), .ref o] (sm_P D cl_all (ty_s ca) ek3 (o :: L) f0 sz)) (sm_Qi D (ty_s ca) (o :: L) f0 sz (fun r u => ∃ L1 : List Nat, u.1 = o :: L1 ∧ pw ca o h0 L1 u.2 (fun g => g = g0) ∧ (True))) 1 6 (va_A (va_pl (o :: L) f0) sz) := by
  obtain ⟨hoL, ⟨gg, ho⟩, T, g1, hT, t0, hg1⟩ := hw
  subst hg1
  refine sm_startW (by decide) (Nat.le_of_ble_eq_true rfl) ?_
  intro p e s m below meth c ls hx hb hml hr hlk htab hts hown hsz hE3 hI hl
  have hl : lv_has ls 5 [(0, .ref h0), (1, .int (x1)), (2, .int (x2)), (3, .ref o)] := hl
  obtain ⟨hL0, v0, v1, v3, v4, v5, v6, v7, v8, v9, v10, v11, v12, v13, v14, e0, -⟩ := ok_po_at hT t0
  refine lv_aload_n hx hb d_La_look_0 rfl (lv_at hl 3 rfl) ?_
  refine lv_iconst (v := 0) hx hb d_La_look_1 (by decide) ?_
  refine lv_aload_n hx hb d_La_look_2 rfl (lv_at hl 0 rfl) ?_
  refine lv_iload_n hx hb d_La_look_3 rfl (lv_at hl 1 rfl) ?_
  refine lv_iload_n hx hb d_La_look_4 rfl (lv_at hl 2 rfl) ?_
  refine sd_try (L := [o]) (K := L) (own := "TelecontrolPostLaw") (n1 := 13) (n2 := 0) (r1 := { startPc := 0, endPc := 10, handlerPc := 13, catchType := 13 }) (rows := []) hts hown hE3 hI (va_tryV (As := [.int (x1), .int (x2)]) (rest := [.int (0), .ref o]) ⟨hx, hb, hml, hown, hts⟩ (c_Po_look l D ca T L _ _ hT h0 t0 x1 x2 hfl) (kv_Po_look hts rfl rfl (hts _ tw_1141) ⟨Nat.le_of_ble_eq_true rfl, Nat.le_of_ble_eq_true rfl⟩) (sd_preV3 (q := (R_Po, F_Po, 15)) (L := [o]) hI hE3 (List.mem_append_right _ hL0) e0 rfl) rfl rfl hl.1 rfl (lv_room (Nat.le_of_ble_eq_true rfl)) d_La_look_5 ⟨Nat.le_of_ble_eq_true rfl, Nat.le_of_ble_eq_true rfl⟩) (fun _ _ _ h9 => qi_R h9) htab (by decide) tw_418 (by decide) rfl (fun h9 => absurd h9 (by decide)) (by decide) ?_ ?_ ?_
  · intro v u H locs hR hI hd
    obtain ⟨rr, rfl, hp⟩ := hR
    have hw := (pw_p ho hd hp.2 hT t0)
    obtain ⟨-, ⟨gg2, ho2⟩, -⟩ := id hw
    refine lv_i2l hx hb d_La_look_8 rfl ?_
    refine sw_last hx hb hI List.mem_cons_self 1 ho2 rfl (by unfold vp_in; decide) d_La_look_9 (fun H locs hI => ?_)
    have hw := fun gg3 => pw_st (gg2 := gg3) hw
    refine lv_goto (tgt := 17) hx hb d_La_look_10 (by decide) ?_
    refine lv_iconst (v := 0) hx hb d_La_look_17 (by decide) ?_
    refine W.widen (k := 1) (n := 6) (by decide) (by decide) ?_
    exact sm_iret hx hb hr hlk hI ⟨u.1, rfl, hw _, trivial⟩ d_La_look_18
  · intro x u H locs hp hI hd
    have hw := (pw_m ho hd hp.2 t0)
    refine lv_astore (lv' := [(4, .ref x), (0, .ref h0), (1, .int (x1)), (2, .int (x2)), (3, .ref o)]) hx hb d_La_look_13 hl (by decide) rfl (fun ls hl => ?_)
    refine lv_iconst (v := 1) hx hb d_La_look_15 (by decide) ?_
    refine W.widen (k := 1) (n := 6) (by decide) (by decide) ?_
    exact sm_iret hx hb hr hlk hI ⟨u.1, rfl, hw, trivial⟩ d_La_look_16
  · exact fun h9 => absurd h9 (by decide)
theorem d_La_count_0 : decode b_La_count 0 = .ok (.aload_n 2, 1) := by decide +kernel
theorem d_La_count_1 : decode b_La_count 1 = .ok (.iconst 0, 1) := by decide +kernel
theorem d_La_count_2 : decode b_La_count 2 = .ok (.aload_n 0, 1) := by decide +kernel
theorem d_La_count_3 : decode b_La_count 3 = .ok (.iload_n 1, 1) := by decide +kernel
theorem d_La_count_4 : decode b_La_count 4 = .ok (.invokevirtual 59, 3) := by decide +kernel
theorem d_La_count_7 : decode b_La_count 7 = .ok (.i2l, 1) := by decide +kernel
theorem d_La_count_8 : decode b_La_count 8 = .ok (.lastore, 1) := by decide +kernel
theorem d_La_count_9 : decode b_La_count 9 = .ok (.goto 6, 3) := by decide +kernel
theorem d_La_count_12 : decode b_La_count 12 = .ok (.astore_n 3, 1) := by decide +kernel
theorem d_La_count_13 : decode b_La_count 13 = .ok (.iconst 1, 1) := by decide +kernel
theorem d_La_count_14 : decode b_La_count 14 = .ok (.ireturn, 1) := by decide +kernel
theorem d_La_count_15 : decode b_La_count 15 = .ok (.iconst 0, 1) := by decide +kernel
theorem d_La_count_16 : decode b_La_count 16 = .ok (.ireturn, 1) := by decide +kernel
set_option maxRecDepth 100000 in
set_option maxHeartbeats 4000000 in
theorem c_La_count (l : Launch) (D : va_G) (ca : Nat → ClassId) (L : List Nat) (f0 : Nat → va_E) (sz : Nat) (o h0 : Nat) {g0 : List (Int32 × Int32)} (hw : pw ca o h0 L f0 (fun g => g = g0)) (x1 : Int32) (hfl : l.flags = Jvm.pinnedFlags ++ [Jvm.noTraceFlag]) :
    Met l y_La_count (Cond.codeWith y_La_count b_La_count 4 (some .int) [(0, 9, 12, 13)] :: wg) { frames := 7, cells := 1, slots := 6, locals := 103 } (va_Pc [.ref h0, .int (x1), .ref o] (sm_P D cl_all (ty_s ca) ek3 (o :: L) f0 sz)) (sm_Qi D (ty_s ca) (o :: L) f0 sz (fun r u => ∃ L1 : List Nat, u.1 = o :: L1 ∧ pw ca o h0 L1 u.2 (fun g => g = g0) ∧ (True))) 1 6 (va_A (va_pl (o :: L) f0) sz) := by
  obtain ⟨hoL, ⟨gg, ho⟩, T, g1, hT, t0, hg1⟩ := hw
  subst hg1
  refine sm_startW (by decide) (Nat.le_of_ble_eq_true rfl) ?_
  intro p e s m below meth c ls hx hb hml hr hlk htab hts hown hsz hE3 hI hl
  have hl : lv_has ls 4 [(0, .ref h0), (1, .int (x1)), (2, .ref o)] := hl
  obtain ⟨hL0, v0, v1, v3, v4, v5, v6, v7, v8, v9, v10, v11, v12, v13, v14, e0, -⟩ := ok_po_at hT t0
  refine lv_aload_n hx hb d_La_count_0 rfl (lv_at hl 2 rfl) ?_
  refine lv_iconst (v := 0) hx hb d_La_count_1 (by decide) ?_
  refine lv_aload_n hx hb d_La_count_2 rfl (lv_at hl 0 rfl) ?_
  refine lv_iload_n hx hb d_La_count_3 rfl (lv_at hl 1 rfl) ?_
  refine sd_try (L := [o]) (K := L) (own := "TelecontrolPostLaw") (n1 := 12) (n2 := 0) (r1 := { startPc := 0, endPc := 9, handlerPc := 12, catchType := 13 }) (rows := []) hts hown hE3 hI (va_tryV (As := [.int (x1)]) (rest := [.int (0), .ref o]) ⟨hx, hb, hml, hown, hts⟩ (c_Po_count l D ca T L _ _ hT h0 t0 x1 hfl) (kv_Po_count hts rfl rfl (hts _ tw_1153) ⟨Nat.le_of_ble_eq_true rfl, Nat.le_of_ble_eq_true rfl⟩) (sd_preV3 (q := (R_Po, F_Po, 15)) (L := [o]) hI hE3 (List.mem_append_right _ hL0) e0 rfl) rfl rfl hl.1 rfl (lv_room (Nat.le_of_ble_eq_true rfl)) d_La_count_4 ⟨Nat.le_of_ble_eq_true rfl, Nat.le_of_ble_eq_true rfl⟩) (fun _ _ _ h9 => qi_R h9) htab (by decide) tw_418 (by decide) rfl (fun h9 => absurd h9 (by decide)) (by decide) ?_ ?_ ?_
  · intro v u H locs hR hI hd
    obtain ⟨rr, rfl, hp⟩ := hR
    have hw := (pw_p ho hd hp.2 hT t0)
    obtain ⟨-, ⟨gg2, ho2⟩, -⟩ := id hw
    refine lv_i2l hx hb d_La_count_7 rfl ?_
    refine sw_last hx hb hI List.mem_cons_self 1 ho2 rfl (by unfold vp_in; decide) d_La_count_8 (fun H locs hI => ?_)
    have hw := fun gg3 => pw_st (gg2 := gg3) hw
    refine lv_goto (tgt := 15) hx hb d_La_count_9 (by decide) ?_
    refine lv_iconst (v := 0) hx hb d_La_count_15 (by decide) ?_
    refine W.widen (k := 1) (n := 6) (by decide) (by decide) ?_
    exact sm_iret hx hb hr hlk hI ⟨u.1, rfl, hw _, trivial⟩ d_La_count_16
  · intro x u H locs hp hI hd
    have hw := (pw_m ho hd hp.2 t0)
    refine lv_astore_n (lv' := [(3, .ref x), (0, .ref h0), (1, .int (x1)), (2, .ref o)]) hx hb d_La_count_12 rfl hl (by decide) rfl (fun ls hl => ?_)
    refine lv_iconst (v := 1) hx hb d_La_count_13 (by decide) ?_
    refine W.widen (k := 1) (n := 6) (by decide) (by decide) ?_
    exact sm_iret hx hb hr hlk hI ⟨u.1, rfl, hw, trivial⟩ d_La_count_14
  · exact fun h9 => absurd h9 (by decide)
