/-! the reference: public methods (written by wip/tools) -/
set_option maxRecDepth 100000 in
set_option maxHeartbeats 4000000 in
theorem c_Mo_says2 (l : Launch) (D : va_G) (ca : Nat → ClassId) (ad : Nat → Nat) (L : List Nat) (f0 : Nat → va_E) (sz : Nat) (σ0 : mq_S) (hM : mq_B ca ad σ0 L f0) (x1 : Int32) (p1 : x1 = 0 ∨ x1 = 1) :
    Met l y_Mo_says (Cond.code y_Mo_says b_Mo_says 2 (some .boolean) :: wg) { frames := 0, cells := 0, slots := 0, locals := 0 } (va_Pc [.ref (ad 71), .int (x1)] (sm_P D cl_all (ty_s ca) ek L f0 sz)) (sm_Qi D (ty_s ca) L f0 sz (fun r u => mq_po ca ad L σ0 [0] (fun σ => (r = x1) ∧ σ.1 0 = (if x1 = 0 then 1 else 0) ∧ True) u)) 0 0 (va_A (va_pl L f0) sz) := by
  refine sm_start (by decide) (Nat.le_of_ble_eq_true rfl) ?_
  intro p e s m below meth c ls hx hb hml hr hlk hnm hts hown hsz hE hI hl
  have hl : lv_has ls 2 [(0, .ref (ad 71)), (1, .int (x1))] := hl
  have hF : mq_fr [0] σ0 σ0 := mq_fr_rf
  refine lv_aload_n hx hb d_Mo_says_0 rfl (lv_at hl 0 rfl) ?_
  refine lv_iload_n hx hb d_Mo_says_1 rfl (lv_at hl 1 rfl) ?_
  refine lv_if_eq (tgt := 9) hx hb d_Mo_says_2 (by decide) (fun c_1 => ?_) (fun c_1 => ?_)
  · refine lv_iconst (v := 1) hx hb d_Mo_says_9 (by decide) ?_
    refine mq_puti (k := 0) (ty := .int) hx hb hts hown hI hM (by decide) rfl rfl (hts _ tw_1169) rfl (by decide +kernel) rfl rfl trivial d_Mo_says_10 (fun H locs f σ_2 e_3 hI hM => ?_)
    have hF := mq_fr_ui hF e_3 rfl
    have o_4 := mq_uik e_3
    refine lv_iload_n hx hb d_Mo_says_13 rfl (lv_at hl 1 rfl) ?_
    exact sm_zret hx hb hr hlk hI p1 ⟨σ_2, rfl, hM, hF, ⟨rfl, (Eq.trans o_4 (if_pos c_1).symm), trivial⟩⟩ d_Mo_says_14
  · refine lv_iconst (v := 0) hx hb d_Mo_says_5 (by decide) ?_
    refine lv_goto (tgt := 10) hx hb d_Mo_says_6 (by decide) ?_
    refine mq_puti (k := 0) (ty := .int) hx hb hts hown hI hM (by decide) rfl rfl (hts _ tw_1169) rfl (by decide +kernel) rfl rfl trivial d_Mo_says_10 (fun H locs f σ_5 e_6 hI hM => ?_)
    have hF := mq_fr_ui hF e_6 rfl
    have o_7 := mq_uik e_6
    refine lv_iload_n hx hb d_Mo_says_13 rfl (lv_at hl 1 rfl) ?_
    exact sm_zret hx hb hr hlk hI p1 ⟨σ_5, rfl, hM, hF, ⟨rfl, (Eq.trans o_7 (if_neg c_1).symm), trivial⟩⟩ d_Mo_says_14
set_option maxRecDepth 100000 in
set_option maxHeartbeats 4000000 in
theorem c_Mo_clock2 (l : Launch) (D : va_G) (ca : Nat → ClassId) (ad : Nat → Nat) (L : List Nat) (f0 : Nat → va_E) (sz : Nat) (σ0 : mq_S) (hM : mq_B ca ad σ0 L f0) (x1 : Int64) :
    Met l y_Mo_clock (Cond.code y_Mo_clock b_Mo_clock 3 none :: wg) { frames := 1, cells := 0, slots := 0, locals := 25 } (va_Pc [.ref (ad 71), .long (x1)] (sm_P D cl_all (ty_s ca) ek L f0 sz)) (sm_Qv D (ty_s ca) L f0 sz (fun u => mq_po ca ad L σ0 [0, 10, 11] (fun σ => σ.1 0 = (if (0 ≤ x1 ∧ x1 ≤ 3155759999999) then 0 else 1) ∧ True) u)) 0 0 (va_A (va_pl L f0) sz) := by
  refine sm_start (by decide) (Nat.le_of_ble_eq_true rfl) ?_
  intro p e s m below meth c ls hx hb hml hr hlk hnm hts hown hsz hE hI hl
  have hl : lv_has ls 3 [(0, .ref (ad 71)), (1, .long (x1))] := hl
  have hF : mq_fr [0, 10, 11] σ0 σ0 := mq_fr_rf
  refine lv_aload_n hx hb d_Mo_clock_0 rfl (lv_at hl 0 rfl) ?_
  refine lv_lload_n hx hb d_Mo_clock_1 rfl (lv_at hl 1 rfl) ?_
  refine lv_lconst (v := 0) hx hb d_Mo_clock_2 (by decide) ?_
  refine lv_ldc2 (v := 3155759999999) hx hb hown (hts _ tw_1540) d_Mo_clock_3 ?_
  refine sm_iP hI (va_runS (As := [.long (x1), .long (0), .long (3155759999999)]) (rest := [.ref (ad 71)]) ⟨hx, hb, hml, hown, hts⟩ (c_Mo_in l D ca L _ _ x1 0 3155759999999) (ks_Mo_in hts rfl rfl (hts _ tw_1393) ⟨Nat.le_of_ble_eq_true rfl, Nat.le_of_ble_eq_true rfl⟩) (sm_preS hI hE) rfl rfl hl.1 rfl (lv_room (Nat.le_of_ble_eq_true rfl)) d_Mo_clock_6 ⟨Nat.le_of_ble_eq_true rfl, Nat.le_of_ble_eq_true rfl⟩) (fun x_2 H locs p_1 hI => ?_)
  refine sm_iM hI (va_runV (As := [.int (x_2)]) (rest := []) ⟨hx, hb, hml, hown, hts⟩ (c_Mo_says2 l D ca ad L _ _ _ hM x_2 p_1.1) (kv_Mo_says hts rfl rfl (hts _ tw_1410) ⟨Nat.le_of_ble_eq_true rfl, Nat.le_of_ble_eq_true rfl⟩) (pv_Mo hI hE hM) rfl rfl hl.1 rfl (lv_room (Nat.le_of_ble_eq_true rfl)) d_Mo_clock_9 ⟨Nat.le_of_ble_eq_true rfl, Nat.le_of_ble_eq_true rfl⟩) (fun x_6 H locs f σ_4 hI hM hF_5 p_3 => ?_)
  have hF := mq_fr_tr hF hF_5 (by decide)
  obtain ⟨p_8, o_7, -⟩ := p_3
  have p_8 := p_8.symm
  subst p_8
  refine lv_if_ne (tgt := 16) hx hb d_Mo_clock_12 (by decide) (fun c_9 => ?_) (fun c_9 => ?_)
  · refine lv_aload_n hx hb d_Mo_clock_16 rfl (lv_at hl 0 rfl) ?_
    refine lv_lload_n hx hb d_Mo_clock_17 rfl (lv_at hl 1 rfl) ?_
    refine mq_putj (k := 10) hx hb hts hown hI hM (by decide) rfl rfl (hts _ tw_1179) rfl (by decide +kernel) d_Mo_clock_18 (fun H locs f σ_10 e_11 hI hM => ?_)
    have hF := mq_fr_uj hF e_11 rfl
    have o_12 : σ_10.1 0 = if x_2 = 0 then 1 else 0 := by rw [e_11]; exact o_7
    refine lv_aload_n hx hb d_Mo_clock_21 rfl (lv_at hl 0 rfl) ?_
    refine lv_iconst (v := 1) hx hb d_Mo_clock_22 (by decide) ?_
    refine mq_puti (k := 11) (ty := .boolean) hx hb hts hown hI hM (by decide) rfl rfl (hts _ tw_1180) rfl (by decide +kernel) (nz_n (by decide)) (nz_f (by decide)) (mq_okz (by decide)) d_Mo_clock_23 (fun H locs f σ_13 e_14 hI hM => ?_)
    have hF := mq_fr_ui hF e_14 rfl
    have o_15 : σ_13.1 0 = if x_2 = 0 then 1 else 0 := by rw [e_14]; exact o_12
    exact sm_vret hx hb hr hlk hI ⟨σ_13, rfl, hM, hF, ⟨(Eq.trans o_15 (clk p_1)), trivial⟩⟩ d_Mo_clock_26
  · exact sm_vret hx hb hr hlk hI ⟨σ_4, rfl, hM, hF, ⟨(Eq.trans o_7 (clk p_1)), trivial⟩⟩ d_Mo_clock_15
theorem d_Mo_open_0 : decode b_Mo_open 0 = .ok (.aload_n 0, 1) := by decide +kernel
theorem d_Mo_open_1 : decode b_Mo_open 1 = .ok (.iload_n 1, 1) := by decide +kernel
theorem d_Mo_open_2 : decode b_Mo_open 2 = .ok (.i2l, 1) := by decide +kernel
theorem d_Mo_open_3 : decode b_Mo_open 3 = .ok (.lconst 0, 1) := by decide +kernel
theorem d_Mo_open_4 : decode b_Mo_open 4 = .ok (.ldc2_w 350, 3) := by decide +kernel
theorem d_Mo_open_7 : decode b_Mo_open 7 = .ok (.invokestatic 187, 3) := by decide +kernel
theorem d_Mo_open_10 : decode b_Mo_open 10 = .ok (.ifCond .ne 7, 3) := by decide +kernel
theorem d_Mo_open_13 : decode b_Mo_open 13 = .ok (.iconst 1, 1) := by decide +kernel
theorem d_Mo_open_14 : decode b_Mo_open 14 = .ok (.goto 17, 3) := by decide +kernel
theorem d_Mo_open_17 : decode b_Mo_open 17 = .ok (.aload_n 0, 1) := by decide +kernel
theorem d_Mo_open_18 : decode b_Mo_open 18 = .ok (.getfield 29, 3) := by decide +kernel
theorem d_Mo_open_21 : decode b_Mo_open 21 = .ok (.iload_n 1, 1) := by decide +kernel
theorem d_Mo_open_22 : decode b_Mo_open 22 = .ok (.iaload, 1) := by decide +kernel
theorem d_Mo_open_23 : decode b_Mo_open 23 = .ok (.ifCond .le 7, 3) := by decide +kernel
theorem d_Mo_open_26 : decode b_Mo_open 26 = .ok (.iconst 2, 1) := by decide +kernel
theorem d_Mo_open_27 : decode b_Mo_open 27 = .ok (.goto 4, 3) := by decide +kernel
theorem d_Mo_open_30 : decode b_Mo_open 30 = .ok (.iconst 0, 1) := by decide +kernel
theorem d_Mo_open_31 : decode b_Mo_open 31 = .ok (.putfield 179, 3) := by decide +kernel
theorem d_Mo_open_34 : decode b_Mo_open 34 = .ok (.aload_n 0, 1) := by decide +kernel
theorem d_Mo_open_35 : decode b_Mo_open 35 = .ok (.getfield 179, 3) := by decide +kernel
theorem d_Mo_open_38 : decode b_Mo_open 38 = .ok (.ifCond .le 4, 3) := by decide +kernel
theorem d_Mo_open_41 : decode b_Mo_open 41 = .ok (.return_, 1) := by decide +kernel
theorem d_Mo_open_42 : decode b_Mo_open 42 = .ok (.aload_n 0, 1) := by decide +kernel
theorem d_Mo_open_43 : decode b_Mo_open 43 = .ok (.getfield 29, 3) := by decide +kernel
theorem d_Mo_open_46 : decode b_Mo_open 46 = .ok (.iload_n 1, 1) := by decide +kernel
theorem d_Mo_open_47 : decode b_Mo_open 47 = .ok (.iconst 1, 1) := by decide +kernel
theorem d_Mo_open_48 : decode b_Mo_open 48 = .ok (.iastore, 1) := by decide +kernel
theorem d_Mo_open_49 : decode b_Mo_open 49 = .ok (.aload_n 0, 1) := by decide +kernel
theorem d_Mo_open_50 : decode b_Mo_open 50 = .ok (.getfield 47, 3) := by decide +kernel
theorem d_Mo_open_53 : decode b_Mo_open 53 = .ok (.iload_n 1, 1) := by decide +kernel
theorem d_Mo_open_54 : decode b_Mo_open 54 = .ok (.iconst 0, 1) := by decide +kernel
theorem d_Mo_open_55 : decode b_Mo_open 55 = .ok (.iastore, 1) := by decide +kernel
theorem d_Mo_open_56 : decode b_Mo_open 56 = .ok (.aload_n 0, 1) := by decide +kernel
theorem d_Mo_open_57 : decode b_Mo_open 57 = .ok (.getfield 50, 3) := by decide +kernel
theorem d_Mo_open_60 : decode b_Mo_open 60 = .ok (.iload_n 1, 1) := by decide +kernel
theorem d_Mo_open_61 : decode b_Mo_open 61 = .ok (.iconst 0, 1) := by decide +kernel
theorem d_Mo_open_62 : decode b_Mo_open 62 = .ok (.iastore, 1) := by decide +kernel
theorem d_Mo_open_63 : decode b_Mo_open 63 = .ok (.aload_n 0, 1) := by decide +kernel
theorem d_Mo_open_64 : decode b_Mo_open 64 = .ok (.getfield 53, 3) := by decide +kernel
theorem d_Mo_open_67 : decode b_Mo_open 67 = .ok (.iload_n 1, 1) := by decide +kernel
theorem d_Mo_open_68 : decode b_Mo_open 68 = .ok (.iconst 0, 1) := by decide +kernel
theorem d_Mo_open_69 : decode b_Mo_open 69 = .ok (.iastore, 1) := by decide +kernel
theorem d_Mo_open_70 : decode b_Mo_open 70 = .ok (.aload_n 0, 1) := by decide +kernel
theorem d_Mo_open_71 : decode b_Mo_open 71 = .ok (.getfield 56, 3) := by decide +kernel
theorem d_Mo_open_74 : decode b_Mo_open 74 = .ok (.iload_n 1, 1) := by decide +kernel
theorem d_Mo_open_75 : decode b_Mo_open 75 = .ok (.iconst 0, 1) := by decide +kernel
theorem d_Mo_open_76 : decode b_Mo_open 76 = .ok (.iastore, 1) := by decide +kernel
theorem d_Mo_open_77 : decode b_Mo_open 77 = .ok (.aload_n 0, 1) := by decide +kernel
theorem d_Mo_open_78 : decode b_Mo_open 78 = .ok (.getfield 66, 3) := by decide +kernel
theorem d_Mo_open_81 : decode b_Mo_open 81 = .ok (.iload_n 1, 1) := by decide +kernel
theorem d_Mo_open_82 : decode b_Mo_open 82 = .ok (.iconst 0, 1) := by decide +kernel
theorem d_Mo_open_83 : decode b_Mo_open 83 = .ok (.iastore, 1) := by decide +kernel
theorem d_Mo_open_84 : decode b_Mo_open 84 = .ok (.aload_n 0, 1) := by decide +kernel
theorem d_Mo_open_85 : decode b_Mo_open 85 = .ok (.getfield 75, 3) := by decide +kernel
theorem d_Mo_open_88 : decode b_Mo_open 88 = .ok (.iload_n 1, 1) := by decide +kernel
theorem d_Mo_open_89 : decode b_Mo_open 89 = .ok (.iconst 0, 1) := by decide +kernel
theorem d_Mo_open_90 : decode b_Mo_open 90 = .ok (.bastore, 1) := by decide +kernel
theorem d_Mo_open_91 : decode b_Mo_open 91 = .ok (.aload_n 0, 1) := by decide +kernel
theorem d_Mo_open_92 : decode b_Mo_open 92 = .ok (.getfield 72, 3) := by decide +kernel
theorem d_Mo_open_95 : decode b_Mo_open 95 = .ok (.iload_n 1, 1) := by decide +kernel
theorem d_Mo_open_96 : decode b_Mo_open 96 = .ok (.aload_n 0, 1) := by decide +kernel
theorem d_Mo_open_97 : decode b_Mo_open 97 = .ok (.getfield 282, 3) := by decide +kernel
theorem d_Mo_open_100 : decode b_Mo_open 100 = .ok (.lastore, 1) := by decide +kernel
theorem d_Mo_open_101 : decode b_Mo_open 101 = .ok (.return_, 1) := by decide +kernel
set_option maxRecDepth 100000 in
set_option maxHeartbeats 4000000 in
theorem c_Mo_open (l : Launch) (D : va_G) (ca : Nat → ClassId) (ad : Nat → Nat) (L : List Nat) (f0 : Nat → va_E) (sz : Nat) (σ0 : mq_S) (hM : mq_B ca ad σ0 L f0) (x1 : Int32) :
    Met l y_Mo_open (Cond.code y_Mo_open b_Mo_open 2 none :: wg) { frames := 1, cells := 0, slots := 0, locals := 25 } (va_Pc [.ref (ad 71), .int (x1)] (sm_P D cl_all (ty_s ca) ek L f0 sz)) (sm_Qv D (ty_s ca) L f0 sz (fun u => mq_po ca ad L σ0 [0, 13, 19, 20, 21, 22, 25, 27, 28] (fun σ => True) u)) 0 0 (va_A (va_pl L f0) sz) := by
  refine sm_start (by decide) (Nat.le_of_ble_eq_true rfl) ?_
  intro p e s m below meth c ls hx hb hml hr hlk hnm hts hown hsz hE hI hl
  have hl : lv_has ls 2 [(0, .ref (ad 71)), (1, .int (x1))] := hl
  have hF : mq_fr [0, 13, 19, 20, 21, 22, 25, 27, 28] σ0 σ0 := mq_fr_rf
  refine lv_aload_n hx hb d_Mo_open_0 rfl (lv_at hl 0 rfl) ?_
  refine lv_iload_n hx hb d_Mo_open_1 rfl (lv_at hl 1 rfl) ?_
  refine lv_i2l hx hb d_Mo_open_2 rfl ?_
  refine lv_topl (fun x_1 e_2 => ?_)
  refine lv_lconst (v := 0) hx hb d_Mo_open_3 (by decide) ?_
  refine lv_ldc2 (v := 2) hx hb hown (hts _ tw_1549) d_Mo_open_4 ?_
  refine sm_iP hI (va_runS (As := [.long (x_1), .long (0), .long (2)]) (rest := [.ref (ad 71)]) ⟨hx, hb, hml, hown, hts⟩ (c_Mo_in l D ca L _ _ x_1 0 2) (ks_Mo_in hts rfl rfl (hts _ tw_1393) ⟨Nat.le_of_ble_eq_true rfl, Nat.le_of_ble_eq_true rfl⟩) (sm_preS hI hE) rfl rfl hl.1 rfl (lv_room (Nat.le_of_ble_eq_true rfl)) d_Mo_open_7 ⟨Nat.le_of_ble_eq_true rfl, Nat.le_of_ble_eq_true rfl⟩) (fun x_4 H locs p_3 hI => ?_)
  rcases jn_int (lo := 0) (hi := 2) p_3 e_2 (by decide) (by decide) (by omega) with ⟨rfl, j_6, h_7, h_8, e_9⟩ | ⟨rfl, h_5⟩
  · rw [e_9] at hl
    refine lv_if_ne (tgt := 17) hx hb d_Mo_open_10 (by decide) (fun c_10 => ?_) (fun c_10 => ?_)
    · refine lv_aload_n hx hb d_Mo_open_17 rfl (lv_at hl 0 rfl) ?_
      refine mq_get (k := 13) (v := .ref (ad 13)) hx hb hts hown hI hM (by decide) rfl rfl (hts _ tw_1182) d_Mo_open_18 ?_
      refine lv_iload_n hx hb d_Mo_open_21 rfl (lv_at hl 1 rfl) ?_
      obtain ⟨x_11, e_12⟩ : ∃ z, σ0.2.2.1 13 (j_6) = z := ⟨_, rfl⟩
      refine mq_iald (k := 13) (j := j_6) (v := x_11) hx hb hI hM (by decide) rfl (by show j_6 < 4; omega) (by decide) e_12 d_Mo_open_22 ?_
      refine lv_if_le (tgt := 30) hx hb d_Mo_open_23 (by decide) (fun c_13 => ?_) (fun c_13 => ?_)
      · refine lv_iconst (v := 0) hx hb d_Mo_open_30 (by decide) ?_
        refine mq_puti (k := 0) (ty := .int) hx hb hts hown hI hM (by decide) rfl rfl (hts _ tw_1169) rfl (by decide +kernel) rfl rfl trivial d_Mo_open_31 (fun H locs f σ_14 e_15 hI hM => ?_)
        have hF := mq_fr_ui hF e_15 rfl
        have o_16 := mq_uik e_15
        refine lv_aload_n hx hb d_Mo_open_34 rfl (lv_at hl 0 rfl) ?_
        refine mq_get (k := 0) (v := .int (0)) hx hb hts hown hI hM (by decide) (congrArg (fun z => some (Value.int z)) o_16) rfl (hts _ tw_1169) d_Mo_open_35 ?_
        refine lv_if_le (tgt := 42) hx hb d_Mo_open_38 (by decide) (fun c_17 => ?_) (fun c_17 => ?_)
        · refine lv_aload_n hx hb d_Mo_open_42 rfl (lv_at hl 0 rfl) ?_
          refine mq_get (k := 13) (v := .ref (ad 13)) hx hb hts hown hI hM (by decide) rfl rfl (hts _ tw_1182) d_Mo_open_43 ?_
          refine lv_iload_n hx hb d_Mo_open_46 rfl (lv_at hl 1 rfl) ?_
          refine lv_iconst (v := 1) hx hb d_Mo_open_47 (by decide) ?_
          refine mq_iast (k := 13) (j := j_6) (x := 1) hx hb hI hM (by decide) rfl (by show j_6 < 4; omega) (by decide) trivial d_Mo_open_48 (fun H locs f σ_18 e_19 hI hM => ?_)
          have hF := mq_fr_ug hF e_19 rfl (Or.inl rfl)
          have o_20 : σ_18.1 0 = 0 := by rw [e_19]; exact o_16
          refine lv_aload_n hx hb d_Mo_open_49 rfl (lv_at hl 0 rfl) ?_
          refine mq_get (k := 19) (v := .ref (ad 19)) hx hb hts hown hI hM (by decide) rfl rfl (hts _ tw_1188) d_Mo_open_50 ?_
          refine lv_iload_n hx hb d_Mo_open_53 rfl (lv_at hl 1 rfl) ?_
          refine lv_iconst (v := 0) hx hb d_Mo_open_54 (by decide) ?_
          refine mq_iast (k := 19) (j := j_6) (x := 0) hx hb hI hM (by decide) rfl (by show j_6 < 3; omega) (by decide) trivial d_Mo_open_55 (fun H locs f σ_21 e_22 hI hM => ?_)
          have hF := mq_fr_ug hF e_22 rfl (Or.inl rfl)
          have o_23 : σ_21.1 0 = 0 := by rw [e_22]; exact o_20
          refine lv_aload_n hx hb d_Mo_open_56 rfl (lv_at hl 0 rfl) ?_
          refine mq_get (k := 20) (v := .ref (ad 20)) hx hb hts hown hI hM (by decide) rfl rfl (hts _ tw_1189) d_Mo_open_57 ?_
          refine lv_iload_n hx hb d_Mo_open_60 rfl (lv_at hl 1 rfl) ?_
          refine lv_iconst (v := 0) hx hb d_Mo_open_61 (by decide) ?_
          refine mq_iast (k := 20) (j := j_6) (x := 0) hx hb hI hM (by decide) rfl (by show j_6 < 3; omega) (by decide) trivial d_Mo_open_62 (fun H locs f σ_24 e_25 hI hM => ?_)
          have hF := mq_fr_ug hF e_25 rfl (Or.inl rfl)
          have o_26 : σ_24.1 0 = 0 := by rw [e_25]; exact o_23
          refine lv_aload_n hx hb d_Mo_open_63 rfl (lv_at hl 0 rfl) ?_
          refine mq_get (k := 21) (v := .ref (ad 21)) hx hb hts hown hI hM (by decide) rfl rfl (hts _ tw_1190) d_Mo_open_64 ?_
          refine lv_iload_n hx hb d_Mo_open_67 rfl (lv_at hl 1 rfl) ?_
          refine lv_iconst (v := 0) hx hb d_Mo_open_68 (by decide) ?_
          refine mq_iast (k := 21) (j := j_6) (x := 0) hx hb hI hM (by decide) rfl (by show j_6 < 3; omega) (by decide) ⟨0, by decide, by decide, rfl⟩ d_Mo_open_69 (fun H locs f σ_27 e_28 hI hM => ?_)
          have hF := mq_fr_ug hF e_28 rfl (Or.inl rfl)
          have o_29 : σ_27.1 0 = 0 := by rw [e_28]; exact o_26
          refine lv_aload_n hx hb d_Mo_open_70 rfl (lv_at hl 0 rfl) ?_
          refine mq_get (k := 22) (v := .ref (ad 22)) hx hb hts hown hI hM (by decide) rfl rfl (hts _ tw_1191) d_Mo_open_71 ?_
          refine lv_iload_n hx hb d_Mo_open_74 rfl (lv_at hl 1 rfl) ?_
          refine lv_iconst (v := 0) hx hb d_Mo_open_75 (by decide) ?_
          refine mq_iast (k := 22) (j := j_6) (x := 0) hx hb hI hM (by decide) rfl (by show j_6 < 3; omega) (by decide) ⟨0, by decide, by decide, rfl⟩ d_Mo_open_76 (fun H locs f σ_30 e_31 hI hM => ?_)
          have hF := mq_fr_ug hF e_31 rfl (Or.inl rfl)
          have o_32 : σ_30.1 0 = 0 := by rw [e_31]; exact o_29
          refine lv_aload_n hx hb d_Mo_open_77 rfl (lv_at hl 0 rfl) ?_
          refine mq_get (k := 25) (v := .ref (ad 25)) hx hb hts hown hI hM (by decide) rfl rfl (hts _ tw_1194) d_Mo_open_78 ?_
          refine lv_iload_n hx hb d_Mo_open_81 rfl (lv_at hl 1 rfl) ?_
          refine lv_iconst (v := 0) hx hb d_Mo_open_82 (by decide) ?_
          refine mq_iast (k := 25) (j := j_6) (x := 0) hx hb hI hM (by decide) rfl (by show j_6 < 3; omega) (by decide) trivial d_Mo_open_83 (fun H locs f σ_33 e_34 hI hM => ?_)
          have hF := mq_fr_ug hF e_34 rfl (Or.inl rfl)
          have o_35 : σ_33.1 0 = 0 := by rw [e_34]; exact o_32
          refine lv_aload_n hx hb d_Mo_open_84 rfl (lv_at hl 0 rfl) ?_
          refine mq_get (k := 28) (v := .ref (ad 28)) hx hb hts hown hI hM (by decide) rfl rfl (hts _ tw_1197) d_Mo_open_85 ?_
          refine lv_iload_n hx hb d_Mo_open_88 rfl (lv_at hl 1 rfl) ?_
          refine lv_iconst (v := 0) hx hb d_Mo_open_89 (by decide) ?_
          refine mq_zast (k := 28) (j := j_6) hx hb hI hM (by decide) rfl (by show j_6 < 3; omega) (by decide) rfl (by decide) d_Mo_open_90 (fun H locs f σ_36 e_37 hI hM => ?_)
          have hF := mq_fr_ug hF e_37 rfl (Or.inl rfl)
          have o_38 : σ_36.1 0 = 0 := by rw [e_37]; exact o_35
          refine lv_aload_n hx hb d_Mo_open_91 rfl (lv_at hl 0 rfl) ?_
          refine mq_get (k := 27) (v := .ref (ad 27)) hx hb hts hown hI hM (by decide) rfl rfl (hts _ tw_1196) d_Mo_open_92 ?_
          refine lv_iload_n hx hb d_Mo_open_95 rfl (lv_at hl 1 rfl) ?_
          refine lv_aload_n hx hb d_Mo_open_96 rfl (lv_at hl 0 rfl) ?_
          refine mq_get (k := 12) (v := .long (σ_36.2.1 12)) hx hb hts hown hI hM (by decide) rfl rfl (hts _ tw_1181) d_Mo_open_97 ?_
          refine lv_topl (fun x_39 e_40 => ?_)
          refine mq_last (k := 27) (j := j_6) hx hb hI hM (by decide) rfl (by show j_6 < 3; omega) (by decide) d_Mo_open_100 (fun H locs f σ_41 e_42 hI hM => ?_)
          have hF := mq_fr_uh hF e_42 rfl
          have o_43 : σ_41.1 0 = 0 := by rw [e_42]; exact o_38
          exact sm_vret hx hb hr hlk hI ⟨σ_41, rfl, hM, hF, trivial⟩ d_Mo_open_101
        · exact absurd c_17 (by decide)
      · refine lv_iconst (v := 2) hx hb d_Mo_open_26 (by decide) ?_
        refine lv_goto (tgt := 31) hx hb d_Mo_open_27 (by decide) ?_
        refine mq_puti (k := 0) (ty := .int) hx hb hts hown hI hM (by decide) rfl rfl (hts _ tw_1169) rfl (by decide +kernel) rfl rfl trivial d_Mo_open_31 (fun H locs f σ_44 e_45 hI hM => ?_)
        have hF := mq_fr_ui hF e_45 rfl
        have o_46 := mq_uik e_45
        refine lv_aload_n hx hb d_Mo_open_34 rfl (lv_at hl 0 rfl) ?_
        refine mq_get (k := 0) (v := .int (2)) hx hb hts hown hI hM (by decide) (congrArg (fun z => some (Value.int z)) o_46) rfl (hts _ tw_1169) d_Mo_open_35 ?_
        refine lv_if_le (tgt := 42) hx hb d_Mo_open_38 (by decide) (fun c_47 => ?_) (fun c_47 => ?_)
        · exact absurd c_47 (by decide)
        · exact sm_vret hx hb hr hlk hI ⟨σ_44, rfl, hM, hF, trivial⟩ d_Mo_open_41
    · exact absurd c_10 (by decide)
  · refine lv_if_ne (tgt := 17) hx hb d_Mo_open_10 (by decide) (fun c_48 => ?_) (fun c_48 => ?_)
    · exact absurd c_48 (by decide)
    · refine lv_iconst (v := 1) hx hb d_Mo_open_13 (by decide) ?_
      refine lv_goto (tgt := 31) hx hb d_Mo_open_14 (by decide) ?_
      refine mq_puti (k := 0) (ty := .int) hx hb hts hown hI hM (by decide) rfl rfl (hts _ tw_1169) rfl (by decide +kernel) rfl rfl trivial d_Mo_open_31 (fun H locs f σ_49 e_50 hI hM => ?_)
      have hF := mq_fr_ui hF e_50 rfl
      have o_51 := mq_uik e_50
      refine lv_aload_n hx hb d_Mo_open_34 rfl (lv_at hl 0 rfl) ?_
      refine mq_get (k := 0) (v := .int (1)) hx hb hts hown hI hM (by decide) (congrArg (fun z => some (Value.int z)) o_51) rfl (hts _ tw_1169) d_Mo_open_35 ?_
      refine lv_if_le (tgt := 42) hx hb d_Mo_open_38 (by decide) (fun c_52 => ?_) (fun c_52 => ?_)
      · exact absurd c_52 (by decide)
      · exact sm_vret hx hb hr hlk hI ⟨σ_49, rfl, hM, hF, trivial⟩ d_Mo_open_41
theorem d_Mo_close_0 : decode b_Mo_close 0 = .ok (.aload_n 0, 1) := by decide +kernel
theorem d_Mo_close_1 : decode b_Mo_close 1 = .ok (.iload_n 1, 1) := by decide +kernel
theorem d_Mo_close_2 : decode b_Mo_close 2 = .ok (.i2l, 1) := by decide +kernel
theorem d_Mo_close_3 : decode b_Mo_close 3 = .ok (.lconst 0, 1) := by decide +kernel
theorem d_Mo_close_4 : decode b_Mo_close 4 = .ok (.ldc2_w 350, 3) := by decide +kernel
theorem d_Mo_close_7 : decode b_Mo_close 7 = .ok (.invokestatic 187, 3) := by decide +kernel
theorem d_Mo_close_10 : decode b_Mo_close 10 = .ok (.ifCond .ne 7, 3) := by decide +kernel
theorem d_Mo_close_13 : decode b_Mo_close 13 = .ok (.iconst 1, 1) := by decide +kernel
theorem d_Mo_close_14 : decode b_Mo_close 14 = .ok (.goto 17, 3) := by decide +kernel
theorem d_Mo_close_17 : decode b_Mo_close 17 = .ok (.aload_n 0, 1) := by decide +kernel
theorem d_Mo_close_18 : decode b_Mo_close 18 = .ok (.getfield 29, 3) := by decide +kernel
theorem d_Mo_close_21 : decode b_Mo_close 21 = .ok (.iload_n 1, 1) := by decide +kernel
theorem d_Mo_close_22 : decode b_Mo_close 22 = .ok (.iaload, 1) := by decide +kernel
theorem d_Mo_close_23 : decode b_Mo_close 23 = .ok (.ifCond .ne 7, 3) := by decide +kernel
theorem d_Mo_close_26 : decode b_Mo_close 26 = .ok (.iconst 2, 1) := by decide +kernel
theorem d_Mo_close_27 : decode b_Mo_close 27 = .ok (.goto 4, 3) := by decide +kernel
theorem d_Mo_close_30 : decode b_Mo_close 30 = .ok (.iconst 0, 1) := by decide +kernel
theorem d_Mo_close_31 : decode b_Mo_close 31 = .ok (.putfield 179, 3) := by decide +kernel
theorem d_Mo_close_34 : decode b_Mo_close 34 = .ok (.aload_n 0, 1) := by decide +kernel
theorem d_Mo_close_35 : decode b_Mo_close 35 = .ok (.getfield 179, 3) := by decide +kernel
theorem d_Mo_close_38 : decode b_Mo_close 38 = .ok (.ifCond .le 4, 3) := by decide +kernel
theorem d_Mo_close_41 : decode b_Mo_close 41 = .ok (.return_, 1) := by decide +kernel
theorem d_Mo_close_42 : decode b_Mo_close 42 = .ok (.aload_n 0, 1) := by decide +kernel
theorem d_Mo_close_43 : decode b_Mo_close 43 = .ok (.iload_n 1, 1) := by decide +kernel
theorem d_Mo_close_44 : decode b_Mo_close 44 = .ok (.invokevirtual 276, 3) := by decide +kernel
theorem d_Mo_close_47 : decode b_Mo_close 47 = .ok (.aload_n 0, 1) := by decide +kernel
theorem d_Mo_close_48 : decode b_Mo_close 48 = .ok (.invokevirtual 216, 3) := by decide +kernel
theorem d_Mo_close_51 : decode b_Mo_close 51 = .ok (.return_, 1) := by decide +kernel
set_option maxRecDepth 100000 in
set_option maxHeartbeats 4000000 in
theorem c_Mo_close (l : Launch) (D : va_G) (ca : Nat → ClassId) (ad : Nat → Nat) (L : List Nat) (f0 : Nat → va_E) (sz : Nat) (σ0 : mq_S) (hM : mq_B ca ad σ0 L f0) (x1 : Int32) (u0 : IH σ0) :
    Met l y_Mo_close (Cond.code y_Mo_close b_Mo_close 2 none :: wg) { frames := 7, cells := 0, slots := 0, locals := 166 } (va_Pc [.ref (ad 71), .int (x1)] (sm_P D cl_all (ty_s ca) ek L f0 sz)) (sm_Qv D (ty_s ca) L f0 sz (fun u => mq_po ca ad L σ0 [0, 13, 14, 15, 16, 18, 19, 22, 23, 24, 25, 30, 31, 32, 33, 34, 42, 52, 54, 55, 65, 69, 70] (fun σ => IH σ ∧ True) u)) 0 0 (va_A (va_pl L f0) sz) := by
  refine sm_start (by decide) (Nat.le_of_ble_eq_true rfl) ?_
  intro p e s m below meth c ls hx hb hml hr hlk hnm hts hown hsz hE hI hl
  have hl : lv_has ls 2 [(0, .ref (ad 71)), (1, .int (x1))] := hl
  have hF : mq_fr [0, 13, 14, 15, 16, 18, 19, 22, 23, 24, 25, 30, 31, 32, 33, 34, 42, 52, 54, 55, 65, 69, 70] σ0 σ0 := mq_fr_rf
  refine lv_aload_n hx hb d_Mo_close_0 rfl (lv_at hl 0 rfl) ?_
  refine lv_iload_n hx hb d_Mo_close_1 rfl (lv_at hl 1 rfl) ?_
  refine lv_i2l hx hb d_Mo_close_2 rfl ?_
  refine lv_topl (fun x_1 e_2 => ?_)
  refine lv_lconst (v := 0) hx hb d_Mo_close_3 (by decide) ?_
  refine lv_ldc2 (v := 2) hx hb hown (hts _ tw_1549) d_Mo_close_4 ?_
  refine sm_iP hI (va_runS (As := [.long (x_1), .long (0), .long (2)]) (rest := [.ref (ad 71)]) ⟨hx, hb, hml, hown, hts⟩ (c_Mo_in l D ca L _ _ x_1 0 2) (ks_Mo_in hts rfl rfl (hts _ tw_1393) ⟨Nat.le_of_ble_eq_true rfl, Nat.le_of_ble_eq_true rfl⟩) (sm_preS hI hE) rfl rfl hl.1 rfl (lv_room (Nat.le_of_ble_eq_true rfl)) d_Mo_close_7 ⟨Nat.le_of_ble_eq_true rfl, Nat.le_of_ble_eq_true rfl⟩) (fun x_4 H locs p_3 hI => ?_)
  rcases jn_int (lo := 0) (hi := 2) p_3 e_2 (by decide) (by decide) (by omega) with ⟨rfl, j_6, h_7, h_8, e_9⟩ | ⟨rfl, h_5⟩
  · rw [e_9] at hl
    refine lv_if_ne (tgt := 17) hx hb d_Mo_close_10 (by decide) (fun c_10 => ?_) (fun c_10 => ?_)
    · refine lv_aload_n hx hb d_Mo_close_17 rfl (lv_at hl 0 rfl) ?_
      refine mq_get (k := 13) (v := .ref (ad 13)) hx hb hts hown hI hM (by decide) rfl rfl (hts _ tw_1182) d_Mo_close_18 ?_
      refine lv_iload_n hx hb d_Mo_close_21 rfl (lv_at hl 1 rfl) ?_
      obtain ⟨x_11, e_12⟩ : ∃ z, σ0.2.2.1 13 (j_6) = z := ⟨_, rfl⟩
      refine mq_iald (k := 13) (j := j_6) (v := x_11) hx hb hI hM (by decide) rfl (by show j_6 < 4; omega) (by decide) e_12 d_Mo_close_22 ?_
      refine lv_if_ne (tgt := 30) hx hb d_Mo_close_23 (by decide) (fun c_13 => ?_) (fun c_13 => ?_)
      · refine lv_iconst (v := 0) hx hb d_Mo_close_30 (by decide) ?_
        refine mq_puti (k := 0) (ty := .int) hx hb hts hown hI hM (by decide) rfl rfl (hts _ tw_1169) rfl (by decide +kernel) rfl rfl trivial d_Mo_close_31 (fun H locs f σ_14 e_15 hI hM => ?_)
        have hF := mq_fr_ui hF e_15 rfl
        have u_16 := IH_fr (mq_fr_ui (X := [0]) mq_fr_rf e_15 rfl) (by decide) u0
        have o_17 := mq_uik e_15
        refine lv_aload_n hx hb d_Mo_close_34 rfl (lv_at hl 0 rfl) ?_
        refine mq_get (k := 0) (v := .int (0)) hx hb hts hown hI hM (by decide) (congrArg (fun z => some (Value.int z)) o_17) rfl (hts _ tw_1169) d_Mo_close_35 ?_
        refine lv_if_le (tgt := 42) hx hb d_Mo_close_38 (by decide) (fun c_18 => ?_) (fun c_18 => ?_)
        · refine lv_aload_n hx hb d_Mo_close_42 rfl (lv_at hl 0 rfl) ?_
          refine lv_iload_n hx hb d_Mo_close_43 rfl (lv_at hl 1 rfl) ?_
          refine sm_vM hI (va_runV (As := [.int (nI j_6)]) (rest := []) ⟨hx, hb, hml, hown, hts⟩ (c_Mo_shut l D ca ad L _ _ _ hM (j_6) (by omega) u_16) (kv_Mo_shut hts rfl rfl (hts _ tw_1513) ⟨Nat.le_of_ble_eq_true rfl, Nat.le_of_ble_eq_true rfl⟩) (pv_Mo hI hE hM) rfl rfl hl.1 rfl (lv_room (Nat.le_of_ble_eq_true rfl)) d_Mo_close_44 ⟨Nat.le_of_ble_eq_true rfl, Nat.le_of_ble_eq_true rfl⟩) (fun H locs f σ_20 hI hM hF_21 p_19 => ?_)
          have hF := mq_fr_tr hF hF_21 (by decide)
          have o_22 : σ_20.1 0 = 0 := mq_fi hF_21 (by decide) o_17
          obtain ⟨o_23, o_24, u_25, -⟩ := p_19
          refine lv_aload_n hx hb d_Mo_close_47 rfl (lv_at hl 0 rfl) ?_
          refine sm_vM hI (va_runV (As := []) (rest := []) ⟨hx, hb, hml, hown, hts⟩ (c_Mo_sendAll l D ca ad L _ _ _ hM u_25) (kv_Mo_sendAll hts rfl rfl (hts _ tw_1422) ⟨Nat.le_of_ble_eq_true rfl, Nat.le_of_ble_eq_true rfl⟩) (pv_Mo hI hE hM) rfl rfl hl.1 rfl (lv_room (Nat.le_of_ble_eq_true rfl)) d_Mo_close_48 ⟨Nat.le_of_ble_eq_true rfl, Nat.le_of_ble_eq_true rfl⟩) (fun H locs f σ_27 hI hM hF_28 p_26 => ?_)
          have hF := mq_fr_tr hF hF_28 (by decide)
          have o_29 : σ_27.1 0 = 0 := mq_fi hF_28 (by decide) o_22
          obtain ⟨n_30, h_31, o_32⟩ := mq_ri (n := (0)) hF_28 (by decide) o_24
          obtain ⟨u_33, -⟩ := p_26
          exact sm_vret hx hb hr hlk hI ⟨σ_27, rfl, hM, hF, ⟨u_33, trivial⟩⟩ d_Mo_close_51
        · exact absurd c_18 (by decide)
      · refine lv_iconst (v := 2) hx hb d_Mo_close_26 (by decide) ?_
        refine lv_goto (tgt := 31) hx hb d_Mo_close_27 (by decide) ?_
        refine mq_puti (k := 0) (ty := .int) hx hb hts hown hI hM (by decide) rfl rfl (hts _ tw_1169) rfl (by decide +kernel) rfl rfl trivial d_Mo_close_31 (fun H locs f σ_34 e_35 hI hM => ?_)
        have hF := mq_fr_ui hF e_35 rfl
        have u_36 := IH_fr (mq_fr_ui (X := [0]) mq_fr_rf e_35 rfl) (by decide) u0
        have o_37 := mq_uik e_35
        refine lv_aload_n hx hb d_Mo_close_34 rfl (lv_at hl 0 rfl) ?_
        refine mq_get (k := 0) (v := .int (2)) hx hb hts hown hI hM (by decide) (congrArg (fun z => some (Value.int z)) o_37) rfl (hts _ tw_1169) d_Mo_close_35 ?_
        refine lv_if_le (tgt := 42) hx hb d_Mo_close_38 (by decide) (fun c_38 => ?_) (fun c_38 => ?_)
        · exact absurd c_38 (by decide)
        · exact sm_vret hx hb hr hlk hI ⟨σ_34, rfl, hM, hF, ⟨u_36, trivial⟩⟩ d_Mo_close_41
    · exact absurd c_10 (by decide)
  · refine lv_if_ne (tgt := 17) hx hb d_Mo_close_10 (by decide) (fun c_39 => ?_) (fun c_39 => ?_)
    · exact absurd c_39 (by decide)
    · refine lv_iconst (v := 1) hx hb d_Mo_close_13 (by decide) ?_
      refine lv_goto (tgt := 31) hx hb d_Mo_close_14 (by decide) ?_
      refine mq_puti (k := 0) (ty := .int) hx hb hts hown hI hM (by decide) rfl rfl (hts _ tw_1169) rfl (by decide +kernel) rfl rfl trivial d_Mo_close_31 (fun H locs f σ_40 e_41 hI hM => ?_)
      have hF := mq_fr_ui hF e_41 rfl
      have u_42 := IH_fr (mq_fr_ui (X := [0]) mq_fr_rf e_41 rfl) (by decide) u0
      have o_43 := mq_uik e_41
      refine lv_aload_n hx hb d_Mo_close_34 rfl (lv_at hl 0 rfl) ?_
      refine mq_get (k := 0) (v := .int (1)) hx hb hts hown hI hM (by decide) (congrArg (fun z => some (Value.int z)) o_43) rfl (hts _ tw_1169) d_Mo_close_35 ?_
      refine lv_if_le (tgt := 42) hx hb d_Mo_close_38 (by decide) (fun c_44 => ?_) (fun c_44 => ?_)
      · exact absurd c_44 (by decide)
      · exact sm_vret hx hb hr hlk hI ⟨σ_40, rfl, hM, hF, ⟨u_42, trivial⟩⟩ d_Mo_close_41
theorem d_Mo_look_0 : decode b_Mo_look 0 = .ok (.aload_n 0, 1) := by decide +kernel
theorem d_Mo_look_1 : decode b_Mo_look 1 = .ok (.iload_n 1, 1) := by decide +kernel
theorem d_Mo_look_2 : decode b_Mo_look 2 = .ok (.i2l, 1) := by decide +kernel
theorem d_Mo_look_3 : decode b_Mo_look 3 = .ok (.lconst 0, 1) := by decide +kernel
theorem d_Mo_look_4 : decode b_Mo_look 4 = .ok (.ldc2_w 194, 3) := by decide +kernel
theorem d_Mo_look_7 : decode b_Mo_look 7 = .ok (.invokestatic 187, 3) := by decide +kernel
theorem d_Mo_look_10 : decode b_Mo_look 10 = .ok (.ifCond .eq 19, 3) := by decide +kernel
theorem d_Mo_look_13 : decode b_Mo_look 13 = .ok (.iload_n 2, 1) := by decide +kernel
theorem d_Mo_look_14 : decode b_Mo_look 14 = .ok (.i2l, 1) := by decide +kernel
theorem d_Mo_look_15 : decode b_Mo_look 15 = .ok (.lconst 0, 1) := by decide +kernel
theorem d_Mo_look_16 : decode b_Mo_look 16 = .ok (.ldc2_w 491, 3) := by decide +kernel
theorem d_Mo_look_19 : decode b_Mo_look 19 = .ok (.invokestatic 187, 3) := by decide +kernel
theorem d_Mo_look_22 : decode b_Mo_look 22 = .ok (.ifCond .eq 7, 3) := by decide +kernel
theorem d_Mo_look_25 : decode b_Mo_look 25 = .ok (.iconst 1, 1) := by decide +kernel
theorem d_Mo_look_26 : decode b_Mo_look 26 = .ok (.goto 4, 3) := by decide +kernel
theorem d_Mo_look_29 : decode b_Mo_look 29 = .ok (.iconst 0, 1) := by decide +kernel
theorem d_Mo_look_30 : decode b_Mo_look 30 = .ok (.invokevirtual 208, 3) := by decide +kernel
theorem d_Mo_look_33 : decode b_Mo_look 33 = .ok (.ifCond .ne 5, 3) := by decide +kernel
theorem d_Mo_look_36 : decode b_Mo_look 36 = .ok (.iconst 0, 1) := by decide +kernel
theorem d_Mo_look_37 : decode b_Mo_look 37 = .ok (.ireturn, 1) := by decide +kernel
theorem d_Mo_look_38 : decode b_Mo_look 38 = .ok (.iload_n 2, 1) := by decide +kernel
theorem d_Mo_look_39 : decode b_Mo_look 39 = .ok (.ifCond .ne 10, 3) := by decide +kernel
theorem d_Mo_look_42 : decode b_Mo_look 42 = .ok (.aload_n 0, 1) := by decide +kernel
theorem d_Mo_look_43 : decode b_Mo_look 43 = .ok (.getfield 29, 3) := by decide +kernel
theorem d_Mo_look_46 : decode b_Mo_look 46 = .ok (.iload_n 1, 1) := by decide +kernel
theorem d_Mo_look_47 : decode b_Mo_look 47 = .ok (.iaload, 1) := by decide +kernel
theorem d_Mo_look_48 : decode b_Mo_look 48 = .ok (.ireturn, 1) := by decide +kernel
theorem d_Mo_look_49 : decode b_Mo_look 49 = .ok (.aload_n 0, 1) := by decide +kernel
theorem d_Mo_look_50 : decode b_Mo_look 50 = .ok (.getfield 29, 3) := by decide +kernel
theorem d_Mo_look_53 : decode b_Mo_look 53 = .ok (.iload_n 1, 1) := by decide +kernel
theorem d_Mo_look_54 : decode b_Mo_look 54 = .ok (.iaload, 1) := by decide +kernel
theorem d_Mo_look_55 : decode b_Mo_look 55 = .ok (.ifCond .ne 5, 3) := by decide +kernel
theorem d_Mo_look_58 : decode b_Mo_look 58 = .ok (.iconst 0, 1) := by decide +kernel
theorem d_Mo_look_59 : decode b_Mo_look 59 = .ok (.ireturn, 1) := by decide +kernel
theorem d_Mo_look_60 : decode b_Mo_look 60 = .ok (.iload_n 2, 1) := by decide +kernel
theorem d_Mo_look_61 : decode b_Mo_look 61 = .ok (.iconst 1, 1) := by decide +kernel
theorem d_Mo_look_62 : decode b_Mo_look 62 = .ok (.if_icmp .ne 10, 3) := by decide +kernel
theorem d_Mo_look_65 : decode b_Mo_look 65 = .ok (.aload_n 0, 1) := by decide +kernel
theorem d_Mo_look_66 : decode b_Mo_look 66 = .ok (.getfield 38, 3) := by decide +kernel
theorem d_Mo_look_69 : decode b_Mo_look 69 = .ok (.iload_n 1, 1) := by decide +kernel
theorem d_Mo_look_70 : decode b_Mo_look 70 = .ok (.iaload, 1) := by decide +kernel
theorem d_Mo_look_71 : decode b_Mo_look 71 = .ok (.ireturn, 1) := by decide +kernel
theorem d_Mo_look_72 : decode b_Mo_look 72 = .ok (.iload_n 2, 1) := by decide +kernel
theorem d_Mo_look_73 : decode b_Mo_look 73 = .ok (.bipush 6, 2) := by decide +kernel
theorem d_Mo_look_75 : decode b_Mo_look 75 = .ok (.if_icmp .ne 10, 3) := by decide +kernel
theorem d_Mo_look_78 : decode b_Mo_look 78 = .ok (.aload_n 0, 1) := by decide +kernel
theorem d_Mo_look_79 : decode b_Mo_look 79 = .ok (.getfield 81, 3) := by decide +kernel
theorem d_Mo_look_82 : decode b_Mo_look 82 = .ok (.iload_n 1, 1) := by decide +kernel
theorem d_Mo_look_83 : decode b_Mo_look 83 = .ok (.iaload, 1) := by decide +kernel
theorem d_Mo_look_84 : decode b_Mo_look 84 = .ok (.ireturn, 1) := by decide +kernel
theorem d_Mo_look_85 : decode b_Mo_look 85 = .ok (.iload_n 1, 1) := by decide +kernel
theorem d_Mo_look_86 : decode b_Mo_look 86 = .ok (.iconst 3, 1) := by decide +kernel
theorem d_Mo_look_87 : decode b_Mo_look 87 = .ok (.if_icmp .ne 5, 3) := by decide +kernel
theorem d_Mo_look_90 : decode b_Mo_look 90 = .ok (.iconst 0, 1) := by decide +kernel
theorem d_Mo_look_91 : decode b_Mo_look 91 = .ok (.ireturn, 1) := by decide +kernel
theorem d_Mo_look_92 : decode b_Mo_look 92 = .ok (.iload_n 2, 1) := by decide +kernel
theorem d_Mo_look_93 : decode b_Mo_look 93 = .ok (.iconst 2, 1) := by decide +kernel
theorem d_Mo_look_94 : decode b_Mo_look 94 = .ok (.if_icmp .ne 12, 3) := by decide +kernel
theorem d_Mo_look_97 : decode b_Mo_look 97 = .ok (.aload_n 0, 1) := by decide +kernel
theorem d_Mo_look_98 : decode b_Mo_look 98 = .ok (.getfield 47, 3) := by decide +kernel
theorem d_Mo_look_101 : decode b_Mo_look 101 = .ok (.iload_n 1, 1) := by decide +kernel
theorem d_Mo_look_102 : decode b_Mo_look 102 = .ok (.iaload, 1) := by decide +kernel
theorem d_Mo_look_103 : decode b_Mo_look 103 = .ok (.goto 37, 3) := by decide +kernel
theorem d_Mo_look_106 : decode b_Mo_look 106 = .ok (.iload_n 2, 1) := by decide +kernel
theorem d_Mo_look_107 : decode b_Mo_look 107 = .ok (.iconst 3, 1) := by decide +kernel
theorem d_Mo_look_108 : decode b_Mo_look 108 = .ok (.if_icmp .ne 12, 3) := by decide +kernel
theorem d_Mo_look_111 : decode b_Mo_look 111 = .ok (.aload_n 0, 1) := by decide +kernel
theorem d_Mo_look_112 : decode b_Mo_look 112 = .ok (.getfield 56, 3) := by decide +kernel
theorem d_Mo_look_115 : decode b_Mo_look 115 = .ok (.iload_n 1, 1) := by decide +kernel
theorem d_Mo_look_116 : decode b_Mo_look 116 = .ok (.iaload, 1) := by decide +kernel
theorem d_Mo_look_117 : decode b_Mo_look 117 = .ok (.goto 23, 3) := by decide +kernel
theorem d_Mo_look_120 : decode b_Mo_look 120 = .ok (.iload_n 2, 1) := by decide +kernel
theorem d_Mo_look_121 : decode b_Mo_look 121 = .ok (.iconst 4, 1) := by decide +kernel
theorem d_Mo_look_122 : decode b_Mo_look 122 = .ok (.if_icmp .ne 12, 3) := by decide +kernel
theorem d_Mo_look_125 : decode b_Mo_look 125 = .ok (.aload_n 0, 1) := by decide +kernel
theorem d_Mo_look_126 : decode b_Mo_look 126 = .ok (.getfield 50, 3) := by decide +kernel
theorem d_Mo_look_129 : decode b_Mo_look 129 = .ok (.iload_n 1, 1) := by decide +kernel
theorem d_Mo_look_130 : decode b_Mo_look 130 = .ok (.iaload, 1) := by decide +kernel
theorem d_Mo_look_131 : decode b_Mo_look 131 = .ok (.goto 9, 3) := by decide +kernel
theorem d_Mo_look_134 : decode b_Mo_look 134 = .ok (.aload_n 0, 1) := by decide +kernel
theorem d_Mo_look_135 : decode b_Mo_look 135 = .ok (.getfield 66, 3) := by decide +kernel
theorem d_Mo_look_138 : decode b_Mo_look 138 = .ok (.iload_n 1, 1) := by decide +kernel
theorem d_Mo_look_139 : decode b_Mo_look 139 = .ok (.iaload, 1) := by decide +kernel
theorem d_Mo_look_140 : decode b_Mo_look 140 = .ok (.ireturn, 1) := by decide +kernel
set_option maxRecDepth 100000 in
set_option maxHeartbeats 4000000 in
theorem c_Mo_look (l : Launch) (D : va_G) (ca : Nat → ClassId) (ad : Nat → Nat) (L : List Nat) (f0 : Nat → va_E) (sz : Nat) (σ0 : mq_S) (hM : mq_B ca ad σ0 L f0) (x1 : Int32) (x2 : Int32) :
    Met l y_Mo_look (Cond.code y_Mo_look b_Mo_look 3 (some .int) :: wg) { frames := 1, cells := 0, slots := 0, locals := 25 } (va_Pc [.ref (ad 71), .int (x1), .int (x2)] (sm_P D cl_all (ty_s ca) ek L f0 sz)) (sm_Qi D (ty_s ca) L f0 sz (fun r u => mq_po ca ad L σ0 [0] (fun σ => True) u)) 0 0 (va_A (va_pl L f0) sz) := by
  refine sm_start (by decide) (Nat.le_of_ble_eq_true rfl) ?_
  intro p e s m below meth c ls hx hb hml hr hlk hnm hts hown hsz hE hI hl
  have hl : lv_has ls 3 [(0, .ref (ad 71)), (1, .int (x1)), (2, .int (x2))] := hl
  have hF : mq_fr [0] σ0 σ0 := mq_fr_rf
  refine lv_aload_n hx hb d_Mo_look_0 rfl (lv_at hl 0 rfl) ?_
  refine lv_iload_n hx hb d_Mo_look_1 rfl (lv_at hl 1 rfl) ?_
  refine lv_i2l hx hb d_Mo_look_2 rfl ?_
  refine lv_topl (fun x_1 e_2 => ?_)
  refine lv_lconst (v := 0) hx hb d_Mo_look_3 (by decide) ?_
  refine lv_ldc2 (v := 3) hx hb hown (hts _ tw_1405) d_Mo_look_4 ?_
  refine sm_iP hI (va_runS (As := [.long (x_1), .long (0), .long (3)]) (rest := [.ref (ad 71)]) ⟨hx, hb, hml, hown, hts⟩ (c_Mo_in l D ca L _ _ x_1 0 3) (ks_Mo_in hts rfl rfl (hts _ tw_1393) ⟨Nat.le_of_ble_eq_true rfl, Nat.le_of_ble_eq_true rfl⟩) (sm_preS hI hE) rfl rfl hl.1 rfl (lv_room (Nat.le_of_ble_eq_true rfl)) d_Mo_look_7 ⟨Nat.le_of_ble_eq_true rfl, Nat.le_of_ble_eq_true rfl⟩) (fun x_4 H locs p_3 hI => ?_)
  rcases jn_int (lo := 0) (hi := 3) p_3 e_2 (by decide) (by decide) (by omega) with ⟨rfl, j_6, h_7, h_8, e_9⟩ | ⟨rfl, h_5⟩
  · rw [e_9] at hl
    refine lv_if_eq (tgt := 29) hx hb d_Mo_look_10 (by decide) (fun c_10 => ?_) (fun c_10 => ?_)
    · exact absurd c_10 (by decide)
    · refine lv_iload_n hx hb d_Mo_look_13 rfl (lv_at hl 2 rfl) ?_
      refine lv_i2l hx hb d_Mo_look_14 rfl ?_
      refine lv_topl (fun x_11 e_12 => ?_)
      refine lv_lconst (v := 0) hx hb d_Mo_look_15 (by decide) ?_
      refine lv_ldc2 (v := 6) hx hb hown (hts _ tw_1714) d_Mo_look_16 ?_
      refine sm_iP hI (va_runS (As := [.long (x_11), .long (0), .long (6)]) (rest := [.ref (ad 71)]) ⟨hx, hb, hml, hown, hts⟩ (c_Mo_in l D ca L _ _ x_11 0 6) (ks_Mo_in hts rfl rfl (hts _ tw_1393) ⟨Nat.le_of_ble_eq_true rfl, Nat.le_of_ble_eq_true rfl⟩) (sm_preS hI hE) rfl rfl hl.1 rfl (lv_room (Nat.le_of_ble_eq_true rfl)) d_Mo_look_19 ⟨Nat.le_of_ble_eq_true rfl, Nat.le_of_ble_eq_true rfl⟩) (fun x_14 H locs p_13 hI => ?_)
      rcases jn_int (lo := 0) (hi := 6) p_13 e_12 (by decide) (by decide) (by omega) with ⟨rfl, j_16, h_17, h_18, e_19⟩ | ⟨rfl, h_15⟩
      · rw [e_19] at hl
        refine lv_if_eq (tgt := 29) hx hb d_Mo_look_22 (by decide) (fun c_20 => ?_) (fun c_20 => ?_)
        · exact absurd c_20 (by decide)
        · refine lv_iconst (v := 1) hx hb d_Mo_look_25 (by decide) ?_
          refine lv_goto (tgt := 30) hx hb d_Mo_look_26 (by decide) ?_
          refine sm_iM hI (va_runV (As := [.int (1)]) (rest := []) ⟨hx, hb, hml, hown, hts⟩ (c_Mo_says2 l D ca ad L _ _ _ hM 1 (by decide)) (kv_Mo_says hts rfl rfl (hts _ tw_1410) ⟨Nat.le_of_ble_eq_true rfl, Nat.le_of_ble_eq_true rfl⟩) (pv_Mo hI hE hM) rfl rfl hl.1 rfl (lv_room (Nat.le_of_ble_eq_true rfl)) d_Mo_look_30 ⟨Nat.le_of_ble_eq_true rfl, Nat.le_of_ble_eq_true rfl⟩) (fun x_24 H locs f σ_22 hI hM hF_23 p_21 => ?_)
          have hF := mq_fr_tr hF hF_23 (by decide)
          obtain ⟨p_26, o_25, -⟩ := p_21
          have p_26 := p_26.symm
          subst p_26
          refine lv_if_ne (tgt := 38) hx hb d_Mo_look_33 (by decide) (fun c_27 => ?_) (fun c_27 => ?_)
          · refine lv_iload_n hx hb d_Mo_look_38 rfl (lv_at hl 2 rfl) ?_
            refine lv_if_ne (tgt := 49) hx hb d_Mo_look_39 (by decide) (fun c_28 => ?_) (fun c_28 => ?_)
            · have k_29 : 0 < j_16 := Nat.pos_of_ne_zero (fun q => c_28 (by rw [q]; decide))
              refine lv_aload_n hx hb d_Mo_look_49 rfl (lv_at hl 0 rfl) ?_
              refine mq_get (k := 13) (v := .ref (ad 13)) hx hb hts hown hI hM (by decide) rfl rfl (hts _ tw_1182) d_Mo_look_50 ?_
              refine lv_iload_n hx hb d_Mo_look_53 rfl (lv_at hl 1 rfl) ?_
              obtain ⟨x_30, e_31⟩ : ∃ z, σ_22.2.2.1 13 (j_6) = z := ⟨_, rfl⟩
              refine mq_iald (k := 13) (j := j_6) (v := x_30) hx hb hI hM (by decide) rfl (by show j_6 < 4; omega) (by decide) e_31 d_Mo_look_54 ?_
              refine lv_if_ne (tgt := 60) hx hb d_Mo_look_55 (by decide) (fun c_32 => ?_) (fun c_32 => ?_)
              · refine lv_iload_n hx hb d_Mo_look_60 rfl (lv_at hl 2 rfl) ?_
                refine lv_iconst (v := 1) hx hb d_Mo_look_61 (by decide) ?_
                refine lv_icmp_ne (tgt := 72) hx hb d_Mo_look_62 (by decide) (fun c_33 => ?_) (fun c_33 => ?_)
                · have k_34 : ¬ j_16 = 1 := (fun q => c_33 ((nI_eq (a := j_16) (b := 1) (by omega) (by omega)).mpr q))
                  refine lv_iload_n hx hb d_Mo_look_72 rfl (lv_at hl 2 rfl) ?_
                  refine lv_bipush (v := 6) hx hb d_Mo_look_73 (by decide) ?_
                  refine lv_icmp_ne (tgt := 85) hx hb d_Mo_look_75 (by decide) (fun c_35 => ?_) (fun c_35 => ?_)
                  · have k_36 : ¬ j_16 = 6 := (fun q => c_35 ((nI_eq (a := j_16) (b := 6) (by omega) (by omega)).mpr q))
                    refine lv_iload_n hx hb d_Mo_look_85 rfl (lv_at hl 1 rfl) ?_
                    refine lv_iconst (v := 3) hx hb d_Mo_look_86 (by decide) ?_
                    refine lv_icmp_ne (tgt := 92) hx hb d_Mo_look_87 (by decide) (fun c_37 => ?_) (fun c_37 => ?_)
                    · have k_38 : ¬ j_6 = 3 := (fun q => c_37 ((nI_eq (a := j_6) (b := 3) (by omega) (by omega)).mpr q))
                      refine lv_iload_n hx hb d_Mo_look_92 rfl (lv_at hl 2 rfl) ?_
                      refine lv_iconst (v := 2) hx hb d_Mo_look_93 (by decide) ?_
                      refine lv_icmp_ne (tgt := 106) hx hb d_Mo_look_94 (by decide) (fun c_39 => ?_) (fun c_39 => ?_)
                      · have k_40 : ¬ j_16 = 2 := (fun q => c_39 ((nI_eq (a := j_16) (b := 2) (by omega) (by omega)).mpr q))
                        refine lv_iload_n hx hb d_Mo_look_106 rfl (lv_at hl 2 rfl) ?_
                        refine lv_iconst (v := 3) hx hb d_Mo_look_107 (by decide) ?_
                        refine lv_icmp_ne (tgt := 120) hx hb d_Mo_look_108 (by decide) (fun c_41 => ?_) (fun c_41 => ?_)
                        · have k_42 : ¬ j_16 = 3 := (fun q => c_41 ((nI_eq (a := j_16) (b := 3) (by omega) (by omega)).mpr q))
                          refine lv_iload_n hx hb d_Mo_look_120 rfl (lv_at hl 2 rfl) ?_
                          refine lv_iconst (v := 4) hx hb d_Mo_look_121 (by decide) ?_
                          refine lv_icmp_ne (tgt := 134) hx hb d_Mo_look_122 (by decide) (fun c_43 => ?_) (fun c_43 => ?_)
                          · have k_44 : ¬ j_16 = 4 := (fun q => c_43 ((nI_eq (a := j_16) (b := 4) (by omega) (by omega)).mpr q))
                            refine lv_aload_n hx hb d_Mo_look_134 rfl (lv_at hl 0 rfl) ?_
                            refine mq_get (k := 25) (v := .ref (ad 25)) hx hb hts hown hI hM (by decide) rfl rfl (hts _ tw_1194) d_Mo_look_135 ?_
                            refine lv_iload_n hx hb d_Mo_look_138 rfl (lv_at hl 1 rfl) ?_
                            obtain ⟨x_45, e_46⟩ : ∃ z, σ_22.2.2.1 25 (j_6) = z := ⟨_, rfl⟩
                            refine mq_iald (k := 25) (j := j_6) (v := x_45) hx hb hI hM (by decide) rfl (by show j_6 < 3; omega) (by decide) e_46 d_Mo_look_139 ?_
                            exact sm_iret hx hb hr hlk hI ⟨σ_22, rfl, hM, hF, trivial⟩ d_Mo_look_140
                          · have k_47 : j_16 = 4 := (nI_eq (a := j_16) (b := 4) (by omega) (by omega)).mp c_43
                            refine lv_aload_n hx hb d_Mo_look_125 rfl (lv_at hl 0 rfl) ?_
                            refine mq_get (k := 20) (v := .ref (ad 20)) hx hb hts hown hI hM (by decide) rfl rfl (hts _ tw_1189) d_Mo_look_126 ?_
                            refine lv_iload_n hx hb d_Mo_look_129 rfl (lv_at hl 1 rfl) ?_
                            obtain ⟨x_48, e_49⟩ : ∃ z, σ_22.2.2.1 20 (j_6) = z := ⟨_, rfl⟩
                            refine mq_iald (k := 20) (j := j_6) (v := x_48) hx hb hI hM (by decide) rfl (by show j_6 < 3; omega) (by decide) e_49 d_Mo_look_130 ?_
                            refine lv_goto (tgt := 140) hx hb d_Mo_look_131 (by decide) ?_
                            exact sm_iret hx hb hr hlk hI ⟨σ_22, rfl, hM, hF, trivial⟩ d_Mo_look_140
                        · have k_50 : j_16 = 3 := (nI_eq (a := j_16) (b := 3) (by omega) (by omega)).mp c_41
                          refine lv_aload_n hx hb d_Mo_look_111 rfl (lv_at hl 0 rfl) ?_
                          refine mq_get (k := 22) (v := .ref (ad 22)) hx hb hts hown hI hM (by decide) rfl rfl (hts _ tw_1191) d_Mo_look_112 ?_
                          refine lv_iload_n hx hb d_Mo_look_115 rfl (lv_at hl 1 rfl) ?_
                          obtain ⟨n_51, h_52, h_53, e_54⟩ := hM.2.2.2.2.2 22 (j_6)
                          refine mq_iald (k := 22) (j := j_6) (v := nI n_51) hx hb hI hM (by decide) rfl (by show j_6 < 3; omega) (by decide) e_54 d_Mo_look_116 ?_
                          refine lv_goto (tgt := 140) hx hb d_Mo_look_117 (by decide) ?_
                          exact sm_iret hx hb hr hlk hI ⟨σ_22, rfl, hM, hF, trivial⟩ d_Mo_look_140
                      · have k_55 : j_16 = 2 := (nI_eq (a := j_16) (b := 2) (by omega) (by omega)).mp c_39
                        refine lv_aload_n hx hb d_Mo_look_97 rfl (lv_at hl 0 rfl) ?_
                        refine mq_get (k := 19) (v := .ref (ad 19)) hx hb hts hown hI hM (by decide) rfl rfl (hts _ tw_1188) d_Mo_look_98 ?_
                        refine lv_iload_n hx hb d_Mo_look_101 rfl (lv_at hl 1 rfl) ?_
                        obtain ⟨x_56, e_57⟩ : ∃ z, σ_22.2.2.1 19 (j_6) = z := ⟨_, rfl⟩
                        refine mq_iald (k := 19) (j := j_6) (v := x_56) hx hb hI hM (by decide) rfl (by show j_6 < 3; omega) (by decide) e_57 d_Mo_look_102 ?_
                        refine lv_goto (tgt := 140) hx hb d_Mo_look_103 (by decide) ?_
                        exact sm_iret hx hb hr hlk hI ⟨σ_22, rfl, hM, hF, trivial⟩ d_Mo_look_140
                    · have k_58 : j_6 = 3 := (nI_eq (a := j_6) (b := 3) (by omega) (by omega)).mp c_37
                      refine lv_iconst (v := 0) hx hb d_Mo_look_90 (by decide) ?_
                      exact sm_iret hx hb hr hlk hI ⟨σ_22, rfl, hM, hF, trivial⟩ d_Mo_look_91
                  · have k_59 : j_16 = 6 := (nI_eq (a := j_16) (b := 6) (by omega) (by omega)).mp c_35
                    refine lv_aload_n hx hb d_Mo_look_78 rfl (lv_at hl 0 rfl) ?_
                    refine mq_get (k := 30) (v := .ref (ad 30)) hx hb hts hown hI hM (by decide) rfl rfl (hts _ tw_1199) d_Mo_look_79 ?_
                    refine lv_iload_n hx hb d_Mo_look_82 rfl (lv_at hl 1 rfl) ?_
                    obtain ⟨n_60, h_61, h_62, e_63⟩ := hM.2.2.2.2.2 30 (j_6)
                    refine mq_iald (k := 30) (j := j_6) (v := nI n_60) hx hb hI hM (by decide) rfl (by show j_6 < 4; omega) (by decide) e_63 d_Mo_look_83 ?_
                    exact sm_iret hx hb hr hlk hI ⟨σ_22, rfl, hM, hF, trivial⟩ d_Mo_look_84
                · have k_64 : j_16 = 1 := (nI_eq (a := j_16) (b := 1) (by omega) (by omega)).mp c_33
                  refine lv_aload_n hx hb d_Mo_look_65 rfl (lv_at hl 0 rfl) ?_
                  refine mq_get (k := 16) (v := .ref (ad 16)) hx hb hts hown hI hM (by decide) rfl rfl (hts _ tw_1185) d_Mo_look_66 ?_
                  refine lv_iload_n hx hb d_Mo_look_69 rfl (lv_at hl 1 rfl) ?_
                  obtain ⟨n_65, h_66, h_67, e_68⟩ := hM.2.2.2.2.2 16 (j_6)
                  refine mq_iald (k := 16) (j := j_6) (v := nI n_65) hx hb hI hM (by decide) rfl (by show j_6 < 4; omega) (by decide) e_68 d_Mo_look_70 ?_
                  exact sm_iret hx hb hr hlk hI ⟨σ_22, rfl, hM, hF, trivial⟩ d_Mo_look_71
              · refine lv_iconst (v := 0) hx hb d_Mo_look_58 (by decide) ?_
                exact sm_iret hx hb hr hlk hI ⟨σ_22, rfl, hM, hF, trivial⟩ d_Mo_look_59
            · have k_70 : j_16 = 0 := nz_eq c_28 (by omega)
              refine lv_aload_n hx hb d_Mo_look_42 rfl (lv_at hl 0 rfl) ?_
              refine mq_get (k := 13) (v := .ref (ad 13)) hx hb hts hown hI hM (by decide) rfl rfl (hts _ tw_1182) d_Mo_look_43 ?_
              refine lv_iload_n hx hb d_Mo_look_46 rfl (lv_at hl 1 rfl) ?_
              obtain ⟨x_71, e_72⟩ : ∃ z, σ_22.2.2.1 13 (j_6) = z := ⟨_, rfl⟩
              refine mq_iald (k := 13) (j := j_6) (v := x_71) hx hb hI hM (by decide) rfl (by show j_6 < 4; omega) (by decide) e_72 d_Mo_look_47 ?_
              exact sm_iret hx hb hr hlk hI ⟨σ_22, rfl, hM, hF, trivial⟩ d_Mo_look_48
          · exact absurd c_27 (by decide)
      · refine lv_if_eq (tgt := 29) hx hb d_Mo_look_22 (by decide) (fun c_73 => ?_) (fun c_73 => ?_)
        · refine lv_iconst (v := 0) hx hb d_Mo_look_29 (by decide) ?_
          refine sm_iM hI (va_runV (As := [.int (0)]) (rest := []) ⟨hx, hb, hml, hown, hts⟩ (c_Mo_says2 l D ca ad L _ _ _ hM 0 (by decide)) (kv_Mo_says hts rfl rfl (hts _ tw_1410) ⟨Nat.le_of_ble_eq_true rfl, Nat.le_of_ble_eq_true rfl⟩) (pv_Mo hI hE hM) rfl rfl hl.1 rfl (lv_room (Nat.le_of_ble_eq_true rfl)) d_Mo_look_30 ⟨Nat.le_of_ble_eq_true rfl, Nat.le_of_ble_eq_true rfl⟩) (fun x_77 H locs f σ_75 hI hM hF_76 p_74 => ?_)
          have hF := mq_fr_tr hF hF_76 (by decide)
          obtain ⟨p_79, o_78, -⟩ := p_74
          have p_79 := p_79.symm
          subst p_79
          refine lv_if_ne (tgt := 38) hx hb d_Mo_look_33 (by decide) (fun c_80 => ?_) (fun c_80 => ?_)
          · exact absurd c_80 (by decide)
          · refine lv_iconst (v := 0) hx hb d_Mo_look_36 (by decide) ?_
            exact sm_iret hx hb hr hlk hI ⟨σ_75, rfl, hM, hF, trivial⟩ d_Mo_look_37
        · exact absurd c_73 (by decide)
  · refine lv_if_eq (tgt := 29) hx hb d_Mo_look_10 (by decide) (fun c_81 => ?_) (fun c_81 => ?_)
    · refine lv_iconst (v := 0) hx hb d_Mo_look_29 (by decide) ?_
      refine sm_iM hI (va_runV (As := [.int (0)]) (rest := []) ⟨hx, hb, hml, hown, hts⟩ (c_Mo_says2 l D ca ad L _ _ _ hM 0 (by decide)) (kv_Mo_says hts rfl rfl (hts _ tw_1410) ⟨Nat.le_of_ble_eq_true rfl, Nat.le_of_ble_eq_true rfl⟩) (pv_Mo hI hE hM) rfl rfl hl.1 rfl (lv_room (Nat.le_of_ble_eq_true rfl)) d_Mo_look_30 ⟨Nat.le_of_ble_eq_true rfl, Nat.le_of_ble_eq_true rfl⟩) (fun x_85 H locs f σ_83 hI hM hF_84 p_82 => ?_)
      have hF := mq_fr_tr hF hF_84 (by decide)
      obtain ⟨p_87, o_86, -⟩ := p_82
      have p_87 := p_87.symm
      subst p_87
      refine lv_if_ne (tgt := 38) hx hb d_Mo_look_33 (by decide) (fun c_88 => ?_) (fun c_88 => ?_)
      · exact absurd c_88 (by decide)
      · refine lv_iconst (v := 0) hx hb d_Mo_look_36 (by decide) ?_
        exact sm_iret hx hb hr hlk hI ⟨σ_83, rfl, hM, hF, trivial⟩ d_Mo_look_37
    · exact absurd c_81 (by decide)
theorem d_Mo_operation_0 : decode b_Mo_operation 0 = .ok (.aload_n 0, 1) := by decide +kernel
theorem d_Mo_operation_1 : decode b_Mo_operation 1 = .ok (.iload_n 2, 1) := by decide +kernel
theorem d_Mo_operation_2 : decode b_Mo_operation 2 = .ok (.i2l, 1) := by decide +kernel
theorem d_Mo_operation_3 : decode b_Mo_operation 3 = .ok (.lconst 0, 1) := by decide +kernel
theorem d_Mo_operation_4 : decode b_Mo_operation 4 = .ok (.ldc2_w 395, 3) := by decide +kernel
theorem d_Mo_operation_7 : decode b_Mo_operation 7 = .ok (.invokestatic 187, 3) := by decide +kernel
theorem d_Mo_operation_10 : decode b_Mo_operation 10 = .ok (.ifCond .eq 43, 3) := by decide +kernel
theorem d_Mo_operation_13 : decode b_Mo_operation 13 = .ok (.iload_n 1, 1) := by decide +kernel
theorem d_Mo_operation_14 : decode b_Mo_operation 14 = .ok (.i2l, 1) := by decide +kernel
theorem d_Mo_operation_15 : decode b_Mo_operation 15 = .ok (.aload_n 0, 1) := by decide +kernel
theorem d_Mo_operation_16 : decode b_Mo_operation 16 = .ok (.getfield 485, 3) := by decide +kernel
theorem d_Mo_operation_19 : decode b_Mo_operation 19 = .ok (.bipush 16, 2) := by decide +kernel
theorem d_Mo_operation_21 : decode b_Mo_operation 21 = .ok (.if_icmp .ge 7, 3) := by decide +kernel
theorem d_Mo_operation_24 : decode b_Mo_operation 24 = .ok (.lconst 0, 1) := by decide +kernel
theorem d_Mo_operation_25 : decode b_Mo_operation 25 = .ok (.goto 11, 3) := by decide +kernel
theorem d_Mo_operation_28 : decode b_Mo_operation 28 = .ok (.aload_n 0, 1) := by decide +kernel
theorem d_Mo_operation_29 : decode b_Mo_operation 29 = .ok (.getfield 485, 3) := by decide +kernel
theorem d_Mo_operation_32 : decode b_Mo_operation 32 = .ok (.bipush 16, 2) := by decide +kernel
theorem d_Mo_operation_34 : decode b_Mo_operation 34 = .ok (.isub, 1) := by decide +kernel
theorem d_Mo_operation_35 : decode b_Mo_operation 35 = .ok (.i2l, 1) := by decide +kernel
theorem d_Mo_operation_36 : decode b_Mo_operation 36 = .ok (.aload_n 0, 1) := by decide +kernel
theorem d_Mo_operation_37 : decode b_Mo_operation 37 = .ok (.getfield 485, 3) := by decide +kernel
theorem d_Mo_operation_40 : decode b_Mo_operation 40 = .ok (.iconst 1, 1) := by decide +kernel
theorem d_Mo_operation_41 : decode b_Mo_operation 41 = .ok (.isub, 1) := by decide +kernel
theorem d_Mo_operation_42 : decode b_Mo_operation 42 = .ok (.i2l, 1) := by decide +kernel
theorem d_Mo_operation_43 : decode b_Mo_operation 43 = .ok (.invokestatic 187, 3) := by decide +kernel
theorem d_Mo_operation_46 : decode b_Mo_operation 46 = .ok (.ifCond .eq 7, 3) := by decide +kernel
theorem d_Mo_operation_49 : decode b_Mo_operation 49 = .ok (.iconst 1, 1) := by decide +kernel
theorem d_Mo_operation_50 : decode b_Mo_operation 50 = .ok (.goto 4, 3) := by decide +kernel
theorem d_Mo_operation_53 : decode b_Mo_operation 53 = .ok (.iconst 0, 1) := by decide +kernel
theorem d_Mo_operation_54 : decode b_Mo_operation 54 = .ok (.invokevirtual 208, 3) := by decide +kernel
theorem d_Mo_operation_57 : decode b_Mo_operation 57 = .ok (.ifCond .ne 5, 3) := by decide +kernel
theorem d_Mo_operation_60 : decode b_Mo_operation 60 = .ok (.iconst 0, 1) := by decide +kernel
theorem d_Mo_operation_61 : decode b_Mo_operation 61 = .ok (.ireturn, 1) := by decide +kernel
theorem d_Mo_operation_62 : decode b_Mo_operation 62 = .ok (.iload_n 2, 1) := by decide +kernel
theorem d_Mo_operation_63 : decode b_Mo_operation 63 = .ok (.ifCond .ne 12, 3) := by decide +kernel
theorem d_Mo_operation_66 : decode b_Mo_operation 66 = .ok (.aload_n 0, 1) := by decide +kernel
theorem d_Mo_operation_67 : decode b_Mo_operation 67 = .ok (.getfield 142, 3) := by decide +kernel
theorem d_Mo_operation_70 : decode b_Mo_operation 70 = .ok (.iload_n 1, 1) := by decide +kernel
theorem d_Mo_operation_71 : decode b_Mo_operation 71 = .ok (.iaload, 1) := by decide +kernel
theorem d_Mo_operation_72 : decode b_Mo_operation 72 = .ok (.goto 59, 3) := by decide +kernel
theorem d_Mo_operation_75 : decode b_Mo_operation 75 = .ok (.iload_n 2, 1) := by decide +kernel
theorem d_Mo_operation_76 : decode b_Mo_operation 76 = .ok (.iconst 1, 1) := by decide +kernel
theorem d_Mo_operation_77 : decode b_Mo_operation 77 = .ok (.if_icmp .ne 12, 3) := by decide +kernel
theorem d_Mo_operation_80 : decode b_Mo_operation 80 = .ok (.aload_n 0, 1) := by decide +kernel
theorem d_Mo_operation_81 : decode b_Mo_operation 81 = .ok (.getfield 145, 3) := by decide +kernel
theorem d_Mo_operation_84 : decode b_Mo_operation 84 = .ok (.iload_n 1, 1) := by decide +kernel
theorem d_Mo_operation_85 : decode b_Mo_operation 85 = .ok (.iaload, 1) := by decide +kernel
theorem d_Mo_operation_86 : decode b_Mo_operation 86 = .ok (.goto 45, 3) := by decide +kernel
theorem d_Mo_operation_89 : decode b_Mo_operation 89 = .ok (.iload_n 2, 1) := by decide +kernel
theorem d_Mo_operation_90 : decode b_Mo_operation 90 = .ok (.iconst 2, 1) := by decide +kernel
theorem d_Mo_operation_91 : decode b_Mo_operation 91 = .ok (.if_icmp .ne 12, 3) := by decide +kernel
theorem d_Mo_operation_94 : decode b_Mo_operation 94 = .ok (.aload_n 0, 1) := by decide +kernel
theorem d_Mo_operation_95 : decode b_Mo_operation 95 = .ok (.getfield 148, 3) := by decide +kernel
theorem d_Mo_operation_98 : decode b_Mo_operation 98 = .ok (.iload_n 1, 1) := by decide +kernel
theorem d_Mo_operation_99 : decode b_Mo_operation 99 = .ok (.iaload, 1) := by decide +kernel
theorem d_Mo_operation_100 : decode b_Mo_operation 100 = .ok (.goto 31, 3) := by decide +kernel
theorem d_Mo_operation_103 : decode b_Mo_operation 103 = .ok (.iload_n 2, 1) := by decide +kernel
theorem d_Mo_operation_104 : decode b_Mo_operation 104 = .ok (.iconst 3, 1) := by decide +kernel
theorem d_Mo_operation_105 : decode b_Mo_operation 105 = .ok (.if_icmp .ne 12, 3) := by decide +kernel
theorem d_Mo_operation_108 : decode b_Mo_operation 108 = .ok (.aload_n 0, 1) := by decide +kernel
theorem d_Mo_operation_109 : decode b_Mo_operation 109 = .ok (.getfield 151, 3) := by decide +kernel
theorem d_Mo_operation_112 : decode b_Mo_operation 112 = .ok (.iload_n 1, 1) := by decide +kernel
theorem d_Mo_operation_113 : decode b_Mo_operation 113 = .ok (.iaload, 1) := by decide +kernel
theorem d_Mo_operation_114 : decode b_Mo_operation 114 = .ok (.goto 17, 3) := by decide +kernel
theorem d_Mo_operation_117 : decode b_Mo_operation 117 = .ok (.aload_n 0, 1) := by decide +kernel
theorem d_Mo_operation_118 : decode b_Mo_operation 118 = .ok (.getfield 157, 3) := by decide +kernel
theorem d_Mo_operation_121 : decode b_Mo_operation 121 = .ok (.iload_n 1, 1) := by decide +kernel
theorem d_Mo_operation_122 : decode b_Mo_operation 122 = .ok (.baload, 1) := by decide +kernel
theorem d_Mo_operation_123 : decode b_Mo_operation 123 = .ok (.ifCond .eq 7, 3) := by decide +kernel
theorem d_Mo_operation_126 : decode b_Mo_operation 126 = .ok (.iconst 1, 1) := by decide +kernel
theorem d_Mo_operation_127 : decode b_Mo_operation 127 = .ok (.goto 4, 3) := by decide +kernel
theorem d_Mo_operation_130 : decode b_Mo_operation 130 = .ok (.iconst 0, 1) := by decide +kernel
theorem d_Mo_operation_131 : decode b_Mo_operation 131 = .ok (.ireturn, 1) := by decide +kernel
set_option maxRecDepth 100000 in
set_option maxHeartbeats 4000000 in
theorem c_Mo_operation (l : Launch) (D : va_G) (ca : Nat → ClassId) (ad : Nat → Nat) (L : List Nat) (f0 : Nat → va_E) (sz : Nat) (σ0 : mq_S) (hM : mq_B ca ad σ0 L f0) (x1 : Int32) (x2 : Int32) :
    Met l y_Mo_operation (Cond.code y_Mo_operation b_Mo_operation 3 (some .int) :: wg) { frames := 1, cells := 0, slots := 0, locals := 25 } (va_Pc [.ref (ad 71), .int (x1), .int (x2)] (sm_P D cl_all (ty_s ca) ek L f0 sz)) (sm_Qi D (ty_s ca) L f0 sz (fun r u => mq_po ca ad L σ0 [0] (fun σ => True) u)) 0 0 (va_A (va_pl L f0) sz) := by
  refine sm_start (by decide) (Nat.le_of_ble_eq_true rfl) ?_
  intro p e s m below meth c ls hx hb hml hr hlk hnm hts hown hsz hE hI hl
  have hl : lv_has ls 3 [(0, .ref (ad 71)), (1, .int (x1)), (2, .int (x2))] := hl
  have hF : mq_fr [0] σ0 σ0 := mq_fr_rf
  refine lv_aload_n hx hb d_Mo_operation_0 rfl (lv_at hl 0 rfl) ?_
  refine lv_iload_n hx hb d_Mo_operation_1 rfl (lv_at hl 2 rfl) ?_
  refine lv_i2l hx hb d_Mo_operation_2 rfl ?_
  refine lv_topl (fun x_1 e_2 => ?_)
  refine lv_lconst (v := 0) hx hb d_Mo_operation_3 (by decide) ?_
  refine lv_ldc2 (v := 4) hx hb hown (hts _ tw_1649) d_Mo_operation_4 ?_
  refine sm_iP hI (va_runS (As := [.long (x_1), .long (0), .long (4)]) (rest := [.ref (ad 71)]) ⟨hx, hb, hml, hown, hts⟩ (c_Mo_in l D ca L _ _ x_1 0 4) (ks_Mo_in hts rfl rfl (hts _ tw_1393) ⟨Nat.le_of_ble_eq_true rfl, Nat.le_of_ble_eq_true rfl⟩) (sm_preS hI hE) rfl rfl hl.1 rfl (lv_room (Nat.le_of_ble_eq_true rfl)) d_Mo_operation_7 ⟨Nat.le_of_ble_eq_true rfl, Nat.le_of_ble_eq_true rfl⟩) (fun x_4 H locs p_3 hI => ?_)
  rcases jn_int (lo := 0) (hi := 4) p_3 e_2 (by decide) (by decide) (by omega) with ⟨rfl, j_6, h_7, h_8, e_9⟩ | ⟨rfl, h_5⟩
  · rw [e_9] at hl
    refine lv_if_eq (tgt := 53) hx hb d_Mo_operation_10 (by decide) (fun c_10 => ?_) (fun c_10 => ?_)
    · exact absurd c_10 (by decide)
    · refine lv_iload_n hx hb d_Mo_operation_13 rfl (lv_at hl 1 rfl) ?_
      refine lv_i2l hx hb d_Mo_operation_14 rfl ?_
      refine lv_topl (fun x_11 e_12 => ?_)
      refine lv_aload_n hx hb d_Mo_operation_15 rfl (lv_at hl 0 rfl) ?_
      obtain ⟨n_13, h_14, h_15, e_16⟩ := hM.2.2.2.2.1 56
      refine mq_get (k := 56) (v := .int (nI n_13)) hx hb hts hown hI hM (by decide) (congrArg (fun z => some (Value.int z)) e_16) rfl (hts _ tw_1225) d_Mo_operation_16 ?_
      refine lv_bipush (v := 16) hx hb d_Mo_operation_19 (by decide) ?_
      refine lv_icmp_ge (tgt := 28) hx hb d_Mo_operation_21 (by decide) (fun c_17 => ?_) (fun c_17 => ?_)
      · have k_18 : 16 ≤ n_13 := (nI_leI (a := 16) (b := n_13) (by omega) (by omega)).mp c_17
        refine lv_aload_n hx hb d_Mo_operation_28 rfl (lv_at hl 0 rfl) ?_
        refine mq_get (k := 56) (v := .int (nI n_13)) hx hb hts hown hI hM (by decide) (congrArg (fun z => some (Value.int z)) e_16) rfl (hts _ tw_1225) d_Mo_operation_29 ?_
        refine lv_bipush (v := 16) hx hb d_Mo_operation_32 (by decide) ?_
        refine lv_isub hx hb d_Mo_operation_34 ?_
        refine lv_topi (fun x_19 e_20 => ?_)
        obtain rfl : x_19 = nI (n_13 - 16) := by rw [e_20]; exact pk_sub (a := n_13) (b := 16) (by omega)
        refine lv_i2l hx hb d_Mo_operation_35 rfl ?_
        refine lv_topl (fun x_21 e_22 => ?_)
        refine lv_aload_n hx hb d_Mo_operation_36 rfl (lv_at hl 0 rfl) ?_
        refine mq_get (k := 56) (v := .int (nI n_13)) hx hb hts hown hI hM (by decide) (congrArg (fun z => some (Value.int z)) e_16) rfl (hts _ tw_1225) d_Mo_operation_37 ?_
        refine lv_iconst (v := 1) hx hb d_Mo_operation_40 (by decide) ?_
        refine lv_isub hx hb d_Mo_operation_41 ?_
        refine lv_topi (fun x_23 e_24 => ?_)
        refine lv_i2l hx hb d_Mo_operation_42 rfl ?_
        refine lv_topl (fun x_25 e_26 => ?_)
        refine sm_iP hI (va_runS (As := [.long (x_11), .long (x_21), .long (x_25)]) (rest := [.ref (ad 71)]) ⟨hx, hb, hml, hown, hts⟩ (c_Mo_in l D ca L _ _ x_11 x_21 x_25) (ks_Mo_in hts rfl rfl (hts _ tw_1393) ⟨Nat.le_of_ble_eq_true rfl, Nat.le_of_ble_eq_true rfl⟩) (sm_preS hI hE) rfl rfl hl.1 rfl (lv_room (Nat.le_of_ble_eq_true rfl)) d_Mo_operation_43 ⟨Nat.le_of_ble_eq_true rfl, Nat.le_of_ble_eq_true rfl⟩) (fun x_28 H locs p_27 hI => ?_)
        rcases jn_int (lo := (((n_13 - 16) : Nat) : Int)) (hi := ((n_13 : Nat) : Int) - 1) p_27 e_12 (by rw [e_22, Int32.toInt_toInt64, nI_toInt (by omega)]) (by rw [e_26, Int32.toInt_toInt64, e_24]; exact nI_p1 (by omega)) (by omega) with ⟨rfl, j_30, h_31, h_32, e_33⟩ | ⟨rfl, h_29⟩
        · rw [e_33] at hl
          refine lv_if_eq (tgt := 53) hx hb d_Mo_operation_46 (by decide) (fun c_34 => ?_) (fun c_34 => ?_)
          · exact absurd c_34 (by decide)
          · refine lv_iconst (v := 1) hx hb d_Mo_operation_49 (by decide) ?_
            refine lv_goto (tgt := 54) hx hb d_Mo_operation_50 (by decide) ?_
            refine sm_iM hI (va_runV (As := [.int (1)]) (rest := []) ⟨hx, hb, hml, hown, hts⟩ (c_Mo_says2 l D ca ad L _ _ _ hM 1 (by decide)) (kv_Mo_says hts rfl rfl (hts _ tw_1410) ⟨Nat.le_of_ble_eq_true rfl, Nat.le_of_ble_eq_true rfl⟩) (pv_Mo hI hE hM) rfl rfl hl.1 rfl (lv_room (Nat.le_of_ble_eq_true rfl)) d_Mo_operation_54 ⟨Nat.le_of_ble_eq_true rfl, Nat.le_of_ble_eq_true rfl⟩) (fun x_38 H locs f σ_36 hI hM hF_37 p_35 => ?_)
            have hF := mq_fr_tr hF hF_37 (by decide)
            have o_39 : σ_36.1 56 = nI n_13 := mq_fi hF_37 (by decide) e_16
            obtain ⟨p_41, o_40, -⟩ := p_35
            have p_41 := p_41.symm
            subst p_41
            refine lv_if_ne (tgt := 62) hx hb d_Mo_operation_57 (by decide) (fun c_42 => ?_) (fun c_42 => ?_)
            · refine lv_iload_n hx hb d_Mo_operation_62 rfl (lv_at hl 2 rfl) ?_
              refine lv_if_ne (tgt := 75) hx hb d_Mo_operation_63 (by decide) (fun c_43 => ?_) (fun c_43 => ?_)
              · have k_44 : 0 < j_6 := Nat.pos_of_ne_zero (fun q => c_43 (by rw [q]; decide))
                refine lv_iload_n hx hb d_Mo_operation_75 rfl (lv_at hl 2 rfl) ?_
                refine lv_iconst (v := 1) hx hb d_Mo_operation_76 (by decide) ?_
                refine lv_icmp_ne (tgt := 89) hx hb d_Mo_operation_77 (by decide) (fun c_45 => ?_) (fun c_45 => ?_)
                · have k_46 : ¬ j_6 = 1 := (fun q => c_45 ((nI_eq (a := j_6) (b := 1) (by omega) (by omega)).mpr q))
                  refine lv_iload_n hx hb d_Mo_operation_89 rfl (lv_at hl 2 rfl) ?_
                  refine lv_iconst (v := 2) hx hb d_Mo_operation_90 (by decide) ?_
                  refine lv_icmp_ne (tgt := 103) hx hb d_Mo_operation_91 (by decide) (fun c_47 => ?_) (fun c_47 => ?_)
                  · have k_48 : ¬ j_6 = 2 := (fun q => c_47 ((nI_eq (a := j_6) (b := 2) (by omega) (by omega)).mpr q))
                    refine lv_iload_n hx hb d_Mo_operation_103 rfl (lv_at hl 2 rfl) ?_
                    refine lv_iconst (v := 3) hx hb d_Mo_operation_104 (by decide) ?_
                    refine lv_icmp_ne (tgt := 117) hx hb d_Mo_operation_105 (by decide) (fun c_49 => ?_) (fun c_49 => ?_)
                    · have k_50 : ¬ j_6 = 3 := (fun q => c_49 ((nI_eq (a := j_6) (b := 3) (by omega) (by omega)).mpr q))
                      refine lv_aload_n hx hb d_Mo_operation_117 rfl (lv_at hl 0 rfl) ?_
                      refine mq_get (k := 62) (v := .ref (ad 62)) hx hb hts hown hI hM (by decide) rfl rfl (hts _ tw_1231) d_Mo_operation_118 ?_
                      refine lv_iload_n hx hb d_Mo_operation_121 rfl (lv_at hl 1 rfl) ?_
                      obtain ⟨n_51, h_52, h_53, e_54⟩ := hM.2.2.2.2.2 62 (j_30)
                      have p_55 : nI n_51 = 0 ∨ nI n_51 = 1 := mq_zok ⟨n_51, h_52, h_53, rfl⟩
                      refine mq_zald (k := 62) (j := j_30) (v := nI n_51) hx hb hI hM (by decide) rfl (by show j_30 < 600; omega) (by decide) e_54 d_Mo_operation_122 ?_
                      refine lv_if_eq (tgt := 130) hx hb d_Mo_operation_123 (by decide) (fun c_56 => ?_) (fun c_56 => ?_)
                      · refine lv_iconst (v := 0) hx hb d_Mo_operation_130 (by decide) ?_
                        exact sm_iret hx hb hr hlk hI ⟨σ_36, rfl, hM, hF, trivial⟩ d_Mo_operation_131
                      · refine lv_iconst (v := 1) hx hb d_Mo_operation_126 (by decide) ?_
                        refine lv_goto (tgt := 131) hx hb d_Mo_operation_127 (by decide) ?_
                        exact sm_iret hx hb hr hlk hI ⟨σ_36, rfl, hM, hF, trivial⟩ d_Mo_operation_131
                    · have k_57 : j_6 = 3 := (nI_eq (a := j_6) (b := 3) (by omega) (by omega)).mp c_49
                      refine lv_aload_n hx hb d_Mo_operation_108 rfl (lv_at hl 0 rfl) ?_
                      refine mq_get (k := 60) (v := .ref (ad 60)) hx hb hts hown hI hM (by decide) rfl rfl (hts _ tw_1229) d_Mo_operation_109 ?_
                      refine lv_iload_n hx hb d_Mo_operation_112 rfl (lv_at hl 1 rfl) ?_
                      obtain ⟨n_58, h_59, h_60, e_61⟩ := hM.2.2.2.2.2 60 (j_30)
                      refine mq_iald (k := 60) (j := j_30) (v := nI n_58) hx hb hI hM (by decide) rfl (by show j_30 < 600; omega) (by decide) e_61 d_Mo_operation_113 ?_
                      refine lv_goto (tgt := 131) hx hb d_Mo_operation_114 (by decide) ?_
                      exact sm_iret hx hb hr hlk hI ⟨σ_36, rfl, hM, hF, trivial⟩ d_Mo_operation_131
                  · have k_62 : j_6 = 2 := (nI_eq (a := j_6) (b := 2) (by omega) (by omega)).mp c_47
                    refine lv_aload_n hx hb d_Mo_operation_94 rfl (lv_at hl 0 rfl) ?_
                    refine mq_get (k := 59) (v := .ref (ad 59)) hx hb hts hown hI hM (by decide) rfl rfl (hts _ tw_1228) d_Mo_operation_95 ?_
                    refine lv_iload_n hx hb d_Mo_operation_98 rfl (lv_at hl 1 rfl) ?_
                    obtain ⟨x_63, e_64⟩ : ∃ z, σ_36.2.2.1 59 (j_30) = z := ⟨_, rfl⟩
                    refine mq_iald (k := 59) (j := j_30) (v := x_63) hx hb hI hM (by decide) rfl (by show j_30 < 600; omega) (by decide) e_64 d_Mo_operation_99 ?_
                    refine lv_goto (tgt := 131) hx hb d_Mo_operation_100 (by decide) ?_
                    exact sm_iret hx hb hr hlk hI ⟨σ_36, rfl, hM, hF, trivial⟩ d_Mo_operation_131
                · have k_65 : j_6 = 1 := (nI_eq (a := j_6) (b := 1) (by omega) (by omega)).mp c_45
                  refine lv_aload_n hx hb d_Mo_operation_80 rfl (lv_at hl 0 rfl) ?_
                  refine mq_get (k := 58) (v := .ref (ad 58)) hx hb hts hown hI hM (by decide) rfl rfl (hts _ tw_1227) d_Mo_operation_81 ?_
                  refine lv_iload_n hx hb d_Mo_operation_84 rfl (lv_at hl 1 rfl) ?_
                  obtain ⟨x_66, e_67⟩ : ∃ z, σ_36.2.2.1 58 (j_30) = z := ⟨_, rfl⟩
                  refine mq_iald (k := 58) (j := j_30) (v := x_66) hx hb hI hM (by decide) rfl (by show j_30 < 600; omega) (by decide) e_67 d_Mo_operation_85 ?_
                  refine lv_goto (tgt := 131) hx hb d_Mo_operation_86 (by decide) ?_
                  exact sm_iret hx hb hr hlk hI ⟨σ_36, rfl, hM, hF, trivial⟩ d_Mo_operation_131
              · have k_69 : j_6 = 0 := nz_eq c_43 (by omega)
                refine lv_aload_n hx hb d_Mo_operation_66 rfl (lv_at hl 0 rfl) ?_
                refine mq_get (k := 57) (v := .ref (ad 57)) hx hb hts hown hI hM (by decide) rfl rfl (hts _ tw_1226) d_Mo_operation_67 ?_
                refine lv_iload_n hx hb d_Mo_operation_70 rfl (lv_at hl 1 rfl) ?_
                obtain ⟨x_70, e_71⟩ : ∃ z, σ_36.2.2.1 57 (j_30) = z := ⟨_, rfl⟩
                refine mq_iald (k := 57) (j := j_30) (v := x_70) hx hb hI hM (by decide) rfl (by show j_30 < 600; omega) (by decide) e_71 d_Mo_operation_71 ?_
                refine lv_goto (tgt := 131) hx hb d_Mo_operation_72 (by decide) ?_
                exact sm_iret hx hb hr hlk hI ⟨σ_36, rfl, hM, hF, trivial⟩ d_Mo_operation_131
            · exact absurd c_42 (by decide)
        · refine lv_if_eq (tgt := 53) hx hb d_Mo_operation_46 (by decide) (fun c_72 => ?_) (fun c_72 => ?_)
          · refine lv_iconst (v := 0) hx hb d_Mo_operation_53 (by decide) ?_
            refine sm_iM hI (va_runV (As := [.int (0)]) (rest := []) ⟨hx, hb, hml, hown, hts⟩ (c_Mo_says2 l D ca ad L _ _ _ hM 0 (by decide)) (kv_Mo_says hts rfl rfl (hts _ tw_1410) ⟨Nat.le_of_ble_eq_true rfl, Nat.le_of_ble_eq_true rfl⟩) (pv_Mo hI hE hM) rfl rfl hl.1 rfl (lv_room (Nat.le_of_ble_eq_true rfl)) d_Mo_operation_54 ⟨Nat.le_of_ble_eq_true rfl, Nat.le_of_ble_eq_true rfl⟩) (fun x_76 H locs f σ_74 hI hM hF_75 p_73 => ?_)
            have hF := mq_fr_tr hF hF_75 (by decide)
            have o_77 : σ_74.1 56 = nI n_13 := mq_fi hF_75 (by decide) e_16
            obtain ⟨p_79, o_78, -⟩ := p_73
            have p_79 := p_79.symm
            subst p_79
            refine lv_if_ne (tgt := 62) hx hb d_Mo_operation_57 (by decide) (fun c_80 => ?_) (fun c_80 => ?_)
            · exact absurd c_80 (by decide)
            · refine lv_iconst (v := 0) hx hb d_Mo_operation_60 (by decide) ?_
              exact sm_iret hx hb hr hlk hI ⟨σ_74, rfl, hM, hF, trivial⟩ d_Mo_operation_61
          · exact absurd c_72 (by decide)
      · have k_81 : n_13 < 16 := Nat.lt_of_not_le (fun q => c_17 ((nI_leI (a := 16) (b := n_13) (by omega) (by omega)).mpr q))
        refine lv_lconst (v := 0) hx hb d_Mo_operation_24 (by decide) ?_
        refine lv_goto (tgt := 36) hx hb d_Mo_operation_25 (by decide) ?_
        refine lv_aload_n hx hb d_Mo_operation_36 rfl (lv_at hl 0 rfl) ?_
        refine mq_get (k := 56) (v := .int (nI n_13)) hx hb hts hown hI hM (by decide) (congrArg (fun z => some (Value.int z)) e_16) rfl (hts _ tw_1225) d_Mo_operation_37 ?_
        refine lv_iconst (v := 1) hx hb d_Mo_operation_40 (by decide) ?_
        refine lv_isub hx hb d_Mo_operation_41 ?_
        refine lv_topi (fun x_82 e_83 => ?_)
        refine lv_i2l hx hb d_Mo_operation_42 rfl ?_
        refine lv_topl (fun x_84 e_85 => ?_)
        refine sm_iP hI (va_runS (As := [.long (x_11), .long (0), .long (x_84)]) (rest := [.ref (ad 71)]) ⟨hx, hb, hml, hown, hts⟩ (c_Mo_in l D ca L _ _ x_11 0 x_84) (ks_Mo_in hts rfl rfl (hts _ tw_1393) ⟨Nat.le_of_ble_eq_true rfl, Nat.le_of_ble_eq_true rfl⟩) (sm_preS hI hE) rfl rfl hl.1 rfl (lv_room (Nat.le_of_ble_eq_true rfl)) d_Mo_operation_43 ⟨Nat.le_of_ble_eq_true rfl, Nat.le_of_ble_eq_true rfl⟩) (fun x_87 H locs p_86 hI => ?_)
        rcases jn_int (lo := 0) (hi := ((n_13 : Nat) : Int) - 1) p_86 e_12 (by decide) (by rw [e_85, Int32.toInt_toInt64, e_83]; exact nI_p1 (by omega)) (by omega) with ⟨rfl, j_89, h_90, h_91, e_92⟩ | ⟨rfl, h_88⟩
        · rw [e_92] at hl
          refine lv_if_eq (tgt := 53) hx hb d_Mo_operation_46 (by decide) (fun c_93 => ?_) (fun c_93 => ?_)
          · exact absurd c_93 (by decide)
          · refine lv_iconst (v := 1) hx hb d_Mo_operation_49 (by decide) ?_
            refine lv_goto (tgt := 54) hx hb d_Mo_operation_50 (by decide) ?_
            refine sm_iM hI (va_runV (As := [.int (1)]) (rest := []) ⟨hx, hb, hml, hown, hts⟩ (c_Mo_says2 l D ca ad L _ _ _ hM 1 (by decide)) (kv_Mo_says hts rfl rfl (hts _ tw_1410) ⟨Nat.le_of_ble_eq_true rfl, Nat.le_of_ble_eq_true rfl⟩) (pv_Mo hI hE hM) rfl rfl hl.1 rfl (lv_room (Nat.le_of_ble_eq_true rfl)) d_Mo_operation_54 ⟨Nat.le_of_ble_eq_true rfl, Nat.le_of_ble_eq_true rfl⟩) (fun x_97 H locs f σ_95 hI hM hF_96 p_94 => ?_)
            have hF := mq_fr_tr hF hF_96 (by decide)
            have o_98 : σ_95.1 56 = nI n_13 := mq_fi hF_96 (by decide) e_16
            obtain ⟨p_100, o_99, -⟩ := p_94
            have p_100 := p_100.symm
            subst p_100
            refine lv_if_ne (tgt := 62) hx hb d_Mo_operation_57 (by decide) (fun c_101 => ?_) (fun c_101 => ?_)
            · refine lv_iload_n hx hb d_Mo_operation_62 rfl (lv_at hl 2 rfl) ?_
              refine lv_if_ne (tgt := 75) hx hb d_Mo_operation_63 (by decide) (fun c_102 => ?_) (fun c_102 => ?_)
              · have k_103 : 0 < j_6 := Nat.pos_of_ne_zero (fun q => c_102 (by rw [q]; decide))
                refine lv_iload_n hx hb d_Mo_operation_75 rfl (lv_at hl 2 rfl) ?_
                refine lv_iconst (v := 1) hx hb d_Mo_operation_76 (by decide) ?_
                refine lv_icmp_ne (tgt := 89) hx hb d_Mo_operation_77 (by decide) (fun c_104 => ?_) (fun c_104 => ?_)
                · have k_105 : ¬ j_6 = 1 := (fun q => c_104 ((nI_eq (a := j_6) (b := 1) (by omega) (by omega)).mpr q))
                  refine lv_iload_n hx hb d_Mo_operation_89 rfl (lv_at hl 2 rfl) ?_
                  refine lv_iconst (v := 2) hx hb d_Mo_operation_90 (by decide) ?_
                  refine lv_icmp_ne (tgt := 103) hx hb d_Mo_operation_91 (by decide) (fun c_106 => ?_) (fun c_106 => ?_)
                  · have k_107 : ¬ j_6 = 2 := (fun q => c_106 ((nI_eq (a := j_6) (b := 2) (by omega) (by omega)).mpr q))
                    refine lv_iload_n hx hb d_Mo_operation_103 rfl (lv_at hl 2 rfl) ?_
                    refine lv_iconst (v := 3) hx hb d_Mo_operation_104 (by decide) ?_
                    refine lv_icmp_ne (tgt := 117) hx hb d_Mo_operation_105 (by decide) (fun c_108 => ?_) (fun c_108 => ?_)
                    · have k_109 : ¬ j_6 = 3 := (fun q => c_108 ((nI_eq (a := j_6) (b := 3) (by omega) (by omega)).mpr q))
                      refine lv_aload_n hx hb d_Mo_operation_117 rfl (lv_at hl 0 rfl) ?_
                      refine mq_get (k := 62) (v := .ref (ad 62)) hx hb hts hown hI hM (by decide) rfl rfl (hts _ tw_1231) d_Mo_operation_118 ?_
                      refine lv_iload_n hx hb d_Mo_operation_121 rfl (lv_at hl 1 rfl) ?_
                      obtain ⟨n_110, h_111, h_112, e_113⟩ := hM.2.2.2.2.2 62 (j_89)
                      have p_114 : nI n_110 = 0 ∨ nI n_110 = 1 := mq_zok ⟨n_110, h_111, h_112, rfl⟩
                      refine mq_zald (k := 62) (j := j_89) (v := nI n_110) hx hb hI hM (by decide) rfl (by show j_89 < 600; omega) (by decide) e_113 d_Mo_operation_122 ?_
                      refine lv_if_eq (tgt := 130) hx hb d_Mo_operation_123 (by decide) (fun c_115 => ?_) (fun c_115 => ?_)
                      · refine lv_iconst (v := 0) hx hb d_Mo_operation_130 (by decide) ?_
                        exact sm_iret hx hb hr hlk hI ⟨σ_95, rfl, hM, hF, trivial⟩ d_Mo_operation_131
                      · refine lv_iconst (v := 1) hx hb d_Mo_operation_126 (by decide) ?_
                        refine lv_goto (tgt := 131) hx hb d_Mo_operation_127 (by decide) ?_
                        exact sm_iret hx hb hr hlk hI ⟨σ_95, rfl, hM, hF, trivial⟩ d_Mo_operation_131
                    · have k_116 : j_6 = 3 := (nI_eq (a := j_6) (b := 3) (by omega) (by omega)).mp c_108
                      refine lv_aload_n hx hb d_Mo_operation_108 rfl (lv_at hl 0 rfl) ?_
                      refine mq_get (k := 60) (v := .ref (ad 60)) hx hb hts hown hI hM (by decide) rfl rfl (hts _ tw_1229) d_Mo_operation_109 ?_
                      refine lv_iload_n hx hb d_Mo_operation_112 rfl (lv_at hl 1 rfl) ?_
                      obtain ⟨n_117, h_118, h_119, e_120⟩ := hM.2.2.2.2.2 60 (j_89)
                      refine mq_iald (k := 60) (j := j_89) (v := nI n_117) hx hb hI hM (by decide) rfl (by show j_89 < 600; omega) (by decide) e_120 d_Mo_operation_113 ?_
                      refine lv_goto (tgt := 131) hx hb d_Mo_operation_114 (by decide) ?_
                      exact sm_iret hx hb hr hlk hI ⟨σ_95, rfl, hM, hF, trivial⟩ d_Mo_operation_131
                  · have k_121 : j_6 = 2 := (nI_eq (a := j_6) (b := 2) (by omega) (by omega)).mp c_106
                    refine lv_aload_n hx hb d_Mo_operation_94 rfl (lv_at hl 0 rfl) ?_
                    refine mq_get (k := 59) (v := .ref (ad 59)) hx hb hts hown hI hM (by decide) rfl rfl (hts _ tw_1228) d_Mo_operation_95 ?_
                    refine lv_iload_n hx hb d_Mo_operation_98 rfl (lv_at hl 1 rfl) ?_
                    obtain ⟨x_122, e_123⟩ : ∃ z, σ_95.2.2.1 59 (j_89) = z := ⟨_, rfl⟩
                    refine mq_iald (k := 59) (j := j_89) (v := x_122) hx hb hI hM (by decide) rfl (by show j_89 < 600; omega) (by decide) e_123 d_Mo_operation_99 ?_
                    refine lv_goto (tgt := 131) hx hb d_Mo_operation_100 (by decide) ?_
                    exact sm_iret hx hb hr hlk hI ⟨σ_95, rfl, hM, hF, trivial⟩ d_Mo_operation_131
                · have k_124 : j_6 = 1 := (nI_eq (a := j_6) (b := 1) (by omega) (by omega)).mp c_104
                  refine lv_aload_n hx hb d_Mo_operation_80 rfl (lv_at hl 0 rfl) ?_
                  refine mq_get (k := 58) (v := .ref (ad 58)) hx hb hts hown hI hM (by decide) rfl rfl (hts _ tw_1227) d_Mo_operation_81 ?_
                  refine lv_iload_n hx hb d_Mo_operation_84 rfl (lv_at hl 1 rfl) ?_
                  obtain ⟨x_125, e_126⟩ : ∃ z, σ_95.2.2.1 58 (j_89) = z := ⟨_, rfl⟩
                  refine mq_iald (k := 58) (j := j_89) (v := x_125) hx hb hI hM (by decide) rfl (by show j_89 < 600; omega) (by decide) e_126 d_Mo_operation_85 ?_
                  refine lv_goto (tgt := 131) hx hb d_Mo_operation_86 (by decide) ?_
                  exact sm_iret hx hb hr hlk hI ⟨σ_95, rfl, hM, hF, trivial⟩ d_Mo_operation_131
              · have k_128 : j_6 = 0 := nz_eq c_102 (by omega)
                refine lv_aload_n hx hb d_Mo_operation_66 rfl (lv_at hl 0 rfl) ?_
                refine mq_get (k := 57) (v := .ref (ad 57)) hx hb hts hown hI hM (by decide) rfl rfl (hts _ tw_1226) d_Mo_operation_67 ?_
                refine lv_iload_n hx hb d_Mo_operation_70 rfl (lv_at hl 1 rfl) ?_
                obtain ⟨x_129, e_130⟩ : ∃ z, σ_95.2.2.1 57 (j_89) = z := ⟨_, rfl⟩
                refine mq_iald (k := 57) (j := j_89) (v := x_129) hx hb hI hM (by decide) rfl (by show j_89 < 600; omega) (by decide) e_130 d_Mo_operation_71 ?_
                refine lv_goto (tgt := 131) hx hb d_Mo_operation_72 (by decide) ?_
                exact sm_iret hx hb hr hlk hI ⟨σ_95, rfl, hM, hF, trivial⟩ d_Mo_operation_131
            · exact absurd c_101 (by decide)
        · refine lv_if_eq (tgt := 53) hx hb d_Mo_operation_46 (by decide) (fun c_131 => ?_) (fun c_131 => ?_)
          · refine lv_iconst (v := 0) hx hb d_Mo_operation_53 (by decide) ?_
            refine sm_iM hI (va_runV (As := [.int (0)]) (rest := []) ⟨hx, hb, hml, hown, hts⟩ (c_Mo_says2 l D ca ad L _ _ _ hM 0 (by decide)) (kv_Mo_says hts rfl rfl (hts _ tw_1410) ⟨Nat.le_of_ble_eq_true rfl, Nat.le_of_ble_eq_true rfl⟩) (pv_Mo hI hE hM) rfl rfl hl.1 rfl (lv_room (Nat.le_of_ble_eq_true rfl)) d_Mo_operation_54 ⟨Nat.le_of_ble_eq_true rfl, Nat.le_of_ble_eq_true rfl⟩) (fun x_135 H locs f σ_133 hI hM hF_134 p_132 => ?_)
            have hF := mq_fr_tr hF hF_134 (by decide)
            have o_136 : σ_133.1 56 = nI n_13 := mq_fi hF_134 (by decide) e_16
            obtain ⟨p_138, o_137, -⟩ := p_132
            have p_138 := p_138.symm
            subst p_138
            refine lv_if_ne (tgt := 62) hx hb d_Mo_operation_57 (by decide) (fun c_139 => ?_) (fun c_139 => ?_)
            · exact absurd c_139 (by decide)
            · refine lv_iconst (v := 0) hx hb d_Mo_operation_60 (by decide) ?_
              exact sm_iret hx hb hr hlk hI ⟨σ_133, rfl, hM, hF, trivial⟩ d_Mo_operation_61
          · exact absurd c_131 (by decide)
  · refine lv_if_eq (tgt := 53) hx hb d_Mo_operation_10 (by decide) (fun c_140 => ?_) (fun c_140 => ?_)
    · refine lv_iconst (v := 0) hx hb d_Mo_operation_53 (by decide) ?_
      refine sm_iM hI (va_runV (As := [.int (0)]) (rest := []) ⟨hx, hb, hml, hown, hts⟩ (c_Mo_says2 l D ca ad L _ _ _ hM 0 (by decide)) (kv_Mo_says hts rfl rfl (hts _ tw_1410) ⟨Nat.le_of_ble_eq_true rfl, Nat.le_of_ble_eq_true rfl⟩) (pv_Mo hI hE hM) rfl rfl hl.1 rfl (lv_room (Nat.le_of_ble_eq_true rfl)) d_Mo_operation_54 ⟨Nat.le_of_ble_eq_true rfl, Nat.le_of_ble_eq_true rfl⟩) (fun x_144 H locs f σ_142 hI hM hF_143 p_141 => ?_)
      have hF := mq_fr_tr hF hF_143 (by decide)
      obtain ⟨p_146, o_145, -⟩ := p_141
      have p_146 := p_146.symm
      subst p_146
      refine lv_if_ne (tgt := 62) hx hb d_Mo_operation_57 (by decide) (fun c_147 => ?_) (fun c_147 => ?_)
      · exact absurd c_147 (by decide)
      · refine lv_iconst (v := 0) hx hb d_Mo_operation_60 (by decide) ?_
        exact sm_iret hx hb hr hlk hI ⟨σ_142, rfl, hM, hF, trivial⟩ d_Mo_operation_61
    · exact absurd c_140 (by decide)
theorem d_Mo_count_0 : decode b_Mo_count 0 = .ok (.aload_n 0, 1) := by decide +kernel
theorem d_Mo_count_1 : decode b_Mo_count 1 = .ok (.iload_n 1, 1) := by decide +kernel
theorem d_Mo_count_2 : decode b_Mo_count 2 = .ok (.i2l, 1) := by decide +kernel
theorem d_Mo_count_3 : decode b_Mo_count 3 = .ok (.lconst 0, 1) := by decide +kernel
theorem d_Mo_count_4 : decode b_Mo_count 4 = .ok (.ldc2_w 491, 3) := by decide +kernel
theorem d_Mo_count_7 : decode b_Mo_count 7 = .ok (.invokestatic 187, 3) := by decide +kernel
theorem d_Mo_count_10 : decode b_Mo_count 10 = .ok (.invokevirtual 208, 3) := by decide +kernel
theorem d_Mo_count_13 : decode b_Mo_count 13 = .ok (.ifCond .ne 5, 3) := by decide +kernel
theorem d_Mo_count_16 : decode b_Mo_count 16 = .ok (.iconst 0, 1) := by decide +kernel
theorem d_Mo_count_17 : decode b_Mo_count 17 = .ok (.ireturn, 1) := by decide +kernel
theorem d_Mo_count_18 : decode b_Mo_count 18 = .ok (.iconst 0, 1) := by decide +kernel
theorem d_Mo_count_19 : decode b_Mo_count 19 = .ok (.istore_n 2, 1) := by decide +kernel
theorem d_Mo_count_20 : decode b_Mo_count 20 = .ok (.iconst 0, 1) := by decide +kernel
theorem d_Mo_count_21 : decode b_Mo_count 21 = .ok (.istore_n 3, 1) := by decide +kernel
theorem d_Mo_count_22 : decode b_Mo_count 22 = .ok (.iload_n 3, 1) := by decide +kernel
theorem d_Mo_count_23 : decode b_Mo_count 23 = .ok (.aload_n 0, 1) := by decide +kernel
theorem d_Mo_count_24 : decode b_Mo_count 24 = .ok (.getfield 247, 3) := by decide +kernel
theorem d_Mo_count_27 : decode b_Mo_count 27 = .ok (.if_icmp .ge 26, 3) := by decide +kernel
theorem d_Mo_count_30 : decode b_Mo_count 30 = .ok (.aload_n 0, 1) := by decide +kernel
theorem d_Mo_count_31 : decode b_Mo_count 31 = .ok (.getfield 133, 3) := by decide +kernel
theorem d_Mo_count_34 : decode b_Mo_count 34 = .ok (.iload_n 3, 1) := by decide +kernel
theorem d_Mo_count_35 : decode b_Mo_count 35 = .ok (.iaload, 1) := by decide +kernel
theorem d_Mo_count_36 : decode b_Mo_count 36 = .ok (.ifCond .lt 9, 3) := by decide +kernel
theorem d_Mo_count_39 : decode b_Mo_count 39 = .ok (.iload_n 2, 1) := by decide +kernel
theorem d_Mo_count_40 : decode b_Mo_count 40 = .ok (.iconst 1, 1) := by decide +kernel
theorem d_Mo_count_41 : decode b_Mo_count 41 = .ok (.iadd, 1) := by decide +kernel
theorem d_Mo_count_42 : decode b_Mo_count 42 = .ok (.goto 4, 3) := by decide +kernel
theorem d_Mo_count_45 : decode b_Mo_count 45 = .ok (.iload_n 2, 1) := by decide +kernel
theorem d_Mo_count_46 : decode b_Mo_count 46 = .ok (.istore_n 2, 1) := by decide +kernel
theorem d_Mo_count_47 : decode b_Mo_count 47 = .ok (.iinc 3 1, 3) := by decide +kernel
theorem d_Mo_count_50 : decode b_Mo_count 50 = .ok (.goto (-28), 3) := by decide +kernel
theorem d_Mo_count_53 : decode b_Mo_count 53 = .ok (.aload_n 0, 1) := by decide +kernel
theorem d_Mo_count_54 : decode b_Mo_count 54 = .ok (.invokevirtual 341, 3) := by decide +kernel
theorem d_Mo_count_57 : decode b_Mo_count 57 = .ok (.iload_n 1, 1) := by decide +kernel
theorem d_Mo_count_58 : decode b_Mo_count 58 = .ok (.ifCond .ne 10, 3) := by decide +kernel
theorem d_Mo_count_61 : decode b_Mo_count 61 = .ok (.aload_n 0, 1) := by decide +kernel
theorem d_Mo_count_62 : decode b_Mo_count 62 = .ok (.getfield 247, 3) := by decide +kernel
theorem d_Mo_count_65 : decode b_Mo_count 65 = .ok (.goto 83, 3) := by decide +kernel
theorem d_Mo_count_68 : decode b_Mo_count 68 = .ok (.iload_n 1, 1) := by decide +kernel
theorem d_Mo_count_69 : decode b_Mo_count 69 = .ok (.iconst 1, 1) := by decide +kernel
theorem d_Mo_count_70 : decode b_Mo_count 70 = .ok (.if_icmp .ne 7, 3) := by decide +kernel
theorem d_Mo_count_73 : decode b_Mo_count 73 = .ok (.iload_n 2, 1) := by decide +kernel
theorem d_Mo_count_74 : decode b_Mo_count 74 = .ok (.goto 74, 3) := by decide +kernel
theorem d_Mo_count_77 : decode b_Mo_count 77 = .ok (.iload_n 1, 1) := by decide +kernel
theorem d_Mo_count_78 : decode b_Mo_count 78 = .ok (.iconst 2, 1) := by decide +kernel
theorem d_Mo_count_79 : decode b_Mo_count 79 = .ok (.if_icmp .ne 10, 3) := by decide +kernel
theorem d_Mo_count_82 : decode b_Mo_count 82 = .ok (.aload_n 0, 1) := by decide +kernel
theorem d_Mo_count_83 : decode b_Mo_count 83 = .ok (.getfield 250, 3) := by decide +kernel
theorem d_Mo_count_86 : decode b_Mo_count 86 = .ok (.goto 62, 3) := by decide +kernel
theorem d_Mo_count_89 : decode b_Mo_count 89 = .ok (.iload_n 1, 1) := by decide +kernel
theorem d_Mo_count_90 : decode b_Mo_count 90 = .ok (.iconst 3, 1) := by decide +kernel
theorem d_Mo_count_91 : decode b_Mo_count 91 = .ok (.if_icmp .ne 10, 3) := by decide +kernel
theorem d_Mo_count_94 : decode b_Mo_count 94 = .ok (.aload_n 0, 1) := by decide +kernel
theorem d_Mo_count_95 : decode b_Mo_count 95 = .ok (.getfield 485, 3) := by decide +kernel
theorem d_Mo_count_98 : decode b_Mo_count 98 = .ok (.goto 50, 3) := by decide +kernel
theorem d_Mo_count_101 : decode b_Mo_count 101 = .ok (.iload_n 1, 1) := by decide +kernel
theorem d_Mo_count_102 : decode b_Mo_count 102 = .ok (.iconst 4, 1) := by decide +kernel
theorem d_Mo_count_103 : decode b_Mo_count 103 = .ok (.if_icmp .ne 21, 3) := by decide +kernel
theorem d_Mo_count_106 : decode b_Mo_count 106 = .ok (.aload_n 0, 1) := by decide +kernel
theorem d_Mo_count_107 : decode b_Mo_count 107 = .ok (.invokevirtual 482, 3) := by decide +kernel
theorem d_Mo_count_110 : decode b_Mo_count 110 = .ok (.ifCond .eq 10, 3) := by decide +kernel
theorem d_Mo_count_113 : decode b_Mo_count 113 = .ok (.aload_n 0, 1) := by decide +kernel
theorem d_Mo_count_114 : decode b_Mo_count 114 = .ok (.getfield 166, 3) := by decide +kernel
theorem d_Mo_count_117 : decode b_Mo_count 117 = .ok (.goto 31, 3) := by decide +kernel
theorem d_Mo_count_120 : decode b_Mo_count 120 = .ok (.iconst (-1), 1) := by decide +kernel
theorem d_Mo_count_121 : decode b_Mo_count 121 = .ok (.goto 27, 3) := by decide +kernel
theorem d_Mo_count_124 : decode b_Mo_count 124 = .ok (.iload_n 1, 1) := by decide +kernel
theorem d_Mo_count_125 : decode b_Mo_count 125 = .ok (.iconst 5, 1) := by decide +kernel
theorem d_Mo_count_126 : decode b_Mo_count 126 = .ok (.if_icmp .ne 10, 3) := by decide +kernel
theorem d_Mo_count_129 : decode b_Mo_count 129 = .ok (.aload_n 0, 1) := by decide +kernel
theorem d_Mo_count_130 : decode b_Mo_count 130 = .ok (.getfield 136, 3) := by decide +kernel
theorem d_Mo_count_133 : decode b_Mo_count 133 = .ok (.goto 15, 3) := by decide +kernel
theorem d_Mo_count_136 : decode b_Mo_count 136 = .ok (.aload_n 0, 1) := by decide +kernel
theorem d_Mo_count_137 : decode b_Mo_count 137 = .ok (.getfield 243, 3) := by decide +kernel
theorem d_Mo_count_140 : decode b_Mo_count 140 = .ok (.ifCond .eq 7, 3) := by decide +kernel
theorem d_Mo_count_143 : decode b_Mo_count 143 = .ok (.iconst 1, 1) := by decide +kernel
theorem d_Mo_count_144 : decode b_Mo_count 144 = .ok (.goto 4, 3) := by decide +kernel
theorem d_Mo_count_147 : decode b_Mo_count 147 = .ok (.iconst 0, 1) := by decide +kernel
theorem d_Mo_count_148 : decode b_Mo_count 148 = .ok (.ireturn, 1) := by decide +kernel
set_option maxRecDepth 100000 in
set_option maxHeartbeats 4000000 in
theorem c_Mo_count (l : Launch) (D : va_G) (ca : Nat → ClassId) (ad : Nat → Nat) (L : List Nat) (f0 : Nat → va_E) (sz : Nat) (σ0 : mq_S) (hM : mq_B ca ad σ0 L f0) (x1 : Int32) :
    Met l y_Mo_count (Cond.code y_Mo_count b_Mo_count 4 (some .int) :: wg) { frames := 2, cells := 0, slots := 0, locals := 43 } (va_Pc [.ref (ad 71), .int (x1)] (sm_P D cl_all (ty_s ca) ek L f0 sz)) (sm_Qi D (ty_s ca) L f0 sz (fun r u => mq_po ca ad L σ0 [0, 24, 42, 52, 54, 55] (fun σ => True) u)) 0 0 (va_A (va_pl L f0) sz) := by
  refine sm_start (by decide) (Nat.le_of_ble_eq_true rfl) ?_
  intro p e s m below meth c ls hx hb hml hr hlk hnm hts hown hsz hE hI hl
  have hl : lv_has ls 4 [(0, .ref (ad 71)), (1, .int (x1))] := hl
  have hF : mq_fr [0, 24, 42, 52, 54, 55] σ0 σ0 := mq_fr_rf
  have hJ_22 : ∀ (N k : Nat) (H : Heap) (locs : List Loc) (f : Nat → va_E) (σ : mq_S) (ls : Array Slot) (y1 : Int32) (y2 : Int32), 48 + 1 - k ≤ N → k ≤ 48 → sw_I D cl_all (ty_s ca) (va_A (va_pl L f0) sz) s H locs L f → mq_B ca ad σ L f → mq_fr [0, 24, 42, 52, 54, 55] σ0 σ → lv_has ls 4 [(0, .ref (ad 71)), (1, .int (y1)), (2, .int (y2)), (3, .int (nI k))] → W p l e { frames := 2, cells := 0, slots := 0, locals := 43 } s m ([.ref (ad 71), .int (x1)] : List Value).toArray below meth c H locs 0 0 (MQ below (sm_Qi D (ty_s ca) L f0 sz (fun r u => mq_po ca ad L σ0 [0, 24, 42, 52, 54, 55] (fun σ => True) u)) ([.ref (ad 71), .int (x1)] : List Value).toArray s 0 0 (va_A (va_pl L f0) sz)) (F0 m 22 ls []) := by
    intro N
    induction N with
    | zero => intros; omega
    | succ N ih =>
      intro k H locs f σ ls y1 y2 hN hk hI hM hF hl 
      refine lv_iload_n hx hb d_Mo_count_22 rfl (lv_at hl 3 rfl) ?_
      refine lv_aload_n hx hb d_Mo_count_23 rfl (lv_at hl 0 rfl) ?_
      obtain ⟨n_1, h_2, h_3, e_4⟩ := hM.2.2.2.2.1 43
      refine mq_get (k := 43) (v := .int (nI n_1)) hx hb hts hown hI hM (by decide) (congrArg (fun z => some (Value.int z)) e_4) rfl (hts _ tw_1212) d_Mo_count_24 ?_
      refine lv_icmp_ge (tgt := 53) hx hb d_Mo_count_27 (by decide) (fun c_5 => ?_) (fun c_5 => ?_)
      · have k_6 : n_1 ≤ k := (nI_leI (a := n_1) (b := k) (by omega) (by omega)).mp c_5
        refine lv_aload_n hx hb d_Mo_count_53 rfl (lv_at hl 0 rfl) ?_
        refine sm_vM hI (va_runV (As := []) (rest := []) ⟨hx, hb, hml, hown, hts⟩ (c_Mo_choose l D ca ad L _ _ _ hM ) (kv_Mo_choose hts rfl rfl (hts _ tw_1426) ⟨Nat.le_of_ble_eq_true rfl, Nat.le_of_ble_eq_true rfl⟩) (pv_Mo hI hE hM) rfl rfl hl.1 rfl (lv_room (Nat.le_of_ble_eq_true rfl)) d_Mo_count_54 ⟨Nat.le_of_ble_eq_true rfl, Nat.le_of_ble_eq_true rfl⟩) (fun H locs f σ_8 hI hM hF_9 p_7 => ?_)
        have hF := mq_fr_tr hF hF_9 (by decide)
        refine lv_iload_n hx hb d_Mo_count_57 rfl (lv_at hl 1 rfl) ?_
        refine lv_if_ne (tgt := 68) hx hb d_Mo_count_58 (by decide) (fun c_10 => ?_) (fun c_10 => ?_)
        · refine lv_iload_n hx hb d_Mo_count_68 rfl (lv_at hl 1 rfl) ?_
          refine lv_iconst (v := 1) hx hb d_Mo_count_69 (by decide) ?_
          refine lv_icmp_ne (tgt := 77) hx hb d_Mo_count_70 (by decide) (fun c_11 => ?_) (fun c_11 => ?_)
          · refine lv_iload_n hx hb d_Mo_count_77 rfl (lv_at hl 1 rfl) ?_
            refine lv_iconst (v := 2) hx hb d_Mo_count_78 (by decide) ?_
            refine lv_icmp_ne (tgt := 89) hx hb d_Mo_count_79 (by decide) (fun c_12 => ?_) (fun c_12 => ?_)
            · refine lv_iload_n hx hb d_Mo_count_89 rfl (lv_at hl 1 rfl) ?_
              refine lv_iconst (v := 3) hx hb d_Mo_count_90 (by decide) ?_
              refine lv_icmp_ne (tgt := 101) hx hb d_Mo_count_91 (by decide) (fun c_13 => ?_) (fun c_13 => ?_)
              · refine lv_iload_n hx hb d_Mo_count_101 rfl (lv_at hl 1 rfl) ?_
                refine lv_iconst (v := 4) hx hb d_Mo_count_102 (by decide) ?_
                refine lv_icmp_ne (tgt := 124) hx hb d_Mo_count_103 (by decide) (fun c_14 => ?_) (fun c_14 => ?_)
                · refine lv_iload_n hx hb d_Mo_count_124 rfl (lv_at hl 1 rfl) ?_
                  refine lv_iconst (v := 5) hx hb d_Mo_count_125 (by decide) ?_
                  refine lv_icmp_ne (tgt := 136) hx hb d_Mo_count_126 (by decide) (fun c_15 => ?_) (fun c_15 => ?_)
                  · refine lv_aload_n hx hb d_Mo_count_136 rfl (lv_at hl 0 rfl) ?_
                    obtain ⟨n_16, h_17, h_18, e_19⟩ := hM.2.2.2.2.1 11
                    have p_20 : nI n_16 = 0 ∨ nI n_16 = 1 := mq_zok ⟨n_16, h_17, h_18, rfl⟩
                    refine mq_get (k := 11) (v := .int (nI n_16)) hx hb hts hown hI hM (by decide) (congrArg (fun z => some (Value.int z)) e_19) rfl (hts _ tw_1180) d_Mo_count_137 ?_
                    refine lv_if_eq (tgt := 147) hx hb d_Mo_count_140 (by decide) (fun c_21 => ?_) (fun c_21 => ?_)
                    · refine lv_iconst (v := 0) hx hb d_Mo_count_147 (by decide) ?_
                      exact sm_iret hx hb hr hlk hI ⟨σ_8, rfl, hM, hF, trivial⟩ d_Mo_count_148
                    · refine lv_iconst (v := 1) hx hb d_Mo_count_143 (by decide) ?_
                      refine lv_goto (tgt := 148) hx hb d_Mo_count_144 (by decide) ?_
                      exact sm_iret hx hb hr hlk hI ⟨σ_8, rfl, hM, hF, trivial⟩ d_Mo_count_148
                  · refine lv_aload_n hx hb d_Mo_count_129 rfl (lv_at hl 0 rfl) ?_
                    obtain ⟨x_22, e_23⟩ : ∃ z, σ_8.1 54 = z := ⟨_, rfl⟩
                    refine mq_get (k := 54) (v := .int (x_22)) hx hb hts hown hI hM (by decide) (congrArg (fun z => some (Value.int z)) e_23) rfl (hts _ tw_1223) d_Mo_count_130 ?_
                    refine lv_goto (tgt := 148) hx hb d_Mo_count_133 (by decide) ?_
                    exact sm_iret hx hb hr hlk hI ⟨σ_8, rfl, hM, hF, trivial⟩ d_Mo_count_148
                · refine lv_aload_n hx hb d_Mo_count_106 rfl (lv_at hl 0 rfl) ?_
                  refine sm_iP hI (va_runV (As := []) (rest := []) ⟨hx, hb, hml, hown, hts⟩ (c_Mo_isSelected l D ca ad L _ _ _ hM ) (kv_Mo_isSelected hts rfl rfl (hts _ tw_1635) ⟨Nat.le_of_ble_eq_true rfl, Nat.le_of_ble_eq_true rfl⟩) (pv_Mo hI hE hM) rfl rfl hl.1 rfl (lv_room (Nat.le_of_ble_eq_true rfl)) d_Mo_count_107 ⟨Nat.le_of_ble_eq_true rfl, Nat.le_of_ble_eq_true rfl⟩) (fun x_25 H locs p_24 hI => ?_)
                  refine lv_if_eq (tgt := 120) hx hb d_Mo_count_110 (by decide) (fun c_26 => ?_) (fun c_26 => ?_)
                  · refine lv_iconst (v := -1) hx hb d_Mo_count_120 (by decide) ?_
                    refine lv_goto (tgt := 148) hx hb d_Mo_count_121 (by decide) ?_
                    exact sm_iret hx hb hr hlk hI ⟨σ_8, rfl, hM, hF, trivial⟩ d_Mo_count_148
                  · refine lv_aload_n hx hb d_Mo_count_113 rfl (lv_at hl 0 rfl) ?_
                    obtain ⟨x_27, e_28⟩ : ∃ z, σ_8.1 65 = z := ⟨_, rfl⟩
                    refine mq_get (k := 65) (v := .int (x_27)) hx hb hts hown hI hM (by decide) (congrArg (fun z => some (Value.int z)) e_28) rfl (hts _ tw_1234) d_Mo_count_114 ?_
                    refine lv_goto (tgt := 148) hx hb d_Mo_count_117 (by decide) ?_
                    exact sm_iret hx hb hr hlk hI ⟨σ_8, rfl, hM, hF, trivial⟩ d_Mo_count_148
              · refine lv_aload_n hx hb d_Mo_count_94 rfl (lv_at hl 0 rfl) ?_
                obtain ⟨n_29, h_30, h_31, e_32⟩ := hM.2.2.2.2.1 56
                refine mq_get (k := 56) (v := .int (nI n_29)) hx hb hts hown hI hM (by decide) (congrArg (fun z => some (Value.int z)) e_32) rfl (hts _ tw_1225) d_Mo_count_95 ?_
                refine lv_goto (tgt := 148) hx hb d_Mo_count_98 (by decide) ?_
                exact sm_iret hx hb hr hlk hI ⟨σ_8, rfl, hM, hF, trivial⟩ d_Mo_count_148
            · refine lv_aload_n hx hb d_Mo_count_82 rfl (lv_at hl 0 rfl) ?_
              obtain ⟨x_33, e_34⟩ : ∃ z, σ_8.1 53 = z := ⟨_, rfl⟩
              refine mq_get (k := 53) (v := .int (x_33)) hx hb hts hown hI hM (by decide) (congrArg (fun z => some (Value.int z)) e_34) rfl (hts _ tw_1222) d_Mo_count_83 ?_
              refine lv_goto (tgt := 148) hx hb d_Mo_count_86 (by decide) ?_
              exact sm_iret hx hb hr hlk hI ⟨σ_8, rfl, hM, hF, trivial⟩ d_Mo_count_148
          · refine lv_iload_n hx hb d_Mo_count_73 rfl (lv_at hl 2 rfl) ?_
            refine lv_goto (tgt := 148) hx hb d_Mo_count_74 (by decide) ?_
            exact sm_iret hx hb hr hlk hI ⟨σ_8, rfl, hM, hF, trivial⟩ d_Mo_count_148
        · refine lv_aload_n hx hb d_Mo_count_61 rfl (lv_at hl 0 rfl) ?_
          obtain ⟨n_35, h_36, h_37, e_38⟩ := hM.2.2.2.2.1 43
          refine mq_get (k := 43) (v := .int (nI n_35)) hx hb hts hown hI hM (by decide) (congrArg (fun z => some (Value.int z)) e_38) rfl (hts _ tw_1212) d_Mo_count_62 ?_
          refine lv_goto (tgt := 148) hx hb d_Mo_count_65 (by decide) ?_
          exact sm_iret hx hb hr hlk hI ⟨σ_8, rfl, hM, hF, trivial⟩ d_Mo_count_148
      · have k_39 : k < n_1 := Nat.lt_of_not_le (fun q => c_5 ((nI_leI (a := n_1) (b := k) (by omega) (by omega)).mpr q))
        refine lv_aload_n hx hb d_Mo_count_30 rfl (lv_at hl 0 rfl) ?_
        refine mq_get (k := 52) (v := .ref (ad 52)) hx hb hts hown hI hM (by decide) rfl rfl (hts _ tw_1221) d_Mo_count_31 ?_
        refine lv_iload_n hx hb d_Mo_count_34 rfl (lv_at hl 3 rfl) ?_
        obtain ⟨x_40, e_41⟩ : ∃ z, σ.2.2.1 52 (k) = z := ⟨_, rfl⟩
        refine mq_iald (k := 52) (j := k) (v := x_40) hx hb hI hM (by decide) rfl (by show k < 48; omega) (by decide) e_41 d_Mo_count_35 ?_
        refine lv_if_lt (tgt := 45) hx hb d_Mo_count_36 (by decide) (fun c_42 => ?_) (fun c_42 => ?_)
        · refine lv_iload_n hx hb d_Mo_count_45 rfl (lv_at hl 2 rfl) ?_
          refine lv_istore_n (lv' := [(2, .int (y2)), (0, .ref (ad 71)), (1, .int (y1)), (3, .int (nI k))]) hx hb d_Mo_count_46 rfl hl (by decide) rfl (fun ls hl => ?_)
          refine lv_iinc (v := nI (k + 1)) (lv' := [(3, .int (nI (k + 1))), (2, .int (y2)), (0, .ref (ad 71)), (1, .int (y1))]) hx hb d_Mo_count_47 hl (k := 3) rfl (nI_1 _) (by decide) rfl (fun ls hl => ?_)
          refine lv_goto (tgt := 22) hx hb d_Mo_count_50 (by decide) ?_
          exact ih ((k + 1)) _ _ _ _ _ y1 y2 (by omega) (by omega) hI hM hF (lv_sub hl [2, 3, 1, 0] rfl) 
        · refine lv_iload_n hx hb d_Mo_count_39 rfl (lv_at hl 2 rfl) ?_
          refine lv_iconst (v := 1) hx hb d_Mo_count_40 (by decide) ?_
          refine lv_iadd hx hb d_Mo_count_41 ?_
          refine lv_topi (fun x_43 e_44 => ?_)
          refine lv_goto (tgt := 46) hx hb d_Mo_count_42 (by decide) ?_
          refine lv_istore_n (lv' := [(2, .int (x_43)), (0, .ref (ad 71)), (1, .int (y1)), (3, .int (nI k))]) hx hb d_Mo_count_46 rfl hl (by decide) rfl (fun ls hl => ?_)
          refine lv_iinc (v := nI (k + 1)) (lv' := [(3, .int (nI (k + 1))), (2, .int (x_43)), (0, .ref (ad 71)), (1, .int (y1))]) hx hb d_Mo_count_47 hl (k := 3) rfl (nI_1 _) (by decide) rfl (fun ls hl => ?_)
          refine lv_goto (tgt := 22) hx hb d_Mo_count_50 (by decide) ?_
          exact ih ((k + 1)) _ _ _ _ _ y1 x_43 (by omega) (by omega) hI hM hF (lv_sub hl [2, 3, 1, 0] rfl) 
  refine lv_aload_n hx hb d_Mo_count_0 rfl (lv_at hl 0 rfl) ?_
  refine lv_iload_n hx hb d_Mo_count_1 rfl (lv_at hl 1 rfl) ?_
  refine lv_i2l hx hb d_Mo_count_2 rfl ?_
  refine lv_topl (fun x_45 e_46 => ?_)
  refine lv_lconst (v := 0) hx hb d_Mo_count_3 (by decide) ?_
  refine lv_ldc2 (v := 6) hx hb hown (hts _ tw_1714) d_Mo_count_4 ?_
  refine sm_iP hI (va_runS (As := [.long (x_45), .long (0), .long (6)]) (rest := [.ref (ad 71)]) ⟨hx, hb, hml, hown, hts⟩ (c_Mo_in l D ca L _ _ x_45 0 6) (ks_Mo_in hts rfl rfl (hts _ tw_1393) ⟨Nat.le_of_ble_eq_true rfl, Nat.le_of_ble_eq_true rfl⟩) (sm_preS hI hE) rfl rfl hl.1 rfl (lv_room (Nat.le_of_ble_eq_true rfl)) d_Mo_count_7 ⟨Nat.le_of_ble_eq_true rfl, Nat.le_of_ble_eq_true rfl⟩) (fun x_48 H locs p_47 hI => ?_)
  rcases jn_int (lo := 0) (hi := 6) p_47 e_46 (by decide) (by decide) (by omega) with ⟨rfl, j_50, h_51, h_52, e_53⟩ | ⟨rfl, h_49⟩
  · rw [e_53] at hl
    refine sm_iM hI (va_runV (As := [.int (1)]) (rest := []) ⟨hx, hb, hml, hown, hts⟩ (c_Mo_says2 l D ca ad L _ _ _ hM 1 (by decide)) (kv_Mo_says hts rfl rfl (hts _ tw_1410) ⟨Nat.le_of_ble_eq_true rfl, Nat.le_of_ble_eq_true rfl⟩) (pv_Mo hI hE hM) rfl rfl hl.1 rfl (lv_room (Nat.le_of_ble_eq_true rfl)) d_Mo_count_10 ⟨Nat.le_of_ble_eq_true rfl, Nat.le_of_ble_eq_true rfl⟩) (fun x_57 H locs f σ_55 hI hM hF_56 p_54 => ?_)
    have hF := mq_fr_tr hF hF_56 (by decide)
    obtain ⟨p_59, o_58, -⟩ := p_54
    have p_59 := p_59.symm
    subst p_59
    refine lv_if_ne (tgt := 18) hx hb d_Mo_count_13 (by decide) (fun c_60 => ?_) (fun c_60 => ?_)
    · refine lv_iconst (v := 0) hx hb d_Mo_count_18 (by decide) ?_
      refine lv_istore_n (lv' := [(2, .int (0)), (0, .ref (ad 71)), (1, .int (nI j_50))]) hx hb d_Mo_count_19 rfl hl (by decide) rfl (fun ls hl => ?_)
      refine lv_iconst (v := 0) hx hb d_Mo_count_20 (by decide) ?_
      refine lv_istore_n (lv' := [(3, .int (0)), (2, .int (0)), (0, .ref (ad 71)), (1, .int (nI j_50))]) hx hb d_Mo_count_21 rfl hl (by decide) rfl (fun ls hl => ?_)
      exact hJ_22 _ (0) _ _ _ _ _ (nI j_50) 0 (Nat.le_refl _) (by omega) hI hM hF (lv_sub hl [2, 3, 1, 0] rfl) 
    · exact absurd c_60 (by decide)
  · refine sm_iM hI (va_runV (As := [.int (0)]) (rest := []) ⟨hx, hb, hml, hown, hts⟩ (c_Mo_says2 l D ca ad L _ _ _ hM 0 (by decide)) (kv_Mo_says hts rfl rfl (hts _ tw_1410) ⟨Nat.le_of_ble_eq_true rfl, Nat.le_of_ble_eq_true rfl⟩) (pv_Mo hI hE hM) rfl rfl hl.1 rfl (lv_room (Nat.le_of_ble_eq_true rfl)) d_Mo_count_10 ⟨Nat.le_of_ble_eq_true rfl, Nat.le_of_ble_eq_true rfl⟩) (fun x_64 H locs f σ_62 hI hM hF_63 p_61 => ?_)
    have hF := mq_fr_tr hF hF_63 (by decide)
    obtain ⟨p_66, o_65, -⟩ := p_61
    have p_66 := p_66.symm
    subst p_66
    refine lv_if_ne (tgt := 18) hx hb d_Mo_count_13 (by decide) (fun c_67 => ?_) (fun c_67 => ?_)
    · exact absurd c_67 (by decide)
    · refine lv_iconst (v := 0) hx hb d_Mo_count_16 (by decide) ?_
      exact sm_iret hx hb hr hlk hI ⟨σ_62, rfl, hM, hF, trivial⟩ d_Mo_count_17
theorem d_Mo_change_0 : decode b_Mo_change 0 = .ok (.iload_n 1, 1) := by decide +kernel
theorem d_Mo_change_1 : decode b_Mo_change 1 = .ok (.i2l, 1) := by decide +kernel
theorem d_Mo_change_2 : decode b_Mo_change 2 = .ok (.lconst 0, 1) := by decide +kernel
theorem d_Mo_change_3 : decode b_Mo_change 3 = .ok (.aload_n 0, 1) := by decide +kernel
theorem d_Mo_change_4 : decode b_Mo_change 4 = .ok (.getfield 182, 3) := by decide +kernel
theorem d_Mo_change_7 : decode b_Mo_change 7 = .ok (.iconst 1, 1) := by decide +kernel
theorem d_Mo_change_8 : decode b_Mo_change 8 = .ok (.isub, 1) := by decide +kernel
theorem d_Mo_change_9 : decode b_Mo_change 9 = .ok (.i2l, 1) := by decide +kernel
theorem d_Mo_change_10 : decode b_Mo_change 10 = .ok (.invokestatic 187, 3) := by decide +kernel
theorem d_Mo_change_13 : decode b_Mo_change 13 = .ok (.ifCond .eq 38, 3) := by decide +kernel
theorem d_Mo_change_16 : decode b_Mo_change 16 = .ok (.aload_n 0, 1) := by decide +kernel
theorem d_Mo_change_17 : decode b_Mo_change 17 = .ok (.getfield 13, 3) := by decide +kernel
theorem d_Mo_change_20 : decode b_Mo_change 20 = .ok (.iload_n 1, 1) := by decide +kernel
theorem d_Mo_change_21 : decode b_Mo_change 21 = .ok (.i2l, 1) := by decide +kernel
theorem d_Mo_change_22 : decode b_Mo_change 22 = .ok (.lconst 0, 1) := by decide +kernel
theorem d_Mo_change_23 : decode b_Mo_change 23 = .ok (.aload_n 0, 1) := by decide +kernel
theorem d_Mo_change_24 : decode b_Mo_change 24 = .ok (.getfield 182, 3) := by decide +kernel
theorem d_Mo_change_27 : decode b_Mo_change 27 = .ok (.iconst 1, 1) := by decide +kernel
theorem d_Mo_change_28 : decode b_Mo_change 28 = .ok (.isub, 1) := by decide +kernel
theorem d_Mo_change_29 : decode b_Mo_change 29 = .ok (.i2l, 1) := by decide +kernel
theorem d_Mo_change_30 : decode b_Mo_change 30 = .ok (.invokestatic 187, 3) := by decide +kernel
theorem d_Mo_change_33 : decode b_Mo_change 33 = .ok (.ifCond .eq 7, 3) := by decide +kernel
theorem d_Mo_change_36 : decode b_Mo_change 36 = .ok (.iload_n 1, 1) := by decide +kernel
theorem d_Mo_change_37 : decode b_Mo_change 37 = .ok (.goto 4, 3) := by decide +kernel
theorem d_Mo_change_40 : decode b_Mo_change 40 = .ok (.iconst 0, 1) := by decide +kernel
theorem d_Mo_change_41 : decode b_Mo_change 41 = .ok (.iaload, 1) := by decide +kernel
theorem d_Mo_change_42 : decode b_Mo_change 42 = .ok (.bipush 7, 2) := by decide +kernel
theorem d_Mo_change_44 : decode b_Mo_change 44 = .ok (.if_icmp .ge 7, 3) := by decide +kernel
theorem d_Mo_change_47 : decode b_Mo_change 47 = .ok (.iconst 1, 1) := by decide +kernel
theorem d_Mo_change_48 : decode b_Mo_change 48 = .ok (.goto 4, 3) := by decide +kernel
theorem d_Mo_change_51 : decode b_Mo_change 51 = .ok (.iconst 0, 1) := by decide +kernel
theorem d_Mo_change_52 : decode b_Mo_change 52 = .ok (.istore 5, 2) := by decide +kernel
theorem d_Mo_change_54 : decode b_Mo_change 54 = .ok (.iload 5, 2) := by decide +kernel
theorem d_Mo_change_56 : decode b_Mo_change 56 = .ok (.ifCond .eq 12, 3) := by decide +kernel
theorem d_Mo_change_59 : decode b_Mo_change 59 = .ok (.aload_n 0, 1) := by decide +kernel
theorem d_Mo_change_60 : decode b_Mo_change 60 = .ok (.getfield 13, 3) := by decide +kernel
theorem d_Mo_change_63 : decode b_Mo_change 63 = .ok (.iload_n 1, 1) := by decide +kernel
theorem d_Mo_change_64 : decode b_Mo_change 64 = .ok (.iaload, 1) := by decide +kernel
theorem d_Mo_change_65 : decode b_Mo_change 65 = .ok (.goto 4, 3) := by decide +kernel
theorem d_Mo_change_68 : decode b_Mo_change 68 = .ok (.iconst 0, 1) := by decide +kernel
theorem d_Mo_change_69 : decode b_Mo_change 69 = .ok (.istore 6, 2) := by decide +kernel
theorem d_Mo_change_71 : decode b_Mo_change 71 = .ok (.iload 6, 2) := by decide +kernel
theorem d_Mo_change_73 : decode b_Mo_change 73 = .ok (.iconst 1, 1) := by decide +kernel
theorem d_Mo_change_74 : decode b_Mo_change 74 = .ok (.if_icmp .le 16, 3) := by decide +kernel
theorem d_Mo_change_77 : decode b_Mo_change 77 = .ok (.iload 6, 2) := by decide +kernel
theorem d_Mo_change_79 : decode b_Mo_change 79 = .ok (.bipush 6, 2) := by decide +kernel
theorem d_Mo_change_81 : decode b_Mo_change 81 = .ok (.if_icmp .ge 9, 3) := by decide +kernel
theorem d_Mo_change_84 : decode b_Mo_change 84 = .ok (.sipush 241, 3) := by decide +kernel
theorem d_Mo_change_87 : decode b_Mo_change 87 = .ok (.goto 6, 3) := by decide +kernel
theorem d_Mo_change_90 : decode b_Mo_change 90 = .ok (.sipush 240, 3) := by decide +kernel
theorem d_Mo_change_93 : decode b_Mo_change 93 = .ok (.istore 7, 2) := by decide +kernel
theorem d_Mo_change_95 : decode b_Mo_change 95 = .ok (.aload_n 0, 1) := by decide +kernel
theorem d_Mo_change_96 : decode b_Mo_change 96 = .ok (.iload 5, 2) := by decide +kernel
theorem d_Mo_change_98 : decode b_Mo_change 98 = .ok (.ifCond .eq 25, 3) := by decide +kernel
theorem d_Mo_change_101 : decode b_Mo_change 101 = .ok (.iload 6, 2) := by decide +kernel
theorem d_Mo_change_103 : decode b_Mo_change 103 = .ok (.iload_n 2, 1) := by decide +kernel
theorem d_Mo_change_104 : decode b_Mo_change 104 = .ok (.invokestatic 204, 3) := by decide +kernel
theorem d_Mo_change_107 : decode b_Mo_change 107 = .ok (.ifCond .eq 16, 3) := by decide +kernel
theorem d_Mo_change_110 : decode b_Mo_change 110 = .ok (.iload_n 3, 1) := by decide +kernel
theorem d_Mo_change_111 : decode b_Mo_change 111 = .ok (.iload 7, 2) := by decide +kernel
theorem d_Mo_change_113 : decode b_Mo_change 113 = .ok (.iconst (-1), 1) := by decide +kernel
theorem d_Mo_change_114 : decode b_Mo_change 114 = .ok (.ixor, 1) := by decide +kernel
theorem d_Mo_change_115 : decode b_Mo_change 115 = .ok (.iand, 1) := by decide +kernel
theorem d_Mo_change_116 : decode b_Mo_change 116 = .ok (.ifCond .ne 7, 3) := by decide +kernel
theorem d_Mo_change_119 : decode b_Mo_change 119 = .ok (.iconst 1, 1) := by decide +kernel
theorem d_Mo_change_120 : decode b_Mo_change 120 = .ok (.goto 4, 3) := by decide +kernel
theorem d_Mo_change_123 : decode b_Mo_change 123 = .ok (.iconst 0, 1) := by decide +kernel
theorem d_Mo_change_124 : decode b_Mo_change 124 = .ok (.invokevirtual 208, 3) := by decide +kernel
theorem d_Mo_change_127 : decode b_Mo_change 127 = .ok (.ifCond .ne 4, 3) := by decide +kernel
theorem d_Mo_change_130 : decode b_Mo_change 130 = .ok (.return_, 1) := by decide +kernel
theorem d_Mo_change_131 : decode b_Mo_change 131 = .ok (.aload_n 0, 1) := by decide +kernel
theorem d_Mo_change_132 : decode b_Mo_change 132 = .ok (.getfield 23, 3) := by decide +kernel
theorem d_Mo_change_135 : decode b_Mo_change 135 = .ok (.iload_n 1, 1) := by decide +kernel
theorem d_Mo_change_136 : decode b_Mo_change 136 = .ok (.iload_n 2, 1) := by decide +kernel
theorem d_Mo_change_137 : decode b_Mo_change 137 = .ok (.iastore, 1) := by decide +kernel
theorem d_Mo_change_138 : decode b_Mo_change 138 = .ok (.aload_n 0, 1) := by decide +kernel
theorem d_Mo_change_139 : decode b_Mo_change 139 = .ok (.getfield 26, 3) := by decide +kernel
theorem d_Mo_change_142 : decode b_Mo_change 142 = .ok (.iload_n 1, 1) := by decide +kernel
theorem d_Mo_change_143 : decode b_Mo_change 143 = .ok (.iload_n 3, 1) := by decide +kernel
theorem d_Mo_change_144 : decode b_Mo_change 144 = .ok (.iastore, 1) := by decide +kernel
theorem d_Mo_change_145 : decode b_Mo_change 145 = .ok (.iload 4, 2) := by decide +kernel
theorem d_Mo_change_147 : decode b_Mo_change 147 = .ok (.ifCond .eq 8, 3) := by decide +kernel
theorem d_Mo_change_150 : decode b_Mo_change 150 = .ok (.aload_n 0, 1) := by decide +kernel
theorem d_Mo_change_151 : decode b_Mo_change 151 = .ok (.iload_n 1, 1) := by decide +kernel
theorem d_Mo_change_152 : decode b_Mo_change 152 = .ok (.invokevirtual 212, 3) := by decide +kernel
theorem d_Mo_change_155 : decode b_Mo_change 155 = .ok (.aload_n 0, 1) := by decide +kernel
theorem d_Mo_change_156 : decode b_Mo_change 156 = .ok (.invokevirtual 216, 3) := by decide +kernel
theorem d_Mo_change_159 : decode b_Mo_change 159 = .ok (.return_, 1) := by decide +kernel
set_option maxRecDepth 100000 in
set_option maxHeartbeats 4000000 in
theorem c_Mo_change (l : Launch) (D : va_G) (ca : Nat → ClassId) (ad : Nat → Nat) (L : List Nat) (f0 : Nat → va_E) (sz : Nat) (σ0 : mq_S) (hM : mq_B ca ad σ0 L f0) (x1 : Int32) (x2 : Int32) (x3 : Int32) (x4 : Int32) (p4 : x4 = 0 ∨ x4 = 1) (u0 : IH σ0) :
    Met l y_Mo_change (Cond.code y_Mo_change b_Mo_change 8 none :: wg) { frames := 7, cells := 0, slots := 0, locals := 166 } (va_Pc [.ref (ad 71), .int (x1), .int (x2), .int (x3), .int (x4)] (sm_P D cl_all (ty_s ca) ek L f0 sz)) (sm_Qv D (ty_s ca) L f0 sz (fun u => mq_po ca ad L σ0 [0, 7, 8, 13, 14, 15, 16, 18, 19, 22, 23, 24, 25, 30, 31, 32, 33, 34, 42, 43, 44, 45, 46, 47, 48, 49, 50, 51, 52, 53, 54, 55, 65, 69, 70] (fun σ => IH σ ∧ True) u)) 0 0 (va_A (va_pl L f0) sz) := by
  refine sm_start (by decide) (Nat.le_of_ble_eq_true rfl) ?_
  intro p e s m below meth c ls hx hb hml hr hlk hnm hts hown hsz hE hI hl
  have hl : lv_has ls 8 [(0, .ref (ad 71)), (1, .int (x1)), (2, .int (x2)), (3, .int (x3)), (4, .int (x4))] := hl
  have hF : mq_fr [0, 7, 8, 13, 14, 15, 16, 18, 19, 22, 23, 24, 25, 30, 31, 32, 33, 34, 42, 43, 44, 45, 46, 47, 48, 49, 50, 51, 52, 53, 54, 55, 65, 69, 70] σ0 σ0 := mq_fr_rf
  refine lv_iload_n hx hb d_Mo_change_0 rfl (lv_at hl 1 rfl) ?_
  refine lv_i2l hx hb d_Mo_change_1 rfl ?_
  refine lv_topl (fun x_1 e_2 => ?_)
  refine lv_lconst (v := 0) hx hb d_Mo_change_2 (by decide) ?_
  refine lv_aload_n hx hb d_Mo_change_3 rfl (lv_at hl 0 rfl) ?_
  obtain ⟨n_3, h_4, h_5, e_6⟩ := hM.2.2.2.2.1 2
  refine mq_get (k := 2) (v := .int (nI n_3)) hx hb hts hown hI hM (by decide) (congrArg (fun z => some (Value.int z)) e_6) rfl (hts _ tw_1171) d_Mo_change_4 ?_
  refine lv_iconst (v := 1) hx hb d_Mo_change_7 (by decide) ?_
  refine lv_isub hx hb d_Mo_change_8 ?_
  refine lv_topi (fun x_7 e_8 => ?_)
  refine lv_i2l hx hb d_Mo_change_9 rfl ?_
  refine lv_topl (fun x_9 e_10 => ?_)
  refine sm_iP hI (va_runS (As := [.long (x_1), .long (0), .long (x_9)]) (rest := []) ⟨hx, hb, hml, hown, hts⟩ (c_Mo_in l D ca L _ _ x_1 0 x_9) (ks_Mo_in hts rfl rfl (hts _ tw_1393) ⟨Nat.le_of_ble_eq_true rfl, Nat.le_of_ble_eq_true rfl⟩) (sm_preS hI hE) rfl rfl hl.1 rfl (lv_room (Nat.le_of_ble_eq_true rfl)) d_Mo_change_10 ⟨Nat.le_of_ble_eq_true rfl, Nat.le_of_ble_eq_true rfl⟩) (fun x_12 H locs p_11 hI => ?_)
  rcases jn_int (lo := 0) (hi := ((n_3 : Nat) : Int) - 1) p_11 e_2 (by decide) (by rw [e_10, Int32.toInt_toInt64, e_8]; exact nI_p1 (by omega)) (by omega) with ⟨rfl, j_14, h_15, h_16, e_17⟩ | ⟨rfl, h_13⟩
  · rw [e_17] at hl
    refine lv_if_eq (tgt := 51) hx hb d_Mo_change_13 (by decide) (fun c_18 => ?_) (fun c_18 => ?_)
    · exact absurd c_18 (by decide)
    · refine lv_aload_n hx hb d_Mo_change_16 rfl (lv_at hl 0 rfl) ?_
      refine mq_get (k := 4) (v := .ref (ad 4)) hx hb hts hown hI hM (by decide) rfl rfl (hts _ tw_1173) d_Mo_change_17 ?_
      refine lv_iload_n hx hb d_Mo_change_20 rfl (lv_at hl 1 rfl) ?_
      refine lv_i2l hx hb d_Mo_change_21 rfl ?_
      refine lv_topl (fun x_19 e_20 => ?_)
      refine lv_lconst (v := 0) hx hb d_Mo_change_22 (by decide) ?_
      refine lv_aload_n hx hb d_Mo_change_23 rfl (lv_at hl 0 rfl) ?_
      refine mq_get (k := 2) (v := .int (nI n_3)) hx hb hts hown hI hM (by decide) (congrArg (fun z => some (Value.int z)) e_6) rfl (hts _ tw_1171) d_Mo_change_24 ?_
      refine lv_iconst (v := 1) hx hb d_Mo_change_27 (by decide) ?_
      refine lv_isub hx hb d_Mo_change_28 ?_
      refine lv_topi (fun x_21 e_22 => ?_)
      refine lv_i2l hx hb d_Mo_change_29 rfl ?_
      refine lv_topl (fun x_23 e_24 => ?_)
      refine sm_iP hI (va_runS (As := [.long (x_19), .long (0), .long (x_23)]) (rest := [.ref (ad 4)]) ⟨hx, hb, hml, hown, hts⟩ (c_Mo_in l D ca L _ _ x_19 0 x_23) (ks_Mo_in hts rfl rfl (hts _ tw_1393) ⟨Nat.le_of_ble_eq_true rfl, Nat.le_of_ble_eq_true rfl⟩) (sm_preS hI hE) rfl rfl hl.1 rfl (lv_room (Nat.le_of_ble_eq_true rfl)) d_Mo_change_30 ⟨Nat.le_of_ble_eq_true rfl, Nat.le_of_ble_eq_true rfl⟩) (fun x_26 H locs p_25 hI => ?_)
      rcases jn_nat (n := j_14) (lo := 0) (hi := ((n_3 : Nat) : Int) - 1) p_25 e_20 (by decide) (by rw [e_24, Int32.toInt_toInt64, e_22]; exact nI_p1 (by omega)) (by omega) with ⟨rfl, h_27⟩ | ⟨rfl, h_27⟩
      · refine lv_if_eq (tgt := 40) hx hb d_Mo_change_33 (by decide) (fun c_32 => ?_) (fun c_32 => ?_)
        · exact absurd c_32 (by decide)
        · refine lv_iload_n hx hb d_Mo_change_36 rfl (lv_at hl 1 rfl) ?_
          refine lv_goto (tgt := 41) hx hb d_Mo_change_37 (by decide) ?_
          obtain ⟨x_33, e_34⟩ : ∃ z, σ0.2.2.1 4 (j_14) = z := ⟨_, rfl⟩
          refine mq_iald (k := 4) (j := j_14) (v := x_33) hx hb hI hM (by decide) rfl (by show j_14 < 32; omega) (by decide) e_34 d_Mo_change_41 ?_
          refine lv_bipush (v := 7) hx hb d_Mo_change_42 (by decide) ?_
          refine lv_icmp_ge (tgt := 51) hx hb d_Mo_change_44 (by decide) (fun c_35 => ?_) (fun c_35 => ?_)
          · refine lv_iconst (v := 0) hx hb d_Mo_change_51 (by decide) ?_
            refine lv_istore (lv' := [(5, .int (0)), (0, .ref (ad 71)), (1, .int (nI j_14)), (2, .int (x2)), (3, .int (x3)), (4, .int (x4))]) hx hb d_Mo_change_52 hl (by decide) rfl (fun ls hl => ?_)
            refine lv_iload hx hb d_Mo_change_54 (lv_at hl 0 rfl) ?_
            refine lv_if_eq (tgt := 68) hx hb d_Mo_change_56 (by decide) (fun c_36 => ?_) (fun c_36 => ?_)
            · refine lv_iconst (v := 0) hx hb d_Mo_change_68 (by decide) ?_
              refine lv_istore (lv' := [(6, .int (0)), (5, .int (0)), (0, .ref (ad 71)), (1, .int (nI j_14)), (2, .int (x2)), (3, .int (x3)), (4, .int (x4))]) hx hb d_Mo_change_69 hl (by decide) rfl (fun ls hl => ?_)
              refine lv_iload hx hb d_Mo_change_71 (lv_at hl 0 rfl) ?_
              refine lv_iconst (v := 1) hx hb d_Mo_change_73 (by decide) ?_
              refine lv_icmp_le (tgt := 90) hx hb d_Mo_change_74 (by decide) (fun c_37 => ?_) (fun c_37 => ?_)
              · refine lv_sipush (v := 240) hx hb d_Mo_change_90 (by decide) ?_
                refine lv_istore (lv' := [(7, .int (240)), (6, .int (0)), (5, .int (0)), (0, .ref (ad 71)), (1, .int (nI j_14)), (2, .int (x2)), (3, .int (x3)), (4, .int (x4))]) hx hb d_Mo_change_93 hl (by decide) rfl (fun ls hl => ?_)
                refine lv_aload_n hx hb d_Mo_change_95 rfl (lv_at hl 3 rfl) ?_
                refine lv_iload hx hb d_Mo_change_96 (lv_at hl 2 rfl) ?_
                refine lv_if_eq (tgt := 123) hx hb d_Mo_change_98 (by decide) (fun c_38 => ?_) (fun c_38 => ?_)
                · refine lv_iconst (v := 0) hx hb d_Mo_change_123 (by decide) ?_
                  refine sm_iM hI (va_runV (As := [.int (0)]) (rest := []) ⟨hx, hb, hml, hown, hts⟩ (c_Mo_says2 l D ca ad L _ _ _ hM 0 (by decide)) (kv_Mo_says hts rfl rfl (hts _ tw_1410) ⟨Nat.le_of_ble_eq_true rfl, Nat.le_of_ble_eq_true rfl⟩) (pv_Mo hI hE hM) rfl rfl hl.1 rfl (lv_room (Nat.le_of_ble_eq_true rfl)) d_Mo_change_124 ⟨Nat.le_of_ble_eq_true rfl, Nat.le_of_ble_eq_true rfl⟩) (fun x_42 H locs f σ_40 hI hM hF_41 p_39 => ?_)
                  have hF := mq_fr_tr hF hF_41 (by decide)
                  have o_43 : σ_40.1 2 = nI n_3 := mq_fi hF_41 (by decide) e_6
                  have u_44 := IH_fr hF_41 (by decide) u0
                  obtain ⟨p_46, o_45, -⟩ := p_39
                  have p_46 := p_46.symm
                  subst p_46
                  refine lv_if_ne (tgt := 131) hx hb d_Mo_change_127 (by decide) (fun c_47 => ?_) (fun c_47 => ?_)
                  · exact absurd c_47 (by decide)
                  · exact sm_vret hx hb hr hlk hI ⟨σ_40, rfl, hM, hF, ⟨u_44, trivial⟩⟩ d_Mo_change_130
                · exact absurd c_38 (by decide)
              · exact absurd c_37 (by decide)
            · exact absurd c_36 (by decide)
          · refine lv_iconst (v := 1) hx hb d_Mo_change_47 (by decide) ?_
            refine lv_goto (tgt := 52) hx hb d_Mo_change_48 (by decide) ?_
            refine lv_istore (lv' := [(5, .int (1)), (0, .ref (ad 71)), (1, .int (nI j_14)), (2, .int (x2)), (3, .int (x3)), (4, .int (x4))]) hx hb d_Mo_change_52 hl (by decide) rfl (fun ls hl => ?_)
            refine lv_iload hx hb d_Mo_change_54 (lv_at hl 0 rfl) ?_
            refine lv_if_eq (tgt := 68) hx hb d_Mo_change_56 (by decide) (fun c_48 => ?_) (fun c_48 => ?_)
            · exact absurd c_48 (by decide)
            · refine lv_aload_n hx hb d_Mo_change_59 rfl (lv_at hl 1 rfl) ?_
              refine mq_get (k := 4) (v := .ref (ad 4)) hx hb hts hown hI hM (by decide) rfl rfl (hts _ tw_1173) d_Mo_change_60 ?_
              refine lv_iload_n hx hb d_Mo_change_63 rfl (lv_at hl 2 rfl) ?_
              obtain ⟨x_49, e_50⟩ : ∃ z, σ0.2.2.1 4 (j_14) = z := ⟨_, rfl⟩
              refine mq_iald (k := 4) (j := j_14) (v := x_49) hx hb hI hM (by decide) rfl (by show j_14 < 32; omega) (by decide) e_50 d_Mo_change_64 ?_
              refine lv_goto (tgt := 69) hx hb d_Mo_change_65 (by decide) ?_
              refine lv_istore (lv' := [(6, .int (x_49)), (5, .int (1)), (0, .ref (ad 71)), (1, .int (nI j_14)), (2, .int (x2)), (3, .int (x3)), (4, .int (x4))]) hx hb d_Mo_change_69 hl (by decide) rfl (fun ls hl => ?_)
              refine lv_iload hx hb d_Mo_change_71 (lv_at hl 0 rfl) ?_
              refine lv_iconst (v := 1) hx hb d_Mo_change_73 (by decide) ?_
              refine lv_icmp_le (tgt := 90) hx hb d_Mo_change_74 (by decide) (fun c_51 => ?_) (fun c_51 => ?_)
              · refine lv_sipush (v := 240) hx hb d_Mo_change_90 (by decide) ?_
                refine lv_istore (lv' := [(7, .int (240)), (6, .int (x_49)), (5, .int (1)), (0, .ref (ad 71)), (1, .int (nI j_14)), (2, .int (x2)), (3, .int (x3)), (4, .int (x4))]) hx hb d_Mo_change_93 hl (by decide) rfl (fun ls hl => ?_)
                refine lv_aload_n hx hb d_Mo_change_95 rfl (lv_at hl 3 rfl) ?_
                refine lv_iload hx hb d_Mo_change_96 (lv_at hl 2 rfl) ?_
                refine lv_if_eq (tgt := 123) hx hb d_Mo_change_98 (by decide) (fun c_52 => ?_) (fun c_52 => ?_)
                · exact absurd c_52 (by decide)
                · refine lv_iload hx hb d_Mo_change_101 (lv_at hl 1 rfl) ?_
                  refine lv_iload_n hx hb d_Mo_change_103 rfl (lv_at hl 5 rfl) ?_
                  refine sm_iP hI (va_runS (As := [.int (x_49), .int (x2)]) (rest := [.ref (ad 71)]) ⟨hx, hb, hml, hown, hts⟩ (c_Mo_isValue l D ca L _ _ x_49 x2) (ks_Mo_isValue hts rfl rfl (hts _ tw_1402) ⟨Nat.le_of_ble_eq_true rfl, Nat.le_of_ble_eq_true rfl⟩) (sm_preS hI hE) rfl rfl hl.1 rfl (lv_room (Nat.le_of_ble_eq_true rfl)) d_Mo_change_104 ⟨Nat.le_of_ble_eq_true rfl, Nat.le_of_ble_eq_true rfl⟩) (fun x_54 H locs p_53 hI => ?_)
                  refine lv_if_eq (tgt := 123) hx hb d_Mo_change_107 (by decide) (fun c_55 => ?_) (fun c_55 => ?_)
                  · refine lv_iconst (v := 0) hx hb d_Mo_change_123 (by decide) ?_
                    refine sm_iM hI (va_runV (As := [.int (0)]) (rest := []) ⟨hx, hb, hml, hown, hts⟩ (c_Mo_says2 l D ca ad L _ _ _ hM 0 (by decide)) (kv_Mo_says hts rfl rfl (hts _ tw_1410) ⟨Nat.le_of_ble_eq_true rfl, Nat.le_of_ble_eq_true rfl⟩) (pv_Mo hI hE hM) rfl rfl hl.1 rfl (lv_room (Nat.le_of_ble_eq_true rfl)) d_Mo_change_124 ⟨Nat.le_of_ble_eq_true rfl, Nat.le_of_ble_eq_true rfl⟩) (fun x_59 H locs f σ_57 hI hM hF_58 p_56 => ?_)
                    have hF := mq_fr_tr hF hF_58 (by decide)
                    have o_60 : σ_57.1 2 = nI n_3 := mq_fi hF_58 (by decide) e_6
                    have u_61 := IH_fr hF_58 (by decide) u0
                    obtain ⟨p_63, o_62, -⟩ := p_56
                    have p_63 := p_63.symm
                    subst p_63
                    refine lv_if_ne (tgt := 131) hx hb d_Mo_change_127 (by decide) (fun c_64 => ?_) (fun c_64 => ?_)
                    · exact absurd c_64 (by decide)
                    · exact sm_vret hx hb hr hlk hI ⟨σ_57, rfl, hM, hF, ⟨u_61, trivial⟩⟩ d_Mo_change_130
                  · refine lv_iload_n hx hb d_Mo_change_110 rfl (lv_at hl 6 rfl) ?_
                    refine lv_iload hx hb d_Mo_change_111 (lv_at hl 0 rfl) ?_
                    refine lv_iconst (v := -1) hx hb d_Mo_change_113 (by decide) ?_
                    refine lv_ixor hx hb d_Mo_change_114 ?_
                    refine lv_topi (fun x_65 e_66 => ?_)
                    refine lv_iand hx hb d_Mo_change_115 ?_
                    refine lv_topi (fun x_67 e_68 => ?_)
                    refine lv_if_ne (tgt := 123) hx hb d_Mo_change_116 (by decide) (fun c_69 => ?_) (fun c_69 => ?_)
                    · refine lv_iconst (v := 0) hx hb d_Mo_change_123 (by decide) ?_
                      refine sm_iM hI (va_runV (As := [.int (0)]) (rest := []) ⟨hx, hb, hml, hown, hts⟩ (c_Mo_says2 l D ca ad L _ _ _ hM 0 (by decide)) (kv_Mo_says hts rfl rfl (hts _ tw_1410) ⟨Nat.le_of_ble_eq_true rfl, Nat.le_of_ble_eq_true rfl⟩) (pv_Mo hI hE hM) rfl rfl hl.1 rfl (lv_room (Nat.le_of_ble_eq_true rfl)) d_Mo_change_124 ⟨Nat.le_of_ble_eq_true rfl, Nat.le_of_ble_eq_true rfl⟩) (fun x_73 H locs f σ_71 hI hM hF_72 p_70 => ?_)
                      have hF := mq_fr_tr hF hF_72 (by decide)
                      have o_74 : σ_71.1 2 = nI n_3 := mq_fi hF_72 (by decide) e_6
                      have u_75 := IH_fr hF_72 (by decide) u0
                      obtain ⟨p_77, o_76, -⟩ := p_70
                      have p_77 := p_77.symm
                      subst p_77
                      refine lv_if_ne (tgt := 131) hx hb d_Mo_change_127 (by decide) (fun c_78 => ?_) (fun c_78 => ?_)
                      · exact absurd c_78 (by decide)
                      · exact sm_vret hx hb hr hlk hI ⟨σ_71, rfl, hM, hF, ⟨u_75, trivial⟩⟩ d_Mo_change_130
                    · refine lv_iconst (v := 1) hx hb d_Mo_change_119 (by decide) ?_
                      refine lv_goto (tgt := 124) hx hb d_Mo_change_120 (by decide) ?_
                      refine sm_iM hI (va_runV (As := [.int (1)]) (rest := []) ⟨hx, hb, hml, hown, hts⟩ (c_Mo_says2 l D ca ad L _ _ _ hM 1 (by decide)) (kv_Mo_says hts rfl rfl (hts _ tw_1410) ⟨Nat.le_of_ble_eq_true rfl, Nat.le_of_ble_eq_true rfl⟩) (pv_Mo hI hE hM) rfl rfl hl.1 rfl (lv_room (Nat.le_of_ble_eq_true rfl)) d_Mo_change_124 ⟨Nat.le_of_ble_eq_true rfl, Nat.le_of_ble_eq_true rfl⟩) (fun x_82 H locs f σ_80 hI hM hF_81 p_79 => ?_)
                      have hF := mq_fr_tr hF hF_81 (by decide)
                      have o_83 : σ_80.1 2 = nI n_3 := mq_fi hF_81 (by decide) e_6
                      have u_84 := IH_fr hF_81 (by decide) u0
                      obtain ⟨p_86, o_85, -⟩ := p_79
                      have p_86 := p_86.symm
                      subst p_86
                      refine lv_if_ne (tgt := 131) hx hb d_Mo_change_127 (by decide) (fun c_87 => ?_) (fun c_87 => ?_)
                      · refine lv_aload_n hx hb d_Mo_change_131 rfl (lv_at hl 3 rfl) ?_
                        refine mq_get (k := 7) (v := .ref (ad 7)) hx hb hts hown hI hM (by decide) rfl rfl (hts _ tw_1176) d_Mo_change_132 ?_
                        refine lv_iload_n hx hb d_Mo_change_135 rfl (lv_at hl 4 rfl) ?_
                        refine lv_iload_n hx hb d_Mo_change_136 rfl (lv_at hl 5 rfl) ?_
                        refine mq_iast (k := 7) (j := j_14) (x := x2) hx hb hI hM (by decide) rfl (by show j_14 < 32; omega) (by decide) trivial d_Mo_change_137 (fun H locs f σ_88 e_89 hI hM => ?_)
                        have hF := mq_fr_ug hF e_89 rfl (Or.inl rfl)
                        have o_90 : σ_88.1 2 = nI n_3 := by rw [e_89]; exact o_83
                        have o_91 : σ_88.1 0 = if 1 = 0 then 1 else 0 := by rw [e_89]; exact o_85
                        have u_92 := IH_fr (mq_fr_ug (X := [7]) mq_fr_rf e_89 rfl (Or.inl rfl)) (by decide) u_84
                        refine lv_aload_n hx hb d_Mo_change_138 rfl (lv_at hl 3 rfl) ?_
                        refine mq_get (k := 8) (v := .ref (ad 8)) hx hb hts hown hI hM (by decide) rfl rfl (hts _ tw_1177) d_Mo_change_139 ?_
                        refine lv_iload_n hx hb d_Mo_change_142 rfl (lv_at hl 4 rfl) ?_
                        refine lv_iload_n hx hb d_Mo_change_143 rfl (lv_at hl 6 rfl) ?_
                        refine mq_iast (k := 8) (j := j_14) (x := x3) hx hb hI hM (by decide) rfl (by show j_14 < 32; omega) (by decide) trivial d_Mo_change_144 (fun H locs f σ_93 e_94 hI hM => ?_)
                        have hF := mq_fr_ug hF e_94 rfl (Or.inl rfl)
                        have o_95 : σ_93.1 2 = nI n_3 := by rw [e_94]; exact o_90
                        have o_96 : σ_93.1 0 = if 1 = 0 then 1 else 0 := by rw [e_94]; exact o_91
                        have u_97 := IH_fr (mq_fr_ug (X := [8]) mq_fr_rf e_94 rfl (Or.inl rfl)) (by decide) u_92
                        refine lv_iload hx hb d_Mo_change_145 (lv_at hl 7 rfl) ?_
                        refine lv_if_eq (tgt := 155) hx hb d_Mo_change_147 (by decide) (fun c_98 => ?_) (fun c_98 => ?_)
                        · refine lv_aload_n hx hb d_Mo_change_155 rfl (lv_at hl 3 rfl) ?_
                          refine sm_vM hI (va_runV (As := []) (rest := []) ⟨hx, hb, hml, hown, hts⟩ (c_Mo_sendAll l D ca ad L _ _ _ hM u_97) (kv_Mo_sendAll hts rfl rfl (hts _ tw_1422) ⟨Nat.le_of_ble_eq_true rfl, Nat.le_of_ble_eq_true rfl⟩) (pv_Mo hI hE hM) rfl rfl hl.1 rfl (lv_room (Nat.le_of_ble_eq_true rfl)) d_Mo_change_156 ⟨Nat.le_of_ble_eq_true rfl, Nat.le_of_ble_eq_true rfl⟩) (fun H locs f σ_100 hI hM hF_101 p_99 => ?_)
                          have hF := mq_fr_tr hF hF_101 (by decide)
                          have o_102 : σ_100.1 2 = nI n_3 := mq_fi hF_101 (by decide) o_95
                          have o_103 : σ_100.1 0 = if 1 = 0 then 1 else 0 := mq_fi hF_101 (by decide) o_96
                          obtain ⟨u_104, -⟩ := p_99
                          exact sm_vret hx hb hr hlk hI ⟨σ_100, rfl, hM, hF, ⟨u_104, trivial⟩⟩ d_Mo_change_159
                        · refine lv_aload_n hx hb d_Mo_change_150 rfl (lv_at hl 3 rfl) ?_
                          refine lv_iload_n hx hb d_Mo_change_151 rfl (lv_at hl 4 rfl) ?_
                          refine sm_vM hI (va_runV (As := [.int (nI j_14)]) (rest := []) ⟨hx, hb, hml, hown, hts⟩ (c_Mo_newEvent l D ca ad L _ _ _ hM (j_14) (by omega)) (kv_Mo_newEvent hts rfl rfl (hts _ tw_1414) ⟨Nat.le_of_ble_eq_true rfl, Nat.le_of_ble_eq_true rfl⟩) (pv_Mo hI hE hM) rfl rfl hl.1 rfl (lv_room (Nat.le_of_ble_eq_true rfl)) d_Mo_change_152 ⟨Nat.le_of_ble_eq_true rfl, Nat.le_of_ble_eq_true rfl⟩) (fun H locs f σ_106 hI hM hF_107 p_105 => ?_)
                          have hF := mq_fr_tr hF hF_107 (by decide)
                          have o_108 : σ_106.1 2 = nI n_3 := mq_fi hF_107 (by decide) o_95
                          have o_109 : σ_106.1 0 = if 1 = 0 then 1 else 0 := mq_fi hF_107 (by decide) o_96
                          have u_110 := IH_fr hF_107 (by decide) u_97
                          refine lv_aload_n hx hb d_Mo_change_155 rfl (lv_at hl 3 rfl) ?_
                          refine sm_vM hI (va_runV (As := []) (rest := []) ⟨hx, hb, hml, hown, hts⟩ (c_Mo_sendAll l D ca ad L _ _ _ hM u_110) (kv_Mo_sendAll hts rfl rfl (hts _ tw_1422) ⟨Nat.le_of_ble_eq_true rfl, Nat.le_of_ble_eq_true rfl⟩) (pv_Mo hI hE hM) rfl rfl hl.1 rfl (lv_room (Nat.le_of_ble_eq_true rfl)) d_Mo_change_156 ⟨Nat.le_of_ble_eq_true rfl, Nat.le_of_ble_eq_true rfl⟩) (fun H locs f σ_112 hI hM hF_113 p_111 => ?_)
                          have hF := mq_fr_tr hF hF_113 (by decide)
                          have o_114 : σ_112.1 2 = nI n_3 := mq_fi hF_113 (by decide) o_108
                          have o_115 : σ_112.1 0 = if 1 = 0 then 1 else 0 := mq_fi hF_113 (by decide) o_109
                          obtain ⟨u_116, -⟩ := p_111
                          exact sm_vret hx hb hr hlk hI ⟨σ_112, rfl, hM, hF, ⟨u_116, trivial⟩⟩ d_Mo_change_159
                      · exact absurd c_87 (by decide)
              · refine lv_iload hx hb d_Mo_change_77 (lv_at hl 0 rfl) ?_
                refine lv_bipush (v := 6) hx hb d_Mo_change_79 (by decide) ?_
                refine lv_icmp_ge (tgt := 90) hx hb d_Mo_change_81 (by decide) (fun c_117 => ?_) (fun c_117 => ?_)
                · refine lv_sipush (v := 240) hx hb d_Mo_change_90 (by decide) ?_
                  refine lv_istore (lv' := [(7, .int (240)), (6, .int (x_49)), (5, .int (1)), (0, .ref (ad 71)), (1, .int (nI j_14)), (2, .int (x2)), (3, .int (x3)), (4, .int (x4))]) hx hb d_Mo_change_93 hl (by decide) rfl (fun ls hl => ?_)
                  refine lv_aload_n hx hb d_Mo_change_95 rfl (lv_at hl 3 rfl) ?_
                  refine lv_iload hx hb d_Mo_change_96 (lv_at hl 2 rfl) ?_
                  refine lv_if_eq (tgt := 123) hx hb d_Mo_change_98 (by decide) (fun c_118 => ?_) (fun c_118 => ?_)
                  · exact absurd c_118 (by decide)
                  · refine lv_iload hx hb d_Mo_change_101 (lv_at hl 1 rfl) ?_
                    refine lv_iload_n hx hb d_Mo_change_103 rfl (lv_at hl 5 rfl) ?_
                    refine sm_iP hI (va_runS (As := [.int (x_49), .int (x2)]) (rest := [.ref (ad 71)]) ⟨hx, hb, hml, hown, hts⟩ (c_Mo_isValue l D ca L _ _ x_49 x2) (ks_Mo_isValue hts rfl rfl (hts _ tw_1402) ⟨Nat.le_of_ble_eq_true rfl, Nat.le_of_ble_eq_true rfl⟩) (sm_preS hI hE) rfl rfl hl.1 rfl (lv_room (Nat.le_of_ble_eq_true rfl)) d_Mo_change_104 ⟨Nat.le_of_ble_eq_true rfl, Nat.le_of_ble_eq_true rfl⟩) (fun x_120 H locs p_119 hI => ?_)
                    refine lv_if_eq (tgt := 123) hx hb d_Mo_change_107 (by decide) (fun c_121 => ?_) (fun c_121 => ?_)
                    · refine lv_iconst (v := 0) hx hb d_Mo_change_123 (by decide) ?_
                      refine sm_iM hI (va_runV (As := [.int (0)]) (rest := []) ⟨hx, hb, hml, hown, hts⟩ (c_Mo_says2 l D ca ad L _ _ _ hM 0 (by decide)) (kv_Mo_says hts rfl rfl (hts _ tw_1410) ⟨Nat.le_of_ble_eq_true rfl, Nat.le_of_ble_eq_true rfl⟩) (pv_Mo hI hE hM) rfl rfl hl.1 rfl (lv_room (Nat.le_of_ble_eq_true rfl)) d_Mo_change_124 ⟨Nat.le_of_ble_eq_true rfl, Nat.le_of_ble_eq_true rfl⟩) (fun x_125 H locs f σ_123 hI hM hF_124 p_122 => ?_)
                      have hF := mq_fr_tr hF hF_124 (by decide)
                      have o_126 : σ_123.1 2 = nI n_3 := mq_fi hF_124 (by decide) e_6
                      have u_127 := IH_fr hF_124 (by decide) u0
                      obtain ⟨p_129, o_128, -⟩ := p_122
                      have p_129 := p_129.symm
                      subst p_129
                      refine lv_if_ne (tgt := 131) hx hb d_Mo_change_127 (by decide) (fun c_130 => ?_) (fun c_130 => ?_)
                      · exact absurd c_130 (by decide)
                      · exact sm_vret hx hb hr hlk hI ⟨σ_123, rfl, hM, hF, ⟨u_127, trivial⟩⟩ d_Mo_change_130
                    · refine lv_iload_n hx hb d_Mo_change_110 rfl (lv_at hl 6 rfl) ?_
                      refine lv_iload hx hb d_Mo_change_111 (lv_at hl 0 rfl) ?_
                      refine lv_iconst (v := -1) hx hb d_Mo_change_113 (by decide) ?_
                      refine lv_ixor hx hb d_Mo_change_114 ?_
                      refine lv_topi (fun x_131 e_132 => ?_)
                      refine lv_iand hx hb d_Mo_change_115 ?_
                      refine lv_topi (fun x_133 e_134 => ?_)
                      refine lv_if_ne (tgt := 123) hx hb d_Mo_change_116 (by decide) (fun c_135 => ?_) (fun c_135 => ?_)
                      · refine lv_iconst (v := 0) hx hb d_Mo_change_123 (by decide) ?_
                        refine sm_iM hI (va_runV (As := [.int (0)]) (rest := []) ⟨hx, hb, hml, hown, hts⟩ (c_Mo_says2 l D ca ad L _ _ _ hM 0 (by decide)) (kv_Mo_says hts rfl rfl (hts _ tw_1410) ⟨Nat.le_of_ble_eq_true rfl, Nat.le_of_ble_eq_true rfl⟩) (pv_Mo hI hE hM) rfl rfl hl.1 rfl (lv_room (Nat.le_of_ble_eq_true rfl)) d_Mo_change_124 ⟨Nat.le_of_ble_eq_true rfl, Nat.le_of_ble_eq_true rfl⟩) (fun x_139 H locs f σ_137 hI hM hF_138 p_136 => ?_)
                        have hF := mq_fr_tr hF hF_138 (by decide)
                        have o_140 : σ_137.1 2 = nI n_3 := mq_fi hF_138 (by decide) e_6
                        have u_141 := IH_fr hF_138 (by decide) u0
                        obtain ⟨p_143, o_142, -⟩ := p_136
                        have p_143 := p_143.symm
                        subst p_143
                        refine lv_if_ne (tgt := 131) hx hb d_Mo_change_127 (by decide) (fun c_144 => ?_) (fun c_144 => ?_)
                        · exact absurd c_144 (by decide)
                        · exact sm_vret hx hb hr hlk hI ⟨σ_137, rfl, hM, hF, ⟨u_141, trivial⟩⟩ d_Mo_change_130
                      · refine lv_iconst (v := 1) hx hb d_Mo_change_119 (by decide) ?_
                        refine lv_goto (tgt := 124) hx hb d_Mo_change_120 (by decide) ?_
                        refine sm_iM hI (va_runV (As := [.int (1)]) (rest := []) ⟨hx, hb, hml, hown, hts⟩ (c_Mo_says2 l D ca ad L _ _ _ hM 1 (by decide)) (kv_Mo_says hts rfl rfl (hts _ tw_1410) ⟨Nat.le_of_ble_eq_true rfl, Nat.le_of_ble_eq_true rfl⟩) (pv_Mo hI hE hM) rfl rfl hl.1 rfl (lv_room (Nat.le_of_ble_eq_true rfl)) d_Mo_change_124 ⟨Nat.le_of_ble_eq_true rfl, Nat.le_of_ble_eq_true rfl⟩) (fun x_148 H locs f σ_146 hI hM hF_147 p_145 => ?_)
                        have hF := mq_fr_tr hF hF_147 (by decide)
                        have o_149 : σ_146.1 2 = nI n_3 := mq_fi hF_147 (by decide) e_6
                        have u_150 := IH_fr hF_147 (by decide) u0
                        obtain ⟨p_152, o_151, -⟩ := p_145
                        have p_152 := p_152.symm
                        subst p_152
                        refine lv_if_ne (tgt := 131) hx hb d_Mo_change_127 (by decide) (fun c_153 => ?_) (fun c_153 => ?_)
                        · refine lv_aload_n hx hb d_Mo_change_131 rfl (lv_at hl 3 rfl) ?_
                          refine mq_get (k := 7) (v := .ref (ad 7)) hx hb hts hown hI hM (by decide) rfl rfl (hts _ tw_1176) d_Mo_change_132 ?_
                          refine lv_iload_n hx hb d_Mo_change_135 rfl (lv_at hl 4 rfl) ?_
                          refine lv_iload_n hx hb d_Mo_change_136 rfl (lv_at hl 5 rfl) ?_
                          refine mq_iast (k := 7) (j := j_14) (x := x2) hx hb hI hM (by decide) rfl (by show j_14 < 32; omega) (by decide) trivial d_Mo_change_137 (fun H locs f σ_154 e_155 hI hM => ?_)
                          have hF := mq_fr_ug hF e_155 rfl (Or.inl rfl)
                          have o_156 : σ_154.1 2 = nI n_3 := by rw [e_155]; exact o_149
                          have o_157 : σ_154.1 0 = if 1 = 0 then 1 else 0 := by rw [e_155]; exact o_151
                          have u_158 := IH_fr (mq_fr_ug (X := [7]) mq_fr_rf e_155 rfl (Or.inl rfl)) (by decide) u_150
                          refine lv_aload_n hx hb d_Mo_change_138 rfl (lv_at hl 3 rfl) ?_
                          refine mq_get (k := 8) (v := .ref (ad 8)) hx hb hts hown hI hM (by decide) rfl rfl (hts _ tw_1177) d_Mo_change_139 ?_
                          refine lv_iload_n hx hb d_Mo_change_142 rfl (lv_at hl 4 rfl) ?_
                          refine lv_iload_n hx hb d_Mo_change_143 rfl (lv_at hl 6 rfl) ?_
                          refine mq_iast (k := 8) (j := j_14) (x := x3) hx hb hI hM (by decide) rfl (by show j_14 < 32; omega) (by decide) trivial d_Mo_change_144 (fun H locs f σ_159 e_160 hI hM => ?_)
                          have hF := mq_fr_ug hF e_160 rfl (Or.inl rfl)
                          have o_161 : σ_159.1 2 = nI n_3 := by rw [e_160]; exact o_156
                          have o_162 : σ_159.1 0 = if 1 = 0 then 1 else 0 := by rw [e_160]; exact o_157
                          have u_163 := IH_fr (mq_fr_ug (X := [8]) mq_fr_rf e_160 rfl (Or.inl rfl)) (by decide) u_158
                          refine lv_iload hx hb d_Mo_change_145 (lv_at hl 7 rfl) ?_
                          refine lv_if_eq (tgt := 155) hx hb d_Mo_change_147 (by decide) (fun c_164 => ?_) (fun c_164 => ?_)
                          · refine lv_aload_n hx hb d_Mo_change_155 rfl (lv_at hl 3 rfl) ?_
                            refine sm_vM hI (va_runV (As := []) (rest := []) ⟨hx, hb, hml, hown, hts⟩ (c_Mo_sendAll l D ca ad L _ _ _ hM u_163) (kv_Mo_sendAll hts rfl rfl (hts _ tw_1422) ⟨Nat.le_of_ble_eq_true rfl, Nat.le_of_ble_eq_true rfl⟩) (pv_Mo hI hE hM) rfl rfl hl.1 rfl (lv_room (Nat.le_of_ble_eq_true rfl)) d_Mo_change_156 ⟨Nat.le_of_ble_eq_true rfl, Nat.le_of_ble_eq_true rfl⟩) (fun H locs f σ_166 hI hM hF_167 p_165 => ?_)
                            have hF := mq_fr_tr hF hF_167 (by decide)
                            have o_168 : σ_166.1 2 = nI n_3 := mq_fi hF_167 (by decide) o_161
                            have o_169 : σ_166.1 0 = if 1 = 0 then 1 else 0 := mq_fi hF_167 (by decide) o_162
                            obtain ⟨u_170, -⟩ := p_165
                            exact sm_vret hx hb hr hlk hI ⟨σ_166, rfl, hM, hF, ⟨u_170, trivial⟩⟩ d_Mo_change_159
                          · refine lv_aload_n hx hb d_Mo_change_150 rfl (lv_at hl 3 rfl) ?_
                            refine lv_iload_n hx hb d_Mo_change_151 rfl (lv_at hl 4 rfl) ?_
                            refine sm_vM hI (va_runV (As := [.int (nI j_14)]) (rest := []) ⟨hx, hb, hml, hown, hts⟩ (c_Mo_newEvent l D ca ad L _ _ _ hM (j_14) (by omega)) (kv_Mo_newEvent hts rfl rfl (hts _ tw_1414) ⟨Nat.le_of_ble_eq_true rfl, Nat.le_of_ble_eq_true rfl⟩) (pv_Mo hI hE hM) rfl rfl hl.1 rfl (lv_room (Nat.le_of_ble_eq_true rfl)) d_Mo_change_152 ⟨Nat.le_of_ble_eq_true rfl, Nat.le_of_ble_eq_true rfl⟩) (fun H locs f σ_172 hI hM hF_173 p_171 => ?_)
                            have hF := mq_fr_tr hF hF_173 (by decide)
                            have o_174 : σ_172.1 2 = nI n_3 := mq_fi hF_173 (by decide) o_161
                            have o_175 : σ_172.1 0 = if 1 = 0 then 1 else 0 := mq_fi hF_173 (by decide) o_162
                            have u_176 := IH_fr hF_173 (by decide) u_163
                            refine lv_aload_n hx hb d_Mo_change_155 rfl (lv_at hl 3 rfl) ?_
                            refine sm_vM hI (va_runV (As := []) (rest := []) ⟨hx, hb, hml, hown, hts⟩ (c_Mo_sendAll l D ca ad L _ _ _ hM u_176) (kv_Mo_sendAll hts rfl rfl (hts _ tw_1422) ⟨Nat.le_of_ble_eq_true rfl, Nat.le_of_ble_eq_true rfl⟩) (pv_Mo hI hE hM) rfl rfl hl.1 rfl (lv_room (Nat.le_of_ble_eq_true rfl)) d_Mo_change_156 ⟨Nat.le_of_ble_eq_true rfl, Nat.le_of_ble_eq_true rfl⟩) (fun H locs f σ_178 hI hM hF_179 p_177 => ?_)
                            have hF := mq_fr_tr hF hF_179 (by decide)
                            have o_180 : σ_178.1 2 = nI n_3 := mq_fi hF_179 (by decide) o_174
                            have o_181 : σ_178.1 0 = if 1 = 0 then 1 else 0 := mq_fi hF_179 (by decide) o_175
                            obtain ⟨u_182, -⟩ := p_177
                            exact sm_vret hx hb hr hlk hI ⟨σ_178, rfl, hM, hF, ⟨u_182, trivial⟩⟩ d_Mo_change_159
                        · exact absurd c_153 (by decide)
                · refine lv_sipush (v := 241) hx hb d_Mo_change_84 (by decide) ?_
                  refine lv_goto (tgt := 93) hx hb d_Mo_change_87 (by decide) ?_
                  refine lv_istore (lv' := [(7, .int (241)), (6, .int (x_49)), (5, .int (1)), (0, .ref (ad 71)), (1, .int (nI j_14)), (2, .int (x2)), (3, .int (x3)), (4, .int (x4))]) hx hb d_Mo_change_93 hl (by decide) rfl (fun ls hl => ?_)
                  refine lv_aload_n hx hb d_Mo_change_95 rfl (lv_at hl 3 rfl) ?_
                  refine lv_iload hx hb d_Mo_change_96 (lv_at hl 2 rfl) ?_
                  refine lv_if_eq (tgt := 123) hx hb d_Mo_change_98 (by decide) (fun c_183 => ?_) (fun c_183 => ?_)
                  · exact absurd c_183 (by decide)
                  · refine lv_iload hx hb d_Mo_change_101 (lv_at hl 1 rfl) ?_
                    refine lv_iload_n hx hb d_Mo_change_103 rfl (lv_at hl 5 rfl) ?_
                    refine sm_iP hI (va_runS (As := [.int (x_49), .int (x2)]) (rest := [.ref (ad 71)]) ⟨hx, hb, hml, hown, hts⟩ (c_Mo_isValue l D ca L _ _ x_49 x2) (ks_Mo_isValue hts rfl rfl (hts _ tw_1402) ⟨Nat.le_of_ble_eq_true rfl, Nat.le_of_ble_eq_true rfl⟩) (sm_preS hI hE) rfl rfl hl.1 rfl (lv_room (Nat.le_of_ble_eq_true rfl)) d_Mo_change_104 ⟨Nat.le_of_ble_eq_true rfl, Nat.le_of_ble_eq_true rfl⟩) (fun x_185 H locs p_184 hI => ?_)
                    refine lv_if_eq (tgt := 123) hx hb d_Mo_change_107 (by decide) (fun c_186 => ?_) (fun c_186 => ?_)
                    · refine lv_iconst (v := 0) hx hb d_Mo_change_123 (by decide) ?_
                      refine sm_iM hI (va_runV (As := [.int (0)]) (rest := []) ⟨hx, hb, hml, hown, hts⟩ (c_Mo_says2 l D ca ad L _ _ _ hM 0 (by decide)) (kv_Mo_says hts rfl rfl (hts _ tw_1410) ⟨Nat.le_of_ble_eq_true rfl, Nat.le_of_ble_eq_true rfl⟩) (pv_Mo hI hE hM) rfl rfl hl.1 rfl (lv_room (Nat.le_of_ble_eq_true rfl)) d_Mo_change_124 ⟨Nat.le_of_ble_eq_true rfl, Nat.le_of_ble_eq_true rfl⟩) (fun x_190 H locs f σ_188 hI hM hF_189 p_187 => ?_)
                      have hF := mq_fr_tr hF hF_189 (by decide)
                      have o_191 : σ_188.1 2 = nI n_3 := mq_fi hF_189 (by decide) e_6
                      have u_192 := IH_fr hF_189 (by decide) u0
                      obtain ⟨p_194, o_193, -⟩ := p_187
                      have p_194 := p_194.symm
                      subst p_194
                      refine lv_if_ne (tgt := 131) hx hb d_Mo_change_127 (by decide) (fun c_195 => ?_) (fun c_195 => ?_)
                      · exact absurd c_195 (by decide)
                      · exact sm_vret hx hb hr hlk hI ⟨σ_188, rfl, hM, hF, ⟨u_192, trivial⟩⟩ d_Mo_change_130
                    · refine lv_iload_n hx hb d_Mo_change_110 rfl (lv_at hl 6 rfl) ?_
                      refine lv_iload hx hb d_Mo_change_111 (lv_at hl 0 rfl) ?_
                      refine lv_iconst (v := -1) hx hb d_Mo_change_113 (by decide) ?_
                      refine lv_ixor hx hb d_Mo_change_114 ?_
                      refine lv_topi (fun x_196 e_197 => ?_)
                      refine lv_iand hx hb d_Mo_change_115 ?_
                      refine lv_topi (fun x_198 e_199 => ?_)
                      refine lv_if_ne (tgt := 123) hx hb d_Mo_change_116 (by decide) (fun c_200 => ?_) (fun c_200 => ?_)
                      · refine lv_iconst (v := 0) hx hb d_Mo_change_123 (by decide) ?_
                        refine sm_iM hI (va_runV (As := [.int (0)]) (rest := []) ⟨hx, hb, hml, hown, hts⟩ (c_Mo_says2 l D ca ad L _ _ _ hM 0 (by decide)) (kv_Mo_says hts rfl rfl (hts _ tw_1410) ⟨Nat.le_of_ble_eq_true rfl, Nat.le_of_ble_eq_true rfl⟩) (pv_Mo hI hE hM) rfl rfl hl.1 rfl (lv_room (Nat.le_of_ble_eq_true rfl)) d_Mo_change_124 ⟨Nat.le_of_ble_eq_true rfl, Nat.le_of_ble_eq_true rfl⟩) (fun x_204 H locs f σ_202 hI hM hF_203 p_201 => ?_)
                        have hF := mq_fr_tr hF hF_203 (by decide)
                        have o_205 : σ_202.1 2 = nI n_3 := mq_fi hF_203 (by decide) e_6
                        have u_206 := IH_fr hF_203 (by decide) u0
                        obtain ⟨p_208, o_207, -⟩ := p_201
                        have p_208 := p_208.symm
                        subst p_208
                        refine lv_if_ne (tgt := 131) hx hb d_Mo_change_127 (by decide) (fun c_209 => ?_) (fun c_209 => ?_)
                        · exact absurd c_209 (by decide)
                        · exact sm_vret hx hb hr hlk hI ⟨σ_202, rfl, hM, hF, ⟨u_206, trivial⟩⟩ d_Mo_change_130
                      · refine lv_iconst (v := 1) hx hb d_Mo_change_119 (by decide) ?_
                        refine lv_goto (tgt := 124) hx hb d_Mo_change_120 (by decide) ?_
                        refine sm_iM hI (va_runV (As := [.int (1)]) (rest := []) ⟨hx, hb, hml, hown, hts⟩ (c_Mo_says2 l D ca ad L _ _ _ hM 1 (by decide)) (kv_Mo_says hts rfl rfl (hts _ tw_1410) ⟨Nat.le_of_ble_eq_true rfl, Nat.le_of_ble_eq_true rfl⟩) (pv_Mo hI hE hM) rfl rfl hl.1 rfl (lv_room (Nat.le_of_ble_eq_true rfl)) d_Mo_change_124 ⟨Nat.le_of_ble_eq_true rfl, Nat.le_of_ble_eq_true rfl⟩) (fun x_213 H locs f σ_211 hI hM hF_212 p_210 => ?_)
                        have hF := mq_fr_tr hF hF_212 (by decide)
                        have o_214 : σ_211.1 2 = nI n_3 := mq_fi hF_212 (by decide) e_6
                        have u_215 := IH_fr hF_212 (by decide) u0
                        obtain ⟨p_217, o_216, -⟩ := p_210
                        have p_217 := p_217.symm
                        subst p_217
                        refine lv_if_ne (tgt := 131) hx hb d_Mo_change_127 (by decide) (fun c_218 => ?_) (fun c_218 => ?_)
                        · refine lv_aload_n hx hb d_Mo_change_131 rfl (lv_at hl 3 rfl) ?_
                          refine mq_get (k := 7) (v := .ref (ad 7)) hx hb hts hown hI hM (by decide) rfl rfl (hts _ tw_1176) d_Mo_change_132 ?_
                          refine lv_iload_n hx hb d_Mo_change_135 rfl (lv_at hl 4 rfl) ?_
                          refine lv_iload_n hx hb d_Mo_change_136 rfl (lv_at hl 5 rfl) ?_
                          refine mq_iast (k := 7) (j := j_14) (x := x2) hx hb hI hM (by decide) rfl (by show j_14 < 32; omega) (by decide) trivial d_Mo_change_137 (fun H locs f σ_219 e_220 hI hM => ?_)
                          have hF := mq_fr_ug hF e_220 rfl (Or.inl rfl)
                          have o_221 : σ_219.1 2 = nI n_3 := by rw [e_220]; exact o_214
                          have o_222 : σ_219.1 0 = if 1 = 0 then 1 else 0 := by rw [e_220]; exact o_216
                          have u_223 := IH_fr (mq_fr_ug (X := [7]) mq_fr_rf e_220 rfl (Or.inl rfl)) (by decide) u_215
                          refine lv_aload_n hx hb d_Mo_change_138 rfl (lv_at hl 3 rfl) ?_
                          refine mq_get (k := 8) (v := .ref (ad 8)) hx hb hts hown hI hM (by decide) rfl rfl (hts _ tw_1177) d_Mo_change_139 ?_
                          refine lv_iload_n hx hb d_Mo_change_142 rfl (lv_at hl 4 rfl) ?_
                          refine lv_iload_n hx hb d_Mo_change_143 rfl (lv_at hl 6 rfl) ?_
                          refine mq_iast (k := 8) (j := j_14) (x := x3) hx hb hI hM (by decide) rfl (by show j_14 < 32; omega) (by decide) trivial d_Mo_change_144 (fun H locs f σ_224 e_225 hI hM => ?_)
                          have hF := mq_fr_ug hF e_225 rfl (Or.inl rfl)
                          have o_226 : σ_224.1 2 = nI n_3 := by rw [e_225]; exact o_221
                          have o_227 : σ_224.1 0 = if 1 = 0 then 1 else 0 := by rw [e_225]; exact o_222
                          have u_228 := IH_fr (mq_fr_ug (X := [8]) mq_fr_rf e_225 rfl (Or.inl rfl)) (by decide) u_223
                          refine lv_iload hx hb d_Mo_change_145 (lv_at hl 7 rfl) ?_
                          refine lv_if_eq (tgt := 155) hx hb d_Mo_change_147 (by decide) (fun c_229 => ?_) (fun c_229 => ?_)
                          · refine lv_aload_n hx hb d_Mo_change_155 rfl (lv_at hl 3 rfl) ?_
                            refine sm_vM hI (va_runV (As := []) (rest := []) ⟨hx, hb, hml, hown, hts⟩ (c_Mo_sendAll l D ca ad L _ _ _ hM u_228) (kv_Mo_sendAll hts rfl rfl (hts _ tw_1422) ⟨Nat.le_of_ble_eq_true rfl, Nat.le_of_ble_eq_true rfl⟩) (pv_Mo hI hE hM) rfl rfl hl.1 rfl (lv_room (Nat.le_of_ble_eq_true rfl)) d_Mo_change_156 ⟨Nat.le_of_ble_eq_true rfl, Nat.le_of_ble_eq_true rfl⟩) (fun H locs f σ_231 hI hM hF_232 p_230 => ?_)
                            have hF := mq_fr_tr hF hF_232 (by decide)
                            have o_233 : σ_231.1 2 = nI n_3 := mq_fi hF_232 (by decide) o_226
                            have o_234 : σ_231.1 0 = if 1 = 0 then 1 else 0 := mq_fi hF_232 (by decide) o_227
                            obtain ⟨u_235, -⟩ := p_230
                            exact sm_vret hx hb hr hlk hI ⟨σ_231, rfl, hM, hF, ⟨u_235, trivial⟩⟩ d_Mo_change_159
                          · refine lv_aload_n hx hb d_Mo_change_150 rfl (lv_at hl 3 rfl) ?_
                            refine lv_iload_n hx hb d_Mo_change_151 rfl (lv_at hl 4 rfl) ?_
                            refine sm_vM hI (va_runV (As := [.int (nI j_14)]) (rest := []) ⟨hx, hb, hml, hown, hts⟩ (c_Mo_newEvent l D ca ad L _ _ _ hM (j_14) (by omega)) (kv_Mo_newEvent hts rfl rfl (hts _ tw_1414) ⟨Nat.le_of_ble_eq_true rfl, Nat.le_of_ble_eq_true rfl⟩) (pv_Mo hI hE hM) rfl rfl hl.1 rfl (lv_room (Nat.le_of_ble_eq_true rfl)) d_Mo_change_152 ⟨Nat.le_of_ble_eq_true rfl, Nat.le_of_ble_eq_true rfl⟩) (fun H locs f σ_237 hI hM hF_238 p_236 => ?_)
                            have hF := mq_fr_tr hF hF_238 (by decide)
                            have o_239 : σ_237.1 2 = nI n_3 := mq_fi hF_238 (by decide) o_226
                            have o_240 : σ_237.1 0 = if 1 = 0 then 1 else 0 := mq_fi hF_238 (by decide) o_227
                            have u_241 := IH_fr hF_238 (by decide) u_228
                            refine lv_aload_n hx hb d_Mo_change_155 rfl (lv_at hl 3 rfl) ?_
                            refine sm_vM hI (va_runV (As := []) (rest := []) ⟨hx, hb, hml, hown, hts⟩ (c_Mo_sendAll l D ca ad L _ _ _ hM u_241) (kv_Mo_sendAll hts rfl rfl (hts _ tw_1422) ⟨Nat.le_of_ble_eq_true rfl, Nat.le_of_ble_eq_true rfl⟩) (pv_Mo hI hE hM) rfl rfl hl.1 rfl (lv_room (Nat.le_of_ble_eq_true rfl)) d_Mo_change_156 ⟨Nat.le_of_ble_eq_true rfl, Nat.le_of_ble_eq_true rfl⟩) (fun H locs f σ_243 hI hM hF_244 p_242 => ?_)
                            have hF := mq_fr_tr hF hF_244 (by decide)
                            have o_245 : σ_243.1 2 = nI n_3 := mq_fi hF_244 (by decide) o_239
                            have o_246 : σ_243.1 0 = if 1 = 0 then 1 else 0 := mq_fi hF_244 (by decide) o_240
                            obtain ⟨u_247, -⟩ := p_242
                            exact sm_vret hx hb hr hlk hI ⟨σ_243, rfl, hM, hF, ⟨u_247, trivial⟩⟩ d_Mo_change_159
                        · exact absurd c_218 (by decide)
      · omega
  · refine lv_if_eq (tgt := 51) hx hb d_Mo_change_13 (by decide) (fun c_248 => ?_) (fun c_248 => ?_)
    · refine lv_iconst (v := 0) hx hb d_Mo_change_51 (by decide) ?_
      refine lv_istore (lv' := [(5, .int (0)), (0, .ref (ad 71)), (1, .int (x1)), (2, .int (x2)), (3, .int (x3)), (4, .int (x4))]) hx hb d_Mo_change_52 hl (by decide) rfl (fun ls hl => ?_)
      refine lv_iload hx hb d_Mo_change_54 (lv_at hl 0 rfl) ?_
      refine lv_if_eq (tgt := 68) hx hb d_Mo_change_56 (by decide) (fun c_249 => ?_) (fun c_249 => ?_)
      · refine lv_iconst (v := 0) hx hb d_Mo_change_68 (by decide) ?_
        refine lv_istore (lv' := [(6, .int (0)), (5, .int (0)), (0, .ref (ad 71)), (1, .int (x1)), (2, .int (x2)), (3, .int (x3)), (4, .int (x4))]) hx hb d_Mo_change_69 hl (by decide) rfl (fun ls hl => ?_)
        refine lv_iload hx hb d_Mo_change_71 (lv_at hl 0 rfl) ?_
        refine lv_iconst (v := 1) hx hb d_Mo_change_73 (by decide) ?_
        refine lv_icmp_le (tgt := 90) hx hb d_Mo_change_74 (by decide) (fun c_250 => ?_) (fun c_250 => ?_)
        · refine lv_sipush (v := 240) hx hb d_Mo_change_90 (by decide) ?_
          refine lv_istore (lv' := [(7, .int (240)), (6, .int (0)), (5, .int (0)), (0, .ref (ad 71)), (1, .int (x1)), (2, .int (x2)), (3, .int (x3)), (4, .int (x4))]) hx hb d_Mo_change_93 hl (by decide) rfl (fun ls hl => ?_)
          refine lv_aload_n hx hb d_Mo_change_95 rfl (lv_at hl 3 rfl) ?_
          refine lv_iload hx hb d_Mo_change_96 (lv_at hl 2 rfl) ?_
          refine lv_if_eq (tgt := 123) hx hb d_Mo_change_98 (by decide) (fun c_251 => ?_) (fun c_251 => ?_)
          · refine lv_iconst (v := 0) hx hb d_Mo_change_123 (by decide) ?_
            refine sm_iM hI (va_runV (As := [.int (0)]) (rest := []) ⟨hx, hb, hml, hown, hts⟩ (c_Mo_says2 l D ca ad L _ _ _ hM 0 (by decide)) (kv_Mo_says hts rfl rfl (hts _ tw_1410) ⟨Nat.le_of_ble_eq_true rfl, Nat.le_of_ble_eq_true rfl⟩) (pv_Mo hI hE hM) rfl rfl hl.1 rfl (lv_room (Nat.le_of_ble_eq_true rfl)) d_Mo_change_124 ⟨Nat.le_of_ble_eq_true rfl, Nat.le_of_ble_eq_true rfl⟩) (fun x_255 H locs f σ_253 hI hM hF_254 p_252 => ?_)
            have hF := mq_fr_tr hF hF_254 (by decide)
            have o_256 : σ_253.1 2 = nI n_3 := mq_fi hF_254 (by decide) e_6
            have u_257 := IH_fr hF_254 (by decide) u0
            obtain ⟨p_259, o_258, -⟩ := p_252
            have p_259 := p_259.symm
            subst p_259
            refine lv_if_ne (tgt := 131) hx hb d_Mo_change_127 (by decide) (fun c_260 => ?_) (fun c_260 => ?_)
            · exact absurd c_260 (by decide)
            · exact sm_vret hx hb hr hlk hI ⟨σ_253, rfl, hM, hF, ⟨u_257, trivial⟩⟩ d_Mo_change_130
          · exact absurd c_251 (by decide)
        · exact absurd c_250 (by decide)
      · exact absurd c_249 (by decide)
    · exact absurd c_248 (by decide)
theorem d_Mo_done_0 : decode b_Mo_done 0 = .ok (.aload_n 0, 1) := by decide +kernel
theorem d_Mo_done_1 : decode b_Mo_done 1 = .ok (.iload_n 1, 1) := by decide +kernel
theorem d_Mo_done_2 : decode b_Mo_done 2 = .ok (.i2l, 1) := by decide +kernel
theorem d_Mo_done_3 : decode b_Mo_done 3 = .ok (.lconst 0, 1) := by decide +kernel
theorem d_Mo_done_4 : decode b_Mo_done 4 = .ok (.aload_n 0, 1) := by decide +kernel
theorem d_Mo_done_5 : decode b_Mo_done 5 = .ok (.getfield 485, 3) := by decide +kernel
theorem d_Mo_done_8 : decode b_Mo_done 8 = .ok (.iconst 1, 1) := by decide +kernel
theorem d_Mo_done_9 : decode b_Mo_done 9 = .ok (.isub, 1) := by decide +kernel
theorem d_Mo_done_10 : decode b_Mo_done 10 = .ok (.i2l, 1) := by decide +kernel
theorem d_Mo_done_11 : decode b_Mo_done 11 = .ok (.invokestatic 187, 3) := by decide +kernel
theorem d_Mo_done_14 : decode b_Mo_done 14 = .ok (.ifCond .eq 36, 3) := by decide +kernel
theorem d_Mo_done_17 : decode b_Mo_done 17 = .ok (.aload_n 0, 1) := by decide +kernel
theorem d_Mo_done_18 : decode b_Mo_done 18 = .ok (.getfield 157, 3) := by decide +kernel
theorem d_Mo_done_21 : decode b_Mo_done 21 = .ok (.iload_n 1, 1) := by decide +kernel
theorem d_Mo_done_22 : decode b_Mo_done 22 = .ok (.i2l, 1) := by decide +kernel
theorem d_Mo_done_23 : decode b_Mo_done 23 = .ok (.lconst 0, 1) := by decide +kernel
theorem d_Mo_done_24 : decode b_Mo_done 24 = .ok (.aload_n 0, 1) := by decide +kernel
theorem d_Mo_done_25 : decode b_Mo_done 25 = .ok (.getfield 485, 3) := by decide +kernel
theorem d_Mo_done_28 : decode b_Mo_done 28 = .ok (.iconst 1, 1) := by decide +kernel
theorem d_Mo_done_29 : decode b_Mo_done 29 = .ok (.isub, 1) := by decide +kernel
theorem d_Mo_done_30 : decode b_Mo_done 30 = .ok (.i2l, 1) := by decide +kernel
theorem d_Mo_done_31 : decode b_Mo_done 31 = .ok (.invokestatic 187, 3) := by decide +kernel
theorem d_Mo_done_34 : decode b_Mo_done 34 = .ok (.ifCond .eq 7, 3) := by decide +kernel
theorem d_Mo_done_37 : decode b_Mo_done 37 = .ok (.iload_n 1, 1) := by decide +kernel
theorem d_Mo_done_38 : decode b_Mo_done 38 = .ok (.goto 4, 3) := by decide +kernel
theorem d_Mo_done_41 : decode b_Mo_done 41 = .ok (.iconst 0, 1) := by decide +kernel
theorem d_Mo_done_42 : decode b_Mo_done 42 = .ok (.baload, 1) := by decide +kernel
theorem d_Mo_done_43 : decode b_Mo_done 43 = .ok (.ifCond .eq 7, 3) := by decide +kernel
theorem d_Mo_done_46 : decode b_Mo_done 46 = .ok (.iconst 1, 1) := by decide +kernel
theorem d_Mo_done_47 : decode b_Mo_done 47 = .ok (.goto 4, 3) := by decide +kernel
theorem d_Mo_done_50 : decode b_Mo_done 50 = .ok (.iconst 0, 1) := by decide +kernel
theorem d_Mo_done_51 : decode b_Mo_done 51 = .ok (.invokevirtual 208, 3) := by decide +kernel
theorem d_Mo_done_54 : decode b_Mo_done 54 = .ok (.ifCond .ne 5, 3) := by decide +kernel
theorem d_Mo_done_57 : decode b_Mo_done 57 = .ok (.iconst 0, 1) := by decide +kernel
theorem d_Mo_done_58 : decode b_Mo_done 58 = .ok (.ireturn, 1) := by decide +kernel
theorem d_Mo_done_59 : decode b_Mo_done 59 = .ok (.aload_n 0, 1) := by decide +kernel
theorem d_Mo_done_60 : decode b_Mo_done 60 = .ok (.getfield 157, 3) := by decide +kernel
theorem d_Mo_done_63 : decode b_Mo_done 63 = .ok (.iload_n 1, 1) := by decide +kernel
theorem d_Mo_done_64 : decode b_Mo_done 64 = .ok (.iconst 0, 1) := by decide +kernel
theorem d_Mo_done_65 : decode b_Mo_done 65 = .ok (.bastore, 1) := by decide +kernel
theorem d_Mo_done_66 : decode b_Mo_done 66 = .ok (.aload_n 0, 1) := by decide +kernel
theorem d_Mo_done_67 : decode b_Mo_done 67 = .ok (.getfield 151, 3) := by decide +kernel
theorem d_Mo_done_70 : decode b_Mo_done 70 = .ok (.iload_n 1, 1) := by decide +kernel
theorem d_Mo_done_71 : decode b_Mo_done 71 = .ok (.iaload, 1) := by decide +kernel
theorem d_Mo_done_72 : decode b_Mo_done 72 = .ok (.istore_n 3, 1) := by decide +kernel
theorem d_Mo_done_73 : decode b_Mo_done 73 = .ok (.aload_n 0, 1) := by decide +kernel
theorem d_Mo_done_74 : decode b_Mo_done 74 = .ok (.getfield 32, 3) := by decide +kernel
theorem d_Mo_done_77 : decode b_Mo_done 77 = .ok (.iload_n 3, 1) := by decide +kernel
theorem d_Mo_done_78 : decode b_Mo_done 78 = .ok (.iaload, 1) := by decide +kernel
theorem d_Mo_done_79 : decode b_Mo_done 79 = .ok (.aload_n 0, 1) := by decide +kernel
theorem d_Mo_done_80 : decode b_Mo_done 80 = .ok (.getfield 154, 3) := by decide +kernel
theorem d_Mo_done_83 : decode b_Mo_done 83 = .ok (.iload_n 1, 1) := by decide +kernel
theorem d_Mo_done_84 : decode b_Mo_done 84 = .ok (.iaload, 1) := by decide +kernel
theorem d_Mo_done_85 : decode b_Mo_done 85 = .ok (.if_icmp .ne 66, 3) := by decide +kernel
theorem d_Mo_done_88 : decode b_Mo_done 88 = .ok (.aload_n 0, 1) := by decide +kernel
theorem d_Mo_done_89 : decode b_Mo_done 89 = .ok (.aload_n 0, 1) := by decide +kernel
theorem d_Mo_done_90 : decode b_Mo_done 90 = .ok (.getfield 163, 3) := by decide +kernel
theorem d_Mo_done_93 : decode b_Mo_done 93 = .ok (.iload_n 1, 1) := by decide +kernel
theorem d_Mo_done_94 : decode b_Mo_done 94 = .ok (.iaload, 1) := by decide +kernel
theorem d_Mo_done_95 : decode b_Mo_done 95 = .ok (.putfield 219, 3) := by decide +kernel
theorem d_Mo_done_98 : decode b_Mo_done 98 = .ok (.iconst 0, 1) := by decide +kernel
theorem d_Mo_done_99 : decode b_Mo_done 99 = .ok (.istore 4, 2) := by decide +kernel
theorem d_Mo_done_101 : decode b_Mo_done 101 = .ok (.iload 4, 2) := by decide +kernel
theorem d_Mo_done_103 : decode b_Mo_done 103 = .ok (.aload_n 0, 1) := by decide +kernel
theorem d_Mo_done_104 : decode b_Mo_done 104 = .ok (.getfield 219, 3) := by decide +kernel
theorem d_Mo_done_107 : decode b_Mo_done 107 = .ok (.if_icmp .ge 28, 3) := by decide +kernel
theorem d_Mo_done_110 : decode b_Mo_done 110 = .ok (.aload_n 0, 1) := by decide +kernel
theorem d_Mo_done_111 : decode b_Mo_done 111 = .ok (.getfield 172, 3) := by decide +kernel
theorem d_Mo_done_114 : decode b_Mo_done 114 = .ok (.iload 4, 2) := by decide +kernel
theorem d_Mo_done_116 : decode b_Mo_done 116 = .ok (.aload_n 0, 1) := by decide +kernel
theorem d_Mo_done_117 : decode b_Mo_done 117 = .ok (.getfield 160, 3) := by decide +kernel
theorem d_Mo_done_120 : decode b_Mo_done 120 = .ok (.bipush 24, 2) := by decide +kernel
theorem d_Mo_done_122 : decode b_Mo_done 122 = .ok (.iload_n 1, 1) := by decide +kernel
theorem d_Mo_done_123 : decode b_Mo_done 123 = .ok (.imul, 1) := by decide +kernel
theorem d_Mo_done_124 : decode b_Mo_done 124 = .ok (.iload 4, 2) := by decide +kernel
theorem d_Mo_done_126 : decode b_Mo_done 126 = .ok (.iadd, 1) := by decide +kernel
theorem d_Mo_done_127 : decode b_Mo_done 127 = .ok (.iaload, 1) := by decide +kernel
theorem d_Mo_done_128 : decode b_Mo_done 128 = .ok (.iastore, 1) := by decide +kernel
theorem d_Mo_done_129 : decode b_Mo_done 129 = .ok (.iinc 4 1, 3) := by decide +kernel
theorem d_Mo_done_132 : decode b_Mo_done 132 = .ok (.goto (-31), 3) := by decide +kernel
theorem d_Mo_done_135 : decode b_Mo_done 135 = .ok (.aload_n 0, 1) := by decide +kernel
theorem d_Mo_done_136 : decode b_Mo_done 136 = .ok (.iload_n 3, 1) := by decide +kernel
theorem d_Mo_done_137 : decode b_Mo_done 137 = .ok (.bipush 10, 2) := by decide +kernel
theorem d_Mo_done_139 : decode b_Mo_done 139 = .ok (.iload_n 2, 1) := by decide +kernel
theorem d_Mo_done_140 : decode b_Mo_done 140 = .ok (.ifCond .ne 7, 3) := by decide +kernel
theorem d_Mo_done_143 : decode b_Mo_done 143 = .ok (.iconst 1, 1) := by decide +kernel
theorem d_Mo_done_144 : decode b_Mo_done 144 = .ok (.goto 4, 3) := by decide +kernel
theorem d_Mo_done_147 : decode b_Mo_done 147 = .ok (.iconst 0, 1) := by decide +kernel
theorem d_Mo_done_148 : decode b_Mo_done 148 = .ok (.invokevirtual 444, 3) := by decide +kernel
theorem d_Mo_done_151 : decode b_Mo_done 151 = .ok (.aload_n 0, 1) := by decide +kernel
theorem d_Mo_done_152 : decode b_Mo_done 152 = .ok (.invokevirtual 216, 3) := by decide +kernel
theorem d_Mo_done_155 : decode b_Mo_done 155 = .ok (.aload_n 0, 1) := by decide +kernel
theorem d_Mo_done_156 : decode b_Mo_done 156 = .ok (.getfield 142, 3) := by decide +kernel
theorem d_Mo_done_159 : decode b_Mo_done 159 = .ok (.iload_n 1, 1) := by decide +kernel
theorem d_Mo_done_160 : decode b_Mo_done 160 = .ok (.iaload, 1) := by decide +kernel
theorem d_Mo_done_161 : decode b_Mo_done 161 = .ok (.ireturn, 1) := by decide +kernel
set_option maxRecDepth 100000 in
set_option maxHeartbeats 4000000 in
theorem c_Mo_done (l : Launch) (D : va_G) (ca : Nat → ClassId) (ad : Nat → Nat) (L : List Nat) (f0 : Nat → va_E) (sz : Nat) (σ0 : mq_S) (hM : mq_B ca ad σ0 L f0) (x1 : Int32) (x2 : Int32) (p2 : x2 = 0 ∨ x2 = 1) (u0 : IH σ0) :
    Met l y_Mo_done (Cond.code y_Mo_done b_Mo_done 5 (some .int) :: wg) { frames := 7, cells := 0, slots := 0, locals := 166 } (va_Pc [.ref (ad 71), .int (x1), .int (x2)] (sm_P D cl_all (ty_s ca) ek L f0 sz)) (sm_Qi D (ty_s ca) L f0 sz (fun r u => mq_po ca ad L σ0 [0, 13, 14, 15, 16, 18, 19, 22, 23, 24, 25, 30, 31, 32, 33, 34, 42, 52, 54, 55, 62, 65, 69, 70] (fun σ => IH σ ∧ True) u)) 0 0 (va_A (va_pl L f0) sz) := by
  refine sm_start (by decide) (Nat.le_of_ble_eq_true rfl) ?_
  intro p e s m below meth c ls hx hb hml hr hlk hnm hts hown hsz hE hI hl
  have hl : lv_has ls 5 [(0, .ref (ad 71)), (1, .int (x1)), (2, .int (x2))] := hl
  have hF : mq_fr [0, 13, 14, 15, 16, 18, 19, 22, 23, 24, 25, 30, 31, 32, 33, 34, 42, 52, 54, 55, 62, 65, 69, 70] σ0 σ0 := mq_fr_rf
  have hJ_151 : ∀ (H : Heap) (locs : List Loc) (f : Nat → va_E) (σ : mq_S) (ls : Array Slot) (r : Nat) (y3 : Int32), sw_I D cl_all (ty_s ca) (va_A (va_pl L f0) sz) s H locs L f → mq_B ca ad σ L f → mq_fr [0, 13, 14, 15, 16, 18, 19, 22, 23, 24, 25, 30, 31, 32, 33, 34, 42, 52, 54, 55, 62, 65, 69, 70] σ0 σ → lv_has ls 5 [(0, .ref (ad 71)), (1, .int (nI r)), (2, .int (x2)), (3, .int (y3))] → (IH σ) → (r ≤ 599) → W p l e { frames := 7, cells := 0, slots := 0, locals := 166 } s m ([.ref (ad 71), .int (x1), .int (x2)] : List Value).toArray below meth c H locs 0 0 (MQ below (sm_Qi D (ty_s ca) L f0 sz (fun r u => mq_po ca ad L σ0 [0, 13, 14, 15, 16, 18, 19, 22, 23, 24, 25, 30, 31, 32, 33, 34, 42, 52, 54, 55, 62, 65, 69, 70] (fun σ => IH σ ∧ True) u)) ([.ref (ad 71), .int (x1), .int (x2)] : List Value).toArray s 0 0 (va_A (va_pl L f0) sz)) (F0 m 151 ls []) := by
    intro H locs f σ ls r y3 hI hM hF hl u90 hrr
    refine lv_aload_n hx hb d_Mo_done_151 rfl (lv_at hl 0 rfl) ?_
    refine sm_vM hI (va_runV (As := []) (rest := []) ⟨hx, hb, hml, hown, hts⟩ (c_Mo_sendAll l D ca ad L _ _ _ hM u90) (kv_Mo_sendAll hts rfl rfl (hts _ tw_1422) ⟨Nat.le_of_ble_eq_true rfl, Nat.le_of_ble_eq_true rfl⟩) (pv_Mo hI hE hM) rfl rfl hl.1 rfl (lv_room (Nat.le_of_ble_eq_true rfl)) d_Mo_done_152 ⟨Nat.le_of_ble_eq_true rfl, Nat.le_of_ble_eq_true rfl⟩) (fun H locs f σ_2 hI hM hF_3 p_1 => ?_)
    have hF := mq_fr_tr hF hF_3 (by decide)
    obtain ⟨u_4, -⟩ := p_1
    refine lv_aload_n hx hb d_Mo_done_155 rfl (lv_at hl 0 rfl) ?_
    refine mq_get (k := 57) (v := .ref (ad 57)) hx hb hts hown hI hM (by decide) rfl rfl (hts _ tw_1226) d_Mo_done_156 ?_
    refine lv_iload_n hx hb d_Mo_done_159 rfl (lv_at hl 1 rfl) ?_
    obtain ⟨x_5, e_6⟩ : ∃ z, σ_2.2.2.1 57 (r) = z := ⟨_, rfl⟩
    refine mq_iald (k := 57) (j := r) (v := x_5) hx hb hI hM (by decide) rfl (by show r < 600; omega) (by decide) e_6 d_Mo_done_160 ?_
    exact sm_iret hx hb hr hlk hI ⟨σ_2, rfl, hM, hF, ⟨u_4, trivial⟩⟩ d_Mo_done_161
  have hJ_101 : ∀ (N k : Nat) (H : Heap) (locs : List Loc) (f : Nat → va_E) (σ : mq_S) (ls : Array Slot) (r : Nat) (l1 : Nat) (w : Nat), 24 + 1 - k ≤ N → k ≤ 24 → sw_I D cl_all (ty_s ca) (va_A (va_pl L f0) sz) s H locs L f → mq_B ca ad σ L f → mq_fr [0, 13, 14, 15, 16, 18, 19, 22, 23, 24, 25, 30, 31, 32, 33, 34, 42, 52, 54, 55, 62, 65, 69, 70] σ0 σ → lv_has ls 5 [(0, .ref (ad 71)), (1, .int (nI r)), (2, .int (x2)), (3, .int (nI l1)), (4, .int (nI k))] → (0 ≤ w) → (w ≤ 24) → (σ.1 70 = nI w) → (IH σ) → (r ≤ 599) → (l1 ≤ 3) → W p l e { frames := 7, cells := 0, slots := 0, locals := 166 } s m ([.ref (ad 71), .int (x1), .int (x2)] : List Value).toArray below meth c H locs 0 0 (MQ below (sm_Qi D (ty_s ca) L f0 sz (fun r u => mq_po ca ad L σ0 [0, 13, 14, 15, 16, 18, 19, 22, 23, 24, 25, 30, 31, 32, 33, 34, 42, 52, 54, 55, 62, 65, 69, 70] (fun σ => IH σ ∧ True) u)) ([.ref (ad 71), .int (x1), .int (x2)] : List Value).toArray s 0 0 (va_A (va_pl L f0) sz)) (F0 m 101 ls []) := by
    intro N
    induction N with
    | zero => intros; omega
    | succ N ih =>
      intro k H locs f σ ls r l1 w hN hk hI hM hF hl h90a h90b o90 u90 hrr hl1
      refine lv_iload hx hb d_Mo_done_101 (lv_at hl 4 rfl) ?_
      refine lv_aload_n hx hb d_Mo_done_103 rfl (lv_at hl 0 rfl) ?_
      refine mq_get (k := 70) (v := .int (nI w)) hx hb hts hown hI hM (by decide) (congrArg (fun z => some (Value.int z)) o90) rfl (hts _ tw_1239) d_Mo_done_104 ?_
      refine lv_icmp_ge (tgt := 135) hx hb d_Mo_done_107 (by decide) (fun c_7 => ?_) (fun c_7 => ?_)
      · have k_8 : w ≤ k := (nI_leI (a := w) (b := k) (by omega) (by omega)).mp c_7
        refine lv_aload_n hx hb d_Mo_done_135 rfl (lv_at hl 0 rfl) ?_
        refine lv_iload_n hx hb d_Mo_done_136 rfl (lv_at hl 3 rfl) ?_
        refine lv_bipush (v := 10) hx hb d_Mo_done_137 (by decide) ?_
        refine lv_iload_n hx hb d_Mo_done_139 rfl (lv_at hl 2 rfl) ?_
        refine lv_if_ne (tgt := 147) hx hb d_Mo_done_140 (by decide) (fun c_9 => ?_) (fun c_9 => ?_)
        · refine lv_iconst (v := 0) hx hb d_Mo_done_147 (by decide) ?_
          refine sm_vM hI (va_runV (As := [.int (nI l1), .int (10), .int (0)]) (rest := []) ⟨hx, hb, hml, hown, hts⟩ (c_Mo_comes l D ca ad L _ _ _ hM (l1) (by omega) 10 0 (by decide) u90) (kv_Mo_comes hts rfl rfl (hts _ tw_1611) ⟨Nat.le_of_ble_eq_true rfl, Nat.le_of_ble_eq_true rfl⟩) (pv_Mo hI hE hM) rfl rfl hl.1 rfl (lv_room (Nat.le_of_ble_eq_true rfl)) d_Mo_done_148 ⟨Nat.le_of_ble_eq_true rfl, Nat.le_of_ble_eq_true rfl⟩) (fun H locs f σ_11 hI hM hF_12 p_10 => ?_)
          have hF := mq_fr_tr hF hF_12 (by decide)
          have o_13 : σ_11.1 70 = nI w := mq_fi hF_12 (by decide) o90
          obtain ⟨u_14, -⟩ := p_10
          exact hJ_151 _ _ _ _ _ (r) (nI l1) hI hM hF (lv_sub hl [0, 1, 2, 3] rfl) u_14 (by omega)
        · refine lv_iconst (v := 1) hx hb d_Mo_done_143 (by decide) ?_
          refine lv_goto (tgt := 148) hx hb d_Mo_done_144 (by decide) ?_
          refine sm_vM hI (va_runV (As := [.int (nI l1), .int (10), .int (1)]) (rest := []) ⟨hx, hb, hml, hown, hts⟩ (c_Mo_comes l D ca ad L _ _ _ hM (l1) (by omega) 10 1 (by decide) u90) (kv_Mo_comes hts rfl rfl (hts _ tw_1611) ⟨Nat.le_of_ble_eq_true rfl, Nat.le_of_ble_eq_true rfl⟩) (pv_Mo hI hE hM) rfl rfl hl.1 rfl (lv_room (Nat.le_of_ble_eq_true rfl)) d_Mo_done_148 ⟨Nat.le_of_ble_eq_true rfl, Nat.le_of_ble_eq_true rfl⟩) (fun H locs f σ_16 hI hM hF_17 p_15 => ?_)
          have hF := mq_fr_tr hF hF_17 (by decide)
          have o_18 : σ_16.1 70 = nI w := mq_fi hF_17 (by decide) o90
          obtain ⟨u_19, -⟩ := p_15
          exact hJ_151 _ _ _ _ _ (r) (nI l1) hI hM hF (lv_sub hl [0, 1, 2, 3] rfl) u_19 (by omega)
      · have k_20 : k < w := Nat.lt_of_not_le (fun q => c_7 ((nI_leI (a := w) (b := k) (by omega) (by omega)).mpr q))
        refine lv_aload_n hx hb d_Mo_done_110 rfl (lv_at hl 0 rfl) ?_
        refine mq_get (k := 69) (v := .ref (ad 69)) hx hb hts hown hI hM (by decide) rfl rfl (hts _ tw_1238) d_Mo_done_111 ?_
        refine lv_iload hx hb d_Mo_done_114 (lv_at hl 4 rfl) ?_
        refine lv_aload_n hx hb d_Mo_done_116 rfl (lv_at hl 0 rfl) ?_
        refine mq_get (k := 63) (v := .ref (ad 63)) hx hb hts hown hI hM (by decide) rfl rfl (hts _ tw_1232) d_Mo_done_117 ?_
        refine lv_bipush (v := 24) hx hb d_Mo_done_120 (by decide) ?_
        refine lv_iload_n hx hb d_Mo_done_122 rfl (lv_at hl 1 rfl) ?_
        refine lv_imul hx hb d_Mo_done_123 ?_
        refine lv_topi (fun x_21 e_22 => ?_)
        obtain rfl : x_21 = nI (24 * r) := by rw [e_22]; exact pk_mul _ _
        refine lv_iload hx hb d_Mo_done_124 (lv_at hl 4 rfl) ?_
        refine lv_iadd hx hb d_Mo_done_126 ?_
        refine lv_topi (fun x_23 e_24 => ?_)
        obtain rfl : x_23 = nI ((24 * r) + k) := by rw [e_24]; exact nI_add _ _
        obtain ⟨x_25, e_26⟩ : ∃ z, σ.2.2.1 63 (((24 * r) + k)) = z := ⟨_, rfl⟩
        refine mq_iald (k := 63) (j := ((24 * r) + k)) (v := x_25) hx hb hI hM (by decide) rfl (by show ((24 * r) + k) < 14400; omega) (by decide) e_26 d_Mo_done_127 ?_
        refine mq_iast (k := 69) (j := k) (x := x_25) hx hb hI hM (by decide) rfl (by show k < 260; omega) (by decide) trivial d_Mo_done_128 (fun H locs f σ_27 e_28 hI hM => ?_)
        have hF := mq_fr_ug hF e_28 rfl (Or.inl rfl)
        have o_29 : σ_27.1 70 = nI w := by rw [e_28]; exact o90
        have u_30 := IH_fr (mq_fr_ug (X := [69]) mq_fr_rf e_28 rfl (Or.inl rfl)) (by decide) u90
        refine lv_iinc (v := nI (k + 1)) (lv' := [(4, .int (nI (k + 1))), (0, .ref (ad 71)), (1, .int (nI r)), (2, .int (x2)), (3, .int (nI l1))]) hx hb d_Mo_done_129 hl (k := 4) rfl (nI_1 _) (by decide) rfl (fun ls hl => ?_)
        refine lv_goto (tgt := 101) hx hb d_Mo_done_132 (by decide) ?_
        exact ih ((k + 1)) _ _ _ _ _ (r) (l1) (w) (by omega) (by omega) hI hM hF (lv_sub hl [1, 2, 3, 4, 0] rfl) (by omega) (by omega) o_29 u_30 (by omega) (by omega)
  refine lv_aload_n hx hb d_Mo_done_0 rfl (lv_at hl 0 rfl) ?_
  refine lv_iload_n hx hb d_Mo_done_1 rfl (lv_at hl 1 rfl) ?_
  refine lv_i2l hx hb d_Mo_done_2 rfl ?_
  refine lv_topl (fun x_31 e_32 => ?_)
  refine lv_lconst (v := 0) hx hb d_Mo_done_3 (by decide) ?_
  refine lv_aload_n hx hb d_Mo_done_4 rfl (lv_at hl 0 rfl) ?_
  obtain ⟨n_33, h_34, h_35, e_36⟩ := hM.2.2.2.2.1 56
  refine mq_get (k := 56) (v := .int (nI n_33)) hx hb hts hown hI hM (by decide) (congrArg (fun z => some (Value.int z)) e_36) rfl (hts _ tw_1225) d_Mo_done_5 ?_
  refine lv_iconst (v := 1) hx hb d_Mo_done_8 (by decide) ?_
  refine lv_isub hx hb d_Mo_done_9 ?_
  refine lv_topi (fun x_37 e_38 => ?_)
  refine lv_i2l hx hb d_Mo_done_10 rfl ?_
  refine lv_topl (fun x_39 e_40 => ?_)
  refine sm_iP hI (va_runS (As := [.long (x_31), .long (0), .long (x_39)]) (rest := [.ref (ad 71)]) ⟨hx, hb, hml, hown, hts⟩ (c_Mo_in l D ca L _ _ x_31 0 x_39) (ks_Mo_in hts rfl rfl (hts _ tw_1393) ⟨Nat.le_of_ble_eq_true rfl, Nat.le_of_ble_eq_true rfl⟩) (sm_preS hI hE) rfl rfl hl.1 rfl (lv_room (Nat.le_of_ble_eq_true rfl)) d_Mo_done_11 ⟨Nat.le_of_ble_eq_true rfl, Nat.le_of_ble_eq_true rfl⟩) (fun x_42 H locs p_41 hI => ?_)
  rcases jn_int (lo := 0) (hi := ((n_33 : Nat) : Int) - 1) p_41 e_32 (by decide) (by rw [e_40, Int32.toInt_toInt64, e_38]; exact nI_p1 (by omega)) (by omega) with ⟨rfl, j_44, h_45, h_46, e_47⟩ | ⟨rfl, h_43⟩
  · rw [e_47] at hl
    refine lv_if_eq (tgt := 50) hx hb d_Mo_done_14 (by decide) (fun c_48 => ?_) (fun c_48 => ?_)
    · exact absurd c_48 (by decide)
    · refine lv_aload_n hx hb d_Mo_done_17 rfl (lv_at hl 0 rfl) ?_
      refine mq_get (k := 62) (v := .ref (ad 62)) hx hb hts hown hI hM (by decide) rfl rfl (hts _ tw_1231) d_Mo_done_18 ?_
      refine lv_iload_n hx hb d_Mo_done_21 rfl (lv_at hl 1 rfl) ?_
      refine lv_i2l hx hb d_Mo_done_22 rfl ?_
      refine lv_topl (fun x_49 e_50 => ?_)
      refine lv_lconst (v := 0) hx hb d_Mo_done_23 (by decide) ?_
      refine lv_aload_n hx hb d_Mo_done_24 rfl (lv_at hl 0 rfl) ?_
      refine mq_get (k := 56) (v := .int (nI n_33)) hx hb hts hown hI hM (by decide) (congrArg (fun z => some (Value.int z)) e_36) rfl (hts _ tw_1225) d_Mo_done_25 ?_
      refine lv_iconst (v := 1) hx hb d_Mo_done_28 (by decide) ?_
      refine lv_isub hx hb d_Mo_done_29 ?_
      refine lv_topi (fun x_51 e_52 => ?_)
      refine lv_i2l hx hb d_Mo_done_30 rfl ?_
      refine lv_topl (fun x_53 e_54 => ?_)
      refine sm_iP hI (va_runS (As := [.long (x_49), .long (0), .long (x_53)]) (rest := [.ref (ad 62), .ref (ad 71)]) ⟨hx, hb, hml, hown, hts⟩ (c_Mo_in l D ca L _ _ x_49 0 x_53) (ks_Mo_in hts rfl rfl (hts _ tw_1393) ⟨Nat.le_of_ble_eq_true rfl, Nat.le_of_ble_eq_true rfl⟩) (sm_preS hI hE) rfl rfl hl.1 rfl (lv_room (Nat.le_of_ble_eq_true rfl)) d_Mo_done_31 ⟨Nat.le_of_ble_eq_true rfl, Nat.le_of_ble_eq_true rfl⟩) (fun x_56 H locs p_55 hI => ?_)
      rcases jn_nat (n := j_44) (lo := 0) (hi := ((n_33 : Nat) : Int) - 1) p_55 e_50 (by decide) (by rw [e_54, Int32.toInt_toInt64, e_52]; exact nI_p1 (by omega)) (by omega) with ⟨rfl, h_57⟩ | ⟨rfl, h_57⟩
      · refine lv_if_eq (tgt := 41) hx hb d_Mo_done_34 (by decide) (fun c_62 => ?_) (fun c_62 => ?_)
        · exact absurd c_62 (by decide)
        · refine lv_iload_n hx hb d_Mo_done_37 rfl (lv_at hl 1 rfl) ?_
          refine lv_goto (tgt := 42) hx hb d_Mo_done_38 (by decide) ?_
          obtain ⟨n_63, h_64, h_65, e_66⟩ := hM.2.2.2.2.2 62 (j_44)
          have p_67 : nI n_63 = 0 ∨ nI n_63 = 1 := mq_zok ⟨n_63, h_64, h_65, rfl⟩
          refine mq_zald (k := 62) (j := j_44) (v := nI n_63) hx hb hI hM (by decide) rfl (by show j_44 < 600; omega) (by decide) e_66 d_Mo_done_42 ?_
          refine lv_if_eq (tgt := 50) hx hb d_Mo_done_43 (by decide) (fun c_68 => ?_) (fun c_68 => ?_)
          · refine lv_iconst (v := 0) hx hb d_Mo_done_50 (by decide) ?_
            refine sm_iM hI (va_runV (As := [.int (0)]) (rest := []) ⟨hx, hb, hml, hown, hts⟩ (c_Mo_says2 l D ca ad L _ _ _ hM 0 (by decide)) (kv_Mo_says hts rfl rfl (hts _ tw_1410) ⟨Nat.le_of_ble_eq_true rfl, Nat.le_of_ble_eq_true rfl⟩) (pv_Mo hI hE hM) rfl rfl hl.1 rfl (lv_room (Nat.le_of_ble_eq_true rfl)) d_Mo_done_51 ⟨Nat.le_of_ble_eq_true rfl, Nat.le_of_ble_eq_true rfl⟩) (fun x_72 H locs f σ_70 hI hM hF_71 p_69 => ?_)
            have hF := mq_fr_tr hF hF_71 (by decide)
            have o_73 : σ_70.1 56 = nI n_33 := mq_fi hF_71 (by decide) e_36
            have u_74 := IH_fr hF_71 (by decide) u0
            obtain ⟨p_76, o_75, -⟩ := p_69
            have p_76 := p_76.symm
            subst p_76
            refine lv_if_ne (tgt := 59) hx hb d_Mo_done_54 (by decide) (fun c_77 => ?_) (fun c_77 => ?_)
            · exact absurd c_77 (by decide)
            · refine lv_iconst (v := 0) hx hb d_Mo_done_57 (by decide) ?_
              exact sm_iret hx hb hr hlk hI ⟨σ_70, rfl, hM, hF, ⟨u_74, trivial⟩⟩ d_Mo_done_58
          · refine lv_iconst (v := 1) hx hb d_Mo_done_46 (by decide) ?_
            refine lv_goto (tgt := 51) hx hb d_Mo_done_47 (by decide) ?_
            refine sm_iM hI (va_runV (As := [.int (1)]) (rest := []) ⟨hx, hb, hml, hown, hts⟩ (c_Mo_says2 l D ca ad L _ _ _ hM 1 (by decide)) (kv_Mo_says hts rfl rfl (hts _ tw_1410) ⟨Nat.le_of_ble_eq_true rfl, Nat.le_of_ble_eq_true rfl⟩) (pv_Mo hI hE hM) rfl rfl hl.1 rfl (lv_room (Nat.le_of_ble_eq_true rfl)) d_Mo_done_51 ⟨Nat.le_of_ble_eq_true rfl, Nat.le_of_ble_eq_true rfl⟩) (fun x_81 H locs f σ_79 hI hM hF_80 p_78 => ?_)
            have hF := mq_fr_tr hF hF_80 (by decide)
            have o_82 : σ_79.1 56 = nI n_33 := mq_fi hF_80 (by decide) e_36
            have u_83 := IH_fr hF_80 (by decide) u0
            obtain ⟨p_85, o_84, -⟩ := p_78
            have p_85 := p_85.symm
            subst p_85
            refine lv_if_ne (tgt := 59) hx hb d_Mo_done_54 (by decide) (fun c_86 => ?_) (fun c_86 => ?_)
            · refine lv_aload_n hx hb d_Mo_done_59 rfl (lv_at hl 0 rfl) ?_
              refine mq_get (k := 62) (v := .ref (ad 62)) hx hb hts hown hI hM (by decide) rfl rfl (hts _ tw_1231) d_Mo_done_60 ?_
              refine lv_iload_n hx hb d_Mo_done_63 rfl (lv_at hl 1 rfl) ?_
              refine lv_iconst (v := 0) hx hb d_Mo_done_64 (by decide) ?_
              refine mq_zast (k := 62) (j := j_44) hx hb hI hM (by decide) rfl (by show j_44 < 600; omega) (by decide) rfl (by decide) d_Mo_done_65 (fun H locs f σ_87 e_88 hI hM => ?_)
              have hF := mq_fr_ug hF e_88 rfl (Or.inl rfl)
              have o_89 : σ_87.1 56 = nI n_33 := by rw [e_88]; exact o_82
              have o_90 : σ_87.1 0 = if 1 = 0 then 1 else 0 := by rw [e_88]; exact o_84
              have u_91 := IH_fr (mq_fr_ug (X := [62]) mq_fr_rf e_88 rfl (Or.inl rfl)) (by decide) u_83
              refine lv_aload_n hx hb d_Mo_done_66 rfl (lv_at hl 0 rfl) ?_
              refine mq_get (k := 60) (v := .ref (ad 60)) hx hb hts hown hI hM (by decide) rfl rfl (hts _ tw_1229) d_Mo_done_67 ?_
              refine lv_iload_n hx hb d_Mo_done_70 rfl (lv_at hl 1 rfl) ?_
              obtain ⟨n_92, h_93, h_94, e_95⟩ := hM.2.2.2.2.2 60 (j_44)
              refine mq_iald (k := 60) (j := j_44) (v := nI n_92) hx hb hI hM (by decide) rfl (by show j_44 < 600; omega) (by decide) e_95 d_Mo_done_71 ?_
              refine lv_istore_n (lv' := [(3, .int (nI n_92)), (0, .ref (ad 71)), (1, .int (nI j_44)), (2, .int (x2))]) hx hb d_Mo_done_72 rfl hl (by decide) rfl (fun ls hl => ?_)
              refine lv_aload_n hx hb d_Mo_done_73 rfl (lv_at hl 1 rfl) ?_
              refine mq_get (k := 14) (v := .ref (ad 14)) hx hb hts hown hI hM (by decide) rfl rfl (hts _ tw_1183) d_Mo_done_74 ?_
              refine lv_iload_n hx hb d_Mo_done_77 rfl (lv_at hl 0 rfl) ?_
              obtain ⟨x_96, e_97⟩ : ∃ z, σ_87.2.2.1 14 (n_92) = z := ⟨_, rfl⟩
              refine mq_iald (k := 14) (j := n_92) (v := x_96) hx hb hI hM (by decide) rfl (by show n_92 < 4; omega) (by decide) e_97 d_Mo_done_78 ?_
              refine lv_aload_n hx hb d_Mo_done_79 rfl (lv_at hl 1 rfl) ?_
              refine mq_get (k := 61) (v := .ref (ad 61)) hx hb hts hown hI hM (by decide) rfl rfl (hts _ tw_1230) d_Mo_done_80 ?_
              refine lv_iload_n hx hb d_Mo_done_83 rfl (lv_at hl 2 rfl) ?_
              obtain ⟨x_98, e_99⟩ : ∃ z, σ_87.2.2.1 61 (j_44) = z := ⟨_, rfl⟩
              refine mq_iald (k := 61) (j := j_44) (v := x_98) hx hb hI hM (by decide) rfl (by show j_44 < 600; omega) (by decide) e_99 d_Mo_done_84 ?_
              refine lv_icmp_ne (tgt := 151) hx hb d_Mo_done_85 (by decide) (fun c_100 => ?_) (fun c_100 => ?_)
              · exact hJ_151 _ _ _ _ _ (j_44) (nI n_92) hI hM hF (lv_sub hl [1, 2, 3, 0] rfl) u_91 (by omega)
              · refine lv_aload_n hx hb d_Mo_done_88 rfl (lv_at hl 1 rfl) ?_
                refine lv_aload_n hx hb d_Mo_done_89 rfl (lv_at hl 1 rfl) ?_
                refine mq_get (k := 64) (v := .ref (ad 64)) hx hb hts hown hI hM (by decide) rfl rfl (hts _ tw_1233) d_Mo_done_90 ?_
                refine lv_iload_n hx hb d_Mo_done_93 rfl (lv_at hl 2 rfl) ?_
                obtain ⟨n_101, h_102, h_103, e_104⟩ := hM.2.2.2.2.2 64 (j_44)
                refine mq_iald (k := 64) (j := j_44) (v := nI n_101) hx hb hI hM (by decide) rfl (by show j_44 < 600; omega) (by decide) e_104 d_Mo_done_94 ?_
                refine mq_puti (k := 70) (ty := .int) hx hb hts hown hI hM (by decide) rfl rfl (hts _ tw_1239) rfl (by decide +kernel) rfl rfl ⟨n_101, by omega, by omega, rfl⟩ d_Mo_done_95 (fun H locs f σ_105 e_106 hI hM => ?_)
                have hF := mq_fr_ui hF e_106 rfl
                have o_107 : σ_105.1 56 = nI n_33 := by rw [e_106]; exact o_89
                have o_108 : σ_105.1 0 = if 1 = 0 then 1 else 0 := by rw [e_106]; exact o_90
                have u_109 := IH_fr (mq_fr_ui (X := [70]) mq_fr_rf e_106 rfl) (by decide) u_91
                have o_110 := mq_uik e_106
                refine lv_iconst (v := 0) hx hb d_Mo_done_98 (by decide) ?_
                refine lv_istore (lv' := [(4, .int (0)), (3, .int (nI n_92)), (0, .ref (ad 71)), (1, .int (nI j_44)), (2, .int (x2))]) hx hb d_Mo_done_99 hl (by decide) rfl (fun ls hl => ?_)
                exact hJ_101 _ (0) _ _ _ _ _ (j_44) (n_92) (n_101) (Nat.le_refl _) (by omega) hI hM hF (lv_sub hl [2, 3, 4, 1, 0] rfl) (by omega) (by omega) o_110 u_109 (by omega) (by omega)
            · exact absurd c_86 (by decide)
      · omega
  · refine lv_if_eq (tgt := 50) hx hb d_Mo_done_14 (by decide) (fun c_111 => ?_) (fun c_111 => ?_)
    · refine lv_iconst (v := 0) hx hb d_Mo_done_50 (by decide) ?_
      refine sm_iM hI (va_runV (As := [.int (0)]) (rest := []) ⟨hx, hb, hml, hown, hts⟩ (c_Mo_says2 l D ca ad L _ _ _ hM 0 (by decide)) (kv_Mo_says hts rfl rfl (hts _ tw_1410) ⟨Nat.le_of_ble_eq_true rfl, Nat.le_of_ble_eq_true rfl⟩) (pv_Mo hI hE hM) rfl rfl hl.1 rfl (lv_room (Nat.le_of_ble_eq_true rfl)) d_Mo_done_51 ⟨Nat.le_of_ble_eq_true rfl, Nat.le_of_ble_eq_true rfl⟩) (fun x_115 H locs f σ_113 hI hM hF_114 p_112 => ?_)
      have hF := mq_fr_tr hF hF_114 (by decide)
      have o_116 : σ_113.1 56 = nI n_33 := mq_fi hF_114 (by decide) e_36
      have u_117 := IH_fr hF_114 (by decide) u0
      obtain ⟨p_119, o_118, -⟩ := p_112
      have p_119 := p_119.symm
      subst p_119
      refine lv_if_ne (tgt := 59) hx hb d_Mo_done_54 (by decide) (fun c_120 => ?_) (fun c_120 => ?_)
      · exact absurd c_120 (by decide)
      · refine lv_iconst (v := 0) hx hb d_Mo_done_57 (by decide) ?_
        exact sm_iret hx hb hr hlk hI ⟨σ_113, rfl, hM, hF, ⟨u_117, trivial⟩⟩ d_Mo_done_58
    · exact absurd c_111 (by decide)
theorem d_Mo_take_0 : decode b_Mo_take 0 = .ok (.aload_n 0, 1) := by decide +kernel
theorem d_Mo_take_1 : decode b_Mo_take 1 = .ok (.iload_n 1, 1) := by decide +kernel
theorem d_Mo_take_2 : decode b_Mo_take 2 = .ok (.i2l, 1) := by decide +kernel
theorem d_Mo_take_3 : decode b_Mo_take 3 = .ok (.lconst 0, 1) := by decide +kernel
theorem d_Mo_take_4 : decode b_Mo_take 4 = .ok (.ldc2_w 194, 3) := by decide +kernel
theorem d_Mo_take_7 : decode b_Mo_take 7 = .ok (.invokestatic 187, 3) := by decide +kernel
theorem d_Mo_take_10 : decode b_Mo_take 10 = .ok (.invokevirtual 208, 3) := by decide +kernel
theorem d_Mo_take_13 : decode b_Mo_take 13 = .ok (.ifCond .ne 5, 3) := by decide +kernel
theorem d_Mo_take_16 : decode b_Mo_take 16 = .ok (.lconst 0, 1) := by decide +kernel
theorem d_Mo_take_17 : decode b_Mo_take 17 = .ok (.lreturn, 1) := by decide +kernel
theorem d_Mo_take_18 : decode b_Mo_take 18 = .ok (.aload_n 0, 1) := by decide +kernel
theorem d_Mo_take_19 : decode b_Mo_take 19 = .ok (.getfield 38, 3) := by decide +kernel
theorem d_Mo_take_22 : decode b_Mo_take 22 = .ok (.iload_n 1, 1) := by decide +kernel
theorem d_Mo_take_23 : decode b_Mo_take 23 = .ok (.iaload, 1) := by decide +kernel
theorem d_Mo_take_24 : decode b_Mo_take 24 = .ok (.bipush 7, 2) := by decide +kernel
theorem d_Mo_take_26 : decode b_Mo_take 26 = .ok (.if_icmp .ge 12, 3) := by decide +kernel
theorem d_Mo_take_29 : decode b_Mo_take 29 = .ok (.aload_n 0, 1) := by decide +kernel
theorem d_Mo_take_30 : decode b_Mo_take 30 = .ok (.getfield 38, 3) := by decide +kernel
theorem d_Mo_take_33 : decode b_Mo_take 33 = .ok (.iload_n 1, 1) := by decide +kernel
theorem d_Mo_take_34 : decode b_Mo_take 34 = .ok (.iaload, 1) := by decide +kernel
theorem d_Mo_take_35 : decode b_Mo_take 35 = .ok (.goto 5, 3) := by decide +kernel
theorem d_Mo_take_38 : decode b_Mo_take 38 = .ok (.bipush 7, 2) := by decide +kernel
theorem d_Mo_take_40 : decode b_Mo_take 40 = .ok (.istore_n 2, 1) := by decide +kernel
theorem d_Mo_take_41 : decode b_Mo_take 41 = .ok (.iload_n 2, 1) := by decide +kernel
theorem d_Mo_take_42 : decode b_Mo_take 42 = .ok (.i2l, 1) := by decide +kernel
theorem d_Mo_take_43 : decode b_Mo_take 43 = .ok (.bipush 56, 2) := by decide +kernel
theorem d_Mo_take_45 : decode b_Mo_take 45 = .ok (.lshl, 1) := by decide +kernel
theorem d_Mo_take_46 : decode b_Mo_take 46 = .ok (.lstore_n 3, 1) := by decide +kernel
theorem d_Mo_take_47 : decode b_Mo_take 47 = .ok (.iconst 0, 1) := by decide +kernel
theorem d_Mo_take_48 : decode b_Mo_take 48 = .ok (.istore 5, 2) := by decide +kernel
theorem d_Mo_take_50 : decode b_Mo_take 50 = .ok (.iload 5, 2) := by decide +kernel
theorem d_Mo_take_52 : decode b_Mo_take 52 = .ok (.iload_n 2, 1) := by decide +kernel
theorem d_Mo_take_53 : decode b_Mo_take 53 = .ok (.if_icmp .ge 35, 3) := by decide +kernel
theorem d_Mo_take_56 : decode b_Mo_take 56 = .ok (.lload_n 3, 1) := by decide +kernel
theorem d_Mo_take_57 : decode b_Mo_take 57 = .ok (.aload_n 0, 1) := by decide +kernel
theorem d_Mo_take_58 : decode b_Mo_take 58 = .ok (.getfield 35, 3) := by decide +kernel
theorem d_Mo_take_61 : decode b_Mo_take 61 = .ok (.iload_n 1, 1) := by decide +kernel
theorem d_Mo_take_62 : decode b_Mo_take 62 = .ok (.sipush 1300, 3) := by decide +kernel
theorem d_Mo_take_65 : decode b_Mo_take 65 = .ok (.imul, 1) := by decide +kernel
theorem d_Mo_take_66 : decode b_Mo_take 66 = .ok (.iload 5, 2) := by decide +kernel
theorem d_Mo_take_68 : decode b_Mo_take 68 = .ok (.iadd, 1) := by decide +kernel
theorem d_Mo_take_69 : decode b_Mo_take 69 = .ok (.iaload, 1) := by decide +kernel
theorem d_Mo_take_70 : decode b_Mo_take 70 = .ok (.i2l, 1) := by decide +kernel
theorem d_Mo_take_71 : decode b_Mo_take 71 = .ok (.bipush 48, 2) := by decide +kernel
theorem d_Mo_take_73 : decode b_Mo_take 73 = .ok (.bipush 8, 2) := by decide +kernel
theorem d_Mo_take_75 : decode b_Mo_take 75 = .ok (.iload 5, 2) := by decide +kernel
theorem d_Mo_take_77 : decode b_Mo_take 77 = .ok (.imul, 1) := by decide +kernel
theorem d_Mo_take_78 : decode b_Mo_take 78 = .ok (.isub, 1) := by decide +kernel
theorem d_Mo_take_79 : decode b_Mo_take 79 = .ok (.lshl, 1) := by decide +kernel
theorem d_Mo_take_80 : decode b_Mo_take 80 = .ok (.lor, 1) := by decide +kernel
theorem d_Mo_take_81 : decode b_Mo_take 81 = .ok (.lstore_n 3, 1) := by decide +kernel
theorem d_Mo_take_82 : decode b_Mo_take 82 = .ok (.iinc 5 1, 3) := by decide +kernel
theorem d_Mo_take_85 : decode b_Mo_take 85 = .ok (.goto (-35), 3) := by decide +kernel
theorem d_Mo_take_88 : decode b_Mo_take 88 = .ok (.aload_n 0, 1) := by decide +kernel
theorem d_Mo_take_89 : decode b_Mo_take 89 = .ok (.getfield 38, 3) := by decide +kernel
theorem d_Mo_take_92 : decode b_Mo_take 92 = .ok (.iload_n 1, 1) := by decide +kernel
theorem d_Mo_take_93 : decode b_Mo_take 93 = .ok (.aload_n 0, 1) := by decide +kernel
theorem d_Mo_take_94 : decode b_Mo_take 94 = .ok (.getfield 38, 3) := by decide +kernel
theorem d_Mo_take_97 : decode b_Mo_take 97 = .ok (.iload_n 1, 1) := by decide +kernel
theorem d_Mo_take_98 : decode b_Mo_take 98 = .ok (.iaload, 1) := by decide +kernel
theorem d_Mo_take_99 : decode b_Mo_take 99 = .ok (.iload_n 2, 1) := by decide +kernel
theorem d_Mo_take_100 : decode b_Mo_take 100 = .ok (.isub, 1) := by decide +kernel
theorem d_Mo_take_101 : decode b_Mo_take 101 = .ok (.iastore, 1) := by decide +kernel
theorem d_Mo_take_102 : decode b_Mo_take 102 = .ok (.iconst 0, 1) := by decide +kernel
theorem d_Mo_take_103 : decode b_Mo_take 103 = .ok (.istore 5, 2) := by decide +kernel
theorem d_Mo_take_105 : decode b_Mo_take 105 = .ok (.iload 5, 2) := by decide +kernel
theorem d_Mo_take_107 : decode b_Mo_take 107 = .ok (.aload_n 0, 1) := by decide +kernel
theorem d_Mo_take_108 : decode b_Mo_take 108 = .ok (.getfield 38, 3) := by decide +kernel
theorem d_Mo_take_111 : decode b_Mo_take 111 = .ok (.iload_n 1, 1) := by decide +kernel
theorem d_Mo_take_112 : decode b_Mo_take 112 = .ok (.iaload, 1) := by decide +kernel
theorem d_Mo_take_113 : decode b_Mo_take 113 = .ok (.if_icmp .ge 37, 3) := by decide +kernel
theorem d_Mo_take_116 : decode b_Mo_take 116 = .ok (.aload_n 0, 1) := by decide +kernel
theorem d_Mo_take_117 : decode b_Mo_take 117 = .ok (.getfield 35, 3) := by decide +kernel
theorem d_Mo_take_120 : decode b_Mo_take 120 = .ok (.iload_n 1, 1) := by decide +kernel
theorem d_Mo_take_121 : decode b_Mo_take 121 = .ok (.sipush 1300, 3) := by decide +kernel
theorem d_Mo_take_124 : decode b_Mo_take 124 = .ok (.imul, 1) := by decide +kernel
theorem d_Mo_take_125 : decode b_Mo_take 125 = .ok (.iload 5, 2) := by decide +kernel
theorem d_Mo_take_127 : decode b_Mo_take 127 = .ok (.iadd, 1) := by decide +kernel
theorem d_Mo_take_128 : decode b_Mo_take 128 = .ok (.aload_n 0, 1) := by decide +kernel
theorem d_Mo_take_129 : decode b_Mo_take 129 = .ok (.getfield 35, 3) := by decide +kernel
theorem d_Mo_take_132 : decode b_Mo_take 132 = .ok (.iload_n 1, 1) := by decide +kernel
theorem d_Mo_take_133 : decode b_Mo_take 133 = .ok (.sipush 1300, 3) := by decide +kernel
theorem d_Mo_take_136 : decode b_Mo_take 136 = .ok (.imul, 1) := by decide +kernel
theorem d_Mo_take_137 : decode b_Mo_take 137 = .ok (.iload 5, 2) := by decide +kernel
theorem d_Mo_take_139 : decode b_Mo_take 139 = .ok (.iadd, 1) := by decide +kernel
theorem d_Mo_take_140 : decode b_Mo_take 140 = .ok (.iload_n 2, 1) := by decide +kernel
theorem d_Mo_take_141 : decode b_Mo_take 141 = .ok (.iadd, 1) := by decide +kernel
theorem d_Mo_take_142 : decode b_Mo_take 142 = .ok (.iaload, 1) := by decide +kernel
theorem d_Mo_take_143 : decode b_Mo_take 143 = .ok (.iastore, 1) := by decide +kernel
theorem d_Mo_take_144 : decode b_Mo_take 144 = .ok (.iinc 5 1, 3) := by decide +kernel
theorem d_Mo_take_147 : decode b_Mo_take 147 = .ok (.goto (-42), 3) := by decide +kernel
theorem d_Mo_take_150 : decode b_Mo_take 150 = .ok (.aload_n 0, 1) := by decide +kernel
theorem d_Mo_take_151 : decode b_Mo_take 151 = .ok (.invokevirtual 216, 3) := by decide +kernel
theorem d_Mo_take_154 : decode b_Mo_take 154 = .ok (.lload_n 3, 1) := by decide +kernel
theorem d_Mo_take_155 : decode b_Mo_take 155 = .ok (.lreturn, 1) := by decide +kernel
set_option maxRecDepth 100000 in
set_option maxHeartbeats 4000000 in
theorem c_Mo_take (l : Launch) (D : va_G) (ca : Nat → ClassId) (ad : Nat → Nat) (L : List Nat) (f0 : Nat → va_E) (sz : Nat) (σ0 : mq_S) (hM : mq_B ca ad σ0 L f0) (x1 : Int32) (u0 : IH σ0) :
    Met l y_Mo_take (Cond.code y_Mo_take b_Mo_take 6 (some .long) :: wg) { frames := 7, cells := 0, slots := 0, locals := 166 } (va_Pc [.ref (ad 71), .int (x1)] (sm_P D cl_all (ty_s ca) ek L f0 sz)) (sm_Ql D (ty_s ca) L f0 sz (fun r u => mq_po ca ad L σ0 [0, 13, 14, 15, 16, 18, 19, 22, 23, 24, 25, 30, 31, 32, 33, 34, 42, 52, 54, 55, 65, 69, 70] (fun σ => IH σ ∧ True) u)) 0 0 (va_A (va_pl L f0) sz) := by
  refine sm_start (by decide) (Nat.le_of_ble_eq_true rfl) ?_
  intro p e s m below meth c ls hx hb hml hr hlk hnm hts hown hsz hE hI hl
  have hl : lv_has ls 6 [(0, .ref (ad 71)), (1, .int (x1))] := hl
  have hF : mq_fr [0, 13, 14, 15, 16, 18, 19, 22, 23, 24, 25, 30, 31, 32, 33, 34, 42, 52, 54, 55, 65, 69, 70] σ0 σ0 := mq_fr_rf
  have hJ_105 : ∀ (N k : Nat) (H : Heap) (locs : List Loc) (f : Nat → va_E) (σ : mq_S) (ls : Array Slot) (l1 : Nat) (m9 : Nat) (y3 : Int64) (w : Nat), 1300 + 1 - k ≤ N → k ≤ 1300 → sw_I D cl_all (ty_s ca) (va_A (va_pl L f0) sz) s H locs L f → mq_B ca ad σ L f → mq_fr [0, 13, 14, 15, 16, 18, 19, 22, 23, 24, 25, 30, 31, 32, 33, 34, 42, 52, 54, 55, 65, 69, 70] σ0 σ → lv_has ls 6 [(0, .ref (ad 71)), (1, .int (nI l1)), (2, .int (nI m9)), (3, .long (y3)), (5, .int (nI k))] → (0 ≤ w) → (w ≤ 1299) → (σ.2.2.1 16 (l1) = nI w) → (IH σ) → (l1 ≤ 3) → (m9 + w ≤ 1299) → W p l e { frames := 7, cells := 0, slots := 0, locals := 166 } s m ([.ref (ad 71), .int (x1)] : List Value).toArray below meth c H locs 0 0 (MQ below (sm_Ql D (ty_s ca) L f0 sz (fun r u => mq_po ca ad L σ0 [0, 13, 14, 15, 16, 18, 19, 22, 23, 24, 25, 30, 31, 32, 33, 34, 42, 52, 54, 55, 65, 69, 70] (fun σ => IH σ ∧ True) u)) ([.ref (ad 71), .int (x1)] : List Value).toArray s 0 0 (va_A (va_pl L f0) sz)) (F0 m 105 ls []) := by
    intro N
    induction N with
    | zero => intros; omega
    | succ N ih =>
      intro k H locs f σ ls l1 m9 y3 w hN hk hI hM hF hl h90a h90b o90 u90 hl1 hmw
      refine lv_iload hx hb d_Mo_take_105 (lv_at hl 4 rfl) ?_
      refine lv_aload_n hx hb d_Mo_take_107 rfl (lv_at hl 0 rfl) ?_
      refine mq_get (k := 16) (v := .ref (ad 16)) hx hb hts hown hI hM (by decide) rfl rfl (hts _ tw_1185) d_Mo_take_108 ?_
      refine lv_iload_n hx hb d_Mo_take_111 rfl (lv_at hl 1 rfl) ?_
      refine mq_iald (k := 16) (j := l1) (v := nI w) hx hb hI hM (by decide) rfl (by show l1 < 4; omega) (by decide) o90 d_Mo_take_112 ?_
      refine lv_icmp_ge (tgt := 150) hx hb d_Mo_take_113 (by decide) (fun c_1 => ?_) (fun c_1 => ?_)
      · have k_2 : w ≤ k := (nI_leI (a := w) (b := k) (by omega) (by omega)).mp c_1
        refine lv_aload_n hx hb d_Mo_take_150 rfl (lv_at hl 0 rfl) ?_
        refine sm_vM hI (va_runV (As := []) (rest := []) ⟨hx, hb, hml, hown, hts⟩ (c_Mo_sendAll l D ca ad L _ _ _ hM u90) (kv_Mo_sendAll hts rfl rfl (hts _ tw_1422) ⟨Nat.le_of_ble_eq_true rfl, Nat.le_of_ble_eq_true rfl⟩) (pv_Mo hI hE hM) rfl rfl hl.1 rfl (lv_room (Nat.le_of_ble_eq_true rfl)) d_Mo_take_151 ⟨Nat.le_of_ble_eq_true rfl, Nat.le_of_ble_eq_true rfl⟩) (fun H locs f σ_4 hI hM hF_5 p_3 => ?_)
        have hF := mq_fr_tr hF hF_5 (by decide)
        obtain ⟨u_6, -⟩ := p_3
        refine lv_lload_n hx hb d_Mo_take_154 rfl (lv_at hl 3 rfl) ?_
        exact sm_lret hx hb hr hlk hI ⟨σ_4, rfl, hM, hF, ⟨u_6, trivial⟩⟩ d_Mo_take_155
      · have k_7 : k < w := Nat.lt_of_not_le (fun q => c_1 ((nI_leI (a := w) (b := k) (by omega) (by omega)).mpr q))
        refine lv_aload_n hx hb d_Mo_take_116 rfl (lv_at hl 0 rfl) ?_
        refine mq_get (k := 15) (v := .ref (ad 15)) hx hb hts hown hI hM (by decide) rfl rfl (hts _ tw_1184) d_Mo_take_117 ?_
        refine lv_iload_n hx hb d_Mo_take_120 rfl (lv_at hl 1 rfl) ?_
        refine lv_sipush (v := 1300) hx hb d_Mo_take_121 (by decide) ?_
        refine lv_imul hx hb d_Mo_take_124 ?_
        refine lv_topi (fun x_8 e_9 => ?_)
        obtain rfl : x_8 = nI (l1 * 1300) := by rw [e_9]; exact pk_mul _ _
        refine lv_iload hx hb d_Mo_take_125 (lv_at hl 4 rfl) ?_
        refine lv_iadd hx hb d_Mo_take_127 ?_
        refine lv_topi (fun x_10 e_11 => ?_)
        obtain rfl : x_10 = nI ((l1 * 1300) + k) := by rw [e_11]; exact nI_add _ _
        refine lv_aload_n hx hb d_Mo_take_128 rfl (lv_at hl 0 rfl) ?_
        refine mq_get (k := 15) (v := .ref (ad 15)) hx hb hts hown hI hM (by decide) rfl rfl (hts _ tw_1184) d_Mo_take_129 ?_
        refine lv_iload_n hx hb d_Mo_take_132 rfl (lv_at hl 1 rfl) ?_
        refine lv_sipush (v := 1300) hx hb d_Mo_take_133 (by decide) ?_
        refine lv_imul hx hb d_Mo_take_136 ?_
        refine lv_topi (fun x_12 e_13 => ?_)
        obtain rfl : x_12 = nI (l1 * 1300) := by rw [e_13]; exact pk_mul _ _
        refine lv_iload hx hb d_Mo_take_137 (lv_at hl 4 rfl) ?_
        refine lv_iadd hx hb d_Mo_take_139 ?_
        refine lv_topi (fun x_14 e_15 => ?_)
        obtain rfl : x_14 = nI ((l1 * 1300) + k) := by rw [e_15]; exact nI_add _ _
        refine lv_iload_n hx hb d_Mo_take_140 rfl (lv_at hl 2 rfl) ?_
        refine lv_iadd hx hb d_Mo_take_141 ?_
        refine lv_topi (fun x_16 e_17 => ?_)
        obtain rfl : x_16 = nI (((l1 * 1300) + k) + m9) := by rw [e_17]; exact nI_add _ _
        obtain ⟨x_18, e_19⟩ : ∃ z, σ.2.2.1 15 ((((l1 * 1300) + k) + m9)) = z := ⟨_, rfl⟩
        refine mq_iald (k := 15) (j := (((l1 * 1300) + k) + m9)) (v := x_18) hx hb hI hM (by decide) rfl (by show (((l1 * 1300) + k) + m9) < 5200; omega) (by decide) e_19 d_Mo_take_142 ?_
        refine mq_iast (k := 15) (j := ((l1 * 1300) + k)) (x := x_18) hx hb hI hM (by decide) rfl (by show ((l1 * 1300) + k) < 5200; omega) (by decide) trivial d_Mo_take_143 (fun H locs f σ_20 e_21 hI hM => ?_)
        have hF := mq_fr_ug hF e_21 rfl (Or.inl rfl)
        have o_22 : σ_20.2.2.1 16 (l1) = nI w := by rw [e_21]; exact o90
        have u_23 := IH_fr (mq_fr_ug (X := [15]) mq_fr_rf e_21 rfl (Or.inl rfl)) (by decide) u90
        refine lv_iinc (v := nI (k + 1)) (lv' := [(5, .int (nI (k + 1))), (0, .ref (ad 71)), (1, .int (nI l1)), (2, .int (nI m9)), (3, .long (y3))]) hx hb d_Mo_take_144 hl (k := 4) rfl (nI_1 _) (by decide) rfl (fun ls hl => ?_)
        refine lv_goto (tgt := 105) hx hb d_Mo_take_147 (by decide) ?_
        exact ih ((k + 1)) _ _ _ _ _ (l1) (m9) y3 (w) (by omega) (by omega) hI hM hF (lv_sub hl [1, 2, 3, 4, 0] rfl) (by omega) (by omega) o_22 u_23 (by omega) (by omega)
  have hJ_50 : ∀ (N k : Nat) (H : Heap) (locs : List Loc) (f : Nat → va_E) (σ : mq_S) (ls : Array Slot) (l1 : Nat) (m9 : Nat) (y3 : Int64) (w : Nat), 7 + 1 - k ≤ N → k ≤ 7 → sw_I D cl_all (ty_s ca) (va_A (va_pl L f0) sz) s H locs L f → mq_B ca ad σ L f → mq_fr [0, 13, 14, 15, 16, 18, 19, 22, 23, 24, 25, 30, 31, 32, 33, 34, 42, 52, 54, 55, 65, 69, 70] σ0 σ → lv_has ls 6 [(0, .ref (ad 71)), (1, .int (nI l1)), (2, .int (nI m9)), (3, .long (y3)), (5, .int (nI k))] → (0 ≤ w) → (w ≤ 1299) → (σ.2.2.1 16 (l1) = nI w) → (IH σ) → (l1 ≤ 3) → (m9 ≤ 7) → (m9 ≤ w) → W p l e { frames := 7, cells := 0, slots := 0, locals := 166 } s m ([.ref (ad 71), .int (x1)] : List Value).toArray below meth c H locs 0 0 (MQ below (sm_Ql D (ty_s ca) L f0 sz (fun r u => mq_po ca ad L σ0 [0, 13, 14, 15, 16, 18, 19, 22, 23, 24, 25, 30, 31, 32, 33, 34, 42, 52, 54, 55, 65, 69, 70] (fun σ => IH σ ∧ True) u)) ([.ref (ad 71), .int (x1)] : List Value).toArray s 0 0 (va_A (va_pl L f0) sz)) (F0 m 50 ls []) := by
    intro N
    induction N with
    | zero => intros; omega
    | succ N ih =>
      intro k H locs f σ ls l1 m9 y3 w hN hk hI hM hF hl h90a h90b o90 u90 hl1 hm7 hmw
      refine lv_iload hx hb d_Mo_take_50 (lv_at hl 4 rfl) ?_
      refine lv_iload_n hx hb d_Mo_take_52 rfl (lv_at hl 2 rfl) ?_
      refine lv_icmp_ge (tgt := 88) hx hb d_Mo_take_53 (by decide) (fun c_24 => ?_) (fun c_24 => ?_)
      · have k_25 : m9 ≤ k := (nI_leI (a := m9) (b := k) (by omega) (by omega)).mp c_24
        refine lv_aload_n hx hb d_Mo_take_88 rfl (lv_at hl 0 rfl) ?_
        refine mq_get (k := 16) (v := .ref (ad 16)) hx hb hts hown hI hM (by decide) rfl rfl (hts _ tw_1185) d_Mo_take_89 ?_
        refine lv_iload_n hx hb d_Mo_take_92 rfl (lv_at hl 1 rfl) ?_
        refine lv_aload_n hx hb d_Mo_take_93 rfl (lv_at hl 0 rfl) ?_
        refine mq_get (k := 16) (v := .ref (ad 16)) hx hb hts hown hI hM (by decide) rfl rfl (hts _ tw_1185) d_Mo_take_94 ?_
        refine lv_iload_n hx hb d_Mo_take_97 rfl (lv_at hl 1 rfl) ?_
        refine mq_iald (k := 16) (j := l1) (v := nI w) hx hb hI hM (by decide) rfl (by show l1 < 4; omega) (by decide) o90 d_Mo_take_98 ?_
        refine lv_iload_n hx hb d_Mo_take_99 rfl (lv_at hl 2 rfl) ?_
        refine lv_isub hx hb d_Mo_take_100 ?_
        refine lv_topi (fun x_26 e_27 => ?_)
        obtain rfl : x_26 = nI (w - m9) := by rw [e_27]; exact pk_sub (a := w) (b := m9) (by omega)
        refine mq_iast (k := 16) (j := l1) (x := nI (w - m9)) hx hb hI hM (by decide) rfl (by show l1 < 4; omega) (by decide) ⟨(w - m9), by omega, by omega, rfl⟩ d_Mo_take_101 (fun H locs f σ_28 e_29 hI hM => ?_)
        have hF := mq_fr_ug hF e_29 rfl (Or.inl rfl)
        have u_30 := IH_fr (mq_fr_ug (X := [16]) mq_fr_rf e_29 rfl (Or.inl rfl)) (by decide) u90
        have o_31 := mq_ugj e_29
        refine lv_iconst (v := 0) hx hb d_Mo_take_102 (by decide) ?_
        refine lv_istore (lv' := [(5, .int (0)), (0, .ref (ad 71)), (1, .int (nI l1)), (2, .int (nI m9)), (3, .long (y3))]) hx hb d_Mo_take_103 hl (by decide) rfl (fun ls hl => ?_)
        exact hJ_105 _ (0) _ _ _ _ _ (l1) (m9) y3 ((w - m9)) (Nat.le_refl _) (by omega) hI hM hF (lv_sub hl [1, 2, 3, 4, 0] rfl) (by omega) (by omega) o_31 u_30 (by omega) (by omega)
      · have k_32 : k < m9 := Nat.lt_of_not_le (fun q => c_24 ((nI_leI (a := m9) (b := k) (by omega) (by omega)).mpr q))
        refine lv_lload_n hx hb d_Mo_take_56 rfl (lv_at hl 3 rfl) ?_
        refine lv_aload_n hx hb d_Mo_take_57 rfl (lv_at hl 0 rfl) ?_
        refine mq_get (k := 15) (v := .ref (ad 15)) hx hb hts hown hI hM (by decide) rfl rfl (hts _ tw_1184) d_Mo_take_58 ?_
        refine lv_iload_n hx hb d_Mo_take_61 rfl (lv_at hl 1 rfl) ?_
        refine lv_sipush (v := 1300) hx hb d_Mo_take_62 (by decide) ?_
        refine lv_imul hx hb d_Mo_take_65 ?_
        refine lv_topi (fun x_33 e_34 => ?_)
        obtain rfl : x_33 = nI (l1 * 1300) := by rw [e_34]; exact pk_mul _ _
        refine lv_iload hx hb d_Mo_take_66 (lv_at hl 4 rfl) ?_
        refine lv_iadd hx hb d_Mo_take_68 ?_
        refine lv_topi (fun x_35 e_36 => ?_)
        obtain rfl : x_35 = nI ((l1 * 1300) + k) := by rw [e_36]; exact nI_add _ _
        obtain ⟨x_37, e_38⟩ : ∃ z, σ.2.2.1 15 (((l1 * 1300) + k)) = z := ⟨_, rfl⟩
        refine mq_iald (k := 15) (j := ((l1 * 1300) + k)) (v := x_37) hx hb hI hM (by decide) rfl (by show ((l1 * 1300) + k) < 5200; omega) (by decide) e_38 d_Mo_take_69 ?_
        refine lv_i2l hx hb d_Mo_take_70 rfl ?_
        refine lv_topl (fun x_39 e_40 => ?_)
        refine lv_bipush (v := 48) hx hb d_Mo_take_71 (by decide) ?_
        refine lv_bipush (v := 8) hx hb d_Mo_take_73 (by decide) ?_
        refine lv_iload hx hb d_Mo_take_75 (lv_at hl 4 rfl) ?_
        refine lv_imul hx hb d_Mo_take_77 ?_
        refine lv_topi (fun x_41 e_42 => ?_)
        obtain rfl : x_41 = nI (8 * k) := by rw [e_42]; exact pk_mul _ _
        refine lv_isub hx hb d_Mo_take_78 ?_
        refine lv_topi (fun x_43 e_44 => ?_)
        refine lv_lshl hx hb d_Mo_take_79 rfl ?_
        refine lv_topl (fun x_45 e_46 => ?_)
        refine lv_lor hx hb d_Mo_take_80 ?_
        refine lv_topl (fun x_47 e_48 => ?_)
        refine lv_lstore_n (lv' := [(3, .long (x_47)), (0, .ref (ad 71)), (1, .int (nI l1)), (2, .int (nI m9)), (5, .int (nI k))]) hx hb d_Mo_take_81 rfl hl (by decide) rfl (fun ls hl => ?_)
        refine lv_iinc (v := nI (k + 1)) (lv' := [(5, .int (nI (k + 1))), (3, .long (x_47)), (0, .ref (ad 71)), (1, .int (nI l1)), (2, .int (nI m9))]) hx hb d_Mo_take_82 hl (k := 4) rfl (nI_1 _) (by decide) rfl (fun ls hl => ?_)
        refine lv_goto (tgt := 50) hx hb d_Mo_take_85 (by decide) ?_
        exact ih ((k + 1)) _ _ _ _ _ (l1) (m9) x_47 (w) (by omega) (by omega) hI hM hF (lv_sub hl [2, 3, 4, 1, 0] rfl) (by omega) (by omega) o90 u90 (by omega) (by omega) (by omega)
  refine lv_aload_n hx hb d_Mo_take_0 rfl (lv_at hl 0 rfl) ?_
  refine lv_iload_n hx hb d_Mo_take_1 rfl (lv_at hl 1 rfl) ?_
  refine lv_i2l hx hb d_Mo_take_2 rfl ?_
  refine lv_topl (fun x_49 e_50 => ?_)
  refine lv_lconst (v := 0) hx hb d_Mo_take_3 (by decide) ?_
  refine lv_ldc2 (v := 3) hx hb hown (hts _ tw_1405) d_Mo_take_4 ?_
  refine sm_iP hI (va_runS (As := [.long (x_49), .long (0), .long (3)]) (rest := [.ref (ad 71)]) ⟨hx, hb, hml, hown, hts⟩ (c_Mo_in l D ca L _ _ x_49 0 3) (ks_Mo_in hts rfl rfl (hts _ tw_1393) ⟨Nat.le_of_ble_eq_true rfl, Nat.le_of_ble_eq_true rfl⟩) (sm_preS hI hE) rfl rfl hl.1 rfl (lv_room (Nat.le_of_ble_eq_true rfl)) d_Mo_take_7 ⟨Nat.le_of_ble_eq_true rfl, Nat.le_of_ble_eq_true rfl⟩) (fun x_52 H locs p_51 hI => ?_)
  rcases jn_int (lo := 0) (hi := 3) p_51 e_50 (by decide) (by decide) (by omega) with ⟨rfl, j_54, h_55, h_56, e_57⟩ | ⟨rfl, h_53⟩
  · rw [e_57] at hl
    refine sm_iM hI (va_runV (As := [.int (1)]) (rest := []) ⟨hx, hb, hml, hown, hts⟩ (c_Mo_says2 l D ca ad L _ _ _ hM 1 (by decide)) (kv_Mo_says hts rfl rfl (hts _ tw_1410) ⟨Nat.le_of_ble_eq_true rfl, Nat.le_of_ble_eq_true rfl⟩) (pv_Mo hI hE hM) rfl rfl hl.1 rfl (lv_room (Nat.le_of_ble_eq_true rfl)) d_Mo_take_10 ⟨Nat.le_of_ble_eq_true rfl, Nat.le_of_ble_eq_true rfl⟩) (fun x_61 H locs f σ_59 hI hM hF_60 p_58 => ?_)
    have hF := mq_fr_tr hF hF_60 (by decide)
    have u_62 := IH_fr hF_60 (by decide) u0
    obtain ⟨p_64, o_63, -⟩ := p_58
    have p_64 := p_64.symm
    subst p_64
    refine lv_if_ne (tgt := 18) hx hb d_Mo_take_13 (by decide) (fun c_65 => ?_) (fun c_65 => ?_)
    · refine lv_aload_n hx hb d_Mo_take_18 rfl (lv_at hl 0 rfl) ?_
      refine mq_get (k := 16) (v := .ref (ad 16)) hx hb hts hown hI hM (by decide) rfl rfl (hts _ tw_1185) d_Mo_take_19 ?_
      refine lv_iload_n hx hb d_Mo_take_22 rfl (lv_at hl 1 rfl) ?_
      obtain ⟨n_66, h_67, h_68, e_69⟩ := hM.2.2.2.2.2 16 (j_54)
      refine mq_iald (k := 16) (j := j_54) (v := nI n_66) hx hb hI hM (by decide) rfl (by show j_54 < 4; omega) (by decide) e_69 d_Mo_take_23 ?_
      refine lv_bipush (v := 7) hx hb d_Mo_take_24 (by decide) ?_
      refine lv_icmp_ge (tgt := 38) hx hb d_Mo_take_26 (by decide) (fun c_70 => ?_) (fun c_70 => ?_)
      · have k_71 : 7 ≤ n_66 := (nI_leI (a := 7) (b := n_66) (by omega) (by omega)).mp c_70
        refine lv_bipush (v := 7) hx hb d_Mo_take_38 (by decide) ?_
        refine lv_istore_n (lv' := [(2, .int (7)), (0, .ref (ad 71)), (1, .int (nI j_54))]) hx hb d_Mo_take_40 rfl hl (by decide) rfl (fun ls hl => ?_)
        refine lv_iload_n hx hb d_Mo_take_41 rfl (lv_at hl 0 rfl) ?_
        refine lv_i2l hx hb d_Mo_take_42 rfl ?_
        refine lv_topl (fun x_72 e_73 => ?_)
        refine lv_bipush (v := 56) hx hb d_Mo_take_43 (by decide) ?_
        refine lv_lshl hx hb d_Mo_take_45 rfl ?_
        refine lv_topl (fun x_74 e_75 => ?_)
        refine lv_lstore_n (lv' := [(3, .long (x_74)), (2, .int (7)), (0, .ref (ad 71)), (1, .int (nI j_54))]) hx hb d_Mo_take_46 rfl hl (by decide) rfl (fun ls hl => ?_)
        refine lv_iconst (v := 0) hx hb d_Mo_take_47 (by decide) ?_
        refine lv_istore (lv' := [(5, .int (0)), (3, .long (x_74)), (2, .int (7)), (0, .ref (ad 71)), (1, .int (nI j_54))]) hx hb d_Mo_take_48 hl (by decide) rfl (fun ls hl => ?_)
        exact hJ_50 _ (0) _ _ _ _ _ (j_54) (7) x_74 (n_66) (Nat.le_refl _) (by omega) hI hM hF (lv_sub hl [3, 4, 2, 1, 0] rfl) (by omega) (by omega) e_69 u_62 (by omega) (by omega) (by omega)
      · have k_76 : n_66 < 7 := Nat.lt_of_not_le (fun q => c_70 ((nI_leI (a := 7) (b := n_66) (by omega) (by omega)).mpr q))
        refine lv_aload_n hx hb d_Mo_take_29 rfl (lv_at hl 0 rfl) ?_
        refine mq_get (k := 16) (v := .ref (ad 16)) hx hb hts hown hI hM (by decide) rfl rfl (hts _ tw_1185) d_Mo_take_30 ?_
        refine lv_iload_n hx hb d_Mo_take_33 rfl (lv_at hl 1 rfl) ?_
        refine mq_iald (k := 16) (j := j_54) (v := nI n_66) hx hb hI hM (by decide) rfl (by show j_54 < 4; omega) (by decide) e_69 d_Mo_take_34 ?_
        refine lv_goto (tgt := 40) hx hb d_Mo_take_35 (by decide) ?_
        refine lv_istore_n (lv' := [(2, .int (nI n_66)), (0, .ref (ad 71)), (1, .int (nI j_54))]) hx hb d_Mo_take_40 rfl hl (by decide) rfl (fun ls hl => ?_)
        refine lv_iload_n hx hb d_Mo_take_41 rfl (lv_at hl 0 rfl) ?_
        refine lv_i2l hx hb d_Mo_take_42 rfl ?_
        refine lv_topl (fun x_77 e_78 => ?_)
        refine lv_bipush (v := 56) hx hb d_Mo_take_43 (by decide) ?_
        refine lv_lshl hx hb d_Mo_take_45 rfl ?_
        refine lv_topl (fun x_79 e_80 => ?_)
        refine lv_lstore_n (lv' := [(3, .long (x_79)), (2, .int (nI n_66)), (0, .ref (ad 71)), (1, .int (nI j_54))]) hx hb d_Mo_take_46 rfl hl (by decide) rfl (fun ls hl => ?_)
        refine lv_iconst (v := 0) hx hb d_Mo_take_47 (by decide) ?_
        refine lv_istore (lv' := [(5, .int (0)), (3, .long (x_79)), (2, .int (nI n_66)), (0, .ref (ad 71)), (1, .int (nI j_54))]) hx hb d_Mo_take_48 hl (by decide) rfl (fun ls hl => ?_)
        exact hJ_50 _ (0) _ _ _ _ _ (j_54) (n_66) x_79 (n_66) (Nat.le_refl _) (by omega) hI hM hF (lv_sub hl [3, 4, 2, 1, 0] rfl) (by omega) (by omega) e_69 u_62 (by omega) (by omega) (by omega)
    · exact absurd c_65 (by decide)
  · refine sm_iM hI (va_runV (As := [.int (0)]) (rest := []) ⟨hx, hb, hml, hown, hts⟩ (c_Mo_says2 l D ca ad L _ _ _ hM 0 (by decide)) (kv_Mo_says hts rfl rfl (hts _ tw_1410) ⟨Nat.le_of_ble_eq_true rfl, Nat.le_of_ble_eq_true rfl⟩) (pv_Mo hI hE hM) rfl rfl hl.1 rfl (lv_room (Nat.le_of_ble_eq_true rfl)) d_Mo_take_10 ⟨Nat.le_of_ble_eq_true rfl, Nat.le_of_ble_eq_true rfl⟩) (fun x_84 H locs f σ_82 hI hM hF_83 p_81 => ?_)
    have hF := mq_fr_tr hF hF_83 (by decide)
    have u_85 := IH_fr hF_83 (by decide) u0
    obtain ⟨p_87, o_86, -⟩ := p_81
    have p_87 := p_87.symm
    subst p_87
    refine lv_if_ne (tgt := 18) hx hb d_Mo_take_13 (by decide) (fun c_88 => ?_) (fun c_88 => ?_)
    · exact absurd c_88 (by decide)
    · refine lv_lconst (v := 0) hx hb d_Mo_take_16 (by decide) ?_
      exact sm_lret hx hb hr hlk hI ⟨σ_82, rfl, hM, hF, ⟨u_85, trivial⟩⟩ d_Mo_take_17
theorem d_Mo_advance_0 : decode b_Mo_advance 0 = .ok (.aload_n 0, 1) := by decide +kernel
theorem d_Mo_advance_1 : decode b_Mo_advance 1 = .ok (.iload_n 1, 1) := by decide +kernel
theorem d_Mo_advance_2 : decode b_Mo_advance 2 = .ok (.i2l, 1) := by decide +kernel
theorem d_Mo_advance_3 : decode b_Mo_advance 3 = .ok (.lconst 0, 1) := by decide +kernel
theorem d_Mo_advance_4 : decode b_Mo_advance 4 = .ok (.ldc2_w 352, 3) := by decide +kernel
theorem d_Mo_advance_7 : decode b_Mo_advance 7 = .ok (.invokestatic 187, 3) := by decide +kernel
theorem d_Mo_advance_10 : decode b_Mo_advance 10 = .ok (.invokevirtual 208, 3) := by decide +kernel
theorem d_Mo_advance_13 : decode b_Mo_advance 13 = .ok (.ifCond .ne 5, 3) := by decide +kernel
theorem d_Mo_advance_16 : decode b_Mo_advance 16 = .ok (.iconst 0, 1) := by decide +kernel
theorem d_Mo_advance_17 : decode b_Mo_advance 17 = .ok (.ireturn, 1) := by decide +kernel
theorem d_Mo_advance_18 : decode b_Mo_advance 18 = .ok (.aload_n 0, 1) := by decide +kernel
theorem d_Mo_advance_19 : decode b_Mo_advance 19 = .ok (.aload_n 0, 1) := by decide +kernel
theorem d_Mo_advance_20 : decode b_Mo_advance 20 = .ok (.getfield 282, 3) := by decide +kernel
theorem d_Mo_advance_23 : decode b_Mo_advance 23 = .ok (.iload_n 1, 1) := by decide +kernel
theorem d_Mo_advance_24 : decode b_Mo_advance 24 = .ok (.i2l, 1) := by decide +kernel
theorem d_Mo_advance_25 : decode b_Mo_advance 25 = .ok (.ladd, 1) := by decide +kernel
theorem d_Mo_advance_26 : decode b_Mo_advance 26 = .ok (.putfield 282, 3) := by decide +kernel
theorem d_Mo_advance_29 : decode b_Mo_advance 29 = .ok (.aload_n 0, 1) := by decide +kernel
theorem d_Mo_advance_30 : decode b_Mo_advance 30 = .ok (.aload_n 0, 1) := by decide +kernel
theorem d_Mo_advance_31 : decode b_Mo_advance 31 = .ok (.getfield 239, 3) := by decide +kernel
theorem d_Mo_advance_34 : decode b_Mo_advance 34 = .ok (.iload_n 1, 1) := by decide +kernel
theorem d_Mo_advance_35 : decode b_Mo_advance 35 = .ok (.i2l, 1) := by decide +kernel
theorem d_Mo_advance_36 : decode b_Mo_advance 36 = .ok (.ladd, 1) := by decide +kernel
theorem d_Mo_advance_37 : decode b_Mo_advance 37 = .ok (.putfield 239, 3) := by decide +kernel
theorem d_Mo_advance_40 : decode b_Mo_advance 40 = .ok (.iconst 0, 1) := by decide +kernel
theorem d_Mo_advance_41 : decode b_Mo_advance 41 = .ok (.istore_n 2, 1) := by decide +kernel
theorem d_Mo_advance_42 : decode b_Mo_advance 42 = .ok (.iconst 0, 1) := by decide +kernel
theorem d_Mo_advance_43 : decode b_Mo_advance 43 = .ok (.istore_n 3, 1) := by decide +kernel
theorem d_Mo_advance_44 : decode b_Mo_advance 44 = .ok (.iload_n 3, 1) := by decide +kernel
theorem d_Mo_advance_45 : decode b_Mo_advance 45 = .ok (.iconst 3, 1) := by decide +kernel
theorem d_Mo_advance_46 : decode b_Mo_advance 46 = .ok (.if_icmp .ge 211, 3) := by decide +kernel
theorem d_Mo_advance_49 : decode b_Mo_advance 49 = .ok (.aload_n 0, 1) := by decide +kernel
theorem d_Mo_advance_50 : decode b_Mo_advance 50 = .ok (.getfield 29, 3) := by decide +kernel
theorem d_Mo_advance_53 : decode b_Mo_advance 53 = .ok (.iload_n 3, 1) := by decide +kernel
theorem d_Mo_advance_54 : decode b_Mo_advance 54 = .ok (.iaload, 1) := by decide +kernel
theorem d_Mo_advance_55 : decode b_Mo_advance 55 = .ok (.ifCond .ne 6, 3) := by decide +kernel
theorem d_Mo_advance_58 : decode b_Mo_advance 58 = .ok (.goto 193, 3) := by decide +kernel
theorem d_Mo_advance_61 : decode b_Mo_advance 61 = .ok (.aload_n 0, 1) := by decide +kernel
theorem d_Mo_advance_62 : decode b_Mo_advance 62 = .ok (.getfield 56, 3) := by decide +kernel
theorem d_Mo_advance_65 : decode b_Mo_advance 65 = .ok (.iload_n 3, 1) := by decide +kernel
theorem d_Mo_advance_66 : decode b_Mo_advance 66 = .ok (.iaload, 1) := by decide +kernel
theorem d_Mo_advance_67 : decode b_Mo_advance 67 = .ok (.ifCond .le 24, 3) := by decide +kernel
theorem d_Mo_advance_70 : decode b_Mo_advance 70 = .ok (.aload_n 0, 1) := by decide +kernel
theorem d_Mo_advance_71 : decode b_Mo_advance 71 = .ok (.getfield 282, 3) := by decide +kernel
theorem d_Mo_advance_74 : decode b_Mo_advance 74 = .ok (.aload_n 0, 1) := by decide +kernel
theorem d_Mo_advance_75 : decode b_Mo_advance 75 = .ok (.getfield 59, 3) := by decide +kernel
theorem d_Mo_advance_78 : decode b_Mo_advance 78 = .ok (.iload_n 3, 1) := by decide +kernel
theorem d_Mo_advance_79 : decode b_Mo_advance 79 = .ok (.bipush 12, 2) := by decide +kernel
theorem d_Mo_advance_81 : decode b_Mo_advance 81 = .ok (.imul, 1) := by decide +kernel
theorem d_Mo_advance_82 : decode b_Mo_advance 82 = .ok (.laload, 1) := by decide +kernel
theorem d_Mo_advance_83 : decode b_Mo_advance 83 = .ok (.lsub, 1) := by decide +kernel
theorem d_Mo_advance_84 : decode b_Mo_advance 84 = .ok (.ldc2_w 354, 3) := by decide +kernel
theorem d_Mo_advance_87 : decode b_Mo_advance 87 = .ok (.lcmp, 1) := by decide +kernel
theorem d_Mo_advance_88 : decode b_Mo_advance 88 = .ok (.ifCond .ge 30, 3) := by decide +kernel
theorem d_Mo_advance_91 : decode b_Mo_advance 91 = .ok (.aload_n 0, 1) := by decide +kernel
theorem d_Mo_advance_92 : decode b_Mo_advance 92 = .ok (.getfield 75, 3) := by decide +kernel
theorem d_Mo_advance_95 : decode b_Mo_advance 95 = .ok (.iload_n 3, 1) := by decide +kernel
theorem d_Mo_advance_96 : decode b_Mo_advance 96 = .ok (.baload, 1) := by decide +kernel
theorem d_Mo_advance_97 : decode b_Mo_advance 97 = .ok (.ifCond .eq 25, 3) := by decide +kernel
theorem d_Mo_advance_100 : decode b_Mo_advance 100 = .ok (.aload_n 0, 1) := by decide +kernel
theorem d_Mo_advance_101 : decode b_Mo_advance 101 = .ok (.getfield 282, 3) := by decide +kernel
theorem d_Mo_advance_104 : decode b_Mo_advance 104 = .ok (.aload_n 0, 1) := by decide +kernel
theorem d_Mo_advance_105 : decode b_Mo_advance 105 = .ok (.getfield 78, 3) := by decide +kernel
theorem d_Mo_advance_108 : decode b_Mo_advance 108 = .ok (.iload_n 3, 1) := by decide +kernel
theorem d_Mo_advance_109 : decode b_Mo_advance 109 = .ok (.laload, 1) := by decide +kernel
theorem d_Mo_advance_110 : decode b_Mo_advance 110 = .ok (.lsub, 1) := by decide +kernel
theorem d_Mo_advance_111 : decode b_Mo_advance 111 = .ok (.ldc2_w 354, 3) := by decide +kernel
theorem d_Mo_advance_114 : decode b_Mo_advance 114 = .ok (.lcmp, 1) := by decide +kernel
theorem d_Mo_advance_115 : decode b_Mo_advance 115 = .ok (.ifCond .lt 7, 3) := by decide +kernel
theorem d_Mo_advance_118 : decode b_Mo_advance 118 = .ok (.iconst 1, 1) := by decide +kernel
theorem d_Mo_advance_119 : decode b_Mo_advance 119 = .ok (.goto 4, 3) := by decide +kernel
theorem d_Mo_advance_122 : decode b_Mo_advance 122 = .ok (.iconst 0, 1) := by decide +kernel
theorem d_Mo_advance_123 : decode b_Mo_advance 123 = .ok (.istore 4, 2) := by decide +kernel
theorem d_Mo_advance_125 : decode b_Mo_advance 125 = .ok (.iload 4, 2) := by decide +kernel
theorem d_Mo_advance_127 : decode b_Mo_advance 127 = .ok (.ifCond .eq 8, 3) := by decide +kernel
theorem d_Mo_advance_130 : decode b_Mo_advance 130 = .ok (.aload_n 0, 1) := by decide +kernel
theorem d_Mo_advance_131 : decode b_Mo_advance 131 = .ok (.iload_n 3, 1) := by decide +kernel
theorem d_Mo_advance_132 : decode b_Mo_advance 132 = .ok (.invokevirtual 276, 3) := by decide +kernel
theorem d_Mo_advance_135 : decode b_Mo_advance 135 = .ok (.iload 4, 2) := by decide +kernel
theorem d_Mo_advance_137 : decode b_Mo_advance 137 = .ok (.ifCond .ne 35, 3) := by decide +kernel
theorem d_Mo_advance_140 : decode b_Mo_advance 140 = .ok (.aload_n 0, 1) := by decide +kernel
theorem d_Mo_advance_141 : decode b_Mo_advance 141 = .ok (.getfield 66, 3) := by decide +kernel
theorem d_Mo_advance_144 : decode b_Mo_advance 144 = .ok (.iload_n 3, 1) := by decide +kernel
theorem d_Mo_advance_145 : decode b_Mo_advance 145 = .ok (.iaload, 1) := by decide +kernel
theorem d_Mo_advance_146 : decode b_Mo_advance 146 = .ok (.ifCond .le 26, 3) := by decide +kernel
theorem d_Mo_advance_149 : decode b_Mo_advance 149 = .ok (.aload_n 0, 1) := by decide +kernel
theorem d_Mo_advance_150 : decode b_Mo_advance 150 = .ok (.getfield 282, 3) := by decide +kernel
theorem d_Mo_advance_153 : decode b_Mo_advance 153 = .ok (.aload_n 0, 1) := by decide +kernel
theorem d_Mo_advance_154 : decode b_Mo_advance 154 = .ok (.getfield 69, 3) := by decide +kernel
theorem d_Mo_advance_157 : decode b_Mo_advance 157 = .ok (.iload_n 3, 1) := by decide +kernel
theorem d_Mo_advance_158 : decode b_Mo_advance 158 = .ok (.laload, 1) := by decide +kernel
theorem d_Mo_advance_159 : decode b_Mo_advance 159 = .ok (.lsub, 1) := by decide +kernel
theorem d_Mo_advance_160 : decode b_Mo_advance 160 = .ok (.ldc2_w 356, 3) := by decide +kernel
theorem d_Mo_advance_163 : decode b_Mo_advance 163 = .ok (.lcmp, 1) := by decide +kernel
theorem d_Mo_advance_164 : decode b_Mo_advance 164 = .ok (.ifCond .lt 8, 3) := by decide +kernel
theorem d_Mo_advance_167 : decode b_Mo_advance 167 = .ok (.aload_n 0, 1) := by decide +kernel
theorem d_Mo_advance_168 : decode b_Mo_advance 168 = .ok (.iload_n 3, 1) := by decide +kernel
theorem d_Mo_advance_169 : decode b_Mo_advance 169 = .ok (.invokevirtual 358, 3) := by decide +kernel
theorem d_Mo_advance_172 : decode b_Mo_advance 172 = .ok (.aload_n 0, 1) := by decide +kernel
theorem d_Mo_advance_173 : decode b_Mo_advance 173 = .ok (.getfield 29, 3) := by decide +kernel
theorem d_Mo_advance_176 : decode b_Mo_advance 176 = .ok (.iload_n 3, 1) := by decide +kernel
theorem d_Mo_advance_177 : decode b_Mo_advance 177 = .ok (.iaload, 1) := by decide +kernel
theorem d_Mo_advance_178 : decode b_Mo_advance 178 = .ok (.ifCond .le 56, 3) := by decide +kernel
theorem d_Mo_advance_181 : decode b_Mo_advance 181 = .ok (.aload_n 0, 1) := by decide +kernel
theorem d_Mo_advance_182 : decode b_Mo_advance 182 = .ok (.getfield 75, 3) := by decide +kernel
theorem d_Mo_advance_185 : decode b_Mo_advance 185 = .ok (.iload_n 3, 1) := by decide +kernel
theorem d_Mo_advance_186 : decode b_Mo_advance 186 = .ok (.baload, 1) := by decide +kernel
theorem d_Mo_advance_187 : decode b_Mo_advance 187 = .ok (.ifCond .ne 47, 3) := by decide +kernel
theorem d_Mo_advance_190 : decode b_Mo_advance 190 = .ok (.aload_n 0, 1) := by decide +kernel
theorem d_Mo_advance_191 : decode b_Mo_advance 191 = .ok (.getfield 282, 3) := by decide +kernel
theorem d_Mo_advance_194 : decode b_Mo_advance 194 = .ok (.aload_n 0, 1) := by decide +kernel
theorem d_Mo_advance_195 : decode b_Mo_advance 195 = .ok (.getfield 72, 3) := by decide +kernel
theorem d_Mo_advance_198 : decode b_Mo_advance 198 = .ok (.iload_n 3, 1) := by decide +kernel
theorem d_Mo_advance_199 : decode b_Mo_advance 199 = .ok (.laload, 1) := by decide +kernel
theorem d_Mo_advance_200 : decode b_Mo_advance 200 = .ok (.lsub, 1) := by decide +kernel
theorem d_Mo_advance_201 : decode b_Mo_advance 201 = .ok (.ldc2_w 361, 3) := by decide +kernel
theorem d_Mo_advance_204 : decode b_Mo_advance 204 = .ok (.lcmp, 1) := by decide +kernel
theorem d_Mo_advance_205 : decode b_Mo_advance 205 = .ok (.ifCond .lt 29, 3) := by decide +kernel
theorem d_Mo_advance_208 : decode b_Mo_advance 208 = .ok (.aload_n 0, 1) := by decide +kernel
theorem d_Mo_advance_209 : decode b_Mo_advance 209 = .ok (.getfield 75, 3) := by decide +kernel
theorem d_Mo_advance_212 : decode b_Mo_advance 212 = .ok (.iload_n 3, 1) := by decide +kernel
theorem d_Mo_advance_213 : decode b_Mo_advance 213 = .ok (.iconst 1, 1) := by decide +kernel
theorem d_Mo_advance_214 : decode b_Mo_advance 214 = .ok (.bastore, 1) := by decide +kernel
theorem d_Mo_advance_215 : decode b_Mo_advance 215 = .ok (.aload_n 0, 1) := by decide +kernel
theorem d_Mo_advance_216 : decode b_Mo_advance 216 = .ok (.getfield 78, 3) := by decide +kernel
theorem d_Mo_advance_219 : decode b_Mo_advance 219 = .ok (.iload_n 3, 1) := by decide +kernel
theorem d_Mo_advance_220 : decode b_Mo_advance 220 = .ok (.aload_n 0, 1) := by decide +kernel
theorem d_Mo_advance_221 : decode b_Mo_advance 221 = .ok (.getfield 282, 3) := by decide +kernel
theorem d_Mo_advance_224 : decode b_Mo_advance 224 = .ok (.lastore, 1) := by decide +kernel
theorem d_Mo_advance_225 : decode b_Mo_advance 225 = .ok (.aload_n 0, 1) := by decide +kernel
theorem d_Mo_advance_226 : decode b_Mo_advance 226 = .ok (.iload_n 3, 1) := by decide +kernel
theorem d_Mo_advance_227 : decode b_Mo_advance 227 = .ok (.bipush 67, 2) := by decide +kernel
theorem d_Mo_advance_229 : decode b_Mo_advance 229 = .ok (.iconst 0, 1) := by decide +kernel
theorem d_Mo_advance_230 : decode b_Mo_advance 230 = .ok (.iconst 0, 1) := by decide +kernel
theorem d_Mo_advance_231 : decode b_Mo_advance 231 = .ok (.invokevirtual 286, 3) := by decide +kernel
theorem d_Mo_advance_234 : decode b_Mo_advance 234 = .ok (.aload_n 0, 1) := by decide +kernel
theorem d_Mo_advance_235 : decode b_Mo_advance 235 = .ok (.getfield 29, 3) := by decide +kernel
theorem d_Mo_advance_238 : decode b_Mo_advance 238 = .ok (.iload_n 3, 1) := by decide +kernel
theorem d_Mo_advance_239 : decode b_Mo_advance 239 = .ok (.iaload, 1) := by decide +kernel
theorem d_Mo_advance_240 : decode b_Mo_advance 240 = .ok (.ifCond .ne 9, 3) := by decide +kernel
theorem d_Mo_advance_243 : decode b_Mo_advance 243 = .ok (.iload_n 2, 1) := by decide +kernel
theorem d_Mo_advance_244 : decode b_Mo_advance 244 = .ok (.iconst 1, 1) := by decide +kernel
theorem d_Mo_advance_245 : decode b_Mo_advance 245 = .ok (.iadd, 1) := by decide +kernel
theorem d_Mo_advance_246 : decode b_Mo_advance 246 = .ok (.goto 4, 3) := by decide +kernel
theorem d_Mo_advance_249 : decode b_Mo_advance 249 = .ok (.iload_n 2, 1) := by decide +kernel
theorem d_Mo_advance_250 : decode b_Mo_advance 250 = .ok (.istore_n 2, 1) := by decide +kernel
theorem d_Mo_advance_251 : decode b_Mo_advance 251 = .ok (.iinc 3 1, 3) := by decide +kernel
theorem d_Mo_advance_254 : decode b_Mo_advance 254 = .ok (.goto (-210), 3) := by decide +kernel
theorem d_Mo_advance_257 : decode b_Mo_advance 257 = .ok (.aload_n 0, 1) := by decide +kernel
theorem d_Mo_advance_258 : decode b_Mo_advance 258 = .ok (.invokevirtual 363, 3) := by decide +kernel
theorem d_Mo_advance_261 : decode b_Mo_advance 261 = .ok (.istore_n 3, 1) := by decide +kernel
theorem d_Mo_advance_262 : decode b_Mo_advance 262 = .ok (.aload_n 0, 1) := by decide +kernel
theorem d_Mo_advance_263 : decode b_Mo_advance 263 = .ok (.invokevirtual 216, 3) := by decide +kernel
theorem d_Mo_advance_266 : decode b_Mo_advance 266 = .ok (.iload_n 2, 1) := by decide +kernel
theorem d_Mo_advance_267 : decode b_Mo_advance 267 = .ok (.iload_n 3, 1) := by decide +kernel
theorem d_Mo_advance_268 : decode b_Mo_advance 268 = .ok (.iadd, 1) := by decide +kernel
theorem d_Mo_advance_269 : decode b_Mo_advance 269 = .ok (.aload_n 0, 1) := by decide +kernel
theorem d_Mo_advance_270 : decode b_Mo_advance 270 = .ok (.invokevirtual 363, 3) := by decide +kernel
theorem d_Mo_advance_273 : decode b_Mo_advance 273 = .ok (.isub, 1) := by decide +kernel
theorem d_Mo_advance_274 : decode b_Mo_advance 274 = .ok (.ireturn, 1) := by decide +kernel
set_option maxRecDepth 100000 in
set_option maxHeartbeats 4000000 in
theorem c_Mo_advance (l : Launch) (D : va_G) (ca : Nat → ClassId) (ad : Nat → Nat) (L : List Nat) (f0 : Nat → va_E) (sz : Nat) (σ0 : mq_S) (hM : mq_B ca ad σ0 L f0) (x1 : Int32) (u0 : IH σ0) :
    Met l y_Mo_advance (Cond.code y_Mo_advance b_Mo_advance 5 (some .int) :: wg) { frames := 7, cells := 0, slots := 0, locals := 166 } (va_Pc [.ref (ad 71), .int (x1)] (sm_P D cl_all (ty_s ca) ek L f0 sz)) (sm_Qi D (ty_s ca) L f0 sz (fun r u => mq_po ca ad L σ0 [0, 10, 12, 13, 14, 15, 16, 18, 19, 22, 23, 24, 25, 28, 29, 30, 31, 32, 33, 34, 42, 52, 54, 55, 65, 69, 70] (fun σ => IH σ ∧ True) u)) 0 0 (va_A (va_pl L f0) sz) := by
  refine sm_start (by decide) (Nat.le_of_ble_eq_true rfl) ?_
  intro p e s m below meth c ls hx hb hml hr hlk hnm hts hown hsz hE hI hl
  have hl : lv_has ls 5 [(0, .ref (ad 71)), (1, .int (x1))] := hl
  have hF : mq_fr [0, 10, 12, 13, 14, 15, 16, 18, 19, 22, 23, 24, 25, 28, 29, 30, 31, 32, 33, 34, 42, 52, 54, 55, 65, 69, 70] σ0 σ0 := mq_fr_rf
  have hJ_44 : ∀ (N k : Nat) (H : Heap) (locs : List Loc) (f : Nat → va_E) (σ : mq_S) (ls : Array Slot) (y1 : Int32) (y2 : Int32), 3 + 1 - k ≤ N → k ≤ 3 → sw_I D cl_all (ty_s ca) (va_A (va_pl L f0) sz) s H locs L f → mq_B ca ad σ L f → mq_fr [0, 10, 12, 13, 14, 15, 16, 18, 19, 22, 23, 24, 25, 28, 29, 30, 31, 32, 33, 34, 42, 52, 54, 55, 65, 69, 70] σ0 σ → lv_has ls 5 [(0, .ref (ad 71)), (1, .int (y1)), (2, .int (y2)), (3, .int (nI k))] → (IH σ) → W p l e { frames := 7, cells := 0, slots := 0, locals := 166 } s m ([.ref (ad 71), .int (x1)] : List Value).toArray below meth c H locs 0 0 (MQ below (sm_Qi D (ty_s ca) L f0 sz (fun r u => mq_po ca ad L σ0 [0, 10, 12, 13, 14, 15, 16, 18, 19, 22, 23, 24, 25, 28, 29, 30, 31, 32, 33, 34, 42, 52, 54, 55, 65, 69, 70] (fun σ => IH σ ∧ True) u)) ([.ref (ad 71), .int (x1)] : List Value).toArray s 0 0 (va_A (va_pl L f0) sz)) (F0 m 44 ls []) := by
    intro N
    induction N with
    | zero => intros; omega
    | succ N ih =>
      intro k H locs f σ ls y1 y2 hN hk hI hM hF hl u90
      have hJ_251 : ∀ (H : Heap) (locs : List Loc) (f : Nat → va_E) (σ : mq_S) (ls : Array Slot) (y1 : Int32) (y2 : Int32), sw_I D cl_all (ty_s ca) (va_A (va_pl L f0) sz) s H locs L f → mq_B ca ad σ L f → mq_fr [0, 10, 12, 13, 14, 15, 16, 18, 19, 22, 23, 24, 25, 28, 29, 30, 31, 32, 33, 34, 42, 52, 54, 55, 65, 69, 70] σ0 σ → lv_has ls 5 [(0, .ref (ad 71)), (1, .int (y1)), (2, .int (y2)), (3, .int (nI k))] → (IH σ) → (k < 3) → W p l e { frames := 7, cells := 0, slots := 0, locals := 166 } s m ([.ref (ad 71), .int (x1)] : List Value).toArray below meth c H locs 0 0 (MQ below (sm_Qi D (ty_s ca) L f0 sz (fun r u => mq_po ca ad L σ0 [0, 10, 12, 13, 14, 15, 16, 18, 19, 22, 23, 24, 25, 28, 29, 30, 31, 32, 33, 34, 42, 52, 54, 55, 65, 69, 70] (fun σ => IH σ ∧ True) u)) ([.ref (ad 71), .int (x1)] : List Value).toArray s 0 0 (va_A (va_pl L f0) sz)) (F0 m 251 ls []) := by
        intro H locs f σ ls y1 y2 hI hM hF hl u90 hk3
        refine lv_iinc (v := nI (k + 1)) (lv' := [(3, .int (nI (k + 1))), (0, .ref (ad 71)), (1, .int (y1)), (2, .int (y2))]) hx hb d_Mo_advance_251 hl (k := 3) rfl (nI_1 _) (by decide) rfl (fun ls hl => ?_)
        refine lv_goto (tgt := 44) hx hb d_Mo_advance_254 (by decide) ?_
        exact ih ((k + 1)) _ _ _ _ _ y1 y2 (by omega) (by omega) hI hM hF (lv_sub hl [1, 2, 3, 0] rfl) u90
      have hJ_234 : ∀ (H : Heap) (locs : List Loc) (f : Nat → va_E) (σ : mq_S) (ls : Array Slot) (y1 : Int32) (y2 : Int32) (y4 : Int32), sw_I D cl_all (ty_s ca) (va_A (va_pl L f0) sz) s H locs L f → mq_B ca ad σ L f → mq_fr [0, 10, 12, 13, 14, 15, 16, 18, 19, 22, 23, 24, 25, 28, 29, 30, 31, 32, 33, 34, 42, 52, 54, 55, 65, 69, 70] σ0 σ → lv_has ls 5 [(0, .ref (ad 71)), (1, .int (y1)), (2, .int (y2)), (3, .int (nI k)), (4, .int (y4))] → (y4 = 0 ∨ y4 = 1) → (IH σ) → (k < 3) → W p l e { frames := 7, cells := 0, slots := 0, locals := 166 } s m ([.ref (ad 71), .int (x1)] : List Value).toArray below meth c H locs 0 0 (MQ below (sm_Qi D (ty_s ca) L f0 sz (fun r u => mq_po ca ad L σ0 [0, 10, 12, 13, 14, 15, 16, 18, 19, 22, 23, 24, 25, 28, 29, 30, 31, 32, 33, 34, 42, 52, 54, 55, 65, 69, 70] (fun σ => IH σ ∧ True) u)) ([.ref (ad 71), .int (x1)] : List Value).toArray s 0 0 (va_A (va_pl L f0) sz)) (F0 m 234 ls []) := by
        intro H locs f σ ls y1 y2 y4 hI hM hF hl py4 u90 hk3
        refine lv_aload_n hx hb d_Mo_advance_234 rfl (lv_at hl 0 rfl) ?_
        refine mq_get (k := 13) (v := .ref (ad 13)) hx hb hts hown hI hM (by decide) rfl rfl (hts _ tw_1182) d_Mo_advance_235 ?_
        refine lv_iload_n hx hb d_Mo_advance_238 rfl (lv_at hl 3 rfl) ?_
        obtain ⟨x_1, e_2⟩ : ∃ z, σ.2.2.1 13 (k) = z := ⟨_, rfl⟩
        refine mq_iald (k := 13) (j := k) (v := x_1) hx hb hI hM (by decide) rfl (by show k < 4; omega) (by decide) e_2 d_Mo_advance_239 ?_
        refine lv_if_ne (tgt := 249) hx hb d_Mo_advance_240 (by decide) (fun c_3 => ?_) (fun c_3 => ?_)
        · refine lv_iload_n hx hb d_Mo_advance_249 rfl (lv_at hl 2 rfl) ?_
          refine lv_istore_n (lv' := [(2, .int (y2)), (0, .ref (ad 71)), (1, .int (y1)), (3, .int (nI k)), (4, .int (y4))]) hx hb d_Mo_advance_250 rfl hl (by decide) rfl (fun ls hl => ?_)
          exact hJ_251 _ _ _ _ _ y1 y2 hI hM hF (lv_sub hl [1, 2, 0, 3] rfl) u90 (by omega)
        · refine lv_iload_n hx hb d_Mo_advance_243 rfl (lv_at hl 2 rfl) ?_
          refine lv_iconst (v := 1) hx hb d_Mo_advance_244 (by decide) ?_
          refine lv_iadd hx hb d_Mo_advance_245 ?_
          refine lv_topi (fun x_4 e_5 => ?_)
          refine lv_goto (tgt := 250) hx hb d_Mo_advance_246 (by decide) ?_
          refine lv_istore_n (lv' := [(2, .int (x_4)), (0, .ref (ad 71)), (1, .int (y1)), (3, .int (nI k)), (4, .int (y4))]) hx hb d_Mo_advance_250 rfl hl (by decide) rfl (fun ls hl => ?_)
          exact hJ_251 _ _ _ _ _ y1 x_4 hI hM hF (lv_sub hl [1, 2, 0, 3] rfl) u90 (by omega)
      have hJ_172 : ∀ (H : Heap) (locs : List Loc) (f : Nat → va_E) (σ : mq_S) (ls : Array Slot) (y1 : Int32) (y2 : Int32) (y4 : Int32), sw_I D cl_all (ty_s ca) (va_A (va_pl L f0) sz) s H locs L f → mq_B ca ad σ L f → mq_fr [0, 10, 12, 13, 14, 15, 16, 18, 19, 22, 23, 24, 25, 28, 29, 30, 31, 32, 33, 34, 42, 52, 54, 55, 65, 69, 70] σ0 σ → lv_has ls 5 [(0, .ref (ad 71)), (1, .int (y1)), (2, .int (y2)), (3, .int (nI k)), (4, .int (y4))] → (y4 = 0 ∨ y4 = 1) → (IH σ) → (k < 3) → W p l e { frames := 7, cells := 0, slots := 0, locals := 166 } s m ([.ref (ad 71), .int (x1)] : List Value).toArray below meth c H locs 0 0 (MQ below (sm_Qi D (ty_s ca) L f0 sz (fun r u => mq_po ca ad L σ0 [0, 10, 12, 13, 14, 15, 16, 18, 19, 22, 23, 24, 25, 28, 29, 30, 31, 32, 33, 34, 42, 52, 54, 55, 65, 69, 70] (fun σ => IH σ ∧ True) u)) ([.ref (ad 71), .int (x1)] : List Value).toArray s 0 0 (va_A (va_pl L f0) sz)) (F0 m 172 ls []) := by
        intro H locs f σ ls y1 y2 y4 hI hM hF hl py4 u90 hk3
        refine lv_aload_n hx hb d_Mo_advance_172 rfl (lv_at hl 0 rfl) ?_
        refine mq_get (k := 13) (v := .ref (ad 13)) hx hb hts hown hI hM (by decide) rfl rfl (hts _ tw_1182) d_Mo_advance_173 ?_
        refine lv_iload_n hx hb d_Mo_advance_176 rfl (lv_at hl 3 rfl) ?_
        obtain ⟨x_6, e_7⟩ : ∃ z, σ.2.2.1 13 (k) = z := ⟨_, rfl⟩
        refine mq_iald (k := 13) (j := k) (v := x_6) hx hb hI hM (by decide) rfl (by show k < 4; omega) (by decide) e_7 d_Mo_advance_177 ?_
        refine lv_if_le (tgt := 234) hx hb d_Mo_advance_178 (by decide) (fun c_8 => ?_) (fun c_8 => ?_)
        · exact hJ_234 _ _ _ _ _ y1 y2 y4 hI hM hF (lv_sub hl [0, 1, 2, 3, 4] rfl) py4 u90 (by omega)
        · refine lv_aload_n hx hb d_Mo_advance_181 rfl (lv_at hl 0 rfl) ?_
          refine mq_get (k := 28) (v := .ref (ad 28)) hx hb hts hown hI hM (by decide) rfl rfl (hts _ tw_1197) d_Mo_advance_182 ?_
          refine lv_iload_n hx hb d_Mo_advance_185 rfl (lv_at hl 3 rfl) ?_
          obtain ⟨n_9, h_10, h_11, e_12⟩ := hM.2.2.2.2.2 28 (k)
          have p_13 : nI n_9 = 0 ∨ nI n_9 = 1 := mq_zok ⟨n_9, h_10, h_11, rfl⟩
          refine mq_zald (k := 28) (j := k) (v := nI n_9) hx hb hI hM (by decide) rfl (by show k < 3; omega) (by decide) e_12 d_Mo_advance_186 ?_
          refine lv_if_ne (tgt := 234) hx hb d_Mo_advance_187 (by decide) (fun c_14 => ?_) (fun c_14 => ?_)
          · exact hJ_234 _ _ _ _ _ y1 y2 y4 hI hM hF (lv_sub hl [0, 1, 2, 3, 4] rfl) py4 u90 (by omega)
          · refine lv_aload_n hx hb d_Mo_advance_190 rfl (lv_at hl 0 rfl) ?_
            refine mq_get (k := 12) (v := .long (σ.2.1 12)) hx hb hts hown hI hM (by decide) rfl rfl (hts _ tw_1181) d_Mo_advance_191 ?_
            refine lv_topl (fun x_15 e_16 => ?_)
            refine lv_aload_n hx hb d_Mo_advance_194 rfl (lv_at hl 0 rfl) ?_
            refine mq_get (k := 27) (v := .ref (ad 27)) hx hb hts hown hI hM (by decide) rfl rfl (hts _ tw_1196) d_Mo_advance_195 ?_
            refine lv_iload_n hx hb d_Mo_advance_198 rfl (lv_at hl 3 rfl) ?_
            refine mq_lald (k := 27) (j := k) hx hb hI hM (by decide) rfl (by show k < 3; omega) (by decide) d_Mo_advance_199 ?_
            refine lv_topl (fun x_17 e_18 => ?_)
            refine lv_lsub hx hb d_Mo_advance_200 ?_
            refine lv_topl (fun x_19 e_20 => ?_)
            refine lv_ldc2 (v := 20000) hx hb hown (hts _ tw_1565) d_Mo_advance_201 ?_
            refine W.lcmp hx hb d_Mo_advance_204 ?_
            refine lv_topi (fun x_21 e_22 => ?_)
            refine lv_if_lt (tgt := 234) hx hb d_Mo_advance_205 (by decide) (fun c_23 => ?_) (fun c_23 => ?_)
            · exact hJ_234 _ _ _ _ _ y1 y2 y4 hI hM hF (lv_sub hl [0, 1, 2, 3, 4] rfl) py4 u90 (by omega)
            · refine lv_aload_n hx hb d_Mo_advance_208 rfl (lv_at hl 0 rfl) ?_
              refine mq_get (k := 28) (v := .ref (ad 28)) hx hb hts hown hI hM (by decide) rfl rfl (hts _ tw_1197) d_Mo_advance_209 ?_
              refine lv_iload_n hx hb d_Mo_advance_212 rfl (lv_at hl 3 rfl) ?_
              refine lv_iconst (v := 1) hx hb d_Mo_advance_213 (by decide) ?_
              refine mq_zast (k := 28) (j := k) hx hb hI hM (by decide) rfl (by show k < 3; omega) (by decide) rfl (by decide) d_Mo_advance_214 (fun H locs f σ_24 e_25 hI hM => ?_)
              have hF := mq_fr_ug hF e_25 rfl (Or.inl rfl)
              have u_26 := IH_fr (mq_fr_ug (X := [28]) mq_fr_rf e_25 rfl (Or.inl rfl)) (by decide) u90
              refine lv_aload_n hx hb d_Mo_advance_215 rfl (lv_at hl 0 rfl) ?_
              refine mq_get (k := 29) (v := .ref (ad 29)) hx hb hts hown hI hM (by decide) rfl rfl (hts _ tw_1198) d_Mo_advance_216 ?_
              refine lv_iload_n hx hb d_Mo_advance_219 rfl (lv_at hl 3 rfl) ?_
              refine lv_aload_n hx hb d_Mo_advance_220 rfl (lv_at hl 0 rfl) ?_
              refine mq_get (k := 12) (v := .long (σ_24.2.1 12)) hx hb hts hown hI hM (by decide) rfl rfl (hts _ tw_1181) d_Mo_advance_221 ?_
              refine lv_topl (fun x_27 e_28 => ?_)
              refine mq_last (k := 29) (j := k) hx hb hI hM (by decide) rfl (by show k < 3; omega) (by decide) d_Mo_advance_224 (fun H locs f σ_29 e_30 hI hM => ?_)
              have hF := mq_fr_uh hF e_30 rfl
              have u_31 := IH_fr (mq_fr_uh (X := [29]) mq_fr_rf e_30 rfl) (by decide) u_26
              refine lv_aload_n hx hb d_Mo_advance_225 rfl (lv_at hl 0 rfl) ?_
              refine lv_iload_n hx hb d_Mo_advance_226 rfl (lv_at hl 3 rfl) ?_
              refine lv_bipush (v := 67) hx hb d_Mo_advance_227 (by decide) ?_
              refine lv_iconst (v := 0) hx hb d_Mo_advance_229 (by decide) ?_
              refine lv_iconst (v := 0) hx hb d_Mo_advance_230 (by decide) ?_
              refine sm_vM hI (va_runV (As := [.int (nI k), .int (67), .int (0), .int (0)]) (rest := []) ⟨hx, hb, hml, hown, hts⟩ (c_Mo_frame l D ca ad L _ _ _ hM (k) (by omega) 67 0 0 (by decide) u_31) (kv_Mo_frame hts rfl rfl (hts _ tw_1509) ⟨Nat.le_of_ble_eq_true rfl, Nat.le_of_ble_eq_true rfl⟩) (pv_Mo hI hE hM) rfl rfl hl.1 rfl (lv_room (Nat.le_of_ble_eq_true rfl)) d_Mo_advance_231 ⟨Nat.le_of_ble_eq_true rfl, Nat.le_of_ble_eq_true rfl⟩) (fun H locs f σ_33 hI hM hF_34 p_32 => ?_)
              have hF := mq_fr_tr hF hF_34 (by decide)
              obtain ⟨u_35, -⟩ := p_32
              exact hJ_234 _ _ _ _ _ y1 y2 y4 hI hM hF (lv_sub hl [0, 1, 2, 3, 4] rfl) py4 u_35 (by omega)
      have hJ_123 : ∀ (H : Heap) (locs : List Loc) (f : Nat → va_E) (σ : mq_S) (ls : Array Slot) (y1 : Int32) (y2 : Int32) (z0 : Int32), sw_I D cl_all (ty_s ca) (va_A (va_pl L f0) sz) s H locs L f → mq_B ca ad σ L f → mq_fr [0, 10, 12, 13, 14, 15, 16, 18, 19, 22, 23, 24, 25, 28, 29, 30, 31, 32, 33, 34, 42, 52, 54, 55, 65, 69, 70] σ0 σ → lv_has ls 5 [(0, .ref (ad 71)), (1, .int (y1)), (2, .int (y2)), (3, .int (nI k))] → (z0 = 0 ∨ z0 = 1) → (IH σ) → (k < 3) → W p l e { frames := 7, cells := 0, slots := 0, locals := 166 } s m ([.ref (ad 71), .int (x1)] : List Value).toArray below meth c H locs 0 0 (MQ below (sm_Qi D (ty_s ca) L f0 sz (fun r u => mq_po ca ad L σ0 [0, 10, 12, 13, 14, 15, 16, 18, 19, 22, 23, 24, 25, 28, 29, 30, 31, 32, 33, 34, 42, 52, 54, 55, 65, 69, 70] (fun σ => IH σ ∧ True) u)) ([.ref (ad 71), .int (x1)] : List Value).toArray s 0 0 (va_A (va_pl L f0) sz)) (F0 m 123 ls [.int (z0)]) := by
        intro H locs f σ ls y1 y2 z0 hI hM hF hl pz0 u90 hk3
        refine lv_istore (lv' := [(4, .int (z0)), (0, .ref (ad 71)), (1, .int (y1)), (2, .int (y2)), (3, .int (nI k))]) hx hb d_Mo_advance_123 hl (by decide) rfl (fun ls hl => ?_)
        refine lv_iload hx hb d_Mo_advance_125 (lv_at hl 0 rfl) ?_
        refine lv_if_eq (tgt := 135) hx hb d_Mo_advance_127 (by decide) (fun c_36 => ?_) (fun c_36 => ?_)
        · refine lv_iload hx hb d_Mo_advance_135 (lv_at hl 0 rfl) ?_
          refine lv_if_ne (tgt := 172) hx hb d_Mo_advance_137 (by decide) (fun c_37 => ?_) (fun c_37 => ?_)
          · exact absurd c_36 c_37
          · refine lv_aload_n hx hb d_Mo_advance_140 rfl (lv_at hl 1 rfl) ?_
            refine mq_get (k := 25) (v := .ref (ad 25)) hx hb hts hown hI hM (by decide) rfl rfl (hts _ tw_1194) d_Mo_advance_141 ?_
            refine lv_iload_n hx hb d_Mo_advance_144 rfl (lv_at hl 4 rfl) ?_
            obtain ⟨x_38, e_39⟩ : ∃ z, σ.2.2.1 25 (k) = z := ⟨_, rfl⟩
            refine mq_iald (k := 25) (j := k) (v := x_38) hx hb hI hM (by decide) rfl (by show k < 3; omega) (by decide) e_39 d_Mo_advance_145 ?_
            refine lv_if_le (tgt := 172) hx hb d_Mo_advance_146 (by decide) (fun c_40 => ?_) (fun c_40 => ?_)
            · exact hJ_172 _ _ _ _ _ y1 y2 z0 hI hM hF (lv_sub hl [1, 2, 3, 4, 0] rfl) pz0 u90 (by omega)
            · refine lv_aload_n hx hb d_Mo_advance_149 rfl (lv_at hl 1 rfl) ?_
              refine mq_get (k := 12) (v := .long (σ.2.1 12)) hx hb hts hown hI hM (by decide) rfl rfl (hts _ tw_1181) d_Mo_advance_150 ?_
              refine lv_topl (fun x_41 e_42 => ?_)
              refine lv_aload_n hx hb d_Mo_advance_153 rfl (lv_at hl 1 rfl) ?_
              refine mq_get (k := 26) (v := .ref (ad 26)) hx hb hts hown hI hM (by decide) rfl rfl (hts _ tw_1195) d_Mo_advance_154 ?_
              refine lv_iload_n hx hb d_Mo_advance_157 rfl (lv_at hl 4 rfl) ?_
              refine mq_lald (k := 26) (j := k) hx hb hI hM (by decide) rfl (by show k < 3; omega) (by decide) d_Mo_advance_158 ?_
              refine lv_topl (fun x_43 e_44 => ?_)
              refine lv_lsub hx hb d_Mo_advance_159 ?_
              refine lv_topl (fun x_45 e_46 => ?_)
              refine lv_ldc2 (v := 10000) hx hb hown (hts _ tw_1560) d_Mo_advance_160 ?_
              refine W.lcmp hx hb d_Mo_advance_163 ?_
              refine lv_topi (fun x_47 e_48 => ?_)
              refine lv_if_lt (tgt := 172) hx hb d_Mo_advance_164 (by decide) (fun c_49 => ?_) (fun c_49 => ?_)
              · exact hJ_172 _ _ _ _ _ y1 y2 z0 hI hM hF (lv_sub hl [1, 2, 3, 4, 0] rfl) pz0 u90 (by omega)
              · refine lv_aload_n hx hb d_Mo_advance_167 rfl (lv_at hl 1 rfl) ?_
                refine lv_iload_n hx hb d_Mo_advance_168 rfl (lv_at hl 4 rfl) ?_
                refine sm_vM hI (va_runV (As := [.int (nI k)]) (rest := []) ⟨hx, hb, hml, hown, hts⟩ (c_Mo_confirms l D ca ad L _ _ _ hM (k) (by omega) u90) (kv_Mo_confirms hts rfl rfl (hts _ tw_1561) ⟨Nat.le_of_ble_eq_true rfl, Nat.le_of_ble_eq_true rfl⟩) (pv_Mo hI hE hM) rfl rfl hl.1 rfl (lv_room (Nat.le_of_ble_eq_true rfl)) d_Mo_advance_169 ⟨Nat.le_of_ble_eq_true rfl, Nat.le_of_ble_eq_true rfl⟩) (fun H locs f σ_51 hI hM hF_52 p_50 => ?_)
                have hF := mq_fr_tr hF hF_52 (by decide)
                obtain ⟨u_53, -⟩ := p_50
                exact hJ_172 _ _ _ _ _ y1 y2 z0 hI hM hF (lv_sub hl [1, 2, 3, 4, 0] rfl) pz0 u_53 (by omega)
        · refine lv_aload_n hx hb d_Mo_advance_130 rfl (lv_at hl 1 rfl) ?_
          refine lv_iload_n hx hb d_Mo_advance_131 rfl (lv_at hl 4 rfl) ?_
          refine sm_vM hI (va_runV (As := [.int (nI k)]) (rest := []) ⟨hx, hb, hml, hown, hts⟩ (c_Mo_shut l D ca ad L _ _ _ hM (k) (by omega) u90) (kv_Mo_shut hts rfl rfl (hts _ tw_1513) ⟨Nat.le_of_ble_eq_true rfl, Nat.le_of_ble_eq_true rfl⟩) (pv_Mo hI hE hM) rfl rfl hl.1 rfl (lv_room (Nat.le_of_ble_eq_true rfl)) d_Mo_advance_132 ⟨Nat.le_of_ble_eq_true rfl, Nat.le_of_ble_eq_true rfl⟩) (fun H locs f σ_55 hI hM hF_56 p_54 => ?_)
          have hF := mq_fr_tr hF hF_56 (by decide)
          obtain ⟨o_57, o_58, u_59, -⟩ := p_54
          refine lv_iload hx hb d_Mo_advance_135 (lv_at hl 0 rfl) ?_
          refine lv_if_ne (tgt := 172) hx hb d_Mo_advance_137 (by decide) (fun c_60 => ?_) (fun c_60 => ?_)
          · exact hJ_172 _ _ _ _ _ y1 y2 z0 hI hM hF (lv_sub hl [1, 2, 3, 4, 0] rfl) pz0 u_59 (by omega)
          · exact absurd c_60 c_36
      refine lv_iload_n hx hb d_Mo_advance_44 rfl (lv_at hl 3 rfl) ?_
      refine lv_iconst (v := 3) hx hb d_Mo_advance_45 (by decide) ?_
      refine lv_icmp_ge (tgt := 257) hx hb d_Mo_advance_46 (by decide) (fun c_61 => ?_) (fun c_61 => ?_)
      · have k_62 : 3 ≤ k := (nI_leI (a := 3) (b := k) (by omega) (by omega)).mp c_61
        refine lv_aload_n hx hb d_Mo_advance_257 rfl (lv_at hl 0 rfl) ?_
        refine sm_iP hI (va_runV (As := []) (rest := []) ⟨hx, hb, hml, hown, hts⟩ (c_Mo_opened l D ca ad L _ _ _ hM ) (kv_Mo_opened hts rfl rfl (hts _ tw_1566) ⟨Nat.le_of_ble_eq_true rfl, Nat.le_of_ble_eq_true rfl⟩) (pv_Mo hI hE hM) rfl rfl hl.1 rfl (lv_room (Nat.le_of_ble_eq_true rfl)) d_Mo_advance_258 ⟨Nat.le_of_ble_eq_true rfl, Nat.le_of_ble_eq_true rfl⟩) (fun x_64 H locs p_63 hI => ?_)
        refine lv_istore_n (lv' := [(3, .int (x_64)), (0, .ref (ad 71)), (1, .int (y1)), (2, .int (y2))]) hx hb d_Mo_advance_261 rfl hl (by decide) rfl (fun ls hl => ?_)
        refine lv_aload_n hx hb d_Mo_advance_262 rfl (lv_at hl 1 rfl) ?_
        refine sm_vM hI (va_runV (As := []) (rest := []) ⟨hx, hb, hml, hown, hts⟩ (c_Mo_sendAll l D ca ad L _ _ _ hM u90) (kv_Mo_sendAll hts rfl rfl (hts _ tw_1422) ⟨Nat.le_of_ble_eq_true rfl, Nat.le_of_ble_eq_true rfl⟩) (pv_Mo hI hE hM) rfl rfl hl.1 rfl (lv_room (Nat.le_of_ble_eq_true rfl)) d_Mo_advance_263 ⟨Nat.le_of_ble_eq_true rfl, Nat.le_of_ble_eq_true rfl⟩) (fun H locs f σ_66 hI hM hF_67 p_65 => ?_)
        have hF := mq_fr_tr hF hF_67 (by decide)
        obtain ⟨u_68, -⟩ := p_65
        refine lv_iload_n hx hb d_Mo_advance_266 rfl (lv_at hl 3 rfl) ?_
        refine lv_iload_n hx hb d_Mo_advance_267 rfl (lv_at hl 0 rfl) ?_
        refine lv_iadd hx hb d_Mo_advance_268 ?_
        refine lv_topi (fun x_69 e_70 => ?_)
        refine lv_aload_n hx hb d_Mo_advance_269 rfl (lv_at hl 1 rfl) ?_
        refine sm_iP hI (va_runV (As := []) (rest := [.int (x_69)]) ⟨hx, hb, hml, hown, hts⟩ (c_Mo_opened l D ca ad L _ _ _ hM ) (kv_Mo_opened hts rfl rfl (hts _ tw_1566) ⟨Nat.le_of_ble_eq_true rfl, Nat.le_of_ble_eq_true rfl⟩) (pv_Mo hI hE hM) rfl rfl hl.1 rfl (lv_room (Nat.le_of_ble_eq_true rfl)) d_Mo_advance_270 ⟨Nat.le_of_ble_eq_true rfl, Nat.le_of_ble_eq_true rfl⟩) (fun x_72 H locs p_71 hI => ?_)
        refine lv_isub hx hb d_Mo_advance_273 ?_
        refine lv_topi (fun x_73 e_74 => ?_)
        exact sm_iret hx hb hr hlk hI ⟨σ_66, rfl, hM, hF, ⟨u_68, trivial⟩⟩ d_Mo_advance_274
      · have k_75 : k < 3 := Nat.lt_of_not_le (fun q => c_61 ((nI_leI (a := 3) (b := k) (by omega) (by omega)).mpr q))
        refine lv_aload_n hx hb d_Mo_advance_49 rfl (lv_at hl 0 rfl) ?_
        refine mq_get (k := 13) (v := .ref (ad 13)) hx hb hts hown hI hM (by decide) rfl rfl (hts _ tw_1182) d_Mo_advance_50 ?_
        refine lv_iload_n hx hb d_Mo_advance_53 rfl (lv_at hl 3 rfl) ?_
        obtain ⟨x_76, e_77⟩ : ∃ z, σ.2.2.1 13 (k) = z := ⟨_, rfl⟩
        refine mq_iald (k := 13) (j := k) (v := x_76) hx hb hI hM (by decide) rfl (by show k < 4; omega) (by decide) e_77 d_Mo_advance_54 ?_
        refine lv_if_ne (tgt := 61) hx hb d_Mo_advance_55 (by decide) (fun c_78 => ?_) (fun c_78 => ?_)
        · refine lv_aload_n hx hb d_Mo_advance_61 rfl (lv_at hl 0 rfl) ?_
          refine mq_get (k := 22) (v := .ref (ad 22)) hx hb hts hown hI hM (by decide) rfl rfl (hts _ tw_1191) d_Mo_advance_62 ?_
          refine lv_iload_n hx hb d_Mo_advance_65 rfl (lv_at hl 3 rfl) ?_
          obtain ⟨n_79, h_80, h_81, e_82⟩ := hM.2.2.2.2.2 22 (k)
          refine mq_iald (k := 22) (j := k) (v := nI n_79) hx hb hI hM (by decide) rfl (by show k < 3; omega) (by decide) e_82 d_Mo_advance_66 ?_
          refine lv_if_le (tgt := 91) hx hb d_Mo_advance_67 (by decide) (fun c_83 => ?_) (fun c_83 => ?_)
          · have k_85 : n_79 = 0 := nz_le c_83 (by omega)
            refine lv_aload_n hx hb d_Mo_advance_91 rfl (lv_at hl 0 rfl) ?_
            refine mq_get (k := 28) (v := .ref (ad 28)) hx hb hts hown hI hM (by decide) rfl rfl (hts _ tw_1197) d_Mo_advance_92 ?_
            refine lv_iload_n hx hb d_Mo_advance_95 rfl (lv_at hl 3 rfl) ?_
            obtain ⟨n_86, h_87, h_88, e_89⟩ := hM.2.2.2.2.2 28 (k)
            have p_90 : nI n_86 = 0 ∨ nI n_86 = 1 := mq_zok ⟨n_86, h_87, h_88, rfl⟩
            refine mq_zald (k := 28) (j := k) (v := nI n_86) hx hb hI hM (by decide) rfl (by show k < 3; omega) (by decide) e_89 d_Mo_advance_96 ?_
            refine lv_if_eq (tgt := 122) hx hb d_Mo_advance_97 (by decide) (fun c_91 => ?_) (fun c_91 => ?_)
            · refine lv_iconst (v := 0) hx hb d_Mo_advance_122 (by decide) ?_
              exact hJ_123 _ _ _ _ _ y1 y2 0 hI hM hF (lv_sub hl [0, 1, 2, 3] rfl) (by decide) u90 (by omega)
            · refine lv_aload_n hx hb d_Mo_advance_100 rfl (lv_at hl 0 rfl) ?_
              refine mq_get (k := 12) (v := .long (σ.2.1 12)) hx hb hts hown hI hM (by decide) rfl rfl (hts _ tw_1181) d_Mo_advance_101 ?_
              refine lv_topl (fun x_92 e_93 => ?_)
              refine lv_aload_n hx hb d_Mo_advance_104 rfl (lv_at hl 0 rfl) ?_
              refine mq_get (k := 29) (v := .ref (ad 29)) hx hb hts hown hI hM (by decide) rfl rfl (hts _ tw_1198) d_Mo_advance_105 ?_
              refine lv_iload_n hx hb d_Mo_advance_108 rfl (lv_at hl 3 rfl) ?_
              refine mq_lald (k := 29) (j := k) hx hb hI hM (by decide) rfl (by show k < 3; omega) (by decide) d_Mo_advance_109 ?_
              refine lv_topl (fun x_94 e_95 => ?_)
              refine lv_lsub hx hb d_Mo_advance_110 ?_
              refine lv_topl (fun x_96 e_97 => ?_)
              refine lv_ldc2 (v := 15000) hx hb hown (hts _ tw_1559) d_Mo_advance_111 ?_
              refine W.lcmp hx hb d_Mo_advance_114 ?_
              refine lv_topi (fun x_98 e_99 => ?_)
              refine lv_if_lt (tgt := 122) hx hb d_Mo_advance_115 (by decide) (fun c_100 => ?_) (fun c_100 => ?_)
              · refine lv_iconst (v := 0) hx hb d_Mo_advance_122 (by decide) ?_
                exact hJ_123 _ _ _ _ _ y1 y2 0 hI hM hF (lv_sub hl [0, 1, 2, 3] rfl) (by decide) u90 (by omega)
              · refine lv_iconst (v := 1) hx hb d_Mo_advance_118 (by decide) ?_
                refine lv_goto (tgt := 123) hx hb d_Mo_advance_119 (by decide) ?_
                exact hJ_123 _ _ _ _ _ y1 y2 1 hI hM hF (lv_sub hl [0, 1, 2, 3] rfl) (by decide) u90 (by omega)
          · have k_101 : 0 < n_79 := Nat.pos_of_ne_zero (fun q => c_83 (by rw [q]; decide))
            refine lv_aload_n hx hb d_Mo_advance_70 rfl (lv_at hl 0 rfl) ?_
            refine mq_get (k := 12) (v := .long (σ.2.1 12)) hx hb hts hown hI hM (by decide) rfl rfl (hts _ tw_1181) d_Mo_advance_71 ?_
            refine lv_topl (fun x_102 e_103 => ?_)
            refine lv_aload_n hx hb d_Mo_advance_74 rfl (lv_at hl 0 rfl) ?_
            refine mq_get (k := 23) (v := .ref (ad 23)) hx hb hts hown hI hM (by decide) rfl rfl (hts _ tw_1192) d_Mo_advance_75 ?_
            refine lv_iload_n hx hb d_Mo_advance_78 rfl (lv_at hl 3 rfl) ?_
            refine lv_bipush (v := 12) hx hb d_Mo_advance_79 (by decide) ?_
            refine lv_imul hx hb d_Mo_advance_81 ?_
            refine lv_topi (fun x_104 e_105 => ?_)
            obtain rfl : x_104 = nI (k * 12) := by rw [e_105]; exact pk_mul _ _
            refine mq_lald (k := 23) (j := (k * 12)) hx hb hI hM (by decide) rfl (by show (k * 12) < 36; omega) (by decide) d_Mo_advance_82 ?_
            refine lv_topl (fun x_106 e_107 => ?_)
            refine lv_lsub hx hb d_Mo_advance_83 ?_
            refine lv_topl (fun x_108 e_109 => ?_)
            refine lv_ldc2 (v := 15000) hx hb hown (hts _ tw_1559) d_Mo_advance_84 ?_
            refine W.lcmp hx hb d_Mo_advance_87 ?_
            refine lv_topi (fun x_110 e_111 => ?_)
            refine lv_if_ge (tgt := 118) hx hb d_Mo_advance_88 (by decide) (fun c_112 => ?_) (fun c_112 => ?_)
            · refine lv_iconst (v := 1) hx hb d_Mo_advance_118 (by decide) ?_
              refine lv_goto (tgt := 123) hx hb d_Mo_advance_119 (by decide) ?_
              exact hJ_123 _ _ _ _ _ y1 y2 1 hI hM hF (lv_sub hl [0, 1, 2, 3] rfl) (by decide) u90 (by omega)
            · refine lv_aload_n hx hb d_Mo_advance_91 rfl (lv_at hl 0 rfl) ?_
              refine mq_get (k := 28) (v := .ref (ad 28)) hx hb hts hown hI hM (by decide) rfl rfl (hts _ tw_1197) d_Mo_advance_92 ?_
              refine lv_iload_n hx hb d_Mo_advance_95 rfl (lv_at hl 3 rfl) ?_
              obtain ⟨n_113, h_114, h_115, e_116⟩ := hM.2.2.2.2.2 28 (k)
              have p_117 : nI n_113 = 0 ∨ nI n_113 = 1 := mq_zok ⟨n_113, h_114, h_115, rfl⟩
              refine mq_zald (k := 28) (j := k) (v := nI n_113) hx hb hI hM (by decide) rfl (by show k < 3; omega) (by decide) e_116 d_Mo_advance_96 ?_
              refine lv_if_eq (tgt := 122) hx hb d_Mo_advance_97 (by decide) (fun c_118 => ?_) (fun c_118 => ?_)
              · refine lv_iconst (v := 0) hx hb d_Mo_advance_122 (by decide) ?_
                exact hJ_123 _ _ _ _ _ y1 y2 0 hI hM hF (lv_sub hl [0, 1, 2, 3] rfl) (by decide) u90 (by omega)
              · refine lv_aload_n hx hb d_Mo_advance_100 rfl (lv_at hl 0 rfl) ?_
                refine mq_get (k := 12) (v := .long (σ.2.1 12)) hx hb hts hown hI hM (by decide) rfl rfl (hts _ tw_1181) d_Mo_advance_101 ?_
                refine lv_topl (fun x_119 e_120 => ?_)
                refine lv_aload_n hx hb d_Mo_advance_104 rfl (lv_at hl 0 rfl) ?_
                refine mq_get (k := 29) (v := .ref (ad 29)) hx hb hts hown hI hM (by decide) rfl rfl (hts _ tw_1198) d_Mo_advance_105 ?_
                refine lv_iload_n hx hb d_Mo_advance_108 rfl (lv_at hl 3 rfl) ?_
                refine mq_lald (k := 29) (j := k) hx hb hI hM (by decide) rfl (by show k < 3; omega) (by decide) d_Mo_advance_109 ?_
                refine lv_topl (fun x_121 e_122 => ?_)
                refine lv_lsub hx hb d_Mo_advance_110 ?_
                refine lv_topl (fun x_123 e_124 => ?_)
                refine lv_ldc2 (v := 15000) hx hb hown (hts _ tw_1559) d_Mo_advance_111 ?_
                refine W.lcmp hx hb d_Mo_advance_114 ?_
                refine lv_topi (fun x_125 e_126 => ?_)
                refine lv_if_lt (tgt := 122) hx hb d_Mo_advance_115 (by decide) (fun c_127 => ?_) (fun c_127 => ?_)
                · refine lv_iconst (v := 0) hx hb d_Mo_advance_122 (by decide) ?_
                  exact hJ_123 _ _ _ _ _ y1 y2 0 hI hM hF (lv_sub hl [0, 1, 2, 3] rfl) (by decide) u90 (by omega)
                · refine lv_iconst (v := 1) hx hb d_Mo_advance_118 (by decide) ?_
                  refine lv_goto (tgt := 123) hx hb d_Mo_advance_119 (by decide) ?_
                  exact hJ_123 _ _ _ _ _ y1 y2 1 hI hM hF (lv_sub hl [0, 1, 2, 3] rfl) (by decide) u90 (by omega)
        · refine lv_goto (tgt := 251) hx hb d_Mo_advance_58 (by decide) ?_
          exact hJ_251 _ _ _ _ _ y1 y2 hI hM hF (lv_sub hl [0, 1, 2, 3] rfl) u90 (by omega)
  refine lv_aload_n hx hb d_Mo_advance_0 rfl (lv_at hl 0 rfl) ?_
  refine lv_iload_n hx hb d_Mo_advance_1 rfl (lv_at hl 1 rfl) ?_
  refine lv_i2l hx hb d_Mo_advance_2 rfl ?_
  refine lv_topl (fun x_128 e_129 => ?_)
  refine lv_lconst (v := 0) hx hb d_Mo_advance_3 (by decide) ?_
  refine lv_ldc2 (v := 100000) hx hb hown (hts _ tw_1558) d_Mo_advance_4 ?_
  refine sm_iP hI (va_runS (As := [.long (x_128), .long (0), .long (100000)]) (rest := [.ref (ad 71)]) ⟨hx, hb, hml, hown, hts⟩ (c_Mo_in l D ca L _ _ x_128 0 100000) (ks_Mo_in hts rfl rfl (hts _ tw_1393) ⟨Nat.le_of_ble_eq_true rfl, Nat.le_of_ble_eq_true rfl⟩) (sm_preS hI hE) rfl rfl hl.1 rfl (lv_room (Nat.le_of_ble_eq_true rfl)) d_Mo_advance_7 ⟨Nat.le_of_ble_eq_true rfl, Nat.le_of_ble_eq_true rfl⟩) (fun x_131 H locs p_130 hI => ?_)
  rcases jn_int (lo := 0) (hi := 100000) p_130 e_129 (by decide) (by decide) (by omega) with ⟨rfl, j_133, h_134, h_135, e_136⟩ | ⟨rfl, h_132⟩
  · rw [e_136] at hl
    refine sm_iM hI (va_runV (As := [.int (1)]) (rest := []) ⟨hx, hb, hml, hown, hts⟩ (c_Mo_says2 l D ca ad L _ _ _ hM 1 (by decide)) (kv_Mo_says hts rfl rfl (hts _ tw_1410) ⟨Nat.le_of_ble_eq_true rfl, Nat.le_of_ble_eq_true rfl⟩) (pv_Mo hI hE hM) rfl rfl hl.1 rfl (lv_room (Nat.le_of_ble_eq_true rfl)) d_Mo_advance_10 ⟨Nat.le_of_ble_eq_true rfl, Nat.le_of_ble_eq_true rfl⟩) (fun x_140 H locs f σ_138 hI hM hF_139 p_137 => ?_)
    have hF := mq_fr_tr hF hF_139 (by decide)
    have u_141 := IH_fr hF_139 (by decide) u0
    obtain ⟨p_143, o_142, -⟩ := p_137
    have p_143 := p_143.symm
    subst p_143
    refine lv_if_ne (tgt := 18) hx hb d_Mo_advance_13 (by decide) (fun c_144 => ?_) (fun c_144 => ?_)
    · refine lv_aload_n hx hb d_Mo_advance_18 rfl (lv_at hl 0 rfl) ?_
      refine lv_aload_n hx hb d_Mo_advance_19 rfl (lv_at hl 0 rfl) ?_
      refine mq_get (k := 12) (v := .long (σ_138.2.1 12)) hx hb hts hown hI hM (by decide) rfl rfl (hts _ tw_1181) d_Mo_advance_20 ?_
      refine lv_topl (fun x_145 e_146 => ?_)
      refine lv_iload_n hx hb d_Mo_advance_23 rfl (lv_at hl 1 rfl) ?_
      refine lv_i2l hx hb d_Mo_advance_24 rfl ?_
      refine lv_topl (fun x_147 e_148 => ?_)
      refine lv_ladd hx hb d_Mo_advance_25 ?_
      refine lv_topl (fun x_149 e_150 => ?_)
      refine mq_putj (k := 12) hx hb hts hown hI hM (by decide) rfl rfl (hts _ tw_1181) rfl (by decide +kernel) d_Mo_advance_26 (fun H locs f σ_151 e_152 hI hM => ?_)
      have hF := mq_fr_uj hF e_152 rfl
      have o_153 : σ_151.1 0 = if 1 = 0 then 1 else 0 := by rw [e_152]; exact o_142
      have u_154 := IH_fr (mq_fr_uj (X := [12]) mq_fr_rf e_152 rfl) (by decide) u_141
      refine lv_aload_n hx hb d_Mo_advance_29 rfl (lv_at hl 0 rfl) ?_
      refine lv_aload_n hx hb d_Mo_advance_30 rfl (lv_at hl 0 rfl) ?_
      refine mq_get (k := 10) (v := .long (σ_151.2.1 10)) hx hb hts hown hI hM (by decide) rfl rfl (hts _ tw_1179) d_Mo_advance_31 ?_
      refine lv_topl (fun x_155 e_156 => ?_)
      refine lv_iload_n hx hb d_Mo_advance_34 rfl (lv_at hl 1 rfl) ?_
      refine lv_i2l hx hb d_Mo_advance_35 rfl ?_
      refine lv_topl (fun x_157 e_158 => ?_)
      refine lv_ladd hx hb d_Mo_advance_36 ?_
      refine lv_topl (fun x_159 e_160 => ?_)
      refine mq_putj (k := 10) hx hb hts hown hI hM (by decide) rfl rfl (hts _ tw_1179) rfl (by decide +kernel) d_Mo_advance_37 (fun H locs f σ_161 e_162 hI hM => ?_)
      have hF := mq_fr_uj hF e_162 rfl
      have o_163 : σ_161.1 0 = if 1 = 0 then 1 else 0 := by rw [e_162]; exact o_153
      have u_164 := IH_fr (mq_fr_uj (X := [10]) mq_fr_rf e_162 rfl) (by decide) u_154
      refine lv_iconst (v := 0) hx hb d_Mo_advance_40 (by decide) ?_
      refine lv_istore_n (lv' := [(2, .int (0)), (0, .ref (ad 71)), (1, .int (nI j_133))]) hx hb d_Mo_advance_41 rfl hl (by decide) rfl (fun ls hl => ?_)
      refine lv_iconst (v := 0) hx hb d_Mo_advance_42 (by decide) ?_
      refine lv_istore_n (lv' := [(3, .int (0)), (2, .int (0)), (0, .ref (ad 71)), (1, .int (nI j_133))]) hx hb d_Mo_advance_43 rfl hl (by decide) rfl (fun ls hl => ?_)
      exact hJ_44 _ (0) _ _ _ _ _ (nI j_133) 0 (Nat.le_refl _) (by omega) hI hM hF (lv_sub hl [2, 3, 1, 0] rfl) u_164
    · exact absurd c_144 (by decide)
  · refine sm_iM hI (va_runV (As := [.int (0)]) (rest := []) ⟨hx, hb, hml, hown, hts⟩ (c_Mo_says2 l D ca ad L _ _ _ hM 0 (by decide)) (kv_Mo_says hts rfl rfl (hts _ tw_1410) ⟨Nat.le_of_ble_eq_true rfl, Nat.le_of_ble_eq_true rfl⟩) (pv_Mo hI hE hM) rfl rfl hl.1 rfl (lv_room (Nat.le_of_ble_eq_true rfl)) d_Mo_advance_10 ⟨Nat.le_of_ble_eq_true rfl, Nat.le_of_ble_eq_true rfl⟩) (fun x_168 H locs f σ_166 hI hM hF_167 p_165 => ?_)
    have hF := mq_fr_tr hF hF_167 (by decide)
    have u_169 := IH_fr hF_167 (by decide) u0
    obtain ⟨p_171, o_170, -⟩ := p_165
    have p_171 := p_171.symm
    subst p_171
    refine lv_if_ne (tgt := 18) hx hb d_Mo_advance_13 (by decide) (fun c_172 => ?_) (fun c_172 => ?_)
    · exact absurd c_172 (by decide)
    · refine lv_iconst (v := 0) hx hb d_Mo_advance_16 (by decide) ?_
      exact sm_iret hx hb hr hlk hI ⟨σ_166, rfl, hM, hF, ⟨u_169, trivial⟩⟩ d_Mo_advance_17
theorem d_Mo_point_0 : decode b_Mo_point 0 = .ok (.aload_n 0, 1) := by decide +kernel
theorem d_Mo_point_1 : decode b_Mo_point 1 = .ok (.getfield 182, 3) := by decide +kernel
theorem d_Mo_point_4 : decode b_Mo_point 4 = .ok (.bipush 32, 2) := by decide +kernel
theorem d_Mo_point_6 : decode b_Mo_point 6 = .ok (.if_icmp .ne 7, 3) := by decide +kernel
theorem d_Mo_point_9 : decode b_Mo_point 9 = .ok (.iconst 1, 1) := by decide +kernel
theorem d_Mo_point_10 : decode b_Mo_point 10 = .ok (.goto 4, 3) := by decide +kernel
theorem d_Mo_point_13 : decode b_Mo_point 13 = .ok (.iconst 0, 1) := by decide +kernel
theorem d_Mo_point_14 : decode b_Mo_point 14 = .ok (.istore 5, 2) := by decide +kernel
theorem d_Mo_point_16 : decode b_Mo_point 16 = .ok (.iconst 0, 1) := by decide +kernel
theorem d_Mo_point_17 : decode b_Mo_point 17 = .ok (.istore 6, 2) := by decide +kernel
theorem d_Mo_point_19 : decode b_Mo_point 19 = .ok (.iload 6, 2) := by decide +kernel
theorem d_Mo_point_21 : decode b_Mo_point 21 = .ok (.aload_n 0, 1) := by decide +kernel
theorem d_Mo_point_22 : decode b_Mo_point 22 = .ok (.getfield 182, 3) := by decide +kernel
theorem d_Mo_point_25 : decode b_Mo_point 25 = .ok (.if_icmp .ge 32, 3) := by decide +kernel
theorem d_Mo_point_28 : decode b_Mo_point 28 = .ok (.iload 5, 2) := by decide +kernel
theorem d_Mo_point_30 : decode b_Mo_point 30 = .ok (.ifCond .ne 14, 3) := by decide +kernel
theorem d_Mo_point_33 : decode b_Mo_point 33 = .ok (.aload_n 0, 1) := by decide +kernel
theorem d_Mo_point_34 : decode b_Mo_point 34 = .ok (.getfield 7, 3) := by decide +kernel
theorem d_Mo_point_37 : decode b_Mo_point 37 = .ok (.iload 6, 2) := by decide +kernel
theorem d_Mo_point_39 : decode b_Mo_point 39 = .ok (.iaload, 1) := by decide +kernel
theorem d_Mo_point_40 : decode b_Mo_point 40 = .ok (.iload_n 1, 1) := by decide +kernel
theorem d_Mo_point_41 : decode b_Mo_point 41 = .ok (.if_icmp .ne 7, 3) := by decide +kernel
theorem d_Mo_point_44 : decode b_Mo_point 44 = .ok (.iconst 1, 1) := by decide +kernel
theorem d_Mo_point_45 : decode b_Mo_point 45 = .ok (.goto 4, 3) := by decide +kernel
theorem d_Mo_point_48 : decode b_Mo_point 48 = .ok (.iconst 0, 1) := by decide +kernel
theorem d_Mo_point_49 : decode b_Mo_point 49 = .ok (.istore 5, 2) := by decide +kernel
theorem d_Mo_point_51 : decode b_Mo_point 51 = .ok (.iinc 6 1, 3) := by decide +kernel
theorem d_Mo_point_54 : decode b_Mo_point 54 = .ok (.goto (-35), 3) := by decide +kernel
theorem d_Mo_point_57 : decode b_Mo_point 57 = .ok (.iload_n 1, 1) := by decide +kernel
theorem d_Mo_point_58 : decode b_Mo_point 58 = .ok (.i2l, 1) := by decide +kernel
theorem d_Mo_point_59 : decode b_Mo_point 59 = .ok (.lconst 1, 1) := by decide +kernel
theorem d_Mo_point_60 : decode b_Mo_point 60 = .ok (.ldc2_w 185, 3) := by decide +kernel
theorem d_Mo_point_63 : decode b_Mo_point 63 = .ok (.invokestatic 187, 3) := by decide +kernel
theorem d_Mo_point_66 : decode b_Mo_point 66 = .ok (.ifCond .eq 42, 3) := by decide +kernel
theorem d_Mo_point_69 : decode b_Mo_point 69 = .ok (.iload_n 2, 1) := by decide +kernel
theorem d_Mo_point_70 : decode b_Mo_point 70 = .ok (.i2l, 1) := by decide +kernel
theorem d_Mo_point_71 : decode b_Mo_point 71 = .ok (.lconst 0, 1) := by decide +kernel
theorem d_Mo_point_72 : decode b_Mo_point 72 = .ok (.ldc2_w 190, 3) := by decide +kernel
theorem d_Mo_point_75 : decode b_Mo_point 75 = .ok (.invokestatic 187, 3) := by decide +kernel
theorem d_Mo_point_78 : decode b_Mo_point 78 = .ok (.ifCond .eq 30, 3) := by decide +kernel
theorem d_Mo_point_81 : decode b_Mo_point 81 = .ok (.iload_n 3, 1) := by decide +kernel
theorem d_Mo_point_82 : decode b_Mo_point 82 = .ok (.i2l, 1) := by decide +kernel
theorem d_Mo_point_83 : decode b_Mo_point 83 = .ok (.lconst 0, 1) := by decide +kernel
theorem d_Mo_point_84 : decode b_Mo_point 84 = .ok (.ldc2_w 192, 3) := by decide +kernel
theorem d_Mo_point_87 : decode b_Mo_point 87 = .ok (.invokestatic 187, 3) := by decide +kernel
theorem d_Mo_point_90 : decode b_Mo_point 90 = .ok (.ifCond .eq 18, 3) := by decide +kernel
theorem d_Mo_point_93 : decode b_Mo_point 93 = .ok (.iload 4, 2) := by decide +kernel
theorem d_Mo_point_95 : decode b_Mo_point 95 = .ok (.ifCond .eq 9, 3) := by decide +kernel
theorem d_Mo_point_98 : decode b_Mo_point 98 = .ok (.iload_n 2, 1) := by decide +kernel
theorem d_Mo_point_99 : decode b_Mo_point 99 = .ok (.bipush 6, 2) := by decide +kernel
theorem d_Mo_point_101 : decode b_Mo_point 101 = .ok (.if_icmp .le 7, 3) := by decide +kernel
theorem d_Mo_point_104 : decode b_Mo_point 104 = .ok (.iconst 1, 1) := by decide +kernel
theorem d_Mo_point_105 : decode b_Mo_point 105 = .ok (.goto 4, 3) := by decide +kernel
theorem d_Mo_point_108 : decode b_Mo_point 108 = .ok (.iconst 0, 1) := by decide +kernel
theorem d_Mo_point_109 : decode b_Mo_point 109 = .ok (.istore 6, 2) := by decide +kernel
theorem d_Mo_point_111 : decode b_Mo_point 111 = .ok (.aload_n 0, 1) := by decide +kernel
theorem d_Mo_point_112 : decode b_Mo_point 112 = .ok (.iload 6, 2) := by decide +kernel
theorem d_Mo_point_114 : decode b_Mo_point 114 = .ok (.ifCond .ne 7, 3) := by decide +kernel
theorem d_Mo_point_117 : decode b_Mo_point 117 = .ok (.iconst 1, 1) := by decide +kernel
theorem d_Mo_point_118 : decode b_Mo_point 118 = .ok (.goto 13, 3) := by decide +kernel
theorem d_Mo_point_121 : decode b_Mo_point 121 = .ok (.iload 5, 2) := by decide +kernel
theorem d_Mo_point_123 : decode b_Mo_point 123 = .ok (.ifCond .eq 7, 3) := by decide +kernel
theorem d_Mo_point_126 : decode b_Mo_point 126 = .ok (.iconst 2, 1) := by decide +kernel
theorem d_Mo_point_127 : decode b_Mo_point 127 = .ok (.goto 4, 3) := by decide +kernel
theorem d_Mo_point_130 : decode b_Mo_point 130 = .ok (.iconst 0, 1) := by decide +kernel
theorem d_Mo_point_131 : decode b_Mo_point 131 = .ok (.putfield 179, 3) := by decide +kernel
theorem d_Mo_point_134 : decode b_Mo_point 134 = .ok (.aload_n 0, 1) := by decide +kernel
theorem d_Mo_point_135 : decode b_Mo_point 135 = .ok (.getfield 179, 3) := by decide +kernel
theorem d_Mo_point_138 : decode b_Mo_point 138 = .ok (.ifCond .le 5, 3) := by decide +kernel
theorem d_Mo_point_141 : decode b_Mo_point 141 = .ok (.iconst 0, 1) := by decide +kernel
theorem d_Mo_point_142 : decode b_Mo_point 142 = .ok (.ireturn, 1) := by decide +kernel
theorem d_Mo_point_143 : decode b_Mo_point 143 = .ok (.aload_n 0, 1) := by decide +kernel
theorem d_Mo_point_144 : decode b_Mo_point 144 = .ok (.getfield 7, 3) := by decide +kernel
theorem d_Mo_point_147 : decode b_Mo_point 147 = .ok (.aload_n 0, 1) := by decide +kernel
theorem d_Mo_point_148 : decode b_Mo_point 148 = .ok (.getfield 182, 3) := by decide +kernel
theorem d_Mo_point_151 : decode b_Mo_point 151 = .ok (.iload_n 1, 1) := by decide +kernel
theorem d_Mo_point_152 : decode b_Mo_point 152 = .ok (.iastore, 1) := by decide +kernel
theorem d_Mo_point_153 : decode b_Mo_point 153 = .ok (.aload_n 0, 1) := by decide +kernel
theorem d_Mo_point_154 : decode b_Mo_point 154 = .ok (.getfield 13, 3) := by decide +kernel
theorem d_Mo_point_157 : decode b_Mo_point 157 = .ok (.aload_n 0, 1) := by decide +kernel
theorem d_Mo_point_158 : decode b_Mo_point 158 = .ok (.getfield 182, 3) := by decide +kernel
theorem d_Mo_point_161 : decode b_Mo_point 161 = .ok (.iload_n 2, 1) := by decide +kernel
theorem d_Mo_point_162 : decode b_Mo_point 162 = .ok (.iastore, 1) := by decide +kernel
theorem d_Mo_point_163 : decode b_Mo_point 163 = .ok (.aload_n 0, 1) := by decide +kernel
theorem d_Mo_point_164 : decode b_Mo_point 164 = .ok (.getfield 16, 3) := by decide +kernel
theorem d_Mo_point_167 : decode b_Mo_point 167 = .ok (.aload_n 0, 1) := by decide +kernel
theorem d_Mo_point_168 : decode b_Mo_point 168 = .ok (.getfield 182, 3) := by decide +kernel
theorem d_Mo_point_171 : decode b_Mo_point 171 = .ok (.iload_n 3, 1) := by decide +kernel
theorem d_Mo_point_172 : decode b_Mo_point 172 = .ok (.iastore, 1) := by decide +kernel
theorem d_Mo_point_173 : decode b_Mo_point 173 = .ok (.aload_n 0, 1) := by decide +kernel
theorem d_Mo_point_174 : decode b_Mo_point 174 = .ok (.getfield 19, 3) := by decide +kernel
theorem d_Mo_point_177 : decode b_Mo_point 177 = .ok (.aload_n 0, 1) := by decide +kernel
theorem d_Mo_point_178 : decode b_Mo_point 178 = .ok (.getfield 182, 3) := by decide +kernel
theorem d_Mo_point_181 : decode b_Mo_point 181 = .ok (.iload 4, 2) := by decide +kernel
theorem d_Mo_point_183 : decode b_Mo_point 183 = .ok (.bastore, 1) := by decide +kernel
theorem d_Mo_point_184 : decode b_Mo_point 184 = .ok (.aload_n 0, 1) := by decide +kernel
theorem d_Mo_point_185 : decode b_Mo_point 185 = .ok (.dup, 1) := by decide +kernel
theorem d_Mo_point_186 : decode b_Mo_point 186 = .ok (.getfield 182, 3) := by decide +kernel
theorem d_Mo_point_189 : decode b_Mo_point 189 = .ok (.iconst 1, 1) := by decide +kernel
theorem d_Mo_point_190 : decode b_Mo_point 190 = .ok (.iadd, 1) := by decide +kernel
theorem d_Mo_point_191 : decode b_Mo_point 191 = .ok (.putfield 182, 3) := by decide +kernel
theorem d_Mo_point_194 : decode b_Mo_point 194 = .ok (.aload_n 0, 1) := by decide +kernel
theorem d_Mo_point_195 : decode b_Mo_point 195 = .ok (.getfield 182, 3) := by decide +kernel
theorem d_Mo_point_198 : decode b_Mo_point 198 = .ok (.iconst 1, 1) := by decide +kernel
theorem d_Mo_point_199 : decode b_Mo_point 199 = .ok (.isub, 1) := by decide +kernel
theorem d_Mo_point_200 : decode b_Mo_point 200 = .ok (.ireturn, 1) := by decide +kernel
set_option maxRecDepth 100000 in
set_option maxHeartbeats 4000000 in
theorem c_Mo_point (l : Launch) (D : va_G) (ca : Nat → ClassId) (ad : Nat → Nat) (L : List Nat) (f0 : Nat → va_E) (sz : Nat) (σ0 : mq_S) (hM : mq_B ca ad σ0 L f0) (x1 : Int32) (x2 : Int32) (x3 : Int32) (x4 : Int32) (p4 : x4 = 0 ∨ x4 = 1) (u0 : IH σ0) :
    Met l y_Mo_point (Cond.code y_Mo_point b_Mo_point 7 (some .int) :: wg) { frames := 1, cells := 0, slots := 0, locals := 25 } (va_Pc [.ref (ad 71), .int (x1), .int (x2), .int (x3), .int (x4)] (sm_P D cl_all (ty_s ca) ek L f0 sz)) (sm_Qi D (ty_s ca) L f0 sz (fun r u => mq_po ca ad L σ0 [0, 2, 3, 4, 5, 6] (fun σ => IH σ ∧ True) u)) 0 0 (va_A (va_pl L f0) sz) := by
  refine sm_start (by decide) (Nat.le_of_ble_eq_true rfl) ?_
  intro p e s m below meth c ls hx hb hml hr hlk hnm hts hown hsz hE hI hl
  have hl : lv_has ls 7 [(0, .ref (ad 71)), (1, .int (x1)), (2, .int (x2)), (3, .int (x3)), (4, .int (x4))] := hl
  have hF : mq_fr [0, 2, 3, 4, 5, 6] σ0 σ0 := mq_fr_rf
  have hJ_19 : ∀ (N k : Nat) (H : Heap) (locs : List Loc) (f : Nat → va_E) (σ : mq_S) (ls : Array Slot) (y5 : Int32) (w : Nat), 32 + 1 - k ≤ N → k ≤ 32 → sw_I D cl_all (ty_s ca) (va_A (va_pl L f0) sz) s H locs L f → mq_B ca ad σ L f → mq_fr [0, 2, 3, 4, 5, 6] σ0 σ → lv_has ls 7 [(0, .ref (ad 71)), (1, .int (x1)), (2, .int (x2)), (3, .int (x3)), (4, .int (x4)), (5, .int (y5)), (6, .int (nI k))] → (y5 = 0 ∨ y5 = 1) → (0 ≤ w) → (w ≤ 32) → (σ.1 2 = nI w) → (IH σ) → (y5 = 0 → ¬ w = 32) → W p l e { frames := 1, cells := 0, slots := 0, locals := 25 } s m ([.ref (ad 71), .int (x1), .int (x2), .int (x3), .int (x4)] : List Value).toArray below meth c H locs 0 0 (MQ below (sm_Qi D (ty_s ca) L f0 sz (fun r u => mq_po ca ad L σ0 [0, 2, 3, 4, 5, 6] (fun σ => IH σ ∧ True) u)) ([.ref (ad 71), .int (x1), .int (x2), .int (x3), .int (x4)] : List Value).toArray s 0 0 (va_A (va_pl L f0) sz)) (F0 m 19 ls []) := by
    intro N
    induction N with
    | zero => intros; omega
    | succ N ih =>
      intro k H locs f σ ls y5 w hN hk hI hM hF hl py5 h90a h90b o90 u90 ht
      refine lv_iload hx hb d_Mo_point_19 (lv_at hl 6 rfl) ?_
      refine lv_aload_n hx hb d_Mo_point_21 rfl (lv_at hl 0 rfl) ?_
      refine mq_get (k := 2) (v := .int (nI w)) hx hb hts hown hI hM (by decide) (congrArg (fun z => some (Value.int z)) o90) rfl (hts _ tw_1171) d_Mo_point_22 ?_
      refine lv_icmp_ge (tgt := 57) hx hb d_Mo_point_25 (by decide) (fun c_1 => ?_) (fun c_1 => ?_)
      · have k_2 : w ≤ k := (nI_leI (a := w) (b := k) (by omega) (by omega)).mp c_1
        refine lv_iload_n hx hb d_Mo_point_57 rfl (lv_at hl 1 rfl) ?_
        refine lv_i2l hx hb d_Mo_point_58 rfl ?_
        refine lv_topl (fun x_3 e_4 => ?_)
        refine lv_lconst (v := 1) hx hb d_Mo_point_59 (by decide) ?_
        refine lv_ldc2 (v := 65535) hx hb hown (hts _ tw_1392) d_Mo_point_60 ?_
        refine sm_iP hI (va_runS (As := [.long (x_3), .long (1), .long (65535)]) (rest := []) ⟨hx, hb, hml, hown, hts⟩ (c_Mo_in l D ca L _ _ x_3 1 65535) (ks_Mo_in hts rfl rfl (hts _ tw_1393) ⟨Nat.le_of_ble_eq_true rfl, Nat.le_of_ble_eq_true rfl⟩) (sm_preS hI hE) rfl rfl hl.1 rfl (lv_room (Nat.le_of_ble_eq_true rfl)) d_Mo_point_63 ⟨Nat.le_of_ble_eq_true rfl, Nat.le_of_ble_eq_true rfl⟩) (fun x_6 H locs p_5 hI => ?_)
        rcases jn_int (lo := 1) (hi := 65535) p_5 e_4 (by decide) (by decide) (by omega) with ⟨rfl, j_8, h_9, h_10, e_11⟩ | ⟨rfl, h_7⟩
        · rw [e_11] at hl
          refine lv_if_eq (tgt := 108) hx hb d_Mo_point_66 (by decide) (fun c_12 => ?_) (fun c_12 => ?_)
          · exact absurd c_12 (by decide)
          · refine lv_iload_n hx hb d_Mo_point_69 rfl (lv_at hl 2 rfl) ?_
            refine lv_i2l hx hb d_Mo_point_70 rfl ?_
            refine lv_topl (fun x_13 e_14 => ?_)
            refine lv_lconst (v := 0) hx hb d_Mo_point_71 (by decide) ?_
            refine lv_ldc2 (v := 9) hx hb hown (hts _ tw_1396) d_Mo_point_72 ?_
            refine sm_iP hI (va_runS (As := [.long (x_13), .long (0), .long (9)]) (rest := []) ⟨hx, hb, hml, hown, hts⟩ (c_Mo_in l D ca L _ _ x_13 0 9) (ks_Mo_in hts rfl rfl (hts _ tw_1393) ⟨Nat.le_of_ble_eq_true rfl, Nat.le_of_ble_eq_true rfl⟩) (sm_preS hI hE) rfl rfl hl.1 rfl (lv_room (Nat.le_of_ble_eq_true rfl)) d_Mo_point_75 ⟨Nat.le_of_ble_eq_true rfl, Nat.le_of_ble_eq_true rfl⟩) (fun x_16 H locs p_15 hI => ?_)
            rcases jn_int (lo := 0) (hi := 9) p_15 e_14 (by decide) (by decide) (by omega) with ⟨rfl, j_18, h_19, h_20, e_21⟩ | ⟨rfl, h_17⟩
            · rw [e_21] at hl
              refine lv_if_eq (tgt := 108) hx hb d_Mo_point_78 (by decide) (fun c_22 => ?_) (fun c_22 => ?_)
              · exact absurd c_22 (by decide)
              · refine lv_iload_n hx hb d_Mo_point_81 rfl (lv_at hl 3 rfl) ?_
                refine lv_i2l hx hb d_Mo_point_82 rfl ?_
                refine lv_topl (fun x_23 e_24 => ?_)
                refine lv_lconst (v := 0) hx hb d_Mo_point_83 (by decide) ?_
                refine lv_ldc2 (v := 16) hx hb hown (hts _ tw_1397) d_Mo_point_84 ?_
                refine sm_iP hI (va_runS (As := [.long (x_23), .long (0), .long (16)]) (rest := []) ⟨hx, hb, hml, hown, hts⟩ (c_Mo_in l D ca L _ _ x_23 0 16) (ks_Mo_in hts rfl rfl (hts _ tw_1393) ⟨Nat.le_of_ble_eq_true rfl, Nat.le_of_ble_eq_true rfl⟩) (sm_preS hI hE) rfl rfl hl.1 rfl (lv_room (Nat.le_of_ble_eq_true rfl)) d_Mo_point_87 ⟨Nat.le_of_ble_eq_true rfl, Nat.le_of_ble_eq_true rfl⟩) (fun x_26 H locs p_25 hI => ?_)
                rcases jn_int (lo := 0) (hi := 16) p_25 e_24 (by decide) (by decide) (by omega) with ⟨rfl, j_28, h_29, h_30, e_31⟩ | ⟨rfl, h_27⟩
                · rw [e_31] at hl
                  refine lv_if_eq (tgt := 108) hx hb d_Mo_point_90 (by decide) (fun c_32 => ?_) (fun c_32 => ?_)
                  · exact absurd c_32 (by decide)
                  · refine lv_iload hx hb d_Mo_point_93 (lv_at hl 4 rfl) ?_
                    refine lv_if_eq (tgt := 104) hx hb d_Mo_point_95 (by decide) (fun c_33 => ?_) (fun c_33 => ?_)
                    · refine lv_iconst (v := 1) hx hb d_Mo_point_104 (by decide) ?_
                      refine lv_goto (tgt := 109) hx hb d_Mo_point_105 (by decide) ?_
                      refine lv_istore (lv' := [(6, .int (1)), (0, .ref (ad 71)), (1, .int (nI j_8)), (2, .int (nI j_18)), (3, .int (nI j_28)), (4, .int (x4)), (5, .int (y5))]) hx hb d_Mo_point_109 hl (by decide) rfl (fun ls hl => ?_)
                      refine lv_aload_n hx hb d_Mo_point_111 rfl (lv_at hl 1 rfl) ?_
                      refine lv_iload hx hb d_Mo_point_112 (lv_at hl 0 rfl) ?_
                      refine lv_if_ne (tgt := 121) hx hb d_Mo_point_114 (by decide) (fun c_34 => ?_) (fun c_34 => ?_)
                      · refine lv_iload hx hb d_Mo_point_121 (lv_at hl 6 rfl) ?_
                        refine lv_if_eq (tgt := 130) hx hb d_Mo_point_123 (by decide) (fun c_35 => ?_) (fun c_35 => ?_)
                        · have k_36 := ht c_35
                          refine lv_iconst (v := 0) hx hb d_Mo_point_130 (by decide) ?_
                          refine mq_puti (k := 0) (ty := .int) hx hb hts hown hI hM (by decide) rfl rfl (hts _ tw_1169) rfl (by decide +kernel) rfl rfl trivial d_Mo_point_131 (fun H locs f σ_37 e_38 hI hM => ?_)
                          have hF := mq_fr_ui hF e_38 rfl
                          have o_39 : σ_37.1 2 = nI w := by rw [e_38]; exact o90
                          have u_40 := IH_fr (mq_fr_ui (X := [0]) mq_fr_rf e_38 rfl) (by decide) u90
                          have o_41 := mq_uik e_38
                          refine lv_aload_n hx hb d_Mo_point_134 rfl (lv_at hl 1 rfl) ?_
                          refine mq_get (k := 0) (v := .int (0)) hx hb hts hown hI hM (by decide) (congrArg (fun z => some (Value.int z)) o_41) rfl (hts _ tw_1169) d_Mo_point_135 ?_
                          refine lv_if_le (tgt := 143) hx hb d_Mo_point_138 (by decide) (fun c_42 => ?_) (fun c_42 => ?_)
                          · refine lv_aload_n hx hb d_Mo_point_143 rfl (lv_at hl 1 rfl) ?_
                            refine mq_get (k := 3) (v := .ref (ad 3)) hx hb hts hown hI hM (by decide) rfl rfl (hts _ tw_1172) d_Mo_point_144 ?_
                            refine lv_aload_n hx hb d_Mo_point_147 rfl (lv_at hl 1 rfl) ?_
                            refine mq_get (k := 2) (v := .int (nI w)) hx hb hts hown hI hM (by decide) (congrArg (fun z => some (Value.int z)) o_39) rfl (hts _ tw_1171) d_Mo_point_148 ?_
                            refine lv_iload_n hx hb d_Mo_point_151 rfl (lv_at hl 2 rfl) ?_
                            refine mq_iast (k := 3) (j := w) (x := nI j_8) hx hb hI hM (by decide) rfl (by show w < 32; omega) (by decide) trivial d_Mo_point_152 (fun H locs f σ_43 e_44 hI hM => ?_)
                            have hF := mq_fr_ug hF e_44 rfl (Or.inl rfl)
                            have o_45 : σ_43.1 2 = nI w := by rw [e_44]; exact o_39
                            have o_46 : σ_43.1 0 = 0 := by rw [e_44]; exact o_41
                            have u_47 : IH σ_43 := IH_p3 e_44 (by decide) o_39 (by omega) u_40
                            refine lv_aload_n hx hb d_Mo_point_153 rfl (lv_at hl 1 rfl) ?_
                            refine mq_get (k := 4) (v := .ref (ad 4)) hx hb hts hown hI hM (by decide) rfl rfl (hts _ tw_1173) d_Mo_point_154 ?_
                            refine lv_aload_n hx hb d_Mo_point_157 rfl (lv_at hl 1 rfl) ?_
                            refine mq_get (k := 2) (v := .int (nI w)) hx hb hts hown hI hM (by decide) (congrArg (fun z => some (Value.int z)) o_45) rfl (hts _ tw_1171) d_Mo_point_158 ?_
                            refine lv_iload_n hx hb d_Mo_point_161 rfl (lv_at hl 3 rfl) ?_
                            refine mq_iast (k := 4) (j := w) (x := nI j_18) hx hb hI hM (by decide) rfl (by show w < 32; omega) (by decide) trivial d_Mo_point_162 (fun H locs f σ_48 e_49 hI hM => ?_)
                            have hF := mq_fr_ug hF e_49 rfl (Or.inl rfl)
                            have o_50 : σ_48.1 2 = nI w := by rw [e_49]; exact o_45
                            have o_51 : σ_48.1 0 = 0 := by rw [e_49]; exact o_46
                            have u_52 : IH σ_48 := IH_p3 e_49 (by decide) o_45 (by omega) u_47
                            refine lv_aload_n hx hb d_Mo_point_163 rfl (lv_at hl 1 rfl) ?_
                            refine mq_get (k := 5) (v := .ref (ad 5)) hx hb hts hown hI hM (by decide) rfl rfl (hts _ tw_1174) d_Mo_point_164 ?_
                            refine lv_aload_n hx hb d_Mo_point_167 rfl (lv_at hl 1 rfl) ?_
                            refine mq_get (k := 2) (v := .int (nI w)) hx hb hts hown hI hM (by decide) (congrArg (fun z => some (Value.int z)) o_50) rfl (hts _ tw_1171) d_Mo_point_168 ?_
                            refine lv_iload_n hx hb d_Mo_point_171 rfl (lv_at hl 4 rfl) ?_
                            refine mq_iast (k := 5) (j := w) (x := nI j_28) hx hb hI hM (by decide) rfl (by show w < 32; omega) (by decide) trivial d_Mo_point_172 (fun H locs f σ_53 e_54 hI hM => ?_)
                            have hF := mq_fr_ug hF e_54 rfl (Or.inl rfl)
                            have o_55 : σ_53.1 2 = nI w := by rw [e_54]; exact o_50
                            have o_56 : σ_53.1 0 = 0 := by rw [e_54]; exact o_51
                            have u_57 : IH σ_53 := IH_p3 e_54 (by decide) o_50 (by omega) u_52
                            refine lv_aload_n hx hb d_Mo_point_173 rfl (lv_at hl 1 rfl) ?_
                            refine mq_get (k := 6) (v := .ref (ad 6)) hx hb hts hown hI hM (by decide) rfl rfl (hts _ tw_1175) d_Mo_point_174 ?_
                            refine lv_aload_n hx hb d_Mo_point_177 rfl (lv_at hl 1 rfl) ?_
                            refine mq_get (k := 2) (v := .int (nI w)) hx hb hts hown hI hM (by decide) (congrArg (fun z => some (Value.int z)) o_55) rfl (hts _ tw_1171) d_Mo_point_178 ?_
                            refine lv_iload hx hb d_Mo_point_181 (lv_at hl 5 rfl) ?_
                            refine mq_zast (k := 6) (j := w) hx hb hI hM (by decide) rfl (by show w < 32; omega) (by decide) rfl p4 d_Mo_point_183 (fun H locs f σ_58 e_59 hI hM => ?_)
                            have hF := mq_fr_ug hF e_59 rfl (Or.inl rfl)
                            have o_60 : σ_58.1 2 = nI w := by rw [e_59]; exact o_55
                            have o_61 : σ_58.1 0 = 0 := by rw [e_59]; exact o_56
                            have u_62 := IH_fr (mq_fr_ug (X := [6]) mq_fr_rf e_59 rfl (Or.inl rfl)) (by decide) u_57
                            refine lv_aload_n hx hb d_Mo_point_184 rfl (lv_at hl 1 rfl) ?_
                            refine lv_dup hx hb d_Mo_point_185 rfl ?_
                            refine mq_get (k := 2) (v := .int (nI w)) hx hb hts hown hI hM (by decide) (congrArg (fun z => some (Value.int z)) o_60) rfl (hts _ tw_1171) d_Mo_point_186 ?_
                            refine lv_iconst (v := 1) hx hb d_Mo_point_189 (by decide) ?_
                            refine lv_iadd hx hb d_Mo_point_190 ?_
                            refine lv_topi (fun x_63 e_64 => ?_)
                            obtain rfl : x_63 = nI (w + 1) := by rw [e_64]; exact nI_add _ _
                            refine mq_puti (k := 2) (ty := .int) hx hb hts hown hI hM (by decide) rfl rfl (hts _ tw_1171) rfl (by decide +kernel) rfl rfl ⟨(w + 1), by omega, by omega, rfl⟩ d_Mo_point_191 (fun H locs f σ_65 e_66 hI hM => ?_)
                            have hF := mq_fr_ui hF e_66 rfl
                            have o_67 : σ_65.1 0 = 0 := by rw [e_66]; exact o_61
                            have u_68 : IH σ_65 := IH_pp e_66 o_60 (by omega) u_62
                            have o_69 := mq_uik e_66
                            refine lv_aload_n hx hb d_Mo_point_194 rfl (lv_at hl 1 rfl) ?_
                            refine mq_get (k := 2) (v := .int (nI (w + 1))) hx hb hts hown hI hM (by decide) (congrArg (fun z => some (Value.int z)) o_69) rfl (hts _ tw_1171) d_Mo_point_195 ?_
                            refine lv_iconst (v := 1) hx hb d_Mo_point_198 (by decide) ?_
                            refine lv_isub hx hb d_Mo_point_199 ?_
                            refine lv_topi (fun x_70 e_71 => ?_)
                            exact sm_iret hx hb hr hlk hI ⟨σ_65, rfl, hM, hF, ⟨u_68, trivial⟩⟩ d_Mo_point_200
                          · exact absurd c_42 (by decide)
                        · refine lv_iconst (v := 2) hx hb d_Mo_point_126 (by decide) ?_
                          refine lv_goto (tgt := 131) hx hb d_Mo_point_127 (by decide) ?_
                          refine mq_puti (k := 0) (ty := .int) hx hb hts hown hI hM (by decide) rfl rfl (hts _ tw_1169) rfl (by decide +kernel) rfl rfl trivial d_Mo_point_131 (fun H locs f σ_72 e_73 hI hM => ?_)
                          have hF := mq_fr_ui hF e_73 rfl
                          have o_74 : σ_72.1 2 = nI w := by rw [e_73]; exact o90
                          have u_75 := IH_fr (mq_fr_ui (X := [0]) mq_fr_rf e_73 rfl) (by decide) u90
                          have o_76 := mq_uik e_73
                          refine lv_aload_n hx hb d_Mo_point_134 rfl (lv_at hl 1 rfl) ?_
                          refine mq_get (k := 0) (v := .int (2)) hx hb hts hown hI hM (by decide) (congrArg (fun z => some (Value.int z)) o_76) rfl (hts _ tw_1169) d_Mo_point_135 ?_
                          refine lv_if_le (tgt := 143) hx hb d_Mo_point_138 (by decide) (fun c_77 => ?_) (fun c_77 => ?_)
                          · exact absurd c_77 (by decide)
                          · refine lv_iconst (v := 0) hx hb d_Mo_point_141 (by decide) ?_
                            exact sm_iret hx hb hr hlk hI ⟨σ_72, rfl, hM, hF, ⟨u_75, trivial⟩⟩ d_Mo_point_142
                      · exact absurd c_34 (by decide)
                    · refine lv_iload_n hx hb d_Mo_point_98 rfl (lv_at hl 2 rfl) ?_
                      refine lv_bipush (v := 6) hx hb d_Mo_point_99 (by decide) ?_
                      refine lv_icmp_le (tgt := 108) hx hb d_Mo_point_101 (by decide) (fun c_78 => ?_) (fun c_78 => ?_)
                      · have k_79 : j_18 ≤ 6 := (nI_leI (a := j_18) (b := 6) (by omega) (by omega)).mp c_78
                        refine lv_iconst (v := 0) hx hb d_Mo_point_108 (by decide) ?_
                        refine lv_istore (lv' := [(6, .int (0)), (0, .ref (ad 71)), (1, .int (nI j_8)), (2, .int (nI j_18)), (3, .int (nI j_28)), (4, .int (x4)), (5, .int (y5))]) hx hb d_Mo_point_109 hl (by decide) rfl (fun ls hl => ?_)
                        refine lv_aload_n hx hb d_Mo_point_111 rfl (lv_at hl 1 rfl) ?_
                        refine lv_iload hx hb d_Mo_point_112 (lv_at hl 0 rfl) ?_
                        refine lv_if_ne (tgt := 121) hx hb d_Mo_point_114 (by decide) (fun c_80 => ?_) (fun c_80 => ?_)
                        · exact absurd c_80 (by decide)
                        · refine lv_iconst (v := 1) hx hb d_Mo_point_117 (by decide) ?_
                          refine lv_goto (tgt := 131) hx hb d_Mo_point_118 (by decide) ?_
                          refine mq_puti (k := 0) (ty := .int) hx hb hts hown hI hM (by decide) rfl rfl (hts _ tw_1169) rfl (by decide +kernel) rfl rfl trivial d_Mo_point_131 (fun H locs f σ_81 e_82 hI hM => ?_)
                          have hF := mq_fr_ui hF e_82 rfl
                          have o_83 : σ_81.1 2 = nI w := by rw [e_82]; exact o90
                          have u_84 := IH_fr (mq_fr_ui (X := [0]) mq_fr_rf e_82 rfl) (by decide) u90
                          have o_85 := mq_uik e_82
                          refine lv_aload_n hx hb d_Mo_point_134 rfl (lv_at hl 1 rfl) ?_
                          refine mq_get (k := 0) (v := .int (1)) hx hb hts hown hI hM (by decide) (congrArg (fun z => some (Value.int z)) o_85) rfl (hts _ tw_1169) d_Mo_point_135 ?_
                          refine lv_if_le (tgt := 143) hx hb d_Mo_point_138 (by decide) (fun c_86 => ?_) (fun c_86 => ?_)
                          · exact absurd c_86 (by decide)
                          · refine lv_iconst (v := 0) hx hb d_Mo_point_141 (by decide) ?_
                            exact sm_iret hx hb hr hlk hI ⟨σ_81, rfl, hM, hF, ⟨u_84, trivial⟩⟩ d_Mo_point_142
                      · have k_87 : 6 < j_18 := Nat.lt_of_not_le (fun q => c_78 ((nI_leI (a := j_18) (b := 6) (by omega) (by omega)).mpr q))
                        refine lv_iconst (v := 1) hx hb d_Mo_point_104 (by decide) ?_
                        refine lv_goto (tgt := 109) hx hb d_Mo_point_105 (by decide) ?_
                        refine lv_istore (lv' := [(6, .int (1)), (0, .ref (ad 71)), (1, .int (nI j_8)), (2, .int (nI j_18)), (3, .int (nI j_28)), (4, .int (x4)), (5, .int (y5))]) hx hb d_Mo_point_109 hl (by decide) rfl (fun ls hl => ?_)
                        refine lv_aload_n hx hb d_Mo_point_111 rfl (lv_at hl 1 rfl) ?_
                        refine lv_iload hx hb d_Mo_point_112 (lv_at hl 0 rfl) ?_
                        refine lv_if_ne (tgt := 121) hx hb d_Mo_point_114 (by decide) (fun c_88 => ?_) (fun c_88 => ?_)
                        · refine lv_iload hx hb d_Mo_point_121 (lv_at hl 6 rfl) ?_
                          refine lv_if_eq (tgt := 130) hx hb d_Mo_point_123 (by decide) (fun c_89 => ?_) (fun c_89 => ?_)
                          · have k_90 := ht c_89
                            refine lv_iconst (v := 0) hx hb d_Mo_point_130 (by decide) ?_
                            refine mq_puti (k := 0) (ty := .int) hx hb hts hown hI hM (by decide) rfl rfl (hts _ tw_1169) rfl (by decide +kernel) rfl rfl trivial d_Mo_point_131 (fun H locs f σ_91 e_92 hI hM => ?_)
                            have hF := mq_fr_ui hF e_92 rfl
                            have o_93 : σ_91.1 2 = nI w := by rw [e_92]; exact o90
                            have u_94 := IH_fr (mq_fr_ui (X := [0]) mq_fr_rf e_92 rfl) (by decide) u90
                            have o_95 := mq_uik e_92
                            refine lv_aload_n hx hb d_Mo_point_134 rfl (lv_at hl 1 rfl) ?_
                            refine mq_get (k := 0) (v := .int (0)) hx hb hts hown hI hM (by decide) (congrArg (fun z => some (Value.int z)) o_95) rfl (hts _ tw_1169) d_Mo_point_135 ?_
                            refine lv_if_le (tgt := 143) hx hb d_Mo_point_138 (by decide) (fun c_96 => ?_) (fun c_96 => ?_)
                            · refine lv_aload_n hx hb d_Mo_point_143 rfl (lv_at hl 1 rfl) ?_
                              refine mq_get (k := 3) (v := .ref (ad 3)) hx hb hts hown hI hM (by decide) rfl rfl (hts _ tw_1172) d_Mo_point_144 ?_
                              refine lv_aload_n hx hb d_Mo_point_147 rfl (lv_at hl 1 rfl) ?_
                              refine mq_get (k := 2) (v := .int (nI w)) hx hb hts hown hI hM (by decide) (congrArg (fun z => some (Value.int z)) o_93) rfl (hts _ tw_1171) d_Mo_point_148 ?_
                              refine lv_iload_n hx hb d_Mo_point_151 rfl (lv_at hl 2 rfl) ?_
                              refine mq_iast (k := 3) (j := w) (x := nI j_8) hx hb hI hM (by decide) rfl (by show w < 32; omega) (by decide) trivial d_Mo_point_152 (fun H locs f σ_97 e_98 hI hM => ?_)
                              have hF := mq_fr_ug hF e_98 rfl (Or.inl rfl)
                              have o_99 : σ_97.1 2 = nI w := by rw [e_98]; exact o_93
                              have o_100 : σ_97.1 0 = 0 := by rw [e_98]; exact o_95
                              have u_101 : IH σ_97 := IH_p3 e_98 (by decide) o_93 (by omega) u_94
                              refine lv_aload_n hx hb d_Mo_point_153 rfl (lv_at hl 1 rfl) ?_
                              refine mq_get (k := 4) (v := .ref (ad 4)) hx hb hts hown hI hM (by decide) rfl rfl (hts _ tw_1173) d_Mo_point_154 ?_
                              refine lv_aload_n hx hb d_Mo_point_157 rfl (lv_at hl 1 rfl) ?_
                              refine mq_get (k := 2) (v := .int (nI w)) hx hb hts hown hI hM (by decide) (congrArg (fun z => some (Value.int z)) o_99) rfl (hts _ tw_1171) d_Mo_point_158 ?_
                              refine lv_iload_n hx hb d_Mo_point_161 rfl (lv_at hl 3 rfl) ?_
                              refine mq_iast (k := 4) (j := w) (x := nI j_18) hx hb hI hM (by decide) rfl (by show w < 32; omega) (by decide) trivial d_Mo_point_162 (fun H locs f σ_102 e_103 hI hM => ?_)
                              have hF := mq_fr_ug hF e_103 rfl (Or.inl rfl)
                              have o_104 : σ_102.1 2 = nI w := by rw [e_103]; exact o_99
                              have o_105 : σ_102.1 0 = 0 := by rw [e_103]; exact o_100
                              have u_106 : IH σ_102 := IH_p3 e_103 (by decide) o_99 (by omega) u_101
                              refine lv_aload_n hx hb d_Mo_point_163 rfl (lv_at hl 1 rfl) ?_
                              refine mq_get (k := 5) (v := .ref (ad 5)) hx hb hts hown hI hM (by decide) rfl rfl (hts _ tw_1174) d_Mo_point_164 ?_
                              refine lv_aload_n hx hb d_Mo_point_167 rfl (lv_at hl 1 rfl) ?_
                              refine mq_get (k := 2) (v := .int (nI w)) hx hb hts hown hI hM (by decide) (congrArg (fun z => some (Value.int z)) o_104) rfl (hts _ tw_1171) d_Mo_point_168 ?_
                              refine lv_iload_n hx hb d_Mo_point_171 rfl (lv_at hl 4 rfl) ?_
                              refine mq_iast (k := 5) (j := w) (x := nI j_28) hx hb hI hM (by decide) rfl (by show w < 32; omega) (by decide) trivial d_Mo_point_172 (fun H locs f σ_107 e_108 hI hM => ?_)
                              have hF := mq_fr_ug hF e_108 rfl (Or.inl rfl)
                              have o_109 : σ_107.1 2 = nI w := by rw [e_108]; exact o_104
                              have o_110 : σ_107.1 0 = 0 := by rw [e_108]; exact o_105
                              have u_111 : IH σ_107 := IH_p3 e_108 (by decide) o_104 (by omega) u_106
                              refine lv_aload_n hx hb d_Mo_point_173 rfl (lv_at hl 1 rfl) ?_
                              refine mq_get (k := 6) (v := .ref (ad 6)) hx hb hts hown hI hM (by decide) rfl rfl (hts _ tw_1175) d_Mo_point_174 ?_
                              refine lv_aload_n hx hb d_Mo_point_177 rfl (lv_at hl 1 rfl) ?_
                              refine mq_get (k := 2) (v := .int (nI w)) hx hb hts hown hI hM (by decide) (congrArg (fun z => some (Value.int z)) o_109) rfl (hts _ tw_1171) d_Mo_point_178 ?_
                              refine lv_iload hx hb d_Mo_point_181 (lv_at hl 5 rfl) ?_
                              refine mq_zast (k := 6) (j := w) hx hb hI hM (by decide) rfl (by show w < 32; omega) (by decide) rfl p4 d_Mo_point_183 (fun H locs f σ_112 e_113 hI hM => ?_)
                              have hF := mq_fr_ug hF e_113 rfl (Or.inl rfl)
                              have o_114 : σ_112.1 2 = nI w := by rw [e_113]; exact o_109
                              have o_115 : σ_112.1 0 = 0 := by rw [e_113]; exact o_110
                              have u_116 := IH_fr (mq_fr_ug (X := [6]) mq_fr_rf e_113 rfl (Or.inl rfl)) (by decide) u_111
                              refine lv_aload_n hx hb d_Mo_point_184 rfl (lv_at hl 1 rfl) ?_
                              refine lv_dup hx hb d_Mo_point_185 rfl ?_
                              refine mq_get (k := 2) (v := .int (nI w)) hx hb hts hown hI hM (by decide) (congrArg (fun z => some (Value.int z)) o_114) rfl (hts _ tw_1171) d_Mo_point_186 ?_
                              refine lv_iconst (v := 1) hx hb d_Mo_point_189 (by decide) ?_
                              refine lv_iadd hx hb d_Mo_point_190 ?_
                              refine lv_topi (fun x_117 e_118 => ?_)
                              obtain rfl : x_117 = nI (w + 1) := by rw [e_118]; exact nI_add _ _
                              refine mq_puti (k := 2) (ty := .int) hx hb hts hown hI hM (by decide) rfl rfl (hts _ tw_1171) rfl (by decide +kernel) rfl rfl ⟨(w + 1), by omega, by omega, rfl⟩ d_Mo_point_191 (fun H locs f σ_119 e_120 hI hM => ?_)
                              have hF := mq_fr_ui hF e_120 rfl
                              have o_121 : σ_119.1 0 = 0 := by rw [e_120]; exact o_115
                              have u_122 : IH σ_119 := IH_pp e_120 o_114 (by omega) u_116
                              have o_123 := mq_uik e_120
                              refine lv_aload_n hx hb d_Mo_point_194 rfl (lv_at hl 1 rfl) ?_
                              refine mq_get (k := 2) (v := .int (nI (w + 1))) hx hb hts hown hI hM (by decide) (congrArg (fun z => some (Value.int z)) o_123) rfl (hts _ tw_1171) d_Mo_point_195 ?_
                              refine lv_iconst (v := 1) hx hb d_Mo_point_198 (by decide) ?_
                              refine lv_isub hx hb d_Mo_point_199 ?_
                              refine lv_topi (fun x_124 e_125 => ?_)
                              exact sm_iret hx hb hr hlk hI ⟨σ_119, rfl, hM, hF, ⟨u_122, trivial⟩⟩ d_Mo_point_200
                            · exact absurd c_96 (by decide)
                          · refine lv_iconst (v := 2) hx hb d_Mo_point_126 (by decide) ?_
                            refine lv_goto (tgt := 131) hx hb d_Mo_point_127 (by decide) ?_
                            refine mq_puti (k := 0) (ty := .int) hx hb hts hown hI hM (by decide) rfl rfl (hts _ tw_1169) rfl (by decide +kernel) rfl rfl trivial d_Mo_point_131 (fun H locs f σ_126 e_127 hI hM => ?_)
                            have hF := mq_fr_ui hF e_127 rfl
                            have o_128 : σ_126.1 2 = nI w := by rw [e_127]; exact o90
                            have u_129 := IH_fr (mq_fr_ui (X := [0]) mq_fr_rf e_127 rfl) (by decide) u90
                            have o_130 := mq_uik e_127
                            refine lv_aload_n hx hb d_Mo_point_134 rfl (lv_at hl 1 rfl) ?_
                            refine mq_get (k := 0) (v := .int (2)) hx hb hts hown hI hM (by decide) (congrArg (fun z => some (Value.int z)) o_130) rfl (hts _ tw_1169) d_Mo_point_135 ?_
                            refine lv_if_le (tgt := 143) hx hb d_Mo_point_138 (by decide) (fun c_131 => ?_) (fun c_131 => ?_)
                            · exact absurd c_131 (by decide)
                            · refine lv_iconst (v := 0) hx hb d_Mo_point_141 (by decide) ?_
                              exact sm_iret hx hb hr hlk hI ⟨σ_126, rfl, hM, hF, ⟨u_129, trivial⟩⟩ d_Mo_point_142
                        · exact absurd c_88 (by decide)
                · refine lv_if_eq (tgt := 108) hx hb d_Mo_point_90 (by decide) (fun c_132 => ?_) (fun c_132 => ?_)
                  · refine lv_iconst (v := 0) hx hb d_Mo_point_108 (by decide) ?_
                    refine lv_istore (lv' := [(6, .int (0)), (0, .ref (ad 71)), (1, .int (nI j_8)), (2, .int (nI j_18)), (3, .int (x3)), (4, .int (x4)), (5, .int (y5))]) hx hb d_Mo_point_109 hl (by decide) rfl (fun ls hl => ?_)
                    refine lv_aload_n hx hb d_Mo_point_111 rfl (lv_at hl 1 rfl) ?_
                    refine lv_iload hx hb d_Mo_point_112 (lv_at hl 0 rfl) ?_
                    refine lv_if_ne (tgt := 121) hx hb d_Mo_point_114 (by decide) (fun c_133 => ?_) (fun c_133 => ?_)
                    · exact absurd c_133 (by decide)
                    · refine lv_iconst (v := 1) hx hb d_Mo_point_117 (by decide) ?_
                      refine lv_goto (tgt := 131) hx hb d_Mo_point_118 (by decide) ?_
                      refine mq_puti (k := 0) (ty := .int) hx hb hts hown hI hM (by decide) rfl rfl (hts _ tw_1169) rfl (by decide +kernel) rfl rfl trivial d_Mo_point_131 (fun H locs f σ_134 e_135 hI hM => ?_)
                      have hF := mq_fr_ui hF e_135 rfl
                      have o_136 : σ_134.1 2 = nI w := by rw [e_135]; exact o90
                      have u_137 := IH_fr (mq_fr_ui (X := [0]) mq_fr_rf e_135 rfl) (by decide) u90
                      have o_138 := mq_uik e_135
                      refine lv_aload_n hx hb d_Mo_point_134 rfl (lv_at hl 1 rfl) ?_
                      refine mq_get (k := 0) (v := .int (1)) hx hb hts hown hI hM (by decide) (congrArg (fun z => some (Value.int z)) o_138) rfl (hts _ tw_1169) d_Mo_point_135 ?_
                      refine lv_if_le (tgt := 143) hx hb d_Mo_point_138 (by decide) (fun c_139 => ?_) (fun c_139 => ?_)
                      · exact absurd c_139 (by decide)
                      · refine lv_iconst (v := 0) hx hb d_Mo_point_141 (by decide) ?_
                        exact sm_iret hx hb hr hlk hI ⟨σ_134, rfl, hM, hF, ⟨u_137, trivial⟩⟩ d_Mo_point_142
                  · exact absurd c_132 (by decide)
            · refine lv_if_eq (tgt := 108) hx hb d_Mo_point_78 (by decide) (fun c_140 => ?_) (fun c_140 => ?_)
              · refine lv_iconst (v := 0) hx hb d_Mo_point_108 (by decide) ?_
                refine lv_istore (lv' := [(6, .int (0)), (0, .ref (ad 71)), (1, .int (nI j_8)), (2, .int (x2)), (3, .int (x3)), (4, .int (x4)), (5, .int (y5))]) hx hb d_Mo_point_109 hl (by decide) rfl (fun ls hl => ?_)
                refine lv_aload_n hx hb d_Mo_point_111 rfl (lv_at hl 1 rfl) ?_
                refine lv_iload hx hb d_Mo_point_112 (lv_at hl 0 rfl) ?_
                refine lv_if_ne (tgt := 121) hx hb d_Mo_point_114 (by decide) (fun c_141 => ?_) (fun c_141 => ?_)
                · exact absurd c_141 (by decide)
                · refine lv_iconst (v := 1) hx hb d_Mo_point_117 (by decide) ?_
                  refine lv_goto (tgt := 131) hx hb d_Mo_point_118 (by decide) ?_
                  refine mq_puti (k := 0) (ty := .int) hx hb hts hown hI hM (by decide) rfl rfl (hts _ tw_1169) rfl (by decide +kernel) rfl rfl trivial d_Mo_point_131 (fun H locs f σ_142 e_143 hI hM => ?_)
                  have hF := mq_fr_ui hF e_143 rfl
                  have o_144 : σ_142.1 2 = nI w := by rw [e_143]; exact o90
                  have u_145 := IH_fr (mq_fr_ui (X := [0]) mq_fr_rf e_143 rfl) (by decide) u90
                  have o_146 := mq_uik e_143
                  refine lv_aload_n hx hb d_Mo_point_134 rfl (lv_at hl 1 rfl) ?_
                  refine mq_get (k := 0) (v := .int (1)) hx hb hts hown hI hM (by decide) (congrArg (fun z => some (Value.int z)) o_146) rfl (hts _ tw_1169) d_Mo_point_135 ?_
                  refine lv_if_le (tgt := 143) hx hb d_Mo_point_138 (by decide) (fun c_147 => ?_) (fun c_147 => ?_)
                  · exact absurd c_147 (by decide)
                  · refine lv_iconst (v := 0) hx hb d_Mo_point_141 (by decide) ?_
                    exact sm_iret hx hb hr hlk hI ⟨σ_142, rfl, hM, hF, ⟨u_145, trivial⟩⟩ d_Mo_point_142
              · exact absurd c_140 (by decide)
        · refine lv_if_eq (tgt := 108) hx hb d_Mo_point_66 (by decide) (fun c_148 => ?_) (fun c_148 => ?_)
          · refine lv_iconst (v := 0) hx hb d_Mo_point_108 (by decide) ?_
            refine lv_istore (lv' := [(6, .int (0)), (0, .ref (ad 71)), (1, .int (x1)), (2, .int (x2)), (3, .int (x3)), (4, .int (x4)), (5, .int (y5))]) hx hb d_Mo_point_109 hl (by decide) rfl (fun ls hl => ?_)
            refine lv_aload_n hx hb d_Mo_point_111 rfl (lv_at hl 1 rfl) ?_
            refine lv_iload hx hb d_Mo_point_112 (lv_at hl 0 rfl) ?_
            refine lv_if_ne (tgt := 121) hx hb d_Mo_point_114 (by decide) (fun c_149 => ?_) (fun c_149 => ?_)
            · exact absurd c_149 (by decide)
            · refine lv_iconst (v := 1) hx hb d_Mo_point_117 (by decide) ?_
              refine lv_goto (tgt := 131) hx hb d_Mo_point_118 (by decide) ?_
              refine mq_puti (k := 0) (ty := .int) hx hb hts hown hI hM (by decide) rfl rfl (hts _ tw_1169) rfl (by decide +kernel) rfl rfl trivial d_Mo_point_131 (fun H locs f σ_150 e_151 hI hM => ?_)
              have hF := mq_fr_ui hF e_151 rfl
              have o_152 : σ_150.1 2 = nI w := by rw [e_151]; exact o90
              have u_153 := IH_fr (mq_fr_ui (X := [0]) mq_fr_rf e_151 rfl) (by decide) u90
              have o_154 := mq_uik e_151
              refine lv_aload_n hx hb d_Mo_point_134 rfl (lv_at hl 1 rfl) ?_
              refine mq_get (k := 0) (v := .int (1)) hx hb hts hown hI hM (by decide) (congrArg (fun z => some (Value.int z)) o_154) rfl (hts _ tw_1169) d_Mo_point_135 ?_
              refine lv_if_le (tgt := 143) hx hb d_Mo_point_138 (by decide) (fun c_155 => ?_) (fun c_155 => ?_)
              · exact absurd c_155 (by decide)
              · refine lv_iconst (v := 0) hx hb d_Mo_point_141 (by decide) ?_
                exact sm_iret hx hb hr hlk hI ⟨σ_150, rfl, hM, hF, ⟨u_153, trivial⟩⟩ d_Mo_point_142
          · exact absurd c_148 (by decide)
      · have k_156 : k < w := Nat.lt_of_not_le (fun q => c_1 ((nI_leI (a := w) (b := k) (by omega) (by omega)).mpr q))
        refine lv_iload hx hb d_Mo_point_28 (lv_at hl 5 rfl) ?_
        refine lv_if_ne (tgt := 44) hx hb d_Mo_point_30 (by decide) (fun c_157 => ?_) (fun c_157 => ?_)
        · refine lv_iconst (v := 1) hx hb d_Mo_point_44 (by decide) ?_
          refine lv_goto (tgt := 49) hx hb d_Mo_point_45 (by decide) ?_
          refine lv_istore (lv' := [(5, .int (1)), (0, .ref (ad 71)), (1, .int (x1)), (2, .int (x2)), (3, .int (x3)), (4, .int (x4)), (6, .int (nI k))]) hx hb d_Mo_point_49 hl (by decide) rfl (fun ls hl => ?_)
          refine lv_iinc (v := nI (k + 1)) (lv' := [(6, .int (nI (k + 1))), (5, .int (1)), (0, .ref (ad 71)), (1, .int (x1)), (2, .int (x2)), (3, .int (x3)), (4, .int (x4))]) hx hb d_Mo_point_51 hl (k := 6) rfl (nI_1 _) (by decide) rfl (fun ls hl => ?_)
          refine lv_goto (tgt := 19) hx hb d_Mo_point_54 (by decide) ?_
          exact ih ((k + 1)) _ _ _ _ _ 1 (w) (by omega) (by omega) hI hM hF (lv_sub hl [2, 3, 4, 5, 6, 1, 0] rfl) (by decide) (by omega) (by omega) o90 u90 (fun h => absurd h (by decide))
        · have k_158 := ht c_157
          refine lv_aload_n hx hb d_Mo_point_33 rfl (lv_at hl 0 rfl) ?_
          refine mq_get (k := 3) (v := .ref (ad 3)) hx hb hts hown hI hM (by decide) rfl rfl (hts _ tw_1172) d_Mo_point_34 ?_
          refine lv_iload hx hb d_Mo_point_37 (lv_at hl 6 rfl) ?_
          obtain ⟨x_159, e_160⟩ : ∃ z, σ.2.2.1 3 (k) = z := ⟨_, rfl⟩
          refine mq_iald (k := 3) (j := k) (v := x_159) hx hb hI hM (by decide) rfl (by show k < 32; omega) (by decide) e_160 d_Mo_point_39 ?_
          refine lv_iload_n hx hb d_Mo_point_40 rfl (lv_at hl 1 rfl) ?_
          refine lv_icmp_ne (tgt := 48) hx hb d_Mo_point_41 (by decide) (fun c_161 => ?_) (fun c_161 => ?_)
          · refine lv_iconst (v := 0) hx hb d_Mo_point_48 (by decide) ?_
            refine lv_istore (lv' := [(5, .int (0)), (0, .ref (ad 71)), (1, .int (x1)), (2, .int (x2)), (3, .int (x3)), (4, .int (x4)), (6, .int (nI k))]) hx hb d_Mo_point_49 hl (by decide) rfl (fun ls hl => ?_)
            refine lv_iinc (v := nI (k + 1)) (lv' := [(6, .int (nI (k + 1))), (5, .int (0)), (0, .ref (ad 71)), (1, .int (x1)), (2, .int (x2)), (3, .int (x3)), (4, .int (x4))]) hx hb d_Mo_point_51 hl (k := 6) rfl (nI_1 _) (by decide) rfl (fun ls hl => ?_)
            refine lv_goto (tgt := 19) hx hb d_Mo_point_54 (by decide) ?_
            exact ih ((k + 1)) _ _ _ _ _ 0 (w) (by omega) (by omega) hI hM hF (lv_sub hl [2, 3, 4, 5, 6, 1, 0] rfl) (by decide) (by omega) (by omega) o90 u90 (fun _ => ht c_157)
          · refine lv_iconst (v := 1) hx hb d_Mo_point_44 (by decide) ?_
            refine lv_goto (tgt := 49) hx hb d_Mo_point_45 (by decide) ?_
            refine lv_istore (lv' := [(5, .int (1)), (0, .ref (ad 71)), (1, .int (x1)), (2, .int (x2)), (3, .int (x3)), (4, .int (x4)), (6, .int (nI k))]) hx hb d_Mo_point_49 hl (by decide) rfl (fun ls hl => ?_)
            refine lv_iinc (v := nI (k + 1)) (lv' := [(6, .int (nI (k + 1))), (5, .int (1)), (0, .ref (ad 71)), (1, .int (x1)), (2, .int (x2)), (3, .int (x3)), (4, .int (x4))]) hx hb d_Mo_point_51 hl (k := 6) rfl (nI_1 _) (by decide) rfl (fun ls hl => ?_)
            refine lv_goto (tgt := 19) hx hb d_Mo_point_54 (by decide) ?_
            exact ih ((k + 1)) _ _ _ _ _ 1 (w) (by omega) (by omega) hI hM hF (lv_sub hl [2, 3, 4, 5, 6, 1, 0] rfl) (by decide) (by omega) (by omega) o90 u90 (fun h => absurd h (by decide))
  refine lv_aload_n hx hb d_Mo_point_0 rfl (lv_at hl 0 rfl) ?_
  obtain ⟨n_162, h_163, h_164, e_165⟩ := hM.2.2.2.2.1 2
  refine mq_get (k := 2) (v := .int (nI n_162)) hx hb hts hown hI hM (by decide) (congrArg (fun z => some (Value.int z)) e_165) rfl (hts _ tw_1171) d_Mo_point_1 ?_
  refine lv_bipush (v := 32) hx hb d_Mo_point_4 (by decide) ?_
  refine lv_icmp_ne (tgt := 13) hx hb d_Mo_point_6 (by decide) (fun c_166 => ?_) (fun c_166 => ?_)
  · have k_167 : ¬ n_162 = 32 := (fun q => c_166 ((nI_eq (a := n_162) (b := 32) (by omega) (by omega)).mpr q))
    refine lv_iconst (v := 0) hx hb d_Mo_point_13 (by decide) ?_
    refine lv_istore (lv' := [(5, .int (0)), (0, .ref (ad 71)), (1, .int (x1)), (2, .int (x2)), (3, .int (x3)), (4, .int (x4))]) hx hb d_Mo_point_14 hl (by decide) rfl (fun ls hl => ?_)
    refine lv_iconst (v := 0) hx hb d_Mo_point_16 (by decide) ?_
    refine lv_istore (lv' := [(6, .int (0)), (5, .int (0)), (0, .ref (ad 71)), (1, .int (x1)), (2, .int (x2)), (3, .int (x3)), (4, .int (x4))]) hx hb d_Mo_point_17 hl (by decide) rfl (fun ls hl => ?_)
    exact hJ_19 _ (0) _ _ _ _ _ 0 (n_162) (Nat.le_refl _) (by omega) hI hM hF (lv_sub hl [2, 3, 4, 5, 6, 1, 0] rfl) (by decide) (by omega) (by omega) e_165 u0 (fun _ => by omega)
  · have k_168 : n_162 = 32 := (nI_eq (a := n_162) (b := 32) (by omega) (by omega)).mp c_166
    refine lv_iconst (v := 1) hx hb d_Mo_point_9 (by decide) ?_
    refine lv_goto (tgt := 14) hx hb d_Mo_point_10 (by decide) ?_
    refine lv_istore (lv' := [(5, .int (1)), (0, .ref (ad 71)), (1, .int (x1)), (2, .int (x2)), (3, .int (x3)), (4, .int (x4))]) hx hb d_Mo_point_14 hl (by decide) rfl (fun ls hl => ?_)
    refine lv_iconst (v := 0) hx hb d_Mo_point_16 (by decide) ?_
    refine lv_istore (lv' := [(6, .int (0)), (5, .int (1)), (0, .ref (ad 71)), (1, .int (x1)), (2, .int (x2)), (3, .int (x3)), (4, .int (x4))]) hx hb d_Mo_point_17 hl (by decide) rfl (fun ls hl => ?_)
    exact hJ_19 _ (0) _ _ _ _ _ 1 (n_162) (Nat.le_refl _) (by omega) hI hM hF (lv_sub hl [2, 3, 4, 5, 6, 1, 0] rfl) (by decide) (by omega) (by omega) e_165 u0 (fun h => absurd h (by decide))
theorem d_Mo_serial_0 : decode b_Mo_serial 0 = .ok (.iload_n 1, 1) := by decide +kernel
theorem d_Mo_serial_1 : decode b_Mo_serial 1 = .ok (.i2l, 1) := by decide +kernel
theorem d_Mo_serial_2 : decode b_Mo_serial 2 = .ok (.lconst 0, 1) := by decide +kernel
theorem d_Mo_serial_3 : decode b_Mo_serial 3 = .ok (.ldc2_w 402, 3) := by decide +kernel
theorem d_Mo_serial_6 : decode b_Mo_serial 6 = .ok (.invokestatic 187, 3) := by decide +kernel
theorem d_Mo_serial_9 : decode b_Mo_serial 9 = .ok (.ifCond .eq 44, 3) := by decide +kernel
theorem d_Mo_serial_12 : decode b_Mo_serial 12 = .ok (.iload_n 2, 1) := by decide +kernel
theorem d_Mo_serial_13 : decode b_Mo_serial 13 = .ok (.i2l, 1) := by decide +kernel
theorem d_Mo_serial_14 : decode b_Mo_serial 14 = .ok (.lconst 1, 1) := by decide +kernel
theorem d_Mo_serial_15 : decode b_Mo_serial 15 = .ok (.ldc2_w 350, 3) := by decide +kernel
theorem d_Mo_serial_18 : decode b_Mo_serial 18 = .ok (.invokestatic 187, 3) := by decide +kernel
theorem d_Mo_serial_21 : decode b_Mo_serial 21 = .ok (.ifCond .eq 32, 3) := by decide +kernel
theorem d_Mo_serial_24 : decode b_Mo_serial 24 = .ok (.iload_n 3, 1) := by decide +kernel
theorem d_Mo_serial_25 : decode b_Mo_serial 25 = .ok (.i2l, 1) := by decide +kernel
theorem d_Mo_serial_26 : decode b_Mo_serial 26 = .ok (.lconst 1, 1) := by decide +kernel
theorem d_Mo_serial_27 : decode b_Mo_serial 27 = .ok (.ldc2_w 350, 3) := by decide +kernel
theorem d_Mo_serial_30 : decode b_Mo_serial 30 = .ok (.invokestatic 187, 3) := by decide +kernel
theorem d_Mo_serial_33 : decode b_Mo_serial 33 = .ok (.ifCond .eq 20, 3) := by decide +kernel
theorem d_Mo_serial_36 : decode b_Mo_serial 36 = .ok (.iload 4, 2) := by decide +kernel
theorem d_Mo_serial_38 : decode b_Mo_serial 38 = .ok (.i2l, 1) := by decide +kernel
theorem d_Mo_serial_39 : decode b_Mo_serial 39 = .ok (.lconst 1, 1) := by decide +kernel
theorem d_Mo_serial_40 : decode b_Mo_serial 40 = .ok (.ldc2_w 194, 3) := by decide +kernel
theorem d_Mo_serial_43 : decode b_Mo_serial 43 = .ok (.invokestatic 187, 3) := by decide +kernel
theorem d_Mo_serial_46 : decode b_Mo_serial 46 = .ok (.ifCond .eq 7, 3) := by decide +kernel
theorem d_Mo_serial_49 : decode b_Mo_serial 49 = .ok (.iconst 1, 1) := by decide +kernel
theorem d_Mo_serial_50 : decode b_Mo_serial 50 = .ok (.goto 4, 3) := by decide +kernel
theorem d_Mo_serial_53 : decode b_Mo_serial 53 = .ok (.iconst 0, 1) := by decide +kernel
theorem d_Mo_serial_54 : decode b_Mo_serial 54 = .ok (.istore 5, 2) := by decide +kernel
theorem d_Mo_serial_56 : decode b_Mo_serial 56 = .ok (.aload_n 0, 1) := by decide +kernel
theorem d_Mo_serial_57 : decode b_Mo_serial 57 = .ok (.iload 5, 2) := by decide +kernel
theorem d_Mo_serial_59 : decode b_Mo_serial 59 = .ok (.ifCond .eq 22, 3) := by decide +kernel
theorem d_Mo_serial_62 : decode b_Mo_serial 62 = .ok (.iload_n 3, 1) := by decide +kernel
theorem d_Mo_serial_63 : decode b_Mo_serial 63 = .ok (.iconst 2, 1) := by decide +kernel
theorem d_Mo_serial_64 : decode b_Mo_serial 64 = .ok (.if_icmp .eq 13, 3) := by decide +kernel
theorem d_Mo_serial_67 : decode b_Mo_serial 67 = .ok (.aload_n 0, 1) := by decide +kernel
theorem d_Mo_serial_68 : decode b_Mo_serial 68 = .ok (.getfield 176, 3) := by decide +kernel
theorem d_Mo_serial_71 : decode b_Mo_serial 71 = .ok (.sipush 255, 3) := by decide +kernel
theorem d_Mo_serial_74 : decode b_Mo_serial 74 = .ok (.if_icmp .ge 7, 3) := by decide +kernel
theorem d_Mo_serial_77 : decode b_Mo_serial 77 = .ok (.iconst 1, 1) := by decide +kernel
theorem d_Mo_serial_78 : decode b_Mo_serial 78 = .ok (.goto 4, 3) := by decide +kernel
theorem d_Mo_serial_81 : decode b_Mo_serial 81 = .ok (.iconst 0, 1) := by decide +kernel
theorem d_Mo_serial_82 : decode b_Mo_serial 82 = .ok (.invokevirtual 208, 3) := by decide +kernel
theorem d_Mo_serial_85 : decode b_Mo_serial 85 = .ok (.ifCond .ne 4, 3) := by decide +kernel
theorem d_Mo_serial_88 : decode b_Mo_serial 88 = .ok (.return_, 1) := by decide +kernel
theorem d_Mo_serial_89 : decode b_Mo_serial 89 = .ok (.aload_n 0, 1) := by decide +kernel
theorem d_Mo_serial_90 : decode b_Mo_serial 90 = .ok (.iconst 3, 1) := by decide +kernel
theorem d_Mo_serial_91 : decode b_Mo_serial 91 = .ok (.invokevirtual 276, 3) := by decide +kernel
theorem d_Mo_serial_94 : decode b_Mo_serial 94 = .ok (.aload_n 0, 1) := by decide +kernel
theorem d_Mo_serial_95 : decode b_Mo_serial 95 = .ok (.getfield 29, 3) := by decide +kernel
theorem d_Mo_serial_98 : decode b_Mo_serial 98 = .ok (.iconst 3, 1) := by decide +kernel
theorem d_Mo_serial_99 : decode b_Mo_serial 99 = .ok (.iconst 1, 1) := by decide +kernel
theorem d_Mo_serial_100 : decode b_Mo_serial 100 = .ok (.iastore, 1) := by decide +kernel
theorem d_Mo_serial_101 : decode b_Mo_serial 101 = .ok (.aload_n 0, 1) := by decide +kernel
theorem d_Mo_serial_102 : decode b_Mo_serial 102 = .ok (.iload_n 1, 1) := by decide +kernel
theorem d_Mo_serial_103 : decode b_Mo_serial 103 = .ok (.putfield 404, 3) := by decide +kernel
theorem d_Mo_serial_106 : decode b_Mo_serial 106 = .ok (.aload_n 0, 1) := by decide +kernel
theorem d_Mo_serial_107 : decode b_Mo_serial 107 = .ok (.iload_n 2, 1) := by decide +kernel
theorem d_Mo_serial_108 : decode b_Mo_serial 108 = .ok (.putfield 96, 3) := by decide +kernel
theorem d_Mo_serial_111 : decode b_Mo_serial 111 = .ok (.aload_n 0, 1) := by decide +kernel
theorem d_Mo_serial_112 : decode b_Mo_serial 112 = .ok (.iload_n 3, 1) := by decide +kernel
theorem d_Mo_serial_113 : decode b_Mo_serial 113 = .ok (.putfield 100, 3) := by decide +kernel
theorem d_Mo_serial_116 : decode b_Mo_serial 116 = .ok (.aload_n 0, 1) := by decide +kernel
theorem d_Mo_serial_117 : decode b_Mo_serial 117 = .ok (.iload 4, 2) := by decide +kernel
theorem d_Mo_serial_119 : decode b_Mo_serial 119 = .ok (.putfield 103, 3) := by decide +kernel
theorem d_Mo_serial_122 : decode b_Mo_serial 122 = .ok (.aload_n 0, 1) := by decide +kernel
theorem d_Mo_serial_123 : decode b_Mo_serial 123 = .ok (.iconst 0, 1) := by decide +kernel
theorem d_Mo_serial_124 : decode b_Mo_serial 124 = .ok (.putfield 407, 3) := by decide +kernel
theorem d_Mo_serial_127 : decode b_Mo_serial 127 = .ok (.aload_n 0, 1) := by decide +kernel
theorem d_Mo_serial_128 : decode b_Mo_serial 128 = .ok (.invokevirtual 216, 3) := by decide +kernel
theorem d_Mo_serial_131 : decode b_Mo_serial 131 = .ok (.return_, 1) := by decide +kernel
set_option maxRecDepth 100000 in
set_option maxHeartbeats 4000000 in
theorem c_Mo_serial (l : Launch) (D : va_G) (ca : Nat → ClassId) (ad : Nat → Nat) (L : List Nat) (f0 : Nat → va_E) (sz : Nat) (σ0 : mq_S) (hM : mq_B ca ad σ0 L f0) (x1 : Int32) (x2 : Int32) (x3 : Int32) (x4 : Int32) (u0 : IH σ0) :
    Met l y_Mo_serial (Cond.code y_Mo_serial b_Mo_serial 6 none :: wg) { frames := 7, cells := 0, slots := 0, locals := 166 } (va_Pc [.ref (ad 71), .int (x1), .int (x2), .int (x3), .int (x4)] (sm_P D cl_all (ty_s ca) ek L f0 sz)) (sm_Qv D (ty_s ca) L f0 sz (fun u => mq_po ca ad L σ0 [0, 13, 14, 15, 16, 18, 19, 22, 23, 24, 25, 30, 31, 32, 33, 34, 35, 36, 37, 38, 40, 42, 52, 54, 55, 65, 69, 70] (fun σ => IH σ ∧ True) u)) 0 0 (va_A (va_pl L f0) sz) := by
  refine sm_start (by decide) (Nat.le_of_ble_eq_true rfl) ?_
  intro p e s m below meth c ls hx hb hml hr hlk hnm hts hown hsz hE hI hl
  have hl : lv_has ls 6 [(0, .ref (ad 71)), (1, .int (x1)), (2, .int (x2)), (3, .int (x3)), (4, .int (x4))] := hl
  have hF : mq_fr [0, 13, 14, 15, 16, 18, 19, 22, 23, 24, 25, 30, 31, 32, 33, 34, 35, 36, 37, 38, 40, 42, 52, 54, 55, 65, 69, 70] σ0 σ0 := mq_fr_rf
  refine lv_iload_n hx hb d_Mo_serial_0 rfl (lv_at hl 1 rfl) ?_
  refine lv_i2l hx hb d_Mo_serial_1 rfl ?_
  refine lv_topl (fun x_1 e_2 => ?_)
  refine lv_lconst (v := 0) hx hb d_Mo_serial_2 (by decide) ?_
  refine lv_ldc2 (v := 254) hx hb hown (hts _ tw_1701) d_Mo_serial_3 ?_
  refine sm_iP hI (va_runS (As := [.long (x_1), .long (0), .long (254)]) (rest := []) ⟨hx, hb, hml, hown, hts⟩ (c_Mo_in l D ca L _ _ x_1 0 254) (ks_Mo_in hts rfl rfl (hts _ tw_1393) ⟨Nat.le_of_ble_eq_true rfl, Nat.le_of_ble_eq_true rfl⟩) (sm_preS hI hE) rfl rfl hl.1 rfl (lv_room (Nat.le_of_ble_eq_true rfl)) d_Mo_serial_6 ⟨Nat.le_of_ble_eq_true rfl, Nat.le_of_ble_eq_true rfl⟩) (fun x_4 H locs p_3 hI => ?_)
  rcases jn_int (lo := 0) (hi := 254) p_3 e_2 (by decide) (by decide) (by omega) with ⟨rfl, j_6, h_7, h_8, e_9⟩ | ⟨rfl, h_5⟩
  · rw [e_9] at hl
    refine lv_if_eq (tgt := 53) hx hb d_Mo_serial_9 (by decide) (fun c_10 => ?_) (fun c_10 => ?_)
    · exact absurd c_10 (by decide)
    · refine lv_iload_n hx hb d_Mo_serial_12 rfl (lv_at hl 2 rfl) ?_
      refine lv_i2l hx hb d_Mo_serial_13 rfl ?_
      refine lv_topl (fun x_11 e_12 => ?_)
      refine lv_lconst (v := 1) hx hb d_Mo_serial_14 (by decide) ?_
      refine lv_ldc2 (v := 2) hx hb hown (hts _ tw_1549) d_Mo_serial_15 ?_
      refine sm_iP hI (va_runS (As := [.long (x_11), .long (1), .long (2)]) (rest := []) ⟨hx, hb, hml, hown, hts⟩ (c_Mo_in l D ca L _ _ x_11 1 2) (ks_Mo_in hts rfl rfl (hts _ tw_1393) ⟨Nat.le_of_ble_eq_true rfl, Nat.le_of_ble_eq_true rfl⟩) (sm_preS hI hE) rfl rfl hl.1 rfl (lv_room (Nat.le_of_ble_eq_true rfl)) d_Mo_serial_18 ⟨Nat.le_of_ble_eq_true rfl, Nat.le_of_ble_eq_true rfl⟩) (fun x_14 H locs p_13 hI => ?_)
      rcases jn_int (lo := 1) (hi := 2) p_13 e_12 (by decide) (by decide) (by omega) with ⟨rfl, j_16, h_17, h_18, e_19⟩ | ⟨rfl, h_15⟩
      · rw [e_19] at hl
        refine lv_if_eq (tgt := 53) hx hb d_Mo_serial_21 (by decide) (fun c_20 => ?_) (fun c_20 => ?_)
        · exact absurd c_20 (by decide)
        · refine lv_iload_n hx hb d_Mo_serial_24 rfl (lv_at hl 3 rfl) ?_
          refine lv_i2l hx hb d_Mo_serial_25 rfl ?_
          refine lv_topl (fun x_21 e_22 => ?_)
          refine lv_lconst (v := 1) hx hb d_Mo_serial_26 (by decide) ?_
          refine lv_ldc2 (v := 2) hx hb hown (hts _ tw_1549) d_Mo_serial_27 ?_
          refine sm_iP hI (va_runS (As := [.long (x_21), .long (1), .long (2)]) (rest := []) ⟨hx, hb, hml, hown, hts⟩ (c_Mo_in l D ca L _ _ x_21 1 2) (ks_Mo_in hts rfl rfl (hts _ tw_1393) ⟨Nat.le_of_ble_eq_true rfl, Nat.le_of_ble_eq_true rfl⟩) (sm_preS hI hE) rfl rfl hl.1 rfl (lv_room (Nat.le_of_ble_eq_true rfl)) d_Mo_serial_30 ⟨Nat.le_of_ble_eq_true rfl, Nat.le_of_ble_eq_true rfl⟩) (fun x_24 H locs p_23 hI => ?_)
          rcases jn_int (lo := 1) (hi := 2) p_23 e_22 (by decide) (by decide) (by omega) with ⟨rfl, j_26, h_27, h_28, e_29⟩ | ⟨rfl, h_25⟩
          · rw [e_29] at hl
            refine lv_if_eq (tgt := 53) hx hb d_Mo_serial_33 (by decide) (fun c_30 => ?_) (fun c_30 => ?_)
            · exact absurd c_30 (by decide)
            · refine lv_iload hx hb d_Mo_serial_36 (lv_at hl 4 rfl) ?_
              refine lv_i2l hx hb d_Mo_serial_38 rfl ?_
              refine lv_topl (fun x_31 e_32 => ?_)
              refine lv_lconst (v := 1) hx hb d_Mo_serial_39 (by decide) ?_
              refine lv_ldc2 (v := 3) hx hb hown (hts _ tw_1405) d_Mo_serial_40 ?_
              refine sm_iP hI (va_runS (As := [.long (x_31), .long (1), .long (3)]) (rest := []) ⟨hx, hb, hml, hown, hts⟩ (c_Mo_in l D ca L _ _ x_31 1 3) (ks_Mo_in hts rfl rfl (hts _ tw_1393) ⟨Nat.le_of_ble_eq_true rfl, Nat.le_of_ble_eq_true rfl⟩) (sm_preS hI hE) rfl rfl hl.1 rfl (lv_room (Nat.le_of_ble_eq_true rfl)) d_Mo_serial_43 ⟨Nat.le_of_ble_eq_true rfl, Nat.le_of_ble_eq_true rfl⟩) (fun x_34 H locs p_33 hI => ?_)
              rcases jn_int (lo := 1) (hi := 3) p_33 e_32 (by decide) (by decide) (by omega) with ⟨rfl, j_36, h_37, h_38, e_39⟩ | ⟨rfl, h_35⟩
              · rw [e_39] at hl
                refine lv_if_eq (tgt := 53) hx hb d_Mo_serial_46 (by decide) (fun c_40 => ?_) (fun c_40 => ?_)
                · exact absurd c_40 (by decide)
                · refine lv_iconst (v := 1) hx hb d_Mo_serial_49 (by decide) ?_
                  refine lv_goto (tgt := 54) hx hb d_Mo_serial_50 (by decide) ?_
                  refine lv_istore (lv' := [(5, .int (1)), (0, .ref (ad 71)), (1, .int (nI j_6)), (2, .int (nI j_16)), (3, .int (nI j_26)), (4, .int (nI j_36))]) hx hb d_Mo_serial_54 hl (by decide) rfl (fun ls hl => ?_)
                  refine lv_aload_n hx hb d_Mo_serial_56 rfl (lv_at hl 1 rfl) ?_
                  refine lv_iload hx hb d_Mo_serial_57 (lv_at hl 0 rfl) ?_
                  refine lv_if_eq (tgt := 81) hx hb d_Mo_serial_59 (by decide) (fun c_41 => ?_) (fun c_41 => ?_)
                  · exact absurd c_41 (by decide)
                  · refine lv_iload_n hx hb d_Mo_serial_62 rfl (lv_at hl 4 rfl) ?_
                    refine lv_iconst (v := 2) hx hb d_Mo_serial_63 (by decide) ?_
                    refine lv_icmp_eq (tgt := 77) hx hb d_Mo_serial_64 (by decide) (fun c_42 => ?_) (fun c_42 => ?_)
                    · have k_43 : j_26 = 2 := (nI_eq (a := j_26) (b := 2) (by omega) (by omega)).mp c_42
                      refine lv_iconst (v := 1) hx hb d_Mo_serial_77 (by decide) ?_
                      refine lv_goto (tgt := 82) hx hb d_Mo_serial_78 (by decide) ?_
                      refine sm_iM hI (va_runV (As := [.int (1)]) (rest := []) ⟨hx, hb, hml, hown, hts⟩ (c_Mo_says2 l D ca ad L _ _ _ hM 1 (by decide)) (kv_Mo_says hts rfl rfl (hts _ tw_1410) ⟨Nat.le_of_ble_eq_true rfl, Nat.le_of_ble_eq_true rfl⟩) (pv_Mo hI hE hM) rfl rfl hl.1 rfl (lv_room (Nat.le_of_ble_eq_true rfl)) d_Mo_serial_82 ⟨Nat.le_of_ble_eq_true rfl, Nat.le_of_ble_eq_true rfl⟩) (fun x_47 H locs f σ_45 hI hM hF_46 p_44 => ?_)
                      have hF := mq_fr_tr hF hF_46 (by decide)
                      have u_48 := IH_fr hF_46 (by decide) u0
                      obtain ⟨p_50, o_49, -⟩ := p_44
                      have p_50 := p_50.symm
                      subst p_50
                      refine lv_if_ne (tgt := 89) hx hb d_Mo_serial_85 (by decide) (fun c_51 => ?_) (fun c_51 => ?_)
                      · refine lv_aload_n hx hb d_Mo_serial_89 rfl (lv_at hl 1 rfl) ?_
                        refine lv_iconst (v := 3) hx hb d_Mo_serial_90 (by decide) ?_
                        refine sm_vM hI (va_runV (As := [.int (3)]) (rest := []) ⟨hx, hb, hml, hown, hts⟩ (c_Mo_shut l D ca ad L _ _ _ hM (3) (by omega) u_48) (kv_Mo_shut hts rfl rfl (hts _ tw_1513) ⟨Nat.le_of_ble_eq_true rfl, Nat.le_of_ble_eq_true rfl⟩) (pv_Mo hI hE hM) rfl rfl hl.1 rfl (lv_room (Nat.le_of_ble_eq_true rfl)) d_Mo_serial_91 ⟨Nat.le_of_ble_eq_true rfl, Nat.le_of_ble_eq_true rfl⟩) (fun H locs f σ_53 hI hM hF_54 p_52 => ?_)
                        have hF := mq_fr_tr hF hF_54 (by decide)
                        have o_55 : σ_53.1 0 = if 1 = 0 then 1 else 0 := mq_fi hF_54 (by decide) o_49
                        obtain ⟨o_56, o_57, u_58, -⟩ := p_52
                        refine lv_aload_n hx hb d_Mo_serial_94 rfl (lv_at hl 1 rfl) ?_
                        refine mq_get (k := 13) (v := .ref (ad 13)) hx hb hts hown hI hM (by decide) rfl rfl (hts _ tw_1182) d_Mo_serial_95 ?_
                        refine lv_iconst (v := 3) hx hb d_Mo_serial_98 (by decide) ?_
                        refine lv_iconst (v := 1) hx hb d_Mo_serial_99 (by decide) ?_
                        refine mq_iast (k := 13) (j := 3) (x := 1) hx hb hI hM (by decide) rfl (by show 3 < 4; omega) (by decide) trivial d_Mo_serial_100 (fun H locs f σ_59 e_60 hI hM => ?_)
                        have hF := mq_fr_ug hF e_60 rfl (Or.inl rfl)
                        have o_61 : σ_59.1 0 = if 1 = 0 then 1 else 0 := by rw [e_60]; exact o_55
                        have o_62 : σ_59.2.2.1 30 (3) = nI (0) := by rw [e_60]; exact o_56
                        have o_63 : σ_59.2.2.1 18 (3) = nI (0) := by rw [e_60]; exact o_57
                        have u_64 := IH_fr (mq_fr_ug (X := [13]) mq_fr_rf e_60 rfl (Or.inl rfl)) (by decide) u_58
                        refine lv_aload_n hx hb d_Mo_serial_101 rfl (lv_at hl 1 rfl) ?_
                        refine lv_iload_n hx hb d_Mo_serial_102 rfl (lv_at hl 2 rfl) ?_
                        refine mq_puti (k := 35) (ty := .int) hx hb hts hown hI hM (by decide) rfl rfl (hts _ tw_1204) rfl (by decide +kernel) rfl rfl trivial d_Mo_serial_103 (fun H locs f σ_65 e_66 hI hM => ?_)
                        have hF := mq_fr_ui hF e_66 rfl
                        have o_67 : σ_65.1 0 = if 1 = 0 then 1 else 0 := by rw [e_66]; exact o_61
                        have o_68 : σ_65.2.2.1 30 (3) = nI (0) := by rw [e_66]; exact o_62
                        have o_69 : σ_65.2.2.1 18 (3) = nI (0) := by rw [e_66]; exact o_63
                        have u_70 := IH_fr (mq_fr_ui (X := [35]) mq_fr_rf e_66 rfl) (by decide) u_64
                        refine lv_aload_n hx hb d_Mo_serial_106 rfl (lv_at hl 1 rfl) ?_
                        refine lv_iload_n hx hb d_Mo_serial_107 rfl (lv_at hl 3 rfl) ?_
                        refine mq_puti (k := 36) (ty := .int) hx hb hts hown hI hM (by decide) rfl rfl (hts _ tw_1205) rfl (by decide +kernel) rfl rfl ⟨j_16, by omega, by omega, rfl⟩ d_Mo_serial_108 (fun H locs f σ_71 e_72 hI hM => ?_)
                        have hF := mq_fr_ui hF e_72 rfl
                        have o_73 : σ_71.1 0 = if 1 = 0 then 1 else 0 := by rw [e_72]; exact o_67
                        have o_74 : σ_71.2.2.1 30 (3) = nI (0) := by rw [e_72]; exact o_68
                        have o_75 : σ_71.2.2.1 18 (3) = nI (0) := by rw [e_72]; exact o_69
                        have u_76 : IH σ_71 := IH_fz e_72 (by decide) o_68 u_70
                        refine lv_aload_n hx hb d_Mo_serial_111 rfl (lv_at hl 1 rfl) ?_
                        refine lv_iload_n hx hb d_Mo_serial_112 rfl (lv_at hl 4 rfl) ?_
                        refine mq_puti (k := 37) (ty := .int) hx hb hts hown hI hM (by decide) rfl rfl (hts _ tw_1206) rfl (by decide +kernel) rfl rfl ⟨j_26, by omega, by omega, rfl⟩ d_Mo_serial_113 (fun H locs f σ_77 e_78 hI hM => ?_)
                        have hF := mq_fr_ui hF e_78 rfl
                        have o_79 : σ_77.1 0 = if 1 = 0 then 1 else 0 := by rw [e_78]; exact o_73
                        have o_80 : σ_77.2.2.1 30 (3) = nI (0) := by rw [e_78]; exact o_74
                        have o_81 : σ_77.2.2.1 18 (3) = nI (0) := by rw [e_78]; exact o_75
                        have u_82 : IH σ_77 := IH_fz e_78 (by decide) o_74 u_76
                        refine lv_aload_n hx hb d_Mo_serial_116 rfl (lv_at hl 1 rfl) ?_
                        refine lv_iload hx hb d_Mo_serial_117 (lv_at hl 5 rfl) ?_
                        refine mq_puti (k := 38) (ty := .int) hx hb hts hown hI hM (by decide) rfl rfl (hts _ tw_1207) rfl (by decide +kernel) rfl rfl ⟨j_36, by omega, by omega, rfl⟩ d_Mo_serial_119 (fun H locs f σ_83 e_84 hI hM => ?_)
                        have hF := mq_fr_ui hF e_84 rfl
                        have o_85 : σ_83.1 0 = if 1 = 0 then 1 else 0 := by rw [e_84]; exact o_79
                        have o_86 : σ_83.2.2.1 30 (3) = nI (0) := by rw [e_84]; exact o_80
                        have o_87 : σ_83.2.2.1 18 (3) = nI (0) := by rw [e_84]; exact o_81
                        have u_88 : IH σ_83 := IH_fz e_84 (by decide) o_80 u_82
                        refine lv_aload_n hx hb d_Mo_serial_122 rfl (lv_at hl 1 rfl) ?_
                        refine lv_iconst (v := 0) hx hb d_Mo_serial_123 (by decide) ?_
                        refine mq_puti (k := 40) (ty := .int) hx hb hts hown hI hM (by decide) rfl rfl (hts _ tw_1209) rfl (by decide +kernel) rfl rfl ⟨0, by decide, by decide, rfl⟩ d_Mo_serial_124 (fun H locs f σ_89 e_90 hI hM => ?_)
                        have hF := mq_fr_ui hF e_90 rfl
                        have o_91 : σ_89.1 0 = if 1 = 0 then 1 else 0 := by rw [e_90]; exact o_85
                        have o_92 : σ_89.2.2.1 30 (3) = nI (0) := by rw [e_90]; exact o_86
                        have o_93 : σ_89.2.2.1 18 (3) = nI (0) := by rw [e_90]; exact o_87
                        have u_94 := IH_fr (mq_fr_ui (X := [40]) mq_fr_rf e_90 rfl) (by decide) u_88
                        refine lv_aload_n hx hb d_Mo_serial_127 rfl (lv_at hl 1 rfl) ?_
                        refine sm_vM hI (va_runV (As := []) (rest := []) ⟨hx, hb, hml, hown, hts⟩ (c_Mo_sendAll l D ca ad L _ _ _ hM u_94) (kv_Mo_sendAll hts rfl rfl (hts _ tw_1422) ⟨Nat.le_of_ble_eq_true rfl, Nat.le_of_ble_eq_true rfl⟩) (pv_Mo hI hE hM) rfl rfl hl.1 rfl (lv_room (Nat.le_of_ble_eq_true rfl)) d_Mo_serial_128 ⟨Nat.le_of_ble_eq_true rfl, Nat.le_of_ble_eq_true rfl⟩) (fun H locs f σ_96 hI hM hF_97 p_95 => ?_)
                        have hF := mq_fr_tr hF hF_97 (by decide)
                        have o_98 : σ_96.1 0 = if 1 = 0 then 1 else 0 := mq_fi hF_97 (by decide) o_91
                        obtain ⟨n_99, h_100, o_101⟩ := mq_ri (n := (0)) hF_97 (by decide) o_93
                        obtain ⟨u_102, -⟩ := p_95
                        exact sm_vret hx hb hr hlk hI ⟨σ_96, rfl, hM, hF, ⟨u_102, trivial⟩⟩ d_Mo_serial_131
                      · exact absurd c_51 (by decide)
                    · have k_103 : ¬ j_26 = 2 := (fun q => c_42 ((nI_eq (a := j_26) (b := 2) (by omega) (by omega)).mpr q))
                      refine lv_aload_n hx hb d_Mo_serial_67 rfl (lv_at hl 1 rfl) ?_
                      obtain ⟨x_104, e_105⟩ : ∃ z, σ0.1 1 = z := ⟨_, rfl⟩
                      refine mq_get (k := 1) (v := .int (x_104)) hx hb hts hown hI hM (by decide) (congrArg (fun z => some (Value.int z)) e_105) rfl (hts _ tw_1170) d_Mo_serial_68 ?_
                      refine lv_sipush (v := 255) hx hb d_Mo_serial_71 (by decide) ?_
                      refine lv_icmp_ge (tgt := 81) hx hb d_Mo_serial_74 (by decide) (fun c_106 => ?_) (fun c_106 => ?_)
                      · refine lv_iconst (v := 0) hx hb d_Mo_serial_81 (by decide) ?_
                        refine sm_iM hI (va_runV (As := [.int (0)]) (rest := []) ⟨hx, hb, hml, hown, hts⟩ (c_Mo_says2 l D ca ad L _ _ _ hM 0 (by decide)) (kv_Mo_says hts rfl rfl (hts _ tw_1410) ⟨Nat.le_of_ble_eq_true rfl, Nat.le_of_ble_eq_true rfl⟩) (pv_Mo hI hE hM) rfl rfl hl.1 rfl (lv_room (Nat.le_of_ble_eq_true rfl)) d_Mo_serial_82 ⟨Nat.le_of_ble_eq_true rfl, Nat.le_of_ble_eq_true rfl⟩) (fun x_110 H locs f σ_108 hI hM hF_109 p_107 => ?_)
                        have hF := mq_fr_tr hF hF_109 (by decide)
                        have u_111 := IH_fr hF_109 (by decide) u0
                        obtain ⟨p_113, o_112, -⟩ := p_107
                        have p_113 := p_113.symm
                        subst p_113
                        refine lv_if_ne (tgt := 89) hx hb d_Mo_serial_85 (by decide) (fun c_114 => ?_) (fun c_114 => ?_)
                        · exact absurd c_114 (by decide)
                        · exact sm_vret hx hb hr hlk hI ⟨σ_108, rfl, hM, hF, ⟨u_111, trivial⟩⟩ d_Mo_serial_88
                      · refine lv_iconst (v := 1) hx hb d_Mo_serial_77 (by decide) ?_
                        refine lv_goto (tgt := 82) hx hb d_Mo_serial_78 (by decide) ?_
                        refine sm_iM hI (va_runV (As := [.int (1)]) (rest := []) ⟨hx, hb, hml, hown, hts⟩ (c_Mo_says2 l D ca ad L _ _ _ hM 1 (by decide)) (kv_Mo_says hts rfl rfl (hts _ tw_1410) ⟨Nat.le_of_ble_eq_true rfl, Nat.le_of_ble_eq_true rfl⟩) (pv_Mo hI hE hM) rfl rfl hl.1 rfl (lv_room (Nat.le_of_ble_eq_true rfl)) d_Mo_serial_82 ⟨Nat.le_of_ble_eq_true rfl, Nat.le_of_ble_eq_true rfl⟩) (fun x_118 H locs f σ_116 hI hM hF_117 p_115 => ?_)
                        have hF := mq_fr_tr hF hF_117 (by decide)
                        have u_119 := IH_fr hF_117 (by decide) u0
                        obtain ⟨p_121, o_120, -⟩ := p_115
                        have p_121 := p_121.symm
                        subst p_121
                        refine lv_if_ne (tgt := 89) hx hb d_Mo_serial_85 (by decide) (fun c_122 => ?_) (fun c_122 => ?_)
                        · refine lv_aload_n hx hb d_Mo_serial_89 rfl (lv_at hl 1 rfl) ?_
                          refine lv_iconst (v := 3) hx hb d_Mo_serial_90 (by decide) ?_
                          refine sm_vM hI (va_runV (As := [.int (3)]) (rest := []) ⟨hx, hb, hml, hown, hts⟩ (c_Mo_shut l D ca ad L _ _ _ hM (3) (by omega) u_119) (kv_Mo_shut hts rfl rfl (hts _ tw_1513) ⟨Nat.le_of_ble_eq_true rfl, Nat.le_of_ble_eq_true rfl⟩) (pv_Mo hI hE hM) rfl rfl hl.1 rfl (lv_room (Nat.le_of_ble_eq_true rfl)) d_Mo_serial_91 ⟨Nat.le_of_ble_eq_true rfl, Nat.le_of_ble_eq_true rfl⟩) (fun H locs f σ_124 hI hM hF_125 p_123 => ?_)
                          have hF := mq_fr_tr hF hF_125 (by decide)
                          have o_126 : σ_124.1 0 = if 1 = 0 then 1 else 0 := mq_fi hF_125 (by decide) o_120
                          obtain ⟨o_127, o_128, u_129, -⟩ := p_123
                          refine lv_aload_n hx hb d_Mo_serial_94 rfl (lv_at hl 1 rfl) ?_
                          refine mq_get (k := 13) (v := .ref (ad 13)) hx hb hts hown hI hM (by decide) rfl rfl (hts _ tw_1182) d_Mo_serial_95 ?_
                          refine lv_iconst (v := 3) hx hb d_Mo_serial_98 (by decide) ?_
                          refine lv_iconst (v := 1) hx hb d_Mo_serial_99 (by decide) ?_
                          refine mq_iast (k := 13) (j := 3) (x := 1) hx hb hI hM (by decide) rfl (by show 3 < 4; omega) (by decide) trivial d_Mo_serial_100 (fun H locs f σ_130 e_131 hI hM => ?_)
                          have hF := mq_fr_ug hF e_131 rfl (Or.inl rfl)
                          have o_132 : σ_130.1 0 = if 1 = 0 then 1 else 0 := by rw [e_131]; exact o_126
                          have o_133 : σ_130.2.2.1 30 (3) = nI (0) := by rw [e_131]; exact o_127
                          have o_134 : σ_130.2.2.1 18 (3) = nI (0) := by rw [e_131]; exact o_128
                          have u_135 := IH_fr (mq_fr_ug (X := [13]) mq_fr_rf e_131 rfl (Or.inl rfl)) (by decide) u_129
                          refine lv_aload_n hx hb d_Mo_serial_101 rfl (lv_at hl 1 rfl) ?_
                          refine lv_iload_n hx hb d_Mo_serial_102 rfl (lv_at hl 2 rfl) ?_
                          refine mq_puti (k := 35) (ty := .int) hx hb hts hown hI hM (by decide) rfl rfl (hts _ tw_1204) rfl (by decide +kernel) rfl rfl trivial d_Mo_serial_103 (fun H locs f σ_136 e_137 hI hM => ?_)
                          have hF := mq_fr_ui hF e_137 rfl
                          have o_138 : σ_136.1 0 = if 1 = 0 then 1 else 0 := by rw [e_137]; exact o_132
                          have o_139 : σ_136.2.2.1 30 (3) = nI (0) := by rw [e_137]; exact o_133
                          have o_140 : σ_136.2.2.1 18 (3) = nI (0) := by rw [e_137]; exact o_134
                          have u_141 := IH_fr (mq_fr_ui (X := [35]) mq_fr_rf e_137 rfl) (by decide) u_135
                          refine lv_aload_n hx hb d_Mo_serial_106 rfl (lv_at hl 1 rfl) ?_
                          refine lv_iload_n hx hb d_Mo_serial_107 rfl (lv_at hl 3 rfl) ?_
                          refine mq_puti (k := 36) (ty := .int) hx hb hts hown hI hM (by decide) rfl rfl (hts _ tw_1205) rfl (by decide +kernel) rfl rfl ⟨j_16, by omega, by omega, rfl⟩ d_Mo_serial_108 (fun H locs f σ_142 e_143 hI hM => ?_)
                          have hF := mq_fr_ui hF e_143 rfl
                          have o_144 : σ_142.1 0 = if 1 = 0 then 1 else 0 := by rw [e_143]; exact o_138
                          have o_145 : σ_142.2.2.1 30 (3) = nI (0) := by rw [e_143]; exact o_139
                          have o_146 : σ_142.2.2.1 18 (3) = nI (0) := by rw [e_143]; exact o_140
                          have u_147 : IH σ_142 := IH_fz e_143 (by decide) o_139 u_141
                          refine lv_aload_n hx hb d_Mo_serial_111 rfl (lv_at hl 1 rfl) ?_
                          refine lv_iload_n hx hb d_Mo_serial_112 rfl (lv_at hl 4 rfl) ?_
                          refine mq_puti (k := 37) (ty := .int) hx hb hts hown hI hM (by decide) rfl rfl (hts _ tw_1206) rfl (by decide +kernel) rfl rfl ⟨j_26, by omega, by omega, rfl⟩ d_Mo_serial_113 (fun H locs f σ_148 e_149 hI hM => ?_)
                          have hF := mq_fr_ui hF e_149 rfl
                          have o_150 : σ_148.1 0 = if 1 = 0 then 1 else 0 := by rw [e_149]; exact o_144
                          have o_151 : σ_148.2.2.1 30 (3) = nI (0) := by rw [e_149]; exact o_145
                          have o_152 : σ_148.2.2.1 18 (3) = nI (0) := by rw [e_149]; exact o_146
                          have u_153 : IH σ_148 := IH_fz e_149 (by decide) o_145 u_147
                          refine lv_aload_n hx hb d_Mo_serial_116 rfl (lv_at hl 1 rfl) ?_
                          refine lv_iload hx hb d_Mo_serial_117 (lv_at hl 5 rfl) ?_
                          refine mq_puti (k := 38) (ty := .int) hx hb hts hown hI hM (by decide) rfl rfl (hts _ tw_1207) rfl (by decide +kernel) rfl rfl ⟨j_36, by omega, by omega, rfl⟩ d_Mo_serial_119 (fun H locs f σ_154 e_155 hI hM => ?_)
                          have hF := mq_fr_ui hF e_155 rfl
                          have o_156 : σ_154.1 0 = if 1 = 0 then 1 else 0 := by rw [e_155]; exact o_150
                          have o_157 : σ_154.2.2.1 30 (3) = nI (0) := by rw [e_155]; exact o_151
                          have o_158 : σ_154.2.2.1 18 (3) = nI (0) := by rw [e_155]; exact o_152
                          have u_159 : IH σ_154 := IH_fz e_155 (by decide) o_151 u_153
                          refine lv_aload_n hx hb d_Mo_serial_122 rfl (lv_at hl 1 rfl) ?_
                          refine lv_iconst (v := 0) hx hb d_Mo_serial_123 (by decide) ?_
                          refine mq_puti (k := 40) (ty := .int) hx hb hts hown hI hM (by decide) rfl rfl (hts _ tw_1209) rfl (by decide +kernel) rfl rfl ⟨0, by decide, by decide, rfl⟩ d_Mo_serial_124 (fun H locs f σ_160 e_161 hI hM => ?_)
                          have hF := mq_fr_ui hF e_161 rfl
                          have o_162 : σ_160.1 0 = if 1 = 0 then 1 else 0 := by rw [e_161]; exact o_156
                          have o_163 : σ_160.2.2.1 30 (3) = nI (0) := by rw [e_161]; exact o_157
                          have o_164 : σ_160.2.2.1 18 (3) = nI (0) := by rw [e_161]; exact o_158
                          have u_165 := IH_fr (mq_fr_ui (X := [40]) mq_fr_rf e_161 rfl) (by decide) u_159
                          refine lv_aload_n hx hb d_Mo_serial_127 rfl (lv_at hl 1 rfl) ?_
                          refine sm_vM hI (va_runV (As := []) (rest := []) ⟨hx, hb, hml, hown, hts⟩ (c_Mo_sendAll l D ca ad L _ _ _ hM u_165) (kv_Mo_sendAll hts rfl rfl (hts _ tw_1422) ⟨Nat.le_of_ble_eq_true rfl, Nat.le_of_ble_eq_true rfl⟩) (pv_Mo hI hE hM) rfl rfl hl.1 rfl (lv_room (Nat.le_of_ble_eq_true rfl)) d_Mo_serial_128 ⟨Nat.le_of_ble_eq_true rfl, Nat.le_of_ble_eq_true rfl⟩) (fun H locs f σ_167 hI hM hF_168 p_166 => ?_)
                          have hF := mq_fr_tr hF hF_168 (by decide)
                          have o_169 : σ_167.1 0 = if 1 = 0 then 1 else 0 := mq_fi hF_168 (by decide) o_162
                          obtain ⟨n_170, h_171, o_172⟩ := mq_ri (n := (0)) hF_168 (by decide) o_164
                          obtain ⟨u_173, -⟩ := p_166
                          exact sm_vret hx hb hr hlk hI ⟨σ_167, rfl, hM, hF, ⟨u_173, trivial⟩⟩ d_Mo_serial_131
                        · exact absurd c_122 (by decide)
              · refine lv_if_eq (tgt := 53) hx hb d_Mo_serial_46 (by decide) (fun c_174 => ?_) (fun c_174 => ?_)
                · refine lv_iconst (v := 0) hx hb d_Mo_serial_53 (by decide) ?_
                  refine lv_istore (lv' := [(5, .int (0)), (0, .ref (ad 71)), (1, .int (nI j_6)), (2, .int (nI j_16)), (3, .int (nI j_26)), (4, .int (x4))]) hx hb d_Mo_serial_54 hl (by decide) rfl (fun ls hl => ?_)
                  refine lv_aload_n hx hb d_Mo_serial_56 rfl (lv_at hl 1 rfl) ?_
                  refine lv_iload hx hb d_Mo_serial_57 (lv_at hl 0 rfl) ?_
                  refine lv_if_eq (tgt := 81) hx hb d_Mo_serial_59 (by decide) (fun c_175 => ?_) (fun c_175 => ?_)
                  · refine lv_iconst (v := 0) hx hb d_Mo_serial_81 (by decide) ?_
                    refine sm_iM hI (va_runV (As := [.int (0)]) (rest := []) ⟨hx, hb, hml, hown, hts⟩ (c_Mo_says2 l D ca ad L _ _ _ hM 0 (by decide)) (kv_Mo_says hts rfl rfl (hts _ tw_1410) ⟨Nat.le_of_ble_eq_true rfl, Nat.le_of_ble_eq_true rfl⟩) (pv_Mo hI hE hM) rfl rfl hl.1 rfl (lv_room (Nat.le_of_ble_eq_true rfl)) d_Mo_serial_82 ⟨Nat.le_of_ble_eq_true rfl, Nat.le_of_ble_eq_true rfl⟩) (fun x_179 H locs f σ_177 hI hM hF_178 p_176 => ?_)
                    have hF := mq_fr_tr hF hF_178 (by decide)
                    have u_180 := IH_fr hF_178 (by decide) u0
                    obtain ⟨p_182, o_181, -⟩ := p_176
                    have p_182 := p_182.symm
                    subst p_182
                    refine lv_if_ne (tgt := 89) hx hb d_Mo_serial_85 (by decide) (fun c_183 => ?_) (fun c_183 => ?_)
                    · exact absurd c_183 (by decide)
                    · exact sm_vret hx hb hr hlk hI ⟨σ_177, rfl, hM, hF, ⟨u_180, trivial⟩⟩ d_Mo_serial_88
                  · exact absurd c_175 (by decide)
                · exact absurd c_174 (by decide)
          · refine lv_if_eq (tgt := 53) hx hb d_Mo_serial_33 (by decide) (fun c_184 => ?_) (fun c_184 => ?_)
            · refine lv_iconst (v := 0) hx hb d_Mo_serial_53 (by decide) ?_
              refine lv_istore (lv' := [(5, .int (0)), (0, .ref (ad 71)), (1, .int (nI j_6)), (2, .int (nI j_16)), (3, .int (x3)), (4, .int (x4))]) hx hb d_Mo_serial_54 hl (by decide) rfl (fun ls hl => ?_)
              refine lv_aload_n hx hb d_Mo_serial_56 rfl (lv_at hl 1 rfl) ?_
              refine lv_iload hx hb d_Mo_serial_57 (lv_at hl 0 rfl) ?_
              refine lv_if_eq (tgt := 81) hx hb d_Mo_serial_59 (by decide) (fun c_185 => ?_) (fun c_185 => ?_)
              · refine lv_iconst (v := 0) hx hb d_Mo_serial_81 (by decide) ?_
                refine sm_iM hI (va_runV (As := [.int (0)]) (rest := []) ⟨hx, hb, hml, hown, hts⟩ (c_Mo_says2 l D ca ad L _ _ _ hM 0 (by decide)) (kv_Mo_says hts rfl rfl (hts _ tw_1410) ⟨Nat.le_of_ble_eq_true rfl, Nat.le_of_ble_eq_true rfl⟩) (pv_Mo hI hE hM) rfl rfl hl.1 rfl (lv_room (Nat.le_of_ble_eq_true rfl)) d_Mo_serial_82 ⟨Nat.le_of_ble_eq_true rfl, Nat.le_of_ble_eq_true rfl⟩) (fun x_189 H locs f σ_187 hI hM hF_188 p_186 => ?_)
                have hF := mq_fr_tr hF hF_188 (by decide)
                have u_190 := IH_fr hF_188 (by decide) u0
                obtain ⟨p_192, o_191, -⟩ := p_186
                have p_192 := p_192.symm
                subst p_192
                refine lv_if_ne (tgt := 89) hx hb d_Mo_serial_85 (by decide) (fun c_193 => ?_) (fun c_193 => ?_)
                · exact absurd c_193 (by decide)
                · exact sm_vret hx hb hr hlk hI ⟨σ_187, rfl, hM, hF, ⟨u_190, trivial⟩⟩ d_Mo_serial_88
              · exact absurd c_185 (by decide)
            · exact absurd c_184 (by decide)
      · refine lv_if_eq (tgt := 53) hx hb d_Mo_serial_21 (by decide) (fun c_194 => ?_) (fun c_194 => ?_)
        · refine lv_iconst (v := 0) hx hb d_Mo_serial_53 (by decide) ?_
          refine lv_istore (lv' := [(5, .int (0)), (0, .ref (ad 71)), (1, .int (nI j_6)), (2, .int (x2)), (3, .int (x3)), (4, .int (x4))]) hx hb d_Mo_serial_54 hl (by decide) rfl (fun ls hl => ?_)
          refine lv_aload_n hx hb d_Mo_serial_56 rfl (lv_at hl 1 rfl) ?_
          refine lv_iload hx hb d_Mo_serial_57 (lv_at hl 0 rfl) ?_
          refine lv_if_eq (tgt := 81) hx hb d_Mo_serial_59 (by decide) (fun c_195 => ?_) (fun c_195 => ?_)
          · refine lv_iconst (v := 0) hx hb d_Mo_serial_81 (by decide) ?_
            refine sm_iM hI (va_runV (As := [.int (0)]) (rest := []) ⟨hx, hb, hml, hown, hts⟩ (c_Mo_says2 l D ca ad L _ _ _ hM 0 (by decide)) (kv_Mo_says hts rfl rfl (hts _ tw_1410) ⟨Nat.le_of_ble_eq_true rfl, Nat.le_of_ble_eq_true rfl⟩) (pv_Mo hI hE hM) rfl rfl hl.1 rfl (lv_room (Nat.le_of_ble_eq_true rfl)) d_Mo_serial_82 ⟨Nat.le_of_ble_eq_true rfl, Nat.le_of_ble_eq_true rfl⟩) (fun x_199 H locs f σ_197 hI hM hF_198 p_196 => ?_)
            have hF := mq_fr_tr hF hF_198 (by decide)
            have u_200 := IH_fr hF_198 (by decide) u0
            obtain ⟨p_202, o_201, -⟩ := p_196
            have p_202 := p_202.symm
            subst p_202
            refine lv_if_ne (tgt := 89) hx hb d_Mo_serial_85 (by decide) (fun c_203 => ?_) (fun c_203 => ?_)
            · exact absurd c_203 (by decide)
            · exact sm_vret hx hb hr hlk hI ⟨σ_197, rfl, hM, hF, ⟨u_200, trivial⟩⟩ d_Mo_serial_88
          · exact absurd c_195 (by decide)
        · exact absurd c_194 (by decide)
  · refine lv_if_eq (tgt := 53) hx hb d_Mo_serial_9 (by decide) (fun c_204 => ?_) (fun c_204 => ?_)
    · refine lv_iconst (v := 0) hx hb d_Mo_serial_53 (by decide) ?_
      refine lv_istore (lv' := [(5, .int (0)), (0, .ref (ad 71)), (1, .int (x1)), (2, .int (x2)), (3, .int (x3)), (4, .int (x4))]) hx hb d_Mo_serial_54 hl (by decide) rfl (fun ls hl => ?_)
      refine lv_aload_n hx hb d_Mo_serial_56 rfl (lv_at hl 1 rfl) ?_
      refine lv_iload hx hb d_Mo_serial_57 (lv_at hl 0 rfl) ?_
      refine lv_if_eq (tgt := 81) hx hb d_Mo_serial_59 (by decide) (fun c_205 => ?_) (fun c_205 => ?_)
      · refine lv_iconst (v := 0) hx hb d_Mo_serial_81 (by decide) ?_
        refine sm_iM hI (va_runV (As := [.int (0)]) (rest := []) ⟨hx, hb, hml, hown, hts⟩ (c_Mo_says2 l D ca ad L _ _ _ hM 0 (by decide)) (kv_Mo_says hts rfl rfl (hts _ tw_1410) ⟨Nat.le_of_ble_eq_true rfl, Nat.le_of_ble_eq_true rfl⟩) (pv_Mo hI hE hM) rfl rfl hl.1 rfl (lv_room (Nat.le_of_ble_eq_true rfl)) d_Mo_serial_82 ⟨Nat.le_of_ble_eq_true rfl, Nat.le_of_ble_eq_true rfl⟩) (fun x_209 H locs f σ_207 hI hM hF_208 p_206 => ?_)
        have hF := mq_fr_tr hF hF_208 (by decide)
        have u_210 := IH_fr hF_208 (by decide) u0
        obtain ⟨p_212, o_211, -⟩ := p_206
        have p_212 := p_212.symm
        subst p_212
        refine lv_if_ne (tgt := 89) hx hb d_Mo_serial_85 (by decide) (fun c_213 => ?_) (fun c_213 => ?_)
        · exact absurd c_213 (by decide)
        · exact sm_vret hx hb hr hlk hI ⟨σ_207, rfl, hM, hF, ⟨u_210, trivial⟩⟩ d_Mo_serial_88
      · exact absurd c_205 (by decide)
    · exact absurd c_204 (by decide)
theorem d_Mo_receive_0 : decode b_Mo_receive 0 = .ok (.aload_n 0, 1) := by decide +kernel
theorem d_Mo_receive_1 : decode b_Mo_receive 1 = .ok (.iload_n 1, 1) := by decide +kernel
theorem d_Mo_receive_2 : decode b_Mo_receive 2 = .ok (.i2l, 1) := by decide +kernel
theorem d_Mo_receive_3 : decode b_Mo_receive 3 = .ok (.lconst 0, 1) := by decide +kernel
theorem d_Mo_receive_4 : decode b_Mo_receive 4 = .ok (.ldc2_w 194, 3) := by decide +kernel
theorem d_Mo_receive_7 : decode b_Mo_receive 7 = .ok (.invokestatic 187, 3) := by decide +kernel
theorem d_Mo_receive_10 : decode b_Mo_receive 10 = .ok (.ifCond .eq 16, 3) := by decide +kernel
theorem d_Mo_receive_13 : decode b_Mo_receive 13 = .ok (.iload 4, 2) := by decide +kernel
theorem d_Mo_receive_15 : decode b_Mo_receive 15 = .ok (.i2l, 1) := by decide +kernel
theorem d_Mo_receive_16 : decode b_Mo_receive 16 = .ok (.lconst 1, 1) := by decide +kernel
theorem d_Mo_receive_17 : decode b_Mo_receive 17 = .ok (.ldc2_w 385, 3) := by decide +kernel
theorem d_Mo_receive_20 : decode b_Mo_receive 20 = .ok (.invokestatic 187, 3) := by decide +kernel
theorem d_Mo_receive_23 : decode b_Mo_receive 23 = .ok (.ifCond .ne 7, 3) := by decide +kernel
theorem d_Mo_receive_26 : decode b_Mo_receive 26 = .ok (.iconst 1, 1) := by decide +kernel
theorem d_Mo_receive_27 : decode b_Mo_receive 27 = .ok (.goto 17, 3) := by decide +kernel
theorem d_Mo_receive_30 : decode b_Mo_receive 30 = .ok (.aload_n 0, 1) := by decide +kernel
theorem d_Mo_receive_31 : decode b_Mo_receive 31 = .ok (.getfield 29, 3) := by decide +kernel
theorem d_Mo_receive_34 : decode b_Mo_receive 34 = .ok (.iload_n 1, 1) := by decide +kernel
theorem d_Mo_receive_35 : decode b_Mo_receive 35 = .ok (.iaload, 1) := by decide +kernel
theorem d_Mo_receive_36 : decode b_Mo_receive 36 = .ok (.ifCond .ne 7, 3) := by decide +kernel
theorem d_Mo_receive_39 : decode b_Mo_receive 39 = .ok (.iconst 2, 1) := by decide +kernel
theorem d_Mo_receive_40 : decode b_Mo_receive 40 = .ok (.goto 4, 3) := by decide +kernel
theorem d_Mo_receive_43 : decode b_Mo_receive 43 = .ok (.iconst 0, 1) := by decide +kernel
theorem d_Mo_receive_44 : decode b_Mo_receive 44 = .ok (.putfield 179, 3) := by decide +kernel
theorem d_Mo_receive_47 : decode b_Mo_receive 47 = .ok (.aload_n 0, 1) := by decide +kernel
theorem d_Mo_receive_48 : decode b_Mo_receive 48 = .ok (.getfield 179, 3) := by decide +kernel
theorem d_Mo_receive_51 : decode b_Mo_receive 51 = .ok (.ifCond .le 5, 3) := by decide +kernel
theorem d_Mo_receive_54 : decode b_Mo_receive 54 = .ok (.iconst 0, 1) := by decide +kernel
theorem d_Mo_receive_55 : decode b_Mo_receive 55 = .ok (.ireturn, 1) := by decide +kernel
theorem d_Mo_receive_56 : decode b_Mo_receive 56 = .ok (.iload_n 1, 1) := by decide +kernel
theorem d_Mo_receive_57 : decode b_Mo_receive 57 = .ok (.iconst 3, 1) := by decide +kernel
theorem d_Mo_receive_58 : decode b_Mo_receive 58 = .ok (.if_icmp .ge 13, 3) := by decide +kernel
theorem d_Mo_receive_61 : decode b_Mo_receive 61 = .ok (.aload_n 0, 1) := by decide +kernel
theorem d_Mo_receive_62 : decode b_Mo_receive 62 = .ok (.getfield 72, 3) := by decide +kernel
theorem d_Mo_receive_65 : decode b_Mo_receive 65 = .ok (.iload_n 1, 1) := by decide +kernel
theorem d_Mo_receive_66 : decode b_Mo_receive 66 = .ok (.aload_n 0, 1) := by decide +kernel
theorem d_Mo_receive_67 : decode b_Mo_receive 67 = .ok (.getfield 282, 3) := by decide +kernel
theorem d_Mo_receive_70 : decode b_Mo_receive 70 = .ok (.lastore, 1) := by decide +kernel
theorem d_Mo_receive_71 : decode b_Mo_receive 71 = .ok (.iconst 0, 1) := by decide +kernel
theorem d_Mo_receive_72 : decode b_Mo_receive 72 = .ok (.istore 5, 2) := by decide +kernel
theorem d_Mo_receive_74 : decode b_Mo_receive 74 = .ok (.iload 5, 2) := by decide +kernel
theorem d_Mo_receive_76 : decode b_Mo_receive 76 = .ok (.iload 4, 2) := by decide +kernel
theorem d_Mo_receive_78 : decode b_Mo_receive 78 = .ok (.if_icmp .ge 67, 3) := by decide +kernel
theorem d_Mo_receive_81 : decode b_Mo_receive 81 = .ok (.lload_n 2, 1) := by decide +kernel
theorem d_Mo_receive_82 : decode b_Mo_receive 82 = .ok (.bipush 8, 2) := by decide +kernel
theorem d_Mo_receive_84 : decode b_Mo_receive 84 = .ok (.iload 4, 2) := by decide +kernel
theorem d_Mo_receive_86 : decode b_Mo_receive 86 = .ok (.iconst 1, 1) := by decide +kernel
theorem d_Mo_receive_87 : decode b_Mo_receive 87 = .ok (.isub, 1) := by decide +kernel
theorem d_Mo_receive_88 : decode b_Mo_receive 88 = .ok (.iload 5, 2) := by decide +kernel
theorem d_Mo_receive_90 : decode b_Mo_receive 90 = .ok (.isub, 1) := by decide +kernel
theorem d_Mo_receive_91 : decode b_Mo_receive 91 = .ok (.imul, 1) := by decide +kernel
theorem d_Mo_receive_92 : decode b_Mo_receive 92 = .ok (.lshr, 1) := by decide +kernel
theorem d_Mo_receive_93 : decode b_Mo_receive 93 = .ok (.ldc2_w 387, 3) := by decide +kernel
theorem d_Mo_receive_96 : decode b_Mo_receive 96 = .ok (.land, 1) := by decide +kernel
theorem d_Mo_receive_97 : decode b_Mo_receive 97 = .ok (.l2i, 1) := by decide +kernel
theorem d_Mo_receive_98 : decode b_Mo_receive 98 = .ok (.istore 6, 2) := by decide +kernel
theorem d_Mo_receive_100 : decode b_Mo_receive 100 = .ok (.iload_n 1, 1) := by decide +kernel
theorem d_Mo_receive_101 : decode b_Mo_receive 101 = .ok (.iconst 3, 1) := by decide +kernel
theorem d_Mo_receive_102 : decode b_Mo_receive 102 = .ok (.if_icmp .ne 12, 3) := by decide +kernel
theorem d_Mo_receive_105 : decode b_Mo_receive 105 = .ok (.aload_n 0, 1) := by decide +kernel
theorem d_Mo_receive_106 : decode b_Mo_receive 106 = .ok (.iload 6, 2) := by decide +kernel
theorem d_Mo_receive_108 : decode b_Mo_receive 108 = .ok (.invokevirtual 389, 3) := by decide +kernel
theorem d_Mo_receive_111 : decode b_Mo_receive 111 = .ok (.goto 10, 3) := by decide +kernel
theorem d_Mo_receive_114 : decode b_Mo_receive 114 = .ok (.aload_n 0, 1) := by decide +kernel
theorem d_Mo_receive_115 : decode b_Mo_receive 115 = .ok (.iload_n 1, 1) := by decide +kernel
theorem d_Mo_receive_116 : decode b_Mo_receive 116 = .ok (.iload 6, 2) := by decide +kernel
theorem d_Mo_receive_118 : decode b_Mo_receive 118 = .ok (.invokevirtual 392, 3) := by decide +kernel
theorem d_Mo_receive_121 : decode b_Mo_receive 121 = .ok (.aload_n 0, 1) := by decide +kernel
theorem d_Mo_receive_122 : decode b_Mo_receive 122 = .ok (.invokevirtual 216, 3) := by decide +kernel
theorem d_Mo_receive_125 : decode b_Mo_receive 125 = .ok (.aload_n 0, 1) := by decide +kernel
theorem d_Mo_receive_126 : decode b_Mo_receive 126 = .ok (.getfield 29, 3) := by decide +kernel
theorem d_Mo_receive_129 : decode b_Mo_receive 129 = .ok (.iload_n 1, 1) := by decide +kernel
theorem d_Mo_receive_130 : decode b_Mo_receive 130 = .ok (.iaload, 1) := by decide +kernel
theorem d_Mo_receive_131 : decode b_Mo_receive 131 = .ok (.ifCond .ne 8, 3) := by decide +kernel
theorem d_Mo_receive_134 : decode b_Mo_receive 134 = .ok (.iload 5, 2) := by decide +kernel
theorem d_Mo_receive_136 : decode b_Mo_receive 136 = .ok (.iconst 1, 1) := by decide +kernel
theorem d_Mo_receive_137 : decode b_Mo_receive 137 = .ok (.iadd, 1) := by decide +kernel
theorem d_Mo_receive_138 : decode b_Mo_receive 138 = .ok (.ireturn, 1) := by decide +kernel
theorem d_Mo_receive_139 : decode b_Mo_receive 139 = .ok (.iinc 5 1, 3) := by decide +kernel
theorem d_Mo_receive_142 : decode b_Mo_receive 142 = .ok (.goto (-68), 3) := by decide +kernel
theorem d_Mo_receive_145 : decode b_Mo_receive 145 = .ok (.iload 4, 2) := by decide +kernel
theorem d_Mo_receive_147 : decode b_Mo_receive 147 = .ok (.ireturn, 1) := by decide +kernel
set_option maxRecDepth 100000 in
set_option maxHeartbeats 4000000 in
theorem c_Mo_receive (l : Launch) (D : va_G) (ca : Nat → ClassId) (ad : Nat → Nat) (L : List Nat) (f0 : Nat → va_E) (sz : Nat) (σ0 : mq_S) (hM : mq_B ca ad σ0 L f0) (x1 : Int32) (x2 : Int64) (x3 : Int32) (z1 : Nat) (o0 : σ0.1 56 = nI z1) (hz : z1 ≤ 598) (u0 : IH σ0) (u1 : BIa σ0) (u2 : SI σ0) :
    Met l y_Mo_receive (Cond.code y_Mo_receive b_Mo_receive 7 (some .int) :: wg) { frames := 11, cells := 0, slots := 0, locals := 281 } (va_Pc [.ref (ad 71), .int (x1), .long (x2), .int (x3)] (sm_P D cl_all (ty_s ca) ek L f0 sz)) (sm_Qi D (ty_s ca) L f0 sz (fun r u => mq_po ca ad L σ0 [0, 9, 10, 11, 13, 14, 15, 16, 17, 18, 19, 20, 21, 22, 23, 24, 25, 26, 27, 28, 30, 31, 32, 33, 34, 39, 40, 41, 42, 43, 45, 46, 47, 48, 49, 50, 51, 52, 54, 55, 56, 57, 58, 59, 60, 61, 62, 63, 64, 65, 66, 67, 68, 69, 70, 118] (fun σ => (∃ n : Nat, z1 ≤ n ∧ n ≤ z1 + 1 ∧ σ.1 56 = nI n) ∧ IH σ ∧ BIa σ ∧ SI σ ∧ True) u)) 0 0 (va_A (va_pl L f0) sz) := by
  refine sm_start (by decide) (Nat.le_of_ble_eq_true rfl) ?_
  intro p e s m below meth c ls hx hb hml hr hlk hnm hts hown hsz hE hI hl
  have hl : lv_has ls 7 [(0, .ref (ad 71)), (1, .int (x1)), (2, .long (x2)), (4, .int (x3))] := hl
  have hF : mq_fr [0, 9, 10, 11, 13, 14, 15, 16, 17, 18, 19, 20, 21, 22, 23, 24, 25, 26, 27, 28, 30, 31, 32, 33, 34, 39, 40, 41, 42, 43, 45, 46, 47, 48, 49, 50, 51, 52, 54, 55, 56, 57, 58, 59, 60, 61, 62, 63, 64, 65, 66, 67, 68, 69, 70, 118] σ0 σ0 := mq_fr_rf
  have hJ_74 : ∀ (N k : Nat) (H : Heap) (locs : List Loc) (f : Nat → va_E) (σ : mq_S) (ls : Array Slot) (l1 : Nat) (m9 : Nat) (w : Nat) (v : Nat), 8 + 1 - k ≤ N → k ≤ 8 → sw_I D cl_all (ty_s ca) (va_A (va_pl L f0) sz) s H locs L f → mq_B ca ad σ L f → mq_fr [0, 9, 10, 11, 13, 14, 15, 16, 17, 18, 19, 20, 21, 22, 23, 24, 25, 26, 27, 28, 30, 31, 32, 33, 34, 39, 40, 41, 42, 43, 45, 46, 47, 48, 49, 50, 51, 52, 54, 55, 56, 57, 58, 59, 60, 61, 62, 63, 64, 65, 66, 67, 68, 69, 70, 118] σ0 σ → lv_has ls 7 [(0, .ref (ad 71)), (1, .int (nI l1)), (2, .long (x2)), (4, .int (nI m9)), (5, .int (nI k))] → (z1 ≤ w) → (w ≤ z1 + 1) → (σ.1 56 = nI w) → (0 ≤ v) → (v ≤ 269) → (σ.2.2.1 18 (l1) = nI v) → (IH σ) → (BIa σ) → (SI σ) → (l1 ≤ 3) → (1 ≤ m9) → (m9 ≤ 8) → (w = z1 ∨ v ≤ k) → W p l e { frames := 11, cells := 0, slots := 0, locals := 281 } s m ([.ref (ad 71), .int (x1), .long (x2), .int (x3)] : List Value).toArray below meth c H locs 0 0 (MQ below (sm_Qi D (ty_s ca) L f0 sz (fun r u => mq_po ca ad L σ0 [0, 9, 10, 11, 13, 14, 15, 16, 17, 18, 19, 20, 21, 22, 23, 24, 25, 26, 27, 28, 30, 31, 32, 33, 34, 39, 40, 41, 42, 43, 45, 46, 47, 48, 49, 50, 51, 52, 54, 55, 56, 57, 58, 59, 60, 61, 62, 63, 64, 65, 66, 67, 68, 69, 70, 118] (fun σ => (∃ n : Nat, z1 ≤ n ∧ n ≤ z1 + 1 ∧ σ.1 56 = nI n) ∧ IH σ ∧ BIa σ ∧ SI σ ∧ True) u)) ([.ref (ad 71), .int (x1), .long (x2), .int (x3)] : List Value).toArray s 0 0 (va_A (va_pl L f0) sz)) (F0 m 74 ls []) := by
    intro N
    induction N with
    | zero => intros; omega
    | succ N ih =>
      intro k H locs f σ ls l1 m9 w v hN hk hI hM hF hl h90a h90b o90 h91a h91b o91 u90 u91 u92 hl1 hm1 hm8 hw
      refine lv_iload hx hb d_Mo_receive_74 (lv_at hl 4 rfl) ?_
      refine lv_iload hx hb d_Mo_receive_76 (lv_at hl 3 rfl) ?_
      refine lv_icmp_ge (tgt := 145) hx hb d_Mo_receive_78 (by decide) (fun c_1 => ?_) (fun c_1 => ?_)
      · have k_2 : m9 ≤ k := (nI_leI (a := m9) (b := k) (by omega) (by omega)).mp c_1
        refine lv_iload hx hb d_Mo_receive_145 (lv_at hl 3 rfl) ?_
        exact sm_iret hx hb hr hlk hI ⟨σ, rfl, hM, hF, ⟨⟨w, by omega, by omega, o90⟩, u90, u91, u92, trivial⟩⟩ d_Mo_receive_147
      · have k_3 : k < m9 := Nat.lt_of_not_le (fun q => c_1 ((nI_leI (a := m9) (b := k) (by omega) (by omega)).mpr q))
        refine lv_lload_n hx hb d_Mo_receive_81 rfl (lv_at hl 2 rfl) ?_
        refine lv_bipush (v := 8) hx hb d_Mo_receive_82 (by decide) ?_
        refine lv_iload hx hb d_Mo_receive_84 (lv_at hl 3 rfl) ?_
        refine lv_iconst (v := 1) hx hb d_Mo_receive_86 (by decide) ?_
        refine lv_isub hx hb d_Mo_receive_87 ?_
        refine lv_topi (fun x_4 e_5 => ?_)
        obtain rfl : x_4 = nI (m9 - 1) := by rw [e_5]; exact pk_sub (a := m9) (b := 1) (by omega)
        refine lv_iload hx hb d_Mo_receive_88 (lv_at hl 4 rfl) ?_
        refine lv_isub hx hb d_Mo_receive_90 ?_
        refine lv_topi (fun x_6 e_7 => ?_)
        obtain rfl : x_6 = nI ((m9 - 1) - k) := by rw [e_7]; exact pk_sub (a := (m9 - 1)) (b := k) (by omega)
        refine lv_imul hx hb d_Mo_receive_91 ?_
        refine lv_topi (fun x_8 e_9 => ?_)
        obtain rfl : x_8 = nI (8 * ((m9 - 1) - k)) := by rw [e_9]; exact pk_mul _ _
        refine lv_lshr hx hb d_Mo_receive_92 rfl ?_
        refine lv_topl (fun x_10 e_11 => ?_)
        refine lv_ldc2 (v := 255) hx hb hown (hts _ tw_1575) d_Mo_receive_93 ?_
        refine lv_land hx hb d_Mo_receive_96 ?_
        refine lv_topl (fun x_12 e_13 => ?_)
        refine lv_l2i hx hb d_Mo_receive_97 rfl ?_
        refine lv_topi (fun x_14 e_15 => ?_)
        obtain ⟨n_16, h_17, rfl⟩ : ∃ n : Nat, n ≤ 255 ∧ x_14 = nI n := lb_255 e_13 e_15
        refine lv_istore (lv' := [(6, .int (nI n_16)), (0, .ref (ad 71)), (1, .int (nI l1)), (2, .long (x2)), (4, .int (nI m9)), (5, .int (nI k))]) hx hb d_Mo_receive_98 hl (by decide) rfl (fun ls hl => ?_)
        refine lv_iload_n hx hb d_Mo_receive_100 rfl (lv_at hl 2 rfl) ?_
        refine lv_iconst (v := 3) hx hb d_Mo_receive_101 (by decide) ?_
        refine lv_icmp_ne (tgt := 114) hx hb d_Mo_receive_102 (by decide) (fun c_18 => ?_) (fun c_18 => ?_)
        · have k_19 : ¬ l1 = 3 := (fun q => c_18 ((nI_eq (a := l1) (b := 3) (by omega) (by omega)).mpr q))
          refine lv_aload_n hx hb d_Mo_receive_114 rfl (lv_at hl 1 rfl) ?_
          refine lv_iload_n hx hb d_Mo_receive_115 rfl (lv_at hl 2 rfl) ?_
          refine lv_iload hx hb d_Mo_receive_116 (lv_at hl 0 rfl) ?_
          refine sm_vM hI (va_runV (As := [.int (nI l1), .int (nI n_16)]) (rest := []) ⟨hx, hb, hml, hown, hts⟩ (c_Mo_byteOf l D ca ad L _ _ _ hM (l1) (by omega) (n_16) (by omega) (w) o90 (v) o91 (by omega) (by omega) u90 u91 u92) (kv_Mo_byteOf hts rfl rfl (hts _ tw_1673) ⟨Nat.le_of_ble_eq_true rfl, Nat.le_of_ble_eq_true rfl⟩) (pv_Mo hI hE hM) rfl rfl hl.1 rfl (lv_room (Nat.le_of_ble_eq_true rfl)) d_Mo_receive_118 ⟨Nat.le_of_ble_eq_true rfl, Nat.le_of_ble_eq_true rfl⟩) (fun H locs f σ_21 hI hM hF_22 p_20 => ?_)
          have hF := mq_fr_tr hF hF_22 (by decide)
          obtain ⟨⟨n_24, n_25, o_26, o_27, h_28⟩, u_29, u_30, u_31, -⟩ := p_20
          refine lv_aload_n hx hb d_Mo_receive_121 rfl (lv_at hl 1 rfl) ?_
          refine sm_vM hI (va_runV (As := []) (rest := []) ⟨hx, hb, hml, hown, hts⟩ (c_Mo_sendAll l D ca ad L _ _ _ hM u_29) (kv_Mo_sendAll hts rfl rfl (hts _ tw_1422) ⟨Nat.le_of_ble_eq_true rfl, Nat.le_of_ble_eq_true rfl⟩) (pv_Mo hI hE hM) rfl rfl hl.1 rfl (lv_room (Nat.le_of_ble_eq_true rfl)) d_Mo_receive_122 ⟨Nat.le_of_ble_eq_true rfl, Nat.le_of_ble_eq_true rfl⟩) (fun H locs f σ_33 hI hM hF_34 p_32 => ?_)
          have hF := mq_fr_tr hF hF_34 (by decide)
          have o_35 : σ_33.1 56 = nI n_24 := mq_fi hF_34 (by decide) o_26
          obtain ⟨n_36, h_37, o_38⟩ := mq_ri (n := n_25) hF_34 (by decide) o_27
          have u_39 := BIa_fr hF_34 (by decide) u_30
          have u_40 := SI_fr hF_34 (by decide) u_31
          obtain ⟨u_41, -⟩ := p_32
          refine lv_aload_n hx hb d_Mo_receive_125 rfl (lv_at hl 1 rfl) ?_
          refine mq_get (k := 13) (v := .ref (ad 13)) hx hb hts hown hI hM (by decide) rfl rfl (hts _ tw_1182) d_Mo_receive_126 ?_
          refine lv_iload_n hx hb d_Mo_receive_129 rfl (lv_at hl 2 rfl) ?_
          obtain ⟨x_42, e_43⟩ : ∃ z, σ_33.2.2.1 13 (l1) = z := ⟨_, rfl⟩
          refine mq_iald (k := 13) (j := l1) (v := x_42) hx hb hI hM (by decide) rfl (by show l1 < 4; omega) (by decide) e_43 d_Mo_receive_130 ?_
          refine lv_if_ne (tgt := 139) hx hb d_Mo_receive_131 (by decide) (fun c_44 => ?_) (fun c_44 => ?_)
          · refine lv_iinc (v := nI (k + 1)) (lv' := [(5, .int (nI (k + 1))), (6, .int (nI n_16)), (0, .ref (ad 71)), (1, .int (nI l1)), (2, .long (x2)), (4, .int (nI m9))]) hx hb d_Mo_receive_139 hl (k := 5) rfl (nI_1 _) (by decide) rfl (fun ls hl => ?_)
            refine lv_goto (tgt := 74) hx hb d_Mo_receive_142 (by decide) ?_
            exact ih ((k + 1)) _ _ _ _ _ (l1) (m9) (n_24) (n_36) (by omega) (by omega) hI hM hF (lv_sub hl [2, 3, 4, 5, 0] rfl) (by omega) (by omega) o_35 (by omega) (mq_leg hM.2.2.2.2.2 18 _ rfl o_38 (by omega) (by decide)) o_38 u_41 u_39 u_40 (by omega) (by omega) (by omega) (by omega)
          · refine lv_iload hx hb d_Mo_receive_134 (lv_at hl 5 rfl) ?_
            refine lv_iconst (v := 1) hx hb d_Mo_receive_136 (by decide) ?_
            refine lv_iadd hx hb d_Mo_receive_137 ?_
            refine lv_topi (fun x_45 e_46 => ?_)
            obtain rfl : x_45 = nI (k + 1) := by rw [e_46]; exact nI_add _ _
            exact sm_iret hx hb hr hlk hI ⟨σ_33, rfl, hM, hF, ⟨⟨n_24, by omega, by omega, o_35⟩, u_41, u_39, u_40, trivial⟩⟩ d_Mo_receive_138
        · have k_47 : l1 = 3 := (nI_eq (a := l1) (b := 3) (by omega) (by omega)).mp c_18
          refine lv_aload_n hx hb d_Mo_receive_105 rfl (lv_at hl 1 rfl) ?_
          refine lv_iload hx hb d_Mo_receive_106 (lv_at hl 0 rfl) ?_
          have o33 : σ.2.2.1 18 3 = nI v := by rw [show 3 = l1 by omega]; exact o91
          refine sm_vM hI (va_runV (As := [.int (nI n_16)]) (rest := []) ⟨hx, hb, hml, hown, hts⟩ (c_Mo_serialByte l D ca ad L _ _ _ hM (n_16) (by omega) (w) o90 (v) o33 (by omega) (by omega) u90 u91 u92) (kv_Mo_serialByte hts rfl rfl (hts _ tw_1576) ⟨Nat.le_of_ble_eq_true rfl, Nat.le_of_ble_eq_true rfl⟩) (pv_Mo hI hE hM) rfl rfl hl.1 rfl (lv_room (Nat.le_of_ble_eq_true rfl)) d_Mo_receive_108 ⟨Nat.le_of_ble_eq_true rfl, Nat.le_of_ble_eq_true rfl⟩) (fun H locs f σ_49 hI hM hF_50 p_48 => ?_)
          have hF := mq_fr_tr hF hF_50 (by decide)
          obtain ⟨⟨n_52, n_53, o_54, o_55, h_56⟩, u_57, u_58, u_59, -⟩ := p_48
          have o34 : σ_49.2.2.1 18 l1 = nI n_53 := by rw [show l1 = 3 by omega]; exact o_55
          refine lv_goto (tgt := 121) hx hb d_Mo_receive_111 (by decide) ?_
          refine lv_aload_n hx hb d_Mo_receive_121 rfl (lv_at hl 1 rfl) ?_
          refine sm_vM hI (va_runV (As := []) (rest := []) ⟨hx, hb, hml, hown, hts⟩ (c_Mo_sendAll l D ca ad L _ _ _ hM u_57) (kv_Mo_sendAll hts rfl rfl (hts _ tw_1422) ⟨Nat.le_of_ble_eq_true rfl, Nat.le_of_ble_eq_true rfl⟩) (pv_Mo hI hE hM) rfl rfl hl.1 rfl (lv_room (Nat.le_of_ble_eq_true rfl)) d_Mo_receive_122 ⟨Nat.le_of_ble_eq_true rfl, Nat.le_of_ble_eq_true rfl⟩) (fun H locs f σ_61 hI hM hF_62 p_60 => ?_)
          have hF := mq_fr_tr hF hF_62 (by decide)
          have o_63 : σ_61.1 56 = nI n_52 := mq_fi hF_62 (by decide) o_54
          obtain ⟨n_64, h_65, o_66⟩ := mq_ri (n := n_53) hF_62 (by decide) o34
          have u_67 := BIa_fr hF_62 (by decide) u_58
          have u_68 := SI_fr hF_62 (by decide) u_59
          obtain ⟨u_69, -⟩ := p_60
          refine lv_aload_n hx hb d_Mo_receive_125 rfl (lv_at hl 1 rfl) ?_
          refine mq_get (k := 13) (v := .ref (ad 13)) hx hb hts hown hI hM (by decide) rfl rfl (hts _ tw_1182) d_Mo_receive_126 ?_
          refine lv_iload_n hx hb d_Mo_receive_129 rfl (lv_at hl 2 rfl) ?_
          obtain ⟨x_70, e_71⟩ : ∃ z, σ_61.2.2.1 13 (l1) = z := ⟨_, rfl⟩
          refine mq_iald (k := 13) (j := l1) (v := x_70) hx hb hI hM (by decide) rfl (by show l1 < 4; omega) (by decide) e_71 d_Mo_receive_130 ?_
          refine lv_if_ne (tgt := 139) hx hb d_Mo_receive_131 (by decide) (fun c_72 => ?_) (fun c_72 => ?_)
          · refine lv_iinc (v := nI (k + 1)) (lv' := [(5, .int (nI (k + 1))), (6, .int (nI n_16)), (0, .ref (ad 71)), (1, .int (nI l1)), (2, .long (x2)), (4, .int (nI m9))]) hx hb d_Mo_receive_139 hl (k := 5) rfl (nI_1 _) (by decide) rfl (fun ls hl => ?_)
            refine lv_goto (tgt := 74) hx hb d_Mo_receive_142 (by decide) ?_
            exact ih ((k + 1)) _ _ _ _ _ (l1) (m9) (n_52) (n_64) (by omega) (by omega) hI hM hF (lv_sub hl [2, 3, 4, 5, 0] rfl) (by omega) (by omega) o_63 (by omega) (mq_leg hM.2.2.2.2.2 18 _ rfl o_66 (by omega) (by decide)) o_66 u_69 u_67 u_68 (by omega) (by omega) (by omega) (by omega)
          · refine lv_iload hx hb d_Mo_receive_134 (lv_at hl 5 rfl) ?_
            refine lv_iconst (v := 1) hx hb d_Mo_receive_136 (by decide) ?_
            refine lv_iadd hx hb d_Mo_receive_137 ?_
            refine lv_topi (fun x_73 e_74 => ?_)
            obtain rfl : x_73 = nI (k + 1) := by rw [e_74]; exact nI_add _ _
            exact sm_iret hx hb hr hlk hI ⟨σ_61, rfl, hM, hF, ⟨⟨n_52, by omega, by omega, o_63⟩, u_69, u_67, u_68, trivial⟩⟩ d_Mo_receive_138
  refine lv_aload_n hx hb d_Mo_receive_0 rfl (lv_at hl 0 rfl) ?_
  refine lv_iload_n hx hb d_Mo_receive_1 rfl (lv_at hl 1 rfl) ?_
  refine lv_i2l hx hb d_Mo_receive_2 rfl ?_
  refine lv_topl (fun x_75 e_76 => ?_)
  refine lv_lconst (v := 0) hx hb d_Mo_receive_3 (by decide) ?_
  refine lv_ldc2 (v := 3) hx hb hown (hts _ tw_1405) d_Mo_receive_4 ?_
  refine sm_iP hI (va_runS (As := [.long (x_75), .long (0), .long (3)]) (rest := [.ref (ad 71)]) ⟨hx, hb, hml, hown, hts⟩ (c_Mo_in l D ca L _ _ x_75 0 3) (ks_Mo_in hts rfl rfl (hts _ tw_1393) ⟨Nat.le_of_ble_eq_true rfl, Nat.le_of_ble_eq_true rfl⟩) (sm_preS hI hE) rfl rfl hl.1 rfl (lv_room (Nat.le_of_ble_eq_true rfl)) d_Mo_receive_7 ⟨Nat.le_of_ble_eq_true rfl, Nat.le_of_ble_eq_true rfl⟩) (fun x_78 H locs p_77 hI => ?_)
  rcases jn_int (lo := 0) (hi := 3) p_77 e_76 (by decide) (by decide) (by omega) with ⟨rfl, j_80, h_81, h_82, e_83⟩ | ⟨rfl, h_79⟩
  · rw [e_83] at hl
    refine lv_if_eq (tgt := 26) hx hb d_Mo_receive_10 (by decide) (fun c_84 => ?_) (fun c_84 => ?_)
    · exact absurd c_84 (by decide)
    · refine lv_iload hx hb d_Mo_receive_13 (lv_at hl 3 rfl) ?_
      refine lv_i2l hx hb d_Mo_receive_15 rfl ?_
      refine lv_topl (fun x_85 e_86 => ?_)
      refine lv_lconst (v := 1) hx hb d_Mo_receive_16 (by decide) ?_
      refine lv_ldc2 (v := 8) hx hb hown (hts _ tw_1574) d_Mo_receive_17 ?_
      refine sm_iP hI (va_runS (As := [.long (x_85), .long (1), .long (8)]) (rest := [.ref (ad 71)]) ⟨hx, hb, hml, hown, hts⟩ (c_Mo_in l D ca L _ _ x_85 1 8) (ks_Mo_in hts rfl rfl (hts _ tw_1393) ⟨Nat.le_of_ble_eq_true rfl, Nat.le_of_ble_eq_true rfl⟩) (sm_preS hI hE) rfl rfl hl.1 rfl (lv_room (Nat.le_of_ble_eq_true rfl)) d_Mo_receive_20 ⟨Nat.le_of_ble_eq_true rfl, Nat.le_of_ble_eq_true rfl⟩) (fun x_88 H locs p_87 hI => ?_)
      rcases jn_int (lo := 1) (hi := 8) p_87 e_86 (by decide) (by decide) (by omega) with ⟨rfl, j_90, h_91, h_92, e_93⟩ | ⟨rfl, h_89⟩
      · rw [e_93] at hl
        refine lv_if_ne (tgt := 30) hx hb d_Mo_receive_23 (by decide) (fun c_94 => ?_) (fun c_94 => ?_)
        · refine lv_aload_n hx hb d_Mo_receive_30 rfl (lv_at hl 0 rfl) ?_
          refine mq_get (k := 13) (v := .ref (ad 13)) hx hb hts hown hI hM (by decide) rfl rfl (hts _ tw_1182) d_Mo_receive_31 ?_
          refine lv_iload_n hx hb d_Mo_receive_34 rfl (lv_at hl 1 rfl) ?_
          obtain ⟨x_95, e_96⟩ : ∃ z, σ0.2.2.1 13 (j_80) = z := ⟨_, rfl⟩
          refine mq_iald (k := 13) (j := j_80) (v := x_95) hx hb hI hM (by decide) rfl (by show j_80 < 4; omega) (by decide) e_96 d_Mo_receive_35 ?_
          refine lv_if_ne (tgt := 43) hx hb d_Mo_receive_36 (by decide) (fun c_97 => ?_) (fun c_97 => ?_)
          · refine lv_iconst (v := 0) hx hb d_Mo_receive_43 (by decide) ?_
            refine mq_puti (k := 0) (ty := .int) hx hb hts hown hI hM (by decide) rfl rfl (hts _ tw_1169) rfl (by decide +kernel) rfl rfl trivial d_Mo_receive_44 (fun H locs f σ_98 e_99 hI hM => ?_)
            have hF := mq_fr_ui hF e_99 rfl
            have o_100 : σ_98.1 56 = nI z1 := by rw [e_99]; exact o0
            have u_101 := IH_fr (mq_fr_ui (X := [0]) mq_fr_rf e_99 rfl) (by decide) u0
            have u_102 := BIa_fr (mq_fr_ui (X := [0]) mq_fr_rf e_99 rfl) (by decide) u1
            have u_103 := SI_fr (mq_fr_ui (X := [0]) mq_fr_rf e_99 rfl) (by decide) u2
            have o_104 := mq_uik e_99
            refine lv_aload_n hx hb d_Mo_receive_47 rfl (lv_at hl 0 rfl) ?_
            refine mq_get (k := 0) (v := .int (0)) hx hb hts hown hI hM (by decide) (congrArg (fun z => some (Value.int z)) o_104) rfl (hts _ tw_1169) d_Mo_receive_48 ?_
            refine lv_if_le (tgt := 56) hx hb d_Mo_receive_51 (by decide) (fun c_105 => ?_) (fun c_105 => ?_)
            · refine lv_iload_n hx hb d_Mo_receive_56 rfl (lv_at hl 1 rfl) ?_
              refine lv_iconst (v := 3) hx hb d_Mo_receive_57 (by decide) ?_
              refine lv_icmp_ge (tgt := 71) hx hb d_Mo_receive_58 (by decide) (fun c_106 => ?_) (fun c_106 => ?_)
              · have k_107 : 3 ≤ j_80 := (nI_leI (a := 3) (b := j_80) (by omega) (by omega)).mp c_106
                refine lv_iconst (v := 0) hx hb d_Mo_receive_71 (by decide) ?_
                refine lv_istore (lv' := [(5, .int (0)), (0, .ref (ad 71)), (1, .int (nI j_80)), (2, .long (x2)), (4, .int (nI j_90))]) hx hb d_Mo_receive_72 hl (by decide) rfl (fun ls hl => ?_)
                obtain ⟨n_108, h_109, h_110, e_111⟩ := hM.2.2.2.2.2 18 (j_80)
                exact hJ_74 _ (0) _ _ _ _ _ (j_80) (j_90) (z1) (n_108) (Nat.le_refl _) (by omega) hI hM hF (lv_sub hl [1, 2, 3, 4, 0] rfl) (by omega) (by omega) o_100 (by omega) (mq_leg hM.2.2.2.2.2 18 _ rfl e_111 (by omega) (by decide)) e_111 u_101 u_102 u_103 (by omega) (by omega) (by omega) (by omega)
              · have k_112 : j_80 < 3 := Nat.lt_of_not_le (fun q => c_106 ((nI_leI (a := 3) (b := j_80) (by omega) (by omega)).mpr q))
                refine lv_aload_n hx hb d_Mo_receive_61 rfl (lv_at hl 0 rfl) ?_
                refine mq_get (k := 27) (v := .ref (ad 27)) hx hb hts hown hI hM (by decide) rfl rfl (hts _ tw_1196) d_Mo_receive_62 ?_
                refine lv_iload_n hx hb d_Mo_receive_65 rfl (lv_at hl 1 rfl) ?_
                refine lv_aload_n hx hb d_Mo_receive_66 rfl (lv_at hl 0 rfl) ?_
                refine mq_get (k := 12) (v := .long (σ_98.2.1 12)) hx hb hts hown hI hM (by decide) rfl rfl (hts _ tw_1181) d_Mo_receive_67 ?_
                refine lv_topl (fun x_113 e_114 => ?_)
                refine mq_last (k := 27) (j := j_80) hx hb hI hM (by decide) rfl (by show j_80 < 3; omega) (by decide) d_Mo_receive_70 (fun H locs f σ_115 e_116 hI hM => ?_)
                have hF := mq_fr_uh hF e_116 rfl
                have o_117 : σ_115.1 56 = nI z1 := by rw [e_116]; exact o_100
                have o_118 : σ_115.1 0 = 0 := by rw [e_116]; exact o_104
                have u_119 := IH_fr (mq_fr_uh (X := [27]) mq_fr_rf e_116 rfl) (by decide) u_101
                have u_120 := BIa_fr (mq_fr_uh (X := [27]) mq_fr_rf e_116 rfl) (by decide) u_102
                have u_121 := SI_fr (mq_fr_uh (X := [27]) mq_fr_rf e_116 rfl) (by decide) u_103
                refine lv_iconst (v := 0) hx hb d_Mo_receive_71 (by decide) ?_
                refine lv_istore (lv' := [(5, .int (0)), (0, .ref (ad 71)), (1, .int (nI j_80)), (2, .long (x2)), (4, .int (nI j_90))]) hx hb d_Mo_receive_72 hl (by decide) rfl (fun ls hl => ?_)
                obtain ⟨n_122, h_123, h_124, e_125⟩ := hM.2.2.2.2.2 18 (j_80)
                exact hJ_74 _ (0) _ _ _ _ _ (j_80) (j_90) (z1) (n_122) (Nat.le_refl _) (by omega) hI hM hF (lv_sub hl [1, 2, 3, 4, 0] rfl) (by omega) (by omega) o_117 (by omega) (mq_leg hM.2.2.2.2.2 18 _ rfl e_125 (by omega) (by decide)) e_125 u_119 u_120 u_121 (by omega) (by omega) (by omega) (by omega)
            · exact absurd c_105 (by decide)
          · refine lv_iconst (v := 2) hx hb d_Mo_receive_39 (by decide) ?_
            refine lv_goto (tgt := 44) hx hb d_Mo_receive_40 (by decide) ?_
            refine mq_puti (k := 0) (ty := .int) hx hb hts hown hI hM (by decide) rfl rfl (hts _ tw_1169) rfl (by decide +kernel) rfl rfl trivial d_Mo_receive_44 (fun H locs f σ_126 e_127 hI hM => ?_)
            have hF := mq_fr_ui hF e_127 rfl
            have o_128 : σ_126.1 56 = nI z1 := by rw [e_127]; exact o0
            have u_129 := IH_fr (mq_fr_ui (X := [0]) mq_fr_rf e_127 rfl) (by decide) u0
            have u_130 := BIa_fr (mq_fr_ui (X := [0]) mq_fr_rf e_127 rfl) (by decide) u1
            have u_131 := SI_fr (mq_fr_ui (X := [0]) mq_fr_rf e_127 rfl) (by decide) u2
            have o_132 := mq_uik e_127
            refine lv_aload_n hx hb d_Mo_receive_47 rfl (lv_at hl 0 rfl) ?_
            refine mq_get (k := 0) (v := .int (2)) hx hb hts hown hI hM (by decide) (congrArg (fun z => some (Value.int z)) o_132) rfl (hts _ tw_1169) d_Mo_receive_48 ?_
            refine lv_if_le (tgt := 56) hx hb d_Mo_receive_51 (by decide) (fun c_133 => ?_) (fun c_133 => ?_)
            · exact absurd c_133 (by decide)
            · refine lv_iconst (v := 0) hx hb d_Mo_receive_54 (by decide) ?_
              exact sm_iret hx hb hr hlk hI ⟨σ_126, rfl, hM, hF, ⟨⟨z1, by omega, by omega, o_128⟩, u_129, u_130, u_131, trivial⟩⟩ d_Mo_receive_55
        · exact absurd c_94 (by decide)
      · refine lv_if_ne (tgt := 30) hx hb d_Mo_receive_23 (by decide) (fun c_134 => ?_) (fun c_134 => ?_)
        · exact absurd c_134 (by decide)
        · refine lv_iconst (v := 1) hx hb d_Mo_receive_26 (by decide) ?_
          refine lv_goto (tgt := 44) hx hb d_Mo_receive_27 (by decide) ?_
          refine mq_puti (k := 0) (ty := .int) hx hb hts hown hI hM (by decide) rfl rfl (hts _ tw_1169) rfl (by decide +kernel) rfl rfl trivial d_Mo_receive_44 (fun H locs f σ_135 e_136 hI hM => ?_)
          have hF := mq_fr_ui hF e_136 rfl
          have o_137 : σ_135.1 56 = nI z1 := by rw [e_136]; exact o0
          have u_138 := IH_fr (mq_fr_ui (X := [0]) mq_fr_rf e_136 rfl) (by decide) u0
          have u_139 := BIa_fr (mq_fr_ui (X := [0]) mq_fr_rf e_136 rfl) (by decide) u1
          have u_140 := SI_fr (mq_fr_ui (X := [0]) mq_fr_rf e_136 rfl) (by decide) u2
          have o_141 := mq_uik e_136
          refine lv_aload_n hx hb d_Mo_receive_47 rfl (lv_at hl 0 rfl) ?_
          refine mq_get (k := 0) (v := .int (1)) hx hb hts hown hI hM (by decide) (congrArg (fun z => some (Value.int z)) o_141) rfl (hts _ tw_1169) d_Mo_receive_48 ?_
          refine lv_if_le (tgt := 56) hx hb d_Mo_receive_51 (by decide) (fun c_142 => ?_) (fun c_142 => ?_)
          · exact absurd c_142 (by decide)
          · refine lv_iconst (v := 0) hx hb d_Mo_receive_54 (by decide) ?_
            exact sm_iret hx hb hr hlk hI ⟨σ_135, rfl, hM, hF, ⟨⟨z1, by omega, by omega, o_137⟩, u_138, u_139, u_140, trivial⟩⟩ d_Mo_receive_55
  · refine lv_if_eq (tgt := 26) hx hb d_Mo_receive_10 (by decide) (fun c_143 => ?_) (fun c_143 => ?_)
    · refine lv_iconst (v := 1) hx hb d_Mo_receive_26 (by decide) ?_
      refine lv_goto (tgt := 44) hx hb d_Mo_receive_27 (by decide) ?_
      refine mq_puti (k := 0) (ty := .int) hx hb hts hown hI hM (by decide) rfl rfl (hts _ tw_1169) rfl (by decide +kernel) rfl rfl trivial d_Mo_receive_44 (fun H locs f σ_144 e_145 hI hM => ?_)
      have hF := mq_fr_ui hF e_145 rfl
      have o_146 : σ_144.1 56 = nI z1 := by rw [e_145]; exact o0
      have u_147 := IH_fr (mq_fr_ui (X := [0]) mq_fr_rf e_145 rfl) (by decide) u0
      have u_148 := BIa_fr (mq_fr_ui (X := [0]) mq_fr_rf e_145 rfl) (by decide) u1
      have u_149 := SI_fr (mq_fr_ui (X := [0]) mq_fr_rf e_145 rfl) (by decide) u2
      have o_150 := mq_uik e_145
      refine lv_aload_n hx hb d_Mo_receive_47 rfl (lv_at hl 0 rfl) ?_
      refine mq_get (k := 0) (v := .int (1)) hx hb hts hown hI hM (by decide) (congrArg (fun z => some (Value.int z)) o_150) rfl (hts _ tw_1169) d_Mo_receive_48 ?_
      refine lv_if_le (tgt := 56) hx hb d_Mo_receive_51 (by decide) (fun c_151 => ?_) (fun c_151 => ?_)
      · exact absurd c_151 (by decide)
      · refine lv_iconst (v := 0) hx hb d_Mo_receive_54 (by decide) ?_
        exact sm_iret hx hb hr hlk hI ⟨σ_144, rfl, hM, hF, ⟨⟨z1, by omega, by omega, o_146⟩, u_147, u_148, u_149, trivial⟩⟩ d_Mo_receive_55
    · exact absurd c_143 (by decide)
