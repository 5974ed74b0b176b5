/-! TelecontrolPost.point (written by wip/tools/pub.py) -/
theorem d_Po_point_0 : decode b_Po_point 0 = .ok (.iload_n 1, 1) := by decide +kernel
theorem d_Po_point_1 : decode b_Po_point 1 = .ok (.iconst 1, 1) := by decide +kernel
theorem d_Po_point_2 : decode b_Po_point 2 = .ok (.if_icmp .lt 19, 3) := by decide +kernel
theorem d_Po_point_5 : decode b_Po_point 5 = .ok (.iload_n 1, 1) := by decide +kernel
theorem d_Po_point_6 : decode b_Po_point 6 = .ok (.ldc 67, 2) := by decide +kernel
theorem d_Po_point_8 : decode b_Po_point 8 = .ok (.if_icmp .gt 13, 3) := by decide +kernel
theorem d_Po_point_11 : decode b_Po_point 11 = .ok (.iload_n 2, 1) := by decide +kernel
theorem d_Po_point_12 : decode b_Po_point 12 = .ok (.ifCond .lt 9, 3) := by decide +kernel
theorem d_Po_point_15 : decode b_Po_point 15 = .ok (.iload_n 2, 1) := by decide +kernel
theorem d_Po_point_16 : decode b_Po_point 16 = .ok (.bipush 9, 2) := by decide +kernel
theorem d_Po_point_18 : decode b_Po_point 18 = .ok (.if_icmp .le 13, 3) := by decide +kernel
theorem d_Po_point_21 : decode b_Po_point 21 = .ok (.new 68, 3) := by decide +kernel
theorem d_Po_point_24 : decode b_Po_point 24 = .ok (.dup, 1) := by decide +kernel
theorem d_Po_point_25 : decode b_Po_point 25 = .ok (.ldc 70, 2) := by decide +kernel
theorem d_Po_point_27 : decode b_Po_point 27 = .ok (.invokespecial 72, 3) := by decide +kernel
theorem d_Po_point_30 : decode b_Po_point 30 = .ok (.athrow, 1) := by decide +kernel
theorem d_Po_point_31 : decode b_Po_point 31 = .ok (.iload_n 3, 1) := by decide +kernel
theorem d_Po_point_32 : decode b_Po_point 32 = .ok (.ifCond .lt 20, 3) := by decide +kernel
theorem d_Po_point_35 : decode b_Po_point 35 = .ok (.iload_n 3, 1) := by decide +kernel
theorem d_Po_point_36 : decode b_Po_point 36 = .ok (.bipush 16, 2) := by decide +kernel
theorem d_Po_point_38 : decode b_Po_point 38 = .ok (.if_icmp .gt 14, 3) := by decide +kernel
theorem d_Po_point_41 : decode b_Po_point 41 = .ok (.iload 4, 2) := by decide +kernel
theorem d_Po_point_43 : decode b_Po_point 43 = .ok (.ifCond .eq 19, 3) := by decide +kernel
theorem d_Po_point_46 : decode b_Po_point 46 = .ok (.iload_n 2, 1) := by decide +kernel
theorem d_Po_point_47 : decode b_Po_point 47 = .ok (.bipush 7, 2) := by decide +kernel
theorem d_Po_point_49 : decode b_Po_point 49 = .ok (.if_icmp .ge 13, 3) := by decide +kernel
theorem d_Po_point_52 : decode b_Po_point 52 = .ok (.new 68, 3) := by decide +kernel
theorem d_Po_point_55 : decode b_Po_point 55 = .ok (.dup, 1) := by decide +kernel
theorem d_Po_point_56 : decode b_Po_point 56 = .ok (.ldc 75, 2) := by decide +kernel
theorem d_Po_point_58 : decode b_Po_point 58 = .ok (.invokespecial 72, 3) := by decide +kernel
theorem d_Po_point_61 : decode b_Po_point 61 = .ok (.athrow, 1) := by decide +kernel
theorem d_Po_point_62 : decode b_Po_point 62 = .ok (.aload_n 0, 1) := by decide +kernel
theorem d_Po_point_63 : decode b_Po_point 63 = .ok (.getfield 77, 3) := by decide +kernel
theorem d_Po_point_66 : decode b_Po_point 66 = .ok (.bipush 32, 2) := by decide +kernel
theorem d_Po_point_68 : decode b_Po_point 68 = .ok (.if_icmp .eq 11, 3) := by decide +kernel
theorem d_Po_point_71 : decode b_Po_point 71 = .ok (.aload_n 0, 1) := by decide +kernel
theorem d_Po_point_72 : decode b_Po_point 72 = .ok (.iload_n 1, 1) := by decide +kernel
theorem d_Po_point_73 : decode b_Po_point 73 = .ok (.invokevirtual 80, 3) := by decide +kernel
theorem d_Po_point_76 : decode b_Po_point 76 = .ok (.ifCond .lt 13, 3) := by decide +kernel
theorem d_Po_point_79 : decode b_Po_point 79 = .ok (.new 84, 3) := by decide +kernel
theorem d_Po_point_82 : decode b_Po_point 82 = .ok (.dup, 1) := by decide +kernel
theorem d_Po_point_83 : decode b_Po_point 83 = .ok (.ldc 86, 2) := by decide +kernel
theorem d_Po_point_85 : decode b_Po_point 85 = .ok (.invokespecial 88, 3) := by decide +kernel
theorem d_Po_point_88 : decode b_Po_point 88 = .ok (.athrow, 1) := by decide +kernel
theorem d_Po_point_89 : decode b_Po_point 89 = .ok (.aload_n 0, 1) := by decide +kernel
theorem d_Po_point_90 : decode b_Po_point 90 = .ok (.getfield 11, 3) := by decide +kernel
theorem d_Po_point_93 : decode b_Po_point 93 = .ok (.aload_n 0, 1) := by decide +kernel
theorem d_Po_point_94 : decode b_Po_point 94 = .ok (.getfield 77, 3) := by decide +kernel
theorem d_Po_point_97 : decode b_Po_point 97 = .ok (.new 9, 3) := by decide +kernel
theorem d_Po_point_100 : decode b_Po_point 100 = .ok (.dup, 1) := by decide +kernel
theorem d_Po_point_101 : decode b_Po_point 101 = .ok (.iload_n 1, 1) := by decide +kernel
theorem d_Po_point_102 : decode b_Po_point 102 = .ok (.iload_n 2, 1) := by decide +kernel
theorem d_Po_point_103 : decode b_Po_point 103 = .ok (.iload_n 3, 1) := by decide +kernel
theorem d_Po_point_104 : decode b_Po_point 104 = .ok (.iload 4, 2) := by decide +kernel
theorem d_Po_point_106 : decode b_Po_point 106 = .ok (.invokespecial 89, 3) := by decide +kernel
theorem d_Po_point_109 : decode b_Po_point 109 = .ok (.aastore, 1) := by decide +kernel
theorem d_Po_point_110 : decode b_Po_point 110 = .ok (.aload_n 0, 1) := by decide +kernel
theorem d_Po_point_111 : decode b_Po_point 111 = .ok (.dup, 1) := by decide +kernel
theorem d_Po_point_112 : decode b_Po_point 112 = .ok (.getfield 77, 3) := by decide +kernel
theorem d_Po_point_115 : decode b_Po_point 115 = .ok (.iconst 1, 1) := by decide +kernel
theorem d_Po_point_116 : decode b_Po_point 116 = .ok (.iadd, 1) := by decide +kernel
theorem d_Po_point_117 : decode b_Po_point 117 = .ok (.putfield 77, 3) := by decide +kernel
theorem d_Po_point_120 : decode b_Po_point 120 = .ok (.aload_n 0, 1) := by decide +kernel
theorem d_Po_point_121 : decode b_Po_point 121 = .ok (.getfield 77, 3) := by decide +kernel
theorem d_Po_point_124 : decode b_Po_point 124 = .ok (.iconst 1, 1) := by decide +kernel
theorem d_Po_point_125 : decode b_Po_point 125 = .ok (.isub, 1) := by decide +kernel
theorem d_Po_point_126 : decode b_Po_point 126 = .ok (.ireturn, 1) := by decide +kernel
set_option maxRecDepth 100000 in
set_option maxHeartbeats 4000000 in
theorem c_Po_point (l : Launch) (D : va_G) (ca : Nat → ClassId) (T : ty_e) (L : List Nat) (f0 : Nat → va_E) (sz : Nat) (hT : ok_T ca T L f0) {g0 : List (Int32 × Int32)} (h0 : Nat) (t0 : T h0 = some (ty_po g0)) (x1 : Int32) (x2 : Int32) (x3 : Int32) (x4 : Int32) (p4 : x4 = 0 ∨ x4 = 1) (hfl : l.flags = Jvm.pinnedFlags ++ [Jvm.noTraceFlag]) :
    MetO l y_Po_point (Cond.code y_Po_point b_Po_point 5 (some .int) :: wg) { frames := 6, cells := 1, slots := 6, locals := 82 } (va_Pc [.ref h0, .int (x1), .int (x2), .int (x3), .int (x4)] (sm_P D cl_all (ty_s ca) ek3 L f0 sz)) (sm_Qi D (ty_s ca) L f0 sz (fun r u => r = nI g0.length ∧ pt_good x1 x2 x3 x4 ∧ ¬ pt_there g0 x1 ∧ ∃ T1 : ty_e, ok_T ca T1 u.1 u.2 ∧ T1 h0 = some (ty_po (g0 ++ [(x1, x2)])))) (sm_Qt D (ty_s ca) L f0 sz (fun X u => ((X = xIA ∧ ¬ pt_good x1 x2 x3 x4) ∨ (X = xIS ∧ pt_good x1 x2 x3 x4 ∧ pt_there g0 x1)) ∧ po_m ca T L u) [xIA, xIS]) 1 6 (va_A (va_pl L f0) sz) := by
  refine sm_startO (by decide) (Nat.le_of_ble_eq_true rfl) ?_
  intro p e s m below meth c ls hx hb hml hr hlk hno hts hown hsz hE3 hI hl
  have hE := hE3.1.1
  have hl : lv_has ls 5 [(0, .ref h0), (1, .int (x1)), (2, .int (x2)), (3, .int (x3)), (4, .int (x4))] := hl
  have hg := po_len hT t0
  refine lv_iload_n hx hb d_Po_point_0 rfl (lv_at hl 1 rfl) ?_
  refine lv_iconst (v := 1) hx hb d_Po_point_1 (by decide) ?_
  refine lv_icmp_lt (tgt := 21) hx hb d_Po_point_2 (by decide) (fun c_1 => ?_) (fun c_1 => ?_)
  · exact sm_thr (k := 70) (n := 27) hx hb hts hown hlk hno hfl hE3 hI (hl.1.trans hml.symm) (by decide) (fun _ _ _ h1 h2 => oa_IA h1 h2) tw_425 tw_426 tw_16 tn_465 ⟨(Or.inl ⟨rfl, fun h => h.1 c_1⟩), rfl, hT⟩ (by decide) (Nat.le_of_ble_eq_true rfl) (Nat.le_of_ble_eq_true rfl) (Nat.le_of_ble_eq_true rfl) (Nat.le_of_ble_eq_true rfl) (Nat.le_of_ble_eq_true rfl) (Nat.le_of_ble_eq_true rfl) d_Po_point_21 d_Po_point_24 (Or.inl ⟨d_Po_point_25, rfl⟩) d_Po_point_27 d_Po_point_30
  · refine lv_iload_n hx hb d_Po_point_5 rfl (lv_at hl 1 rfl) ?_
    refine lv_ldc (v := 65535) hx hb hown (hts _ tw_424) d_Po_point_6 ?_
    refine lv_icmp_gt (tgt := 21) hx hb d_Po_point_8 (by decide) (fun c_2 => ?_) (fun c_2 => ?_)
    · exact sm_thr (k := 70) (n := 27) hx hb hts hown hlk hno hfl hE3 hI (hl.1.trans hml.symm) (by decide) (fun _ _ _ h1 h2 => oa_IA h1 h2) tw_425 tw_426 tw_16 tn_465 ⟨(Or.inl ⟨rfl, fun h => h.2.1 c_2⟩), rfl, hT⟩ (by decide) (Nat.le_of_ble_eq_true rfl) (Nat.le_of_ble_eq_true rfl) (Nat.le_of_ble_eq_true rfl) (Nat.le_of_ble_eq_true rfl) (Nat.le_of_ble_eq_true rfl) (Nat.le_of_ble_eq_true rfl) d_Po_point_21 d_Po_point_24 (Or.inl ⟨d_Po_point_25, rfl⟩) d_Po_point_27 d_Po_point_30
    · refine lv_iload_n hx hb d_Po_point_11 rfl (lv_at hl 2 rfl) ?_
      refine lv_if_lt (tgt := 21) hx hb d_Po_point_12 (by decide) (fun c_3 => ?_) (fun c_3 => ?_)
      · exact sm_thr (k := 70) (n := 27) hx hb hts hown hlk hno hfl hE3 hI (hl.1.trans hml.symm) (by decide) (fun _ _ _ h1 h2 => oa_IA h1 h2) tw_425 tw_426 tw_16 tn_465 ⟨(Or.inl ⟨rfl, fun h => h.2.2.1 c_3⟩), rfl, hT⟩ (by decide) (Nat.le_of_ble_eq_true rfl) (Nat.le_of_ble_eq_true rfl) (Nat.le_of_ble_eq_true rfl) (Nat.le_of_ble_eq_true rfl) (Nat.le_of_ble_eq_true rfl) (Nat.le_of_ble_eq_true rfl) d_Po_point_21 d_Po_point_24 (Or.inl ⟨d_Po_point_25, rfl⟩) d_Po_point_27 d_Po_point_30
      · refine lv_iload_n hx hb d_Po_point_15 rfl (lv_at hl 2 rfl) ?_
        refine lv_bipush (v := 9) hx hb d_Po_point_16 (by decide) ?_
        refine lv_icmp_le (tgt := 31) hx hb d_Po_point_18 (by decide) (fun c_4 => ?_) (fun c_4 => ?_)
        · refine lv_iload_n hx hb d_Po_point_31 rfl (lv_at hl 3 rfl) ?_
          refine lv_if_lt (tgt := 52) hx hb d_Po_point_32 (by decide) (fun c_5 => ?_) (fun c_5 => ?_)
          · exact sm_thr (k := 75) (n := 58) hx hb hts hown hlk hno hfl hE3 hI (hl.1.trans hml.symm) (by decide) (fun _ _ _ h1 h2 => oa_IA h1 h2) tw_425 tw_426 tw_16 tn_492 ⟨(Or.inl ⟨rfl, fun h => h.2.2.2.2.1 c_5⟩), rfl, hT⟩ (by decide) (Nat.le_of_ble_eq_true rfl) (Nat.le_of_ble_eq_true rfl) (Nat.le_of_ble_eq_true rfl) (Nat.le_of_ble_eq_true rfl) (Nat.le_of_ble_eq_true rfl) (Nat.le_of_ble_eq_true rfl) d_Po_point_52 d_Po_point_55 (Or.inl ⟨d_Po_point_56, rfl⟩) d_Po_point_58 d_Po_point_61
          · refine lv_iload_n hx hb d_Po_point_35 rfl (lv_at hl 3 rfl) ?_
            refine lv_bipush (v := 16) hx hb d_Po_point_36 (by decide) ?_
            refine lv_icmp_gt (tgt := 52) hx hb d_Po_point_38 (by decide) (fun c_6 => ?_) (fun c_6 => ?_)
            · exact sm_thr (k := 75) (n := 58) hx hb hts hown hlk hno hfl hE3 hI (hl.1.trans hml.symm) (by decide) (fun _ _ _ h1 h2 => oa_IA h1 h2) tw_425 tw_426 tw_16 tn_492 ⟨(Or.inl ⟨rfl, fun h => h.2.2.2.2.2.1 c_6⟩), rfl, hT⟩ (by decide) (Nat.le_of_ble_eq_true rfl) (Nat.le_of_ble_eq_true rfl) (Nat.le_of_ble_eq_true rfl) (Nat.le_of_ble_eq_true rfl) (Nat.le_of_ble_eq_true rfl) (Nat.le_of_ble_eq_true rfl) d_Po_point_52 d_Po_point_55 (Or.inl ⟨d_Po_point_56, rfl⟩) d_Po_point_58 d_Po_point_61
            · refine lv_iload hx hb d_Po_point_41 (lv_at hl 4 rfl) ?_
              refine lv_if_eq (tgt := 62) hx hb d_Po_point_43 (by decide) (fun c_7 => ?_) (fun c_7 => ?_)
              · refine lv_aload_n hx hb d_Po_point_62 rfl (lv_at hl 0 rfl) ?_
                refine fg_Po_pointCount hx hb hts hown hI hT t0 (hts _ tw_364) (fun _ h9 => h9) d_Po_point_63 (fun h_8 => ?_)
                refine lv_bipush (v := 32) hx hb d_Po_point_66 (by decide) ?_
                refine lv_icmp_eq (tgt := 79) hx hb d_Po_point_68 (by decide) (fun c_9 => ?_) (fun c_9 => ?_)
                · have k_10 : g0.length = 32 := (nI_eq (a := g0.length) (b := 32) (by omega) (by omega)).mp c_9
                  exact sm_thr (k := 86) (n := 85) hx hb hts hown hlk hno hfl hE3 hI (hl.1.trans hml.symm) (by decide) (fun _ _ _ h1 h2 => oa_IS h1 h2) tw_497 tw_498 tw_17 tn_506 ⟨(Or.inr ⟨rfl, ⟨c_1, c_2, c_3, c_4, c_5, c_6, (Or.inl c_7)⟩, (pt_t1 hg c_9)⟩), rfl, hT⟩ (by decide) (Nat.le_of_ble_eq_true rfl) (Nat.le_of_ble_eq_true rfl) (Nat.le_of_ble_eq_true rfl) (Nat.le_of_ble_eq_true rfl) (Nat.le_of_ble_eq_true rfl) (Nat.le_of_ble_eq_true rfl) d_Po_point_79 d_Po_point_82 (Or.inl ⟨d_Po_point_83, rfl⟩) d_Po_point_85 d_Po_point_88
                · have k_11 : ¬ g0.length = 32 := (fun q => c_9 ((nI_eq (a := g0.length) (b := 32) (by omega) (by omega)).mpr q))
                  refine lv_aload_n hx hb d_Po_point_71 rfl (lv_at hl 0 rfl) ?_
                  refine lv_iload_n hx hb d_Po_point_72 rfl (lv_at hl 1 rfl) ?_
                  refine sm_iP hI (va_runV (As := [.int (x1)]) (rest := []) ⟨hx, hb, hml, hown, hts⟩ (c_Po_findPoint l D ca _ _ _ _ hT h0 t0 x1) (kv_Po_findPoint hts rfl rfl (hts _ tw_493) ⟨Nat.le_of_ble_eq_true rfl, Nat.le_of_ble_eq_true rfl⟩) (pv_Po hI hE hT t0) rfl rfl hl.1 rfl (lv_room (Nat.le_of_ble_eq_true rfl)) d_Po_point_73 ⟨Nat.le_of_ble_eq_true rfl, Nat.le_of_ble_eq_true rfl⟩) (fun x_12 H locs p_13 hI => ?_)
                  rcases fp_cases g0 x1 with z_16 | ⟨j_14, z_16, h_15⟩
                  · rw [z_16] at p_13
                    subst p_13
                    refine lv_if_lt (tgt := 89) hx hb d_Po_point_76 (by decide) (fun c_17 => ?_) (fun c_17 => ?_)
                    · refine lv_aload_n hx hb d_Po_point_89 rfl (lv_at hl 0 rfl) ?_
                      obtain ⟨hL0, v0, v1, v3, v4, v5, v6, v7, v8, v9, v10, v11, v12, v13, v14, e0, w1, w3, w4, w5, w6, w10, w12, w13, w14, wx⟩ := ok_po_at hT t0
                      refine sw_get (C := R_Po) (T := F_Po) (N := 15) (ci := 0) hx hb hts in_Po hown hI hL0 e0 rfl 1 (by decide) (hts _ tw_363) (fun _ h9 => h9) rfl d_Po_point_90 ?_
                      refine lv_aload_n hx hb d_Po_point_93 rfl (lv_at hl 0 rfl) ?_
                      refine fg_Po_pointCount hx hb hts hown hI hT t0 (hts _ tw_364) (fun _ h9 => h9) d_Po_point_94 (fun h_18 => ?_)
                      refine ra_new (ci := 10) (C := R_Pt) (T := F_Pt) (N := 6) (fs := [.int 0, .int 0, .int 0, .int 0, .int 0, .int 0]) hx hb hts in_Pt t_Pt t_Pt_ok hown (hts _ tw_28) (hts _ tw_513) (hts _ tw_18) hI rfl (by decide) (Nat.le_of_ble_eq_true rfl) (Nat.le_of_ble_eq_true rfl) d_Po_point_97 (fun qq H f hqq hI eq hkq => ?_)
                      have hT := ok_psl hT hqq hkq
                      refine lv_dup hx hb d_Po_point_100 rfl ?_
                      refine lv_iload_n hx hb d_Po_point_101 rfl (lv_at hl 1 rfl) ?_
                      refine lv_iload_n hx hb d_Po_point_102 rfl (lv_at hl 2 rfl) ?_
                      refine lv_iload_n hx hb d_Po_point_103 rfl (lv_at hl 3 rfl) ?_
                      refine lv_iload hx hb d_Po_point_104 (lv_at hl 4 rfl) ?_
                      refine sm_vK (K := [qq]) (ty := ty_pt (x1, x2)) hI hT (va_runI (As := [.int x1, .int x2, .int x3, .int x4]) (rest := [.ref qq, .int (nI g0.length), .ref v1]) ⟨hx, hb, hml, hown, hts⟩ (c_Pt_init l D ca _ _ qq eq (x1, x2) (kd_9 c_3 c_4) x3 x4 p4) (ki_Pt_init hts rfl rfl (hts _ tw_514) ⟨Nat.le_of_ble_eq_true rfl, Nat.le_of_ble_eq_true rfl⟩) (sd_preS hI hE) rfl rfl hl.1 rfl (lv_room (Nat.le_of_ble_eq_true rfl)) d_Po_point_106 ⟨Nat.le_of_ble_eq_true rfl, Nat.le_of_ble_eq_true rfl⟩) (fun T1 L1 H locs f hle1 hI hT tq hko => ?_)
                      have t1 := hle1 _ _ t0
                      have hq9 : h0 ≠ qq := fun q9 => hqq (q9 ▸ hL0)
                      have e0 := (hko h0 hL0).2.1.trans ((hkq h0 hq9).trans e0)
                      have w1 := hle1 _ _ w1
                      have w3 := hle1 _ _ w3
                      have w4 := hle1 _ _ w4
                      have w5 := hle1 _ _ w5
                      have w6 := hle1 _ _ w6
                      have w12 := hle1 _ _ w12
                      have w13 := hle1 _ _ w13
                      have w14 := hle1 _ _ w14
                      have hL0 := (hko h0 hL0).1
                      have hr1 := w1
                      obtain ⟨hL1, qa, ea, hqa⟩ := hT _ _ hr1
                      obtain ⟨hLq, ep⟩ := ok_pt_at hT tq
                      obtain ⟨p2, p3, p4, p5, ep, -⟩ := ep
                      have hq1 : qq ≠ v1 := fun q9 => by rw [q9] at tq; rw [tq] at hr1; cases hr1
                      have hq0 : qq ≠ h0 := fun q9 => by rw [q9] at tq; rw [tq] at t1; cases t1
                      have hr0 : v1 ≠ h0 := fun q9 => by rw [q9] at hr1; rw [hr1] at t1; cases t1
                      refine ra_ast (j := g0.length) hx hb hI hL1 3 10 ea rfl hLq ep rfl (by omega) (by decide) d_Po_point_109 (fun H locs f2 hI ea2 hk2 => ?_)
                      have e0 := (hk2 _ (Ne.symm hr0)).trans e0
                      refine lv_aload_n hx hb d_Po_point_110 rfl (lv_at hl 0 rfl) ?_
                      refine lv_dup hx hb d_Po_point_111 rfl ?_
                      refine sw_get (C := R_Po) (T := F_Po) (N := 15) (ci := 0) hx hb hts in_Po hown hI hL0 e0 rfl 2 (by decide) (hts _ tw_364) (fun _ h9 => h9) rfl d_Po_point_112 ?_
                      refine lv_iconst (v := 1) hx hb d_Po_point_115 (by decide) ?_
                      refine lv_iadd hx hb d_Po_point_116 ?_
                      rw [show nI g0.length + 1 = nI (g0.length + 1) from nI_1 _]
                      refine ra_put (ci := 0) (C := R_Po) (T := F_Po) (N := 15) (ty := .int) hx hb hts in_Po t_Po t_Po_ok n_Po hown hI hL0 e0 rfl 2 (by decide) (hts _ tw_364) (fun _ h9 => h9) rfl (by decide +kernel) rfl rfl (Nat.le_of_ble_eq_true rfl) d_Po_point_117 (fun H locs f3 hI e3 hk3 => ?_)
                      have e3 : f3 h0 = .inr (0, [.int v0, .ref v1, .int (nI (g0.length + 1)), .ref v3, .ref v4, .ref v5, .ref v6, .int v7, .int v8, .long v9, .int v10, .long v11, .ref v12, .ref v13, .ref v14]) := e3
                      refine lv_aload_n hx hb d_Po_point_120 rfl (lv_at hl 0 rfl) ?_
                      refine sw_get (C := R_Po) (T := F_Po) (N := 15) (ci := 0) hx hb hts in_Po hown hI hL0 e3 rfl 2 (by decide) (hts _ tw_364) (fun _ h9 => h9) rfl d_Po_point_121 ?_
                      refine lv_iconst (v := 1) hx hb d_Po_point_124 (by decide) ?_
                      refine lv_isub hx hb d_Po_point_125 ?_
                      rw [nI_pred]
                      refine W.mono (fun _ h => Or.inl h) ?_
                      exact sm_iret hx hb hr hlk hI ⟨rfl, ⟨c_1, c_2, c_3, c_4, c_5, c_6, (Or.inl c_7)⟩, pt_nt hg c_9 z_16, pt_ok hT t1 tq (by omega) hqa w1 w3 w4 w5 w6 w10 w12 w13 w14 e3 ((hk3 _ hr0).trans ea2) (fun q q1 q2 => (hk3 q q1).trans (hk2 q q2))⟩ d_Po_point_126
                    · exact absurd c_17 (by decide)
                  · rw [z_16] at p_13
                    subst p_13
                    refine lv_if_lt (tgt := 89) hx hb d_Po_point_76 (by decide) (fun c_19 => ?_) (fun c_19 => ?_)
                    · exact absurd c_19 (nI_pos (by omega))
                    · exact sm_thr (k := 86) (n := 85) hx hb hts hown hlk hno hfl hE3 hI (hl.1.trans hml.symm) (by decide) (fun _ _ _ h1 h2 => oa_IS h1 h2) tw_497 tw_498 tw_17 tn_506 ⟨(Or.inr ⟨rfl, ⟨c_1, c_2, c_3, c_4, c_5, c_6, (Or.inl c_7)⟩, (pt_t2 hg z_16 (by omega))⟩), rfl, hT⟩ (by decide) (Nat.le_of_ble_eq_true rfl) (Nat.le_of_ble_eq_true rfl) (Nat.le_of_ble_eq_true rfl) (Nat.le_of_ble_eq_true rfl) (Nat.le_of_ble_eq_true rfl) (Nat.le_of_ble_eq_true rfl) d_Po_point_79 d_Po_point_82 (Or.inl ⟨d_Po_point_83, rfl⟩) d_Po_point_85 d_Po_point_88
              · refine lv_iload_n hx hb d_Po_point_46 rfl (lv_at hl 2 rfl) ?_
                refine lv_bipush (v := 7) hx hb d_Po_point_47 (by decide) ?_
                refine lv_icmp_ge (tgt := 62) hx hb d_Po_point_49 (by decide) (fun c_21 => ?_) (fun c_21 => ?_)
                · refine lv_aload_n hx hb d_Po_point_62 rfl (lv_at hl 0 rfl) ?_
                  refine fg_Po_pointCount hx hb hts hown hI hT t0 (hts _ tw_364) (fun _ h9 => h9) d_Po_point_63 (fun h_22 => ?_)
                  refine lv_bipush (v := 32) hx hb d_Po_point_66 (by decide) ?_
                  refine lv_icmp_eq (tgt := 79) hx hb d_Po_point_68 (by decide) (fun c_23 => ?_) (fun c_23 => ?_)
                  · have k_24 : g0.length = 32 := (nI_eq (a := g0.length) (b := 32) (by omega) (by omega)).mp c_23
                    exact sm_thr (k := 86) (n := 85) hx hb hts hown hlk hno hfl hE3 hI (hl.1.trans hml.symm) (by decide) (fun _ _ _ h1 h2 => oa_IS h1 h2) tw_497 tw_498 tw_17 tn_506 ⟨(Or.inr ⟨rfl, ⟨c_1, c_2, c_3, c_4, c_5, c_6, (Or.inr c_21)⟩, (pt_t1 hg c_23)⟩), rfl, hT⟩ (by decide) (Nat.le_of_ble_eq_true rfl) (Nat.le_of_ble_eq_true rfl) (Nat.le_of_ble_eq_true rfl) (Nat.le_of_ble_eq_true rfl) (Nat.le_of_ble_eq_true rfl) (Nat.le_of_ble_eq_true rfl) d_Po_point_79 d_Po_point_82 (Or.inl ⟨d_Po_point_83, rfl⟩) d_Po_point_85 d_Po_point_88
                  · have k_25 : ¬ g0.length = 32 := (fun q => c_23 ((nI_eq (a := g0.length) (b := 32) (by omega) (by omega)).mpr q))
                    refine lv_aload_n hx hb d_Po_point_71 rfl (lv_at hl 0 rfl) ?_
                    refine lv_iload_n hx hb d_Po_point_72 rfl (lv_at hl 1 rfl) ?_
                    refine sm_iP hI (va_runV (As := [.int (x1)]) (rest := []) ⟨hx, hb, hml, hown, hts⟩ (c_Po_findPoint l D ca _ _ _ _ hT h0 t0 x1) (kv_Po_findPoint hts rfl rfl (hts _ tw_493) ⟨Nat.le_of_ble_eq_true rfl, Nat.le_of_ble_eq_true rfl⟩) (pv_Po hI hE hT t0) rfl rfl hl.1 rfl (lv_room (Nat.le_of_ble_eq_true rfl)) d_Po_point_73 ⟨Nat.le_of_ble_eq_true rfl, Nat.le_of_ble_eq_true rfl⟩) (fun x_26 H locs p_27 hI => ?_)
                    rcases fp_cases g0 x1 with z_30 | ⟨j_28, z_30, h_29⟩
                    · rw [z_30] at p_27
                      subst p_27
                      refine lv_if_lt (tgt := 89) hx hb d_Po_point_76 (by decide) (fun c_31 => ?_) (fun c_31 => ?_)
                      · refine lv_aload_n hx hb d_Po_point_89 rfl (lv_at hl 0 rfl) ?_
                        obtain ⟨hL0, v0, v1, v3, v4, v5, v6, v7, v8, v9, v10, v11, v12, v13, v14, e0, w1, w3, w4, w5, w6, w10, w12, w13, w14, wx⟩ := ok_po_at hT t0
                        refine sw_get (C := R_Po) (T := F_Po) (N := 15) (ci := 0) hx hb hts in_Po hown hI hL0 e0 rfl 1 (by decide) (hts _ tw_363) (fun _ h9 => h9) rfl d_Po_point_90 ?_
                        refine lv_aload_n hx hb d_Po_point_93 rfl (lv_at hl 0 rfl) ?_
                        refine fg_Po_pointCount hx hb hts hown hI hT t0 (hts _ tw_364) (fun _ h9 => h9) d_Po_point_94 (fun h_32 => ?_)
                        refine ra_new (ci := 10) (C := R_Pt) (T := F_Pt) (N := 6) (fs := [.int 0, .int 0, .int 0, .int 0, .int 0, .int 0]) hx hb hts in_Pt t_Pt t_Pt_ok hown (hts _ tw_28) (hts _ tw_513) (hts _ tw_18) hI rfl (by decide) (Nat.le_of_ble_eq_true rfl) (Nat.le_of_ble_eq_true rfl) d_Po_point_97 (fun qq H f hqq hI eq hkq => ?_)
                        have hT := ok_psl hT hqq hkq
                        refine lv_dup hx hb d_Po_point_100 rfl ?_
                        refine lv_iload_n hx hb d_Po_point_101 rfl (lv_at hl 1 rfl) ?_
                        refine lv_iload_n hx hb d_Po_point_102 rfl (lv_at hl 2 rfl) ?_
                        refine lv_iload_n hx hb d_Po_point_103 rfl (lv_at hl 3 rfl) ?_
                        refine lv_iload hx hb d_Po_point_104 (lv_at hl 4 rfl) ?_
                        refine sm_vK (K := [qq]) (ty := ty_pt (x1, x2)) hI hT (va_runI (As := [.int x1, .int x2, .int x3, .int x4]) (rest := [.ref qq, .int (nI g0.length), .ref v1]) ⟨hx, hb, hml, hown, hts⟩ (c_Pt_init l D ca _ _ qq eq (x1, x2) (kd_9 c_3 c_4) x3 x4 p4) (ki_Pt_init hts rfl rfl (hts _ tw_514) ⟨Nat.le_of_ble_eq_true rfl, Nat.le_of_ble_eq_true rfl⟩) (sd_preS hI hE) rfl rfl hl.1 rfl (lv_room (Nat.le_of_ble_eq_true rfl)) d_Po_point_106 ⟨Nat.le_of_ble_eq_true rfl, Nat.le_of_ble_eq_true rfl⟩) (fun T1 L1 H locs f hle1 hI hT tq hko => ?_)
                        have t1 := hle1 _ _ t0
                        have hq9 : h0 ≠ qq := fun q9 => hqq (q9 ▸ hL0)
                        have e0 := (hko h0 hL0).2.1.trans ((hkq h0 hq9).trans e0)
                        have w1 := hle1 _ _ w1
                        have w3 := hle1 _ _ w3
                        have w4 := hle1 _ _ w4
                        have w5 := hle1 _ _ w5
                        have w6 := hle1 _ _ w6
                        have w12 := hle1 _ _ w12
                        have w13 := hle1 _ _ w13
                        have w14 := hle1 _ _ w14
                        have hL0 := (hko h0 hL0).1
                        have hr1 := w1
                        obtain ⟨hL1, qa, ea, hqa⟩ := hT _ _ hr1
                        obtain ⟨hLq, ep⟩ := ok_pt_at hT tq
                        obtain ⟨p2, p3, p4, p5, ep, -⟩ := ep
                        have hq1 : qq ≠ v1 := fun q9 => by rw [q9] at tq; rw [tq] at hr1; cases hr1
                        have hq0 : qq ≠ h0 := fun q9 => by rw [q9] at tq; rw [tq] at t1; cases t1
                        have hr0 : v1 ≠ h0 := fun q9 => by rw [q9] at hr1; rw [hr1] at t1; cases t1
                        refine ra_ast (j := g0.length) hx hb hI hL1 3 10 ea rfl hLq ep rfl (by omega) (by decide) d_Po_point_109 (fun H locs f2 hI ea2 hk2 => ?_)
                        have e0 := (hk2 _ (Ne.symm hr0)).trans e0
                        refine lv_aload_n hx hb d_Po_point_110 rfl (lv_at hl 0 rfl) ?_
                        refine lv_dup hx hb d_Po_point_111 rfl ?_
                        refine sw_get (C := R_Po) (T := F_Po) (N := 15) (ci := 0) hx hb hts in_Po hown hI hL0 e0 rfl 2 (by decide) (hts _ tw_364) (fun _ h9 => h9) rfl d_Po_point_112 ?_
                        refine lv_iconst (v := 1) hx hb d_Po_point_115 (by decide) ?_
                        refine lv_iadd hx hb d_Po_point_116 ?_
                        rw [show nI g0.length + 1 = nI (g0.length + 1) from nI_1 _]
                        refine ra_put (ci := 0) (C := R_Po) (T := F_Po) (N := 15) (ty := .int) hx hb hts in_Po t_Po t_Po_ok n_Po hown hI hL0 e0 rfl 2 (by decide) (hts _ tw_364) (fun _ h9 => h9) rfl (by decide +kernel) rfl rfl (Nat.le_of_ble_eq_true rfl) d_Po_point_117 (fun H locs f3 hI e3 hk3 => ?_)
                        have e3 : f3 h0 = .inr (0, [.int v0, .ref v1, .int (nI (g0.length + 1)), .ref v3, .ref v4, .ref v5, .ref v6, .int v7, .int v8, .long v9, .int v10, .long v11, .ref v12, .ref v13, .ref v14]) := e3
                        refine lv_aload_n hx hb d_Po_point_120 rfl (lv_at hl 0 rfl) ?_
                        refine sw_get (C := R_Po) (T := F_Po) (N := 15) (ci := 0) hx hb hts in_Po hown hI hL0 e3 rfl 2 (by decide) (hts _ tw_364) (fun _ h9 => h9) rfl d_Po_point_121 ?_
                        refine lv_iconst (v := 1) hx hb d_Po_point_124 (by decide) ?_
                        refine lv_isub hx hb d_Po_point_125 ?_
                        rw [nI_pred]
                        refine W.mono (fun _ h => Or.inl h) ?_
                        exact sm_iret hx hb hr hlk hI ⟨rfl, ⟨c_1, c_2, c_3, c_4, c_5, c_6, (Or.inr c_21)⟩, pt_nt hg c_23 z_30, pt_ok hT t1 tq (by omega) hqa w1 w3 w4 w5 w6 w10 w12 w13 w14 e3 ((hk3 _ hr0).trans ea2) (fun q q1 q2 => (hk3 q q1).trans (hk2 q q2))⟩ d_Po_point_126
                      · exact absurd c_31 (by decide)
                    · rw [z_30] at p_27
                      subst p_27
                      refine lv_if_lt (tgt := 89) hx hb d_Po_point_76 (by decide) (fun c_33 => ?_) (fun c_33 => ?_)
                      · exact absurd c_33 (nI_pos (by omega))
                      · exact sm_thr (k := 86) (n := 85) hx hb hts hown hlk hno hfl hE3 hI (hl.1.trans hml.symm) (by decide) (fun _ _ _ h1 h2 => oa_IS h1 h2) tw_497 tw_498 tw_17 tn_506 ⟨(Or.inr ⟨rfl, ⟨c_1, c_2, c_3, c_4, c_5, c_6, (Or.inr c_21)⟩, (pt_t2 hg z_30 (by omega))⟩), rfl, hT⟩ (by decide) (Nat.le_of_ble_eq_true rfl) (Nat.le_of_ble_eq_true rfl) (Nat.le_of_ble_eq_true rfl) (Nat.le_of_ble_eq_true rfl) (Nat.le_of_ble_eq_true rfl) (Nat.le_of_ble_eq_true rfl) d_Po_point_79 d_Po_point_82 (Or.inl ⟨d_Po_point_83, rfl⟩) d_Po_point_85 d_Po_point_88
                · exact sm_thr (k := 75) (n := 58) hx hb hts hown hlk hno hfl hE3 hI (hl.1.trans hml.symm) (by decide) (fun _ _ _ h1 h2 => oa_IA h1 h2) tw_425 tw_426 tw_16 tn_492 ⟨(Or.inl ⟨rfl, fun h => h.2.2.2.2.2.2.elim c_7 c_21⟩), rfl, hT⟩ (by decide) (Nat.le_of_ble_eq_true rfl) (Nat.le_of_ble_eq_true rfl) (Nat.le_of_ble_eq_true rfl) (Nat.le_of_ble_eq_true rfl) (Nat.le_of_ble_eq_true rfl) (Nat.le_of_ble_eq_true rfl) d_Po_point_52 d_Po_point_55 (Or.inl ⟨d_Po_point_56, rfl⟩) d_Po_point_58 d_Po_point_61
        · exact sm_thr (k := 70) (n := 27) hx hb hts hown hlk hno hfl hE3 hI (hl.1.trans hml.symm) (by decide) (fun _ _ _ h1 h2 => oa_IA h1 h2) tw_425 tw_426 tw_16 tn_465 ⟨(Or.inl ⟨rfl, fun h => c_4 h.2.2.2.1⟩), rfl, hT⟩ (by decide) (Nat.le_of_ble_eq_true rfl) (Nat.le_of_ble_eq_true rfl) (Nat.le_of_ble_eq_true rfl) (Nat.le_of_ble_eq_true rfl) (Nat.le_of_ble_eq_true rfl) (Nat.le_of_ble_eq_true rfl) d_Po_point_21 d_Po_point_24 (Or.inl ⟨d_Po_point_25, rfl⟩) d_Po_point_27 d_Po_point_30
