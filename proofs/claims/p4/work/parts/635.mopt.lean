/-! what the reference answers of a point (out of 43, by wip/tools/pt2.py) -/
set_option maxRecDepth 100000 in
set_option maxHeartbeats 4000000 in
theorem c_Mo_point2 (l : Launch) (D : va_G) (ca : Nat → ClassId) (ad : Nat → Nat) (L : List Nat) (f0 : Nat → va_E) (sz : Nat) (σ0 : mq_S) (hM : mq_B ca ad σ0 L f0) (x1 : Int32) (x2 : Int32) (x3 : Int32) (x4 : Int32) (p4 : x4 = 0 ∨ x4 = 1) (u0 : IH σ0) (g : List (Int32 × Int32)) (hR : RR g σ0) :
    Met l y_Mo_point (Cond.code y_Mo_point b_Mo_point 7 (some .int) :: wg) { frames := 1, cells := 0, slots := 0, locals := 25 } (va_Pc [.ref (ad 71), .int (x1), .int (x2), .int (x3), .int (x4)] (sm_P D cl_all (ty_s ca) ek L f0 sz)) (sm_Qi D (ty_s ca) L f0 sz (fun r u => mq_po ca ad L σ0 [0, 2, 3, 4, 5, 6] (fun σ => IH σ ∧ pt_res g x1 x2 x3 x4 r σ) u)) 0 0 (va_A (va_pl L f0) sz) := by
  refine sm_start (by decide) (Nat.le_of_ble_eq_true rfl) ?_
  intro p e s m below meth c ls hx hb hml hr hlk hnm hts hown hsz hE hI hl
  have hl : lv_has ls 7 [(0, .ref (ad 71)), (1, .int (x1)), (2, .int (x2)), (3, .int (x3)), (4, .int (x4))] := hl
  have hF : mq_fr [0, 2, 3, 4, 5, 6] σ0 σ0 := mq_fr_rf
  have hJ_19 : ∀ (N k : Nat) (H : Heap) (locs : List Loc) (f : Nat → va_E) (σ : mq_S) (ls : Array Slot) (y5 : Int32) (w : Nat), 32 + 1 - k ≤ N → k ≤ 32 → sw_I D cl_all (ty_s ca) (va_A (va_pl L f0) sz) s H locs L f → mq_B ca ad σ L f → mq_fr [0, 2, 3, 4, 5, 6] σ0 σ → lv_has ls 7 [(0, .ref (ad 71)), (1, .int (x1)), (2, .int (x2)), (3, .int (x3)), (4, .int (x4)), (5, .int (y5)), (6, .int (nI k))] → (y5 = 0 ∨ y5 = 1) → (0 ≤ w) → (w ≤ 32) → (σ.1 2 = nI w) → (IH σ) → (y5 = 0 → ¬ w = 32) → (σ = σ0) → py σ0 x1 w k y5 → W p l e { frames := 1, cells := 0, slots := 0, locals := 25 } s m ([.ref (ad 71), .int (x1), .int (x2), .int (x3), .int (x4)] : List Value).toArray below meth c H locs 0 0 (MQ below (sm_Qi D (ty_s ca) L f0 sz (fun r u => mq_po ca ad L σ0 [0, 2, 3, 4, 5, 6] (fun σ => IH σ ∧ pt_res g x1 x2 x3 x4 r σ) u)) ([.ref (ad 71), .int (x1), .int (x2), .int (x3), .int (x4)] : List Value).toArray s 0 0 (va_A (va_pl L f0) sz)) (F0 m 19 ls []) := by
    intro N
    induction N with
    | zero => intros; omega
    | succ N ih =>
      intro k H locs f σ ls y5 w hN hk hI hM hF hl py5 h90a h90b o90 u90 ht hs0 hy
      refine lv_iload hx hb d_Mo_point_19 (lv_at hl 6 rfl) ?_
      refine lv_aload_n hx hb d_Mo_point_21 rfl (lv_at hl 0 rfl) ?_
      refine mq_get (k := 2) (v := .int (nI w)) hx hb hts hown hI hM (by decide) (congrArg (fun z => some (Value.int z)) o90) rfl (hts _ tw_1171) d_Mo_point_22 ?_
      refine lv_icmp_ge (tgt := 57) hx hb d_Mo_point_25 (by decide) (fun c_1 => ?_) (fun c_1 => ?_)
      · have k_2 : w ≤ k := (nI_leI (a := w) (b := k) (by omega) (by omega)).mp c_1
        refine lv_iload_n hx hb d_Mo_point_57 rfl (lv_at hl 1 rfl) ?_
        refine lv_i2l hx hb d_Mo_point_58 rfl ?_
        refine lv_topl (fun x_3 e_4 => ?_)
        refine lv_lconst (v := 1) hx hb d_Mo_point_59 (by decide) ?_
        refine lv_ldc2 (v := 65535) hx hb hown (hts _ tw_1392) d_Mo_point_60 ?_
        refine sm_iP hI (va_runS (As := [.long (x_3), .long (1), .long (65535)]) (rest := []) ⟨hx, hb, hml, hown, hts⟩ (c_Mo_in l D ca L _ _ x_3 1 65535) (ks_Mo_in hts rfl rfl (hts _ tw_1393) ⟨Nat.le_of_ble_eq_true rfl, Nat.le_of_ble_eq_true rfl⟩) (sm_preS hI hE) rfl rfl hl.1 rfl (lv_room (Nat.le_of_ble_eq_true rfl)) d_Mo_point_63 ⟨Nat.le_of_ble_eq_true rfl, Nat.le_of_ble_eq_true rfl⟩) (fun x_6 H locs p_5 hI => ?_)
        rcases jn_int (lo := 1) (hi := 65535) p_5 e_4 (by decide) (by decide) (by omega) with ⟨rfl, j_8, h_9, h_10, e_11⟩ | ⟨rfl, h_7⟩
        · rw [e_11] at hl
          refine lv_if_eq (tgt := 108) hx hb d_Mo_point_66 (by decide) (fun c_12 => ?_) (fun c_12 => ?_)
          · exact absurd c_12 (by decide)
          · refine lv_iload_n hx hb d_Mo_point_69 rfl (lv_at hl 2 rfl) ?_
            refine lv_i2l hx hb d_Mo_point_70 rfl ?_
            refine lv_topl (fun x_13 e_14 => ?_)
            refine lv_lconst (v := 0) hx hb d_Mo_point_71 (by decide) ?_
            refine lv_ldc2 (v := 9) hx hb hown (hts _ tw_1396) d_Mo_point_72 ?_
            refine sm_iP hI (va_runS (As := [.long (x_13), .long (0), .long (9)]) (rest := []) ⟨hx, hb, hml, hown, hts⟩ (c_Mo_in l D ca L _ _ x_13 0 9) (ks_Mo_in hts rfl rfl (hts _ tw_1393) ⟨Nat.le_of_ble_eq_true rfl, Nat.le_of_ble_eq_true rfl⟩) (sm_preS hI hE) rfl rfl hl.1 rfl (lv_room (Nat.le_of_ble_eq_true rfl)) d_Mo_point_75 ⟨Nat.le_of_ble_eq_true rfl, Nat.le_of_ble_eq_true rfl⟩) (fun x_16 H locs p_15 hI => ?_)
            rcases jn_int (lo := 0) (hi := 9) p_15 e_14 (by decide) (by decide) (by omega) with ⟨rfl, j_18, h_19, h_20, e_21⟩ | ⟨rfl, h_17⟩
            · rw [e_21] at hl
              refine lv_if_eq (tgt := 108) hx hb d_Mo_point_78 (by decide) (fun c_22 => ?_) (fun c_22 => ?_)
              · exact absurd c_22 (by decide)
              · refine lv_iload_n hx hb d_Mo_point_81 rfl (lv_at hl 3 rfl) ?_
                refine lv_i2l hx hb d_Mo_point_82 rfl ?_
                refine lv_topl (fun x_23 e_24 => ?_)
                refine lv_lconst (v := 0) hx hb d_Mo_point_83 (by decide) ?_
                refine lv_ldc2 (v := 16) hx hb hown (hts _ tw_1397) d_Mo_point_84 ?_
                refine sm_iP hI (va_runS (As := [.long (x_23), .long (0), .long (16)]) (rest := []) ⟨hx, hb, hml, hown, hts⟩ (c_Mo_in l D ca L _ _ x_23 0 16) (ks_Mo_in hts rfl rfl (hts _ tw_1393) ⟨Nat.le_of_ble_eq_true rfl, Nat.le_of_ble_eq_true rfl⟩) (sm_preS hI hE) rfl rfl hl.1 rfl (lv_room (Nat.le_of_ble_eq_true rfl)) d_Mo_point_87 ⟨Nat.le_of_ble_eq_true rfl, Nat.le_of_ble_eq_true rfl⟩) (fun x_26 H locs p_25 hI => ?_)
                rcases jn_int (lo := 0) (hi := 16) p_25 e_24 (by decide) (by decide) (by omega) with ⟨rfl, j_28, h_29, h_30, e_31⟩ | ⟨rfl, h_27⟩
                · rw [e_31] at hl
                  refine lv_if_eq (tgt := 108) hx hb d_Mo_point_90 (by decide) (fun c_32 => ?_) (fun c_32 => ?_)
                  · exact absurd c_32 (by decide)
                  · refine lv_iload hx hb d_Mo_point_93 (lv_at hl 4 rfl) ?_
                    refine lv_if_eq (tgt := 104) hx hb d_Mo_point_95 (by decide) (fun c_33 => ?_) (fun c_33 => ?_)
                    · refine lv_iconst (v := 1) hx hb d_Mo_point_104 (by decide) ?_
                      refine lv_goto (tgt := 109) hx hb d_Mo_point_105 (by decide) ?_
                      refine lv_istore (lv' := [(6, .int (1)), (0, .ref (ad 71)), (1, .int (nI j_8)), (2, .int (nI j_18)), (3, .int (nI j_28)), (4, .int (x4)), (5, .int (y5))]) hx hb d_Mo_point_109 hl (by decide) rfl (fun ls hl => ?_)
                      refine lv_aload_n hx hb d_Mo_point_111 rfl (lv_at hl 1 rfl) ?_
                      refine lv_iload hx hb d_Mo_point_112 (lv_at hl 0 rfl) ?_
                      refine lv_if_ne (tgt := 121) hx hb d_Mo_point_114 (by decide) (fun c_34 => ?_) (fun c_34 => ?_)
                      · refine lv_iload hx hb d_Mo_point_121 (lv_at hl 6 rfl) ?_
                        refine lv_if_eq (tgt := 130) hx hb d_Mo_point_123 (by decide) (fun c_35 => ?_) (fun c_35 => ?_)
                        · have k_36 := ht c_35
                          refine lv_iconst (v := 0) hx hb d_Mo_point_130 (by decide) ?_
                          refine mq_puti (k := 0) (ty := .int) hx hb hts hown hI hM (by decide) rfl rfl (hts _ tw_1169) rfl (by decide +kernel) rfl rfl trivial d_Mo_point_131 (fun H locs f σ_37 e_38 hI hM => ?_)
                          have hF := mq_fr_ui hF e_38 rfl
                          have o_39 : σ_37.1 2 = nI w := by rw [e_38]; exact o90
                          have u_40 := IH_fr (mq_fr_ui (X := [0]) mq_fr_rf e_38 rfl) (by decide) u90
                          have o_41 := mq_uik e_38
                          refine lv_aload_n hx hb d_Mo_point_134 rfl (lv_at hl 1 rfl) ?_
                          refine mq_get (k := 0) (v := .int (0)) hx hb hts hown hI hM (by decide) (congrArg (fun z => some (Value.int z)) o_41) rfl (hts _ tw_1169) d_Mo_point_135 ?_
                          refine lv_if_le (tgt := 143) hx hb d_Mo_point_138 (by decide) (fun c_42 => ?_) (fun c_42 => ?_)
                          · refine lv_aload_n hx hb d_Mo_point_143 rfl (lv_at hl 1 rfl) ?_
                            refine mq_get (k := 3) (v := .ref (ad 3)) hx hb hts hown hI hM (by decide) rfl rfl (hts _ tw_1172) d_Mo_point_144 ?_
                            refine lv_aload_n hx hb d_Mo_point_147 rfl (lv_at hl 1 rfl) ?_
                            refine mq_get (k := 2) (v := .int (nI w)) hx hb hts hown hI hM (by decide) (congrArg (fun z => some (Value.int z)) o_39) rfl (hts _ tw_1171) d_Mo_point_148 ?_
                            refine lv_iload_n hx hb d_Mo_point_151 rfl (lv_at hl 2 rfl) ?_
                            refine mq_iast (k := 3) (j := w) (x := nI j_8) hx hb hI hM (by decide) rfl (by show w < 32; omega) (by decide) trivial d_Mo_point_152 (fun H locs f σ_43 e_44 hI hM => ?_)
                            have hF := mq_fr_ug hF e_44 rfl (Or.inl rfl)
                            have o_45 : σ_43.1 2 = nI w := by rw [e_44]; exact o_39
                            have o_46 : σ_43.1 0 = 0 := by rw [e_44]; exact o_41
                            have u_47 : IH σ_43 := IH_p3 e_44 (by decide) o_39 (by omega) u_40
                            refine lv_aload_n hx hb d_Mo_point_153 rfl (lv_at hl 1 rfl) ?_
                            refine mq_get (k := 4) (v := .ref (ad 4)) hx hb hts hown hI hM (by decide) rfl rfl (hts _ tw_1173) d_Mo_point_154 ?_
                            refine lv_aload_n hx hb d_Mo_point_157 rfl (lv_at hl 1 rfl) ?_
                            refine mq_get (k := 2) (v := .int (nI w)) hx hb hts hown hI hM (by decide) (congrArg (fun z => some (Value.int z)) o_45) rfl (hts _ tw_1171) d_Mo_point_158 ?_
                            refine lv_iload_n hx hb d_Mo_point_161 rfl (lv_at hl 3 rfl) ?_
                            refine mq_iast (k := 4) (j := w) (x := nI j_18) hx hb hI hM (by decide) rfl (by show w < 32; omega) (by decide) trivial d_Mo_point_162 (fun H locs f σ_48 e_49 hI hM => ?_)
                            have hF := mq_fr_ug hF e_49 rfl (Or.inl rfl)
                            have o_50 : σ_48.1 2 = nI w := by rw [e_49]; exact o_45
                            have o_51 : σ_48.1 0 = 0 := by rw [e_49]; exact o_46
                            have u_52 : IH σ_48 := IH_p3 e_49 (by decide) o_45 (by omega) u_47
                            refine lv_aload_n hx hb d_Mo_point_163 rfl (lv_at hl 1 rfl) ?_
                            refine mq_get (k := 5) (v := .ref (ad 5)) hx hb hts hown hI hM (by decide) rfl rfl (hts _ tw_1174) d_Mo_point_164 ?_
                            refine lv_aload_n hx hb d_Mo_point_167 rfl (lv_at hl 1 rfl) ?_
                            refine mq_get (k := 2) (v := .int (nI w)) hx hb hts hown hI hM (by decide) (congrArg (fun z => some (Value.int z)) o_50) rfl (hts _ tw_1171) d_Mo_point_168 ?_
                            refine lv_iload_n hx hb d_Mo_point_171 rfl (lv_at hl 4 rfl) ?_
                            refine mq_iast (k := 5) (j := w) (x := nI j_28) hx hb hI hM (by decide) rfl (by show w < 32; omega) (by decide) trivial d_Mo_point_172 (fun H locs f σ_53 e_54 hI hM => ?_)
                            have hF := mq_fr_ug hF e_54 rfl (Or.inl rfl)
                            have o_55 : σ_53.1 2 = nI w := by rw [e_54]; exact o_50
                            have o_56 : σ_53.1 0 = 0 := by rw [e_54]; exact o_51
                            have u_57 : IH σ_53 := IH_p3 e_54 (by decide) o_50 (by omega) u_52
                            refine lv_aload_n hx hb d_Mo_point_173 rfl (lv_at hl 1 rfl) ?_
                            refine mq_get (k := 6) (v := .ref (ad 6)) hx hb hts hown hI hM (by decide) rfl rfl (hts _ tw_1175) d_Mo_point_174 ?_
                            refine lv_aload_n hx hb d_Mo_point_177 rfl (lv_at hl 1 rfl) ?_
                            refine mq_get (k := 2) (v := .int (nI w)) hx hb hts hown hI hM (by decide) (congrArg (fun z => some (Value.int z)) o_55) rfl (hts _ tw_1171) d_Mo_point_178 ?_
                            refine lv_iload hx hb d_Mo_point_181 (lv_at hl 5 rfl) ?_
                            refine mq_zast (k := 6) (j := w) hx hb hI hM (by decide) rfl (by show w < 32; omega) (by decide) rfl p4 d_Mo_point_183 (fun H locs f σ_58 e_59 hI hM => ?_)
                            have hF := mq_fr_ug hF e_59 rfl (Or.inl rfl)
                            have o_60 : σ_58.1 2 = nI w := by rw [e_59]; exact o_55
                            have o_61 : σ_58.1 0 = 0 := by rw [e_59]; exact o_56
                            have u_62 := IH_fr (mq_fr_ug (X := [6]) mq_fr_rf e_59 rfl (Or.inl rfl)) (by decide) u_57
                            refine lv_aload_n hx hb d_Mo_point_184 rfl (lv_at hl 1 rfl) ?_
                            refine lv_dup hx hb d_Mo_point_185 rfl ?_
                            refine mq_get (k := 2) (v := .int (nI w)) hx hb hts hown hI hM (by decide) (congrArg (fun z => some (Value.int z)) o_60) rfl (hts _ tw_1171) d_Mo_point_186 ?_
                            refine lv_iconst (v := 1) hx hb d_Mo_point_189 (by decide) ?_
                            refine lv_iadd hx hb d_Mo_point_190 ?_
                            refine lv_topi (fun x_63 e_64 => ?_)
                            obtain rfl : x_63 = nI (w + 1) := by rw [e_64]; exact nI_add _ _
                            refine mq_puti (k := 2) (ty := .int) hx hb hts hown hI hM (by decide) rfl rfl (hts _ tw_1171) rfl (by decide +kernel) rfl rfl ⟨(w + 1), by omega, by omega, rfl⟩ d_Mo_point_191 (fun H locs f σ_65 e_66 hI hM => ?_)
                            have hF := mq_fr_ui hF e_66 rfl
                            have o_67 : σ_65.1 0 = 0 := by rw [e_66]; exact o_61
                            have u_68 : IH σ_65 := IH_pp e_66 o_60 (by omega) u_62
                            have o_69 := mq_uik e_66
                            refine lv_aload_n hx hb d_Mo_point_194 rfl (lv_at hl 1 rfl) ?_
                            refine mq_get (k := 2) (v := .int (nI (w + 1))) hx hb hts hown hI hM (by decide) (congrArg (fun z => some (Value.int z)) o_69) rfl (hts _ tw_1171) d_Mo_point_195 ?_
                            refine lv_iconst (v := 1) hx hb d_Mo_point_198 (by decide) ?_
                            refine lv_isub hx hb d_Mo_point_199 ?_
                            refine lv_topi (fun x_70 e_71 => ?_)
                            exact sm_iret hx hb hr hlk hI ⟨σ_65, rfl, hM, hF, ⟨u_68, (pr_ok hR hs0 o90 (by omega) hy c_35 k_2 (pg_of e_11 h_9 h_10 e_21 h_20 e_31 h_30 (Or.inl c_33)) e_38 e_44 e_11 e_49 e_21 e_54 e_59 e_66 e_71)⟩⟩ d_Mo_point_200
                          · exact absurd c_42 (by decide)
                        · refine lv_iconst (v := 2) hx hb d_Mo_point_126 (by decide) ?_
                          refine lv_goto (tgt := 131) hx hb d_Mo_point_127 (by decide) ?_
                          refine mq_puti (k := 0) (ty := .int) hx hb hts hown hI hM (by decide) rfl rfl (hts _ tw_1169) rfl (by decide +kernel) rfl rfl trivial d_Mo_point_131 (fun H locs f σ_72 e_73 hI hM => ?_)
                          have hF := mq_fr_ui hF e_73 rfl
                          have o_74 : σ_72.1 2 = nI w := by rw [e_73]; exact o90
                          have u_75 := IH_fr (mq_fr_ui (X := [0]) mq_fr_rf e_73 rfl) (by decide) u90
                          have o_76 := mq_uik e_73
                          refine lv_aload_n hx hb d_Mo_point_134 rfl (lv_at hl 1 rfl) ?_
                          refine mq_get (k := 0) (v := .int (2)) hx hb hts hown hI hM (by decide) (congrArg (fun z => some (Value.int z)) o_76) rfl (hts _ tw_1169) d_Mo_point_135 ?_
                          refine lv_if_le (tgt := 143) hx hb d_Mo_point_138 (by decide) (fun c_77 => ?_) (fun c_77 => ?_)
                          · exact absurd c_77 (by decide)
                          · refine lv_iconst (v := 0) hx hb d_Mo_point_141 (by decide) ?_
                            exact sm_iret hx hb hr hlk hI ⟨σ_72, rfl, hM, hF, ⟨u_75, (pr_2 hR hs0 o90 (by omega) hy c_35 (pg_of e_11 h_9 h_10 e_21 h_20 e_31 h_30 (Or.inl c_33)) e_73)⟩⟩ d_Mo_point_142
                      · exact absurd c_34 (by decide)
                    · refine lv_iload_n hx hb d_Mo_point_98 rfl (lv_at hl 2 rfl) ?_
                      refine lv_bipush (v := 6) hx hb d_Mo_point_99 (by decide) ?_
                      refine lv_icmp_le (tgt := 108) hx hb d_Mo_point_101 (by decide) (fun c_78 => ?_) (fun c_78 => ?_)
                      · have k_79 : j_18 ≤ 6 := (nI_leI (a := j_18) (b := 6) (by omega) (by omega)).mp c_78
                        refine lv_iconst (v := 0) hx hb d_Mo_point_108 (by decide) ?_
                        refine lv_istore (lv' := [(6, .int (0)), (0, .ref (ad 71)), (1, .int (nI j_8)), (2, .int (nI j_18)), (3, .int (nI j_28)), (4, .int (x4)), (5, .int (y5))]) hx hb d_Mo_point_109 hl (by decide) rfl (fun ls hl => ?_)
                        refine lv_aload_n hx hb d_Mo_point_111 rfl (lv_at hl 1 rfl) ?_
                        refine lv_iload hx hb d_Mo_point_112 (lv_at hl 0 rfl) ?_
                        refine lv_if_ne (tgt := 121) hx hb d_Mo_point_114 (by decide) (fun c_80 => ?_) (fun c_80 => ?_)
                        · exact absurd c_80 (by decide)
                        · refine lv_iconst (v := 1) hx hb d_Mo_point_117 (by decide) ?_
                          refine lv_goto (tgt := 131) hx hb d_Mo_point_118 (by decide) ?_
                          refine mq_puti (k := 0) (ty := .int) hx hb hts hown hI hM (by decide) rfl rfl (hts _ tw_1169) rfl (by decide +kernel) rfl rfl trivial d_Mo_point_131 (fun H locs f σ_81 e_82 hI hM => ?_)
                          have hF := mq_fr_ui hF e_82 rfl
                          have o_83 : σ_81.1 2 = nI w := by rw [e_82]; exact o90
                          have u_84 := IH_fr (mq_fr_ui (X := [0]) mq_fr_rf e_82 rfl) (by decide) u90
                          have o_85 := mq_uik e_82
                          refine lv_aload_n hx hb d_Mo_point_134 rfl (lv_at hl 1 rfl) ?_
                          refine mq_get (k := 0) (v := .int (1)) hx hb hts hown hI hM (by decide) (congrArg (fun z => some (Value.int z)) o_85) rfl (hts _ tw_1169) d_Mo_point_135 ?_
                          refine lv_if_le (tgt := 143) hx hb d_Mo_point_138 (by decide) (fun c_86 => ?_) (fun c_86 => ?_)
                          · exact absurd c_86 (by decide)
                          · refine lv_iconst (v := 0) hx hb d_Mo_point_141 (by decide) ?_
                            exact sm_iret hx hb hr hlk hI ⟨σ_81, rfl, hM, hF, ⟨u_84, (pr_1 hR hs0 (pg_n4 e_21 k_79 c_33) e_82)⟩⟩ d_Mo_point_142
                      · have k_87 : 6 < j_18 := Nat.lt_of_not_le (fun q => c_78 ((nI_leI (a := j_18) (b := 6) (by omega) (by omega)).mpr q))
                        refine lv_iconst (v := 1) hx hb d_Mo_point_104 (by decide) ?_
                        refine lv_goto (tgt := 109) hx hb d_Mo_point_105 (by decide) ?_
                        refine lv_istore (lv' := [(6, .int (1)), (0, .ref (ad 71)), (1, .int (nI j_8)), (2, .int (nI j_18)), (3, .int (nI j_28)), (4, .int (x4)), (5, .int (y5))]) hx hb d_Mo_point_109 hl (by decide) rfl (fun ls hl => ?_)
                        refine lv_aload_n hx hb d_Mo_point_111 rfl (lv_at hl 1 rfl) ?_
                        refine lv_iload hx hb d_Mo_point_112 (lv_at hl 0 rfl) ?_
                        refine lv_if_ne (tgt := 121) hx hb d_Mo_point_114 (by decide) (fun c_88 => ?_) (fun c_88 => ?_)
                        · refine lv_iload hx hb d_Mo_point_121 (lv_at hl 6 rfl) ?_
                          refine lv_if_eq (tgt := 130) hx hb d_Mo_point_123 (by decide) (fun c_89 => ?_) (fun c_89 => ?_)
                          · have k_90 := ht c_89
                            refine lv_iconst (v := 0) hx hb d_Mo_point_130 (by decide) ?_
                            refine mq_puti (k := 0) (ty := .int) hx hb hts hown hI hM (by decide) rfl rfl (hts _ tw_1169) rfl (by decide +kernel) rfl rfl trivial d_Mo_point_131 (fun H locs f σ_91 e_92 hI hM => ?_)
                            have hF := mq_fr_ui hF e_92 rfl
                            have o_93 : σ_91.1 2 = nI w := by rw [e_92]; exact o90
                            have u_94 := IH_fr (mq_fr_ui (X := [0]) mq_fr_rf e_92 rfl) (by decide) u90
                            have o_95 := mq_uik e_92
                            refine lv_aload_n hx hb d_Mo_point_134 rfl (lv_at hl 1 rfl) ?_
                            refine mq_get (k := 0) (v := .int (0)) hx hb hts hown hI hM (by decide) (congrArg (fun z => some (Value.int z)) o_95) rfl (hts _ tw_1169) d_Mo_point_135 ?_
                            refine lv_if_le (tgt := 143) hx hb d_Mo_point_138 (by decide) (fun c_96 => ?_) (fun c_96 => ?_)
                            · refine lv_aload_n hx hb d_Mo_point_143 rfl (lv_at hl 1 rfl) ?_
                              refine mq_get (k := 3) (v := .ref (ad 3)) hx hb hts hown hI hM (by decide) rfl rfl (hts _ tw_1172) d_Mo_point_144 ?_
                              refine lv_aload_n hx hb d_Mo_point_147 rfl (lv_at hl 1 rfl) ?_
                              refine mq_get (k := 2) (v := .int (nI w)) hx hb hts hown hI hM (by decide) (congrArg (fun z => some (Value.int z)) o_93) rfl (hts _ tw_1171) d_Mo_point_148 ?_
                              refine lv_iload_n hx hb d_Mo_point_151 rfl (lv_at hl 2 rfl) ?_
                              refine mq_iast (k := 3) (j := w) (x := nI j_8) hx hb hI hM (by decide) rfl (by show w < 32; omega) (by decide) trivial d_Mo_point_152 (fun H locs f σ_97 e_98 hI hM => ?_)
                              have hF := mq_fr_ug hF e_98 rfl (Or.inl rfl)
                              have o_99 : σ_97.1 2 = nI w := by rw [e_98]; exact o_93
                              have o_100 : σ_97.1 0 = 0 := by rw [e_98]; exact o_95
                              have u_101 : IH σ_97 := IH_p3 e_98 (by decide) o_93 (by omega) u_94
                              refine lv_aload_n hx hb d_Mo_point_153 rfl (lv_at hl 1 rfl) ?_
                              refine mq_get (k := 4) (v := .ref (ad 4)) hx hb hts hown hI hM (by decide) rfl rfl (hts _ tw_1173) d_Mo_point_154 ?_
                              refine lv_aload_n hx hb d_Mo_point_157 rfl (lv_at hl 1 rfl) ?_
                              refine mq_get (k := 2) (v := .int (nI w)) hx hb hts hown hI hM (by decide) (congrArg (fun z => some (Value.int z)) o_99) rfl (hts _ tw_1171) d_Mo_point_158 ?_
                              refine lv_iload_n hx hb d_Mo_point_161 rfl (lv_at hl 3 rfl) ?_
                              refine mq_iast (k := 4) (j := w) (x := nI j_18) hx hb hI hM (by decide) rfl (by show w < 32; omega) (by decide) trivial d_Mo_point_162 (fun H locs f σ_102 e_103 hI hM => ?_)
                              have hF := mq_fr_ug hF e_103 rfl (Or.inl rfl)
                              have o_104 : σ_102.1 2 = nI w := by rw [e_103]; exact o_99
                              have o_105 : σ_102.1 0 = 0 := by rw [e_103]; exact o_100
                              have u_106 : IH σ_102 := IH_p3 e_103 (by decide) o_99 (by omega) u_101
                              refine lv_aload_n hx hb d_Mo_point_163 rfl (lv_at hl 1 rfl) ?_
                              refine mq_get (k := 5) (v := .ref (ad 5)) hx hb hts hown hI hM (by decide) rfl rfl (hts _ tw_1174) d_Mo_point_164 ?_
                              refine lv_aload_n hx hb d_Mo_point_167 rfl (lv_at hl 1 rfl) ?_
                              refine mq_get (k := 2) (v := .int (nI w)) hx hb hts hown hI hM (by decide) (congrArg (fun z => some (Value.int z)) o_104) rfl (hts _ tw_1171) d_Mo_point_168 ?_
                              refine lv_iload_n hx hb d_Mo_point_171 rfl (lv_at hl 4 rfl) ?_
                              refine mq_iast (k := 5) (j := w) (x := nI j_28) hx hb hI hM (by decide) rfl (by show w < 32; omega) (by decide) trivial d_Mo_point_172 (fun H locs f σ_107 e_108 hI hM => ?_)
                              have hF := mq_fr_ug hF e_108 rfl (Or.inl rfl)
                              have o_109 : σ_107.1 2 = nI w := by rw [e_108]; exact o_104
                              have o_110 : σ_107.1 0 = 0 := by rw [e_108]; exact o_105
                              have u_111 : IH σ_107 := IH_p3 e_108 (by decide) o_104 (by omega) u_106
                              refine lv_aload_n hx hb d_Mo_point_173 rfl (lv_at hl 1 rfl) ?_
                              refine mq_get (k := 6) (v := .ref (ad 6)) hx hb hts hown hI hM (by decide) rfl rfl (hts _ tw_1175) d_Mo_point_174 ?_
                              refine lv_aload_n hx hb d_Mo_point_177 rfl (lv_at hl 1 rfl) ?_
                              refine mq_get (k := 2) (v := .int (nI w)) hx hb hts hown hI hM (by decide) (congrArg (fun z => some (Value.int z)) o_109) rfl (hts _ tw_1171) d_Mo_point_178 ?_
                              refine lv_iload hx hb d_Mo_point_181 (lv_at hl 5 rfl) ?_
                              refine mq_zast (k := 6) (j := w) hx hb hI hM (by decide) rfl (by show w < 32; omega) (by decide) rfl p4 d_Mo_point_183 (fun H locs f σ_112 e_113 hI hM => ?_)
                              have hF := mq_fr_ug hF e_113 rfl (Or.inl rfl)
                              have o_114 : σ_112.1 2 = nI w := by rw [e_113]; exact o_109
                              have o_115 : σ_112.1 0 = 0 := by rw [e_113]; exact o_110
                              have u_116 := IH_fr (mq_fr_ug (X := [6]) mq_fr_rf e_113 rfl (Or.inl rfl)) (by decide) u_111
                              refine lv_aload_n hx hb d_Mo_point_184 rfl (lv_at hl 1 rfl) ?_
                              refine lv_dup hx hb d_Mo_point_185 rfl ?_
                              refine mq_get (k := 2) (v := .int (nI w)) hx hb hts hown hI hM (by decide) (congrArg (fun z => some (Value.int z)) o_114) rfl (hts _ tw_1171) d_Mo_point_186 ?_
                              refine lv_iconst (v := 1) hx hb d_Mo_point_189 (by decide) ?_
                              refine lv_iadd hx hb d_Mo_point_190 ?_
                              refine lv_topi (fun x_117 e_118 => ?_)
                              obtain rfl : x_117 = nI (w + 1) := by rw [e_118]; exact nI_add _ _
                              refine mq_puti (k := 2) (ty := .int) hx hb hts hown hI hM (by decide) rfl rfl (hts _ tw_1171) rfl (by decide +kernel) rfl rfl ⟨(w + 1), by omega, by omega, rfl⟩ d_Mo_point_191 (fun H locs f σ_119 e_120 hI hM => ?_)
                              have hF := mq_fr_ui hF e_120 rfl
                              have o_121 : σ_119.1 0 = 0 := by rw [e_120]; exact o_115
                              have u_122 : IH σ_119 := IH_pp e_120 o_114 (by omega) u_116
                              have o_123 := mq_uik e_120
                              refine lv_aload_n hx hb d_Mo_point_194 rfl (lv_at hl 1 rfl) ?_
                              refine mq_get (k := 2) (v := .int (nI (w + 1))) hx hb hts hown hI hM (by decide) (congrArg (fun z => some (Value.int z)) o_123) rfl (hts _ tw_1171) d_Mo_point_195 ?_
                              refine lv_iconst (v := 1) hx hb d_Mo_point_198 (by decide) ?_
                              refine lv_isub hx hb d_Mo_point_199 ?_
                              refine lv_topi (fun x_124 e_125 => ?_)
                              exact sm_iret hx hb hr hlk hI ⟨σ_119, rfl, hM, hF, ⟨u_122, (pr_ok hR hs0 o90 (by omega) hy c_89 k_2 (pg_of e_11 h_9 h_10 e_21 h_20 e_31 h_30 (Or.inr k_87)) e_92 e_98 e_11 e_103 e_21 e_108 e_113 e_120 e_125)⟩⟩ d_Mo_point_200
                            · exact absurd c_96 (by decide)
                          · refine lv_iconst (v := 2) hx hb d_Mo_point_126 (by decide) ?_
                            refine lv_goto (tgt := 131) hx hb d_Mo_point_127 (by decide) ?_
                            refine mq_puti (k := 0) (ty := .int) hx hb hts hown hI hM (by decide) rfl rfl (hts _ tw_1169) rfl (by decide +kernel) rfl rfl trivial d_Mo_point_131 (fun H locs f σ_126 e_127 hI hM => ?_)
                            have hF := mq_fr_ui hF e_127 rfl
                            have o_128 : σ_126.1 2 = nI w := by rw [e_127]; exact o90
                            have u_129 := IH_fr (mq_fr_ui (X := [0]) mq_fr_rf e_127 rfl) (by decide) u90
                            have o_130 := mq_uik e_127
                            refine lv_aload_n hx hb d_Mo_point_134 rfl (lv_at hl 1 rfl) ?_
                            refine mq_get (k := 0) (v := .int (2)) hx hb hts hown hI hM (by decide) (congrArg (fun z => some (Value.int z)) o_130) rfl (hts _ tw_1169) d_Mo_point_135 ?_
                            refine lv_if_le (tgt := 143) hx hb d_Mo_point_138 (by decide) (fun c_131 => ?_) (fun c_131 => ?_)
                            · exact absurd c_131 (by decide)
                            · refine lv_iconst (v := 0) hx hb d_Mo_point_141 (by decide) ?_
                              exact sm_iret hx hb hr hlk hI ⟨σ_126, rfl, hM, hF, ⟨u_129, (pr_2 hR hs0 o90 (by omega) hy c_89 (pg_of e_11 h_9 h_10 e_21 h_20 e_31 h_30 (Or.inr k_87)) e_127)⟩⟩ d_Mo_point_142
                        · exact absurd c_88 (by decide)
                · refine lv_if_eq (tgt := 108) hx hb d_Mo_point_90 (by decide) (fun c_132 => ?_) (fun c_132 => ?_)
                  · refine lv_iconst (v := 0) hx hb d_Mo_point_108 (by decide) ?_
                    refine lv_istore (lv' := [(6, .int (0)), (0, .ref (ad 71)), (1, .int (nI j_8)), (2, .int (nI j_18)), (3, .int (x3)), (4, .int (x4)), (5, .int (y5))]) hx hb d_Mo_point_109 hl (by decide) rfl (fun ls hl => ?_)
                    refine lv_aload_n hx hb d_Mo_point_111 rfl (lv_at hl 1 rfl) ?_
                    refine lv_iload hx hb d_Mo_point_112 (lv_at hl 0 rfl) ?_
                    refine lv_if_ne (tgt := 121) hx hb d_Mo_point_114 (by decide) (fun c_133 => ?_) (fun c_133 => ?_)
                    · exact absurd c_133 (by decide)
                    · refine lv_iconst (v := 1) hx hb d_Mo_point_117 (by decide) ?_
                      refine lv_goto (tgt := 131) hx hb d_Mo_point_118 (by decide) ?_
                      refine mq_puti (k := 0) (ty := .int) hx hb hts hown hI hM (by decide) rfl rfl (hts _ tw_1169) rfl (by decide +kernel) rfl rfl trivial d_Mo_point_131 (fun H locs f σ_134 e_135 hI hM => ?_)
                      have hF := mq_fr_ui hF e_135 rfl
                      have o_136 : σ_134.1 2 = nI w := by rw [e_135]; exact o90
                      have u_137 := IH_fr (mq_fr_ui (X := [0]) mq_fr_rf e_135 rfl) (by decide) u90
                      have o_138 := mq_uik e_135
                      refine lv_aload_n hx hb d_Mo_point_134 rfl (lv_at hl 1 rfl) ?_
                      refine mq_get (k := 0) (v := .int (1)) hx hb hts hown hI hM (by decide) (congrArg (fun z => some (Value.int z)) o_138) rfl (hts _ tw_1169) d_Mo_point_135 ?_
                      refine lv_if_le (tgt := 143) hx hb d_Mo_point_138 (by decide) (fun c_139 => ?_) (fun c_139 => ?_)
                      · exact absurd c_139 (by decide)
                      · refine lv_iconst (v := 0) hx hb d_Mo_point_141 (by decide) ?_
                        exact sm_iret hx hb hr hlk hI ⟨σ_134, rfl, hM, hF, ⟨u_137, (pr_1 hR hs0 (pg_n3 h_27) e_135)⟩⟩ d_Mo_point_142
                  · exact absurd c_132 (by decide)
            · refine lv_if_eq (tgt := 108) hx hb d_Mo_point_78 (by decide) (fun c_140 => ?_) (fun c_140 => ?_)
              · refine lv_iconst (v := 0) hx hb d_Mo_point_108 (by decide) ?_
                refine lv_istore (lv' := [(6, .int (0)), (0, .ref (ad 71)), (1, .int (nI j_8)), (2, .int (x2)), (3, .int (x3)), (4, .int (x4)), (5, .int (y5))]) hx hb d_Mo_point_109 hl (by decide) rfl (fun ls hl => ?_)
                refine lv_aload_n hx hb d_Mo_point_111 rfl (lv_at hl 1 rfl) ?_
                refine lv_iload hx hb d_Mo_point_112 (lv_at hl 0 rfl) ?_
                refine lv_if_ne (tgt := 121) hx hb d_Mo_point_114 (by decide) (fun c_141 => ?_) (fun c_141 => ?_)
                · exact absurd c_141 (by decide)
                · refine lv_iconst (v := 1) hx hb d_Mo_point_117 (by decide) ?_
                  refine lv_goto (tgt := 131) hx hb d_Mo_point_118 (by decide) ?_
                  refine mq_puti (k := 0) (ty := .int) hx hb hts hown hI hM (by decide) rfl rfl (hts _ tw_1169) rfl (by decide +kernel) rfl rfl trivial d_Mo_point_131 (fun H locs f σ_142 e_143 hI hM => ?_)
                  have hF := mq_fr_ui hF e_143 rfl
                  have o_144 : σ_142.1 2 = nI w := by rw [e_143]; exact o90
                  have u_145 := IH_fr (mq_fr_ui (X := [0]) mq_fr_rf e_143 rfl) (by decide) u90
                  have o_146 := mq_uik e_143
                  refine lv_aload_n hx hb d_Mo_point_134 rfl (lv_at hl 1 rfl) ?_
                  refine mq_get (k := 0) (v := .int (1)) hx hb hts hown hI hM (by decide) (congrArg (fun z => some (Value.int z)) o_146) rfl (hts _ tw_1169) d_Mo_point_135 ?_
                  refine lv_if_le (tgt := 143) hx hb d_Mo_point_138 (by decide) (fun c_147 => ?_) (fun c_147 => ?_)
                  · exact absurd c_147 (by decide)
                  · refine lv_iconst (v := 0) hx hb d_Mo_point_141 (by decide) ?_
                    exact sm_iret hx hb hr hlk hI ⟨σ_142, rfl, hM, hF, ⟨u_145, (pr_1 hR hs0 (pg_n2 h_17) e_143)⟩⟩ d_Mo_point_142
              · exact absurd c_140 (by decide)
        · refine lv_if_eq (tgt := 108) hx hb d_Mo_point_66 (by decide) (fun c_148 => ?_) (fun c_148 => ?_)
          · refine lv_iconst (v := 0) hx hb d_Mo_point_108 (by decide) ?_
            refine lv_istore (lv' := [(6, .int (0)), (0, .ref (ad 71)), (1, .int (x1)), (2, .int (x2)), (3, .int (x3)), (4, .int (x4)), (5, .int (y5))]) hx hb d_Mo_point_109 hl (by decide) rfl (fun ls hl => ?_)
            refine lv_aload_n hx hb d_Mo_point_111 rfl (lv_at hl 1 rfl) ?_
            refine lv_iload hx hb d_Mo_point_112 (lv_at hl 0 rfl) ?_
            refine lv_if_ne (tgt := 121) hx hb d_Mo_point_114 (by decide) (fun c_149 => ?_) (fun c_149 => ?_)
            · exact absurd c_149 (by decide)
            · refine lv_iconst (v := 1) hx hb d_Mo_point_117 (by decide) ?_
              refine lv_goto (tgt := 131) hx hb d_Mo_point_118 (by decide) ?_
              refine mq_puti (k := 0) (ty := .int) hx hb hts hown hI hM (by decide) rfl rfl (hts _ tw_1169) rfl (by decide +kernel) rfl rfl trivial d_Mo_point_131 (fun H locs f σ_150 e_151 hI hM => ?_)
              have hF := mq_fr_ui hF e_151 rfl
              have o_152 : σ_150.1 2 = nI w := by rw [e_151]; exact o90
              have u_153 := IH_fr (mq_fr_ui (X := [0]) mq_fr_rf e_151 rfl) (by decide) u90
              have o_154 := mq_uik e_151
              refine lv_aload_n hx hb d_Mo_point_134 rfl (lv_at hl 1 rfl) ?_
              refine mq_get (k := 0) (v := .int (1)) hx hb hts hown hI hM (by decide) (congrArg (fun z => some (Value.int z)) o_154) rfl (hts _ tw_1169) d_Mo_point_135 ?_
              refine lv_if_le (tgt := 143) hx hb d_Mo_point_138 (by decide) (fun c_155 => ?_) (fun c_155 => ?_)
              · exact absurd c_155 (by decide)
              · refine lv_iconst (v := 0) hx hb d_Mo_point_141 (by decide) ?_
                exact sm_iret hx hb hr hlk hI ⟨σ_150, rfl, hM, hF, ⟨u_153, (pr_1 hR hs0 (pg_n1 h_7) e_151)⟩⟩ d_Mo_point_142
          · exact absurd c_148 (by decide)
      · have k_156 : k < w := Nat.lt_of_not_le (fun q => c_1 ((nI_leI (a := w) (b := k) (by omega) (by omega)).mpr q))
        refine lv_iload hx hb d_Mo_point_28 (lv_at hl 5 rfl) ?_
        refine lv_if_ne (tgt := 44) hx hb d_Mo_point_30 (by decide) (fun c_157 => ?_) (fun c_157 => ?_)
        · refine lv_iconst (v := 1) hx hb d_Mo_point_44 (by decide) ?_
          refine lv_goto (tgt := 49) hx hb d_Mo_point_45 (by decide) ?_
          refine lv_istore (lv' := [(5, .int (1)), (0, .ref (ad 71)), (1, .int (x1)), (2, .int (x2)), (3, .int (x3)), (4, .int (x4)), (6, .int (nI k))]) hx hb d_Mo_point_49 hl (by decide) rfl (fun ls hl => ?_)
          refine lv_iinc (v := nI (k + 1)) (lv' := [(6, .int (nI (k + 1))), (5, .int (1)), (0, .ref (ad 71)), (1, .int (x1)), (2, .int (x2)), (3, .int (x3)), (4, .int (x4))]) hx hb d_Mo_point_51 hl (k := 6) rfl (nI_1 _) (by decide) rfl (fun ls hl => ?_)
          refine lv_goto (tgt := 19) hx hb d_Mo_point_54 (by decide) ?_
          exact ih ((k + 1)) _ _ _ _ _ 1 (w) (by omega) (by omega) hI hM hF (lv_sub hl [2, 3, 4, 5, 6, 1, 0] rfl) (by decide) (by omega) (by omega) o90 u90 (fun h => absurd h (by decide)) hs0 (py_a hy c_157)
        · have k_158 := ht c_157
          refine lv_aload_n hx hb d_Mo_point_33 rfl (lv_at hl 0 rfl) ?_
          refine mq_get (k := 3) (v := .ref (ad 3)) hx hb hts hown hI hM (by decide) rfl rfl (hts _ tw_1172) d_Mo_point_34 ?_
          refine lv_iload hx hb d_Mo_point_37 (lv_at hl 6 rfl) ?_
          obtain ⟨x_159, e_160⟩ : ∃ z, σ.2.2.1 3 (k) = z := ⟨_, rfl⟩
          refine mq_iald (k := 3) (j := k) (v := x_159) hx hb hI hM (by decide) rfl (by show k < 32; omega) (by decide) e_160 d_Mo_point_39 ?_
          refine lv_iload_n hx hb d_Mo_point_40 rfl (lv_at hl 1 rfl) ?_
          refine lv_icmp_ne (tgt := 48) hx hb d_Mo_point_41 (by decide) (fun c_161 => ?_) (fun c_161 => ?_)
          · refine lv_iconst (v := 0) hx hb d_Mo_point_48 (by decide) ?_
            refine lv_istore (lv' := [(5, .int (0)), (0, .ref (ad 71)), (1, .int (x1)), (2, .int (x2)), (3, .int (x3)), (4, .int (x4)), (6, .int (nI k))]) hx hb d_Mo_point_49 hl (by decide) rfl (fun ls hl => ?_)
            refine lv_iinc (v := nI (k + 1)) (lv' := [(6, .int (nI (k + 1))), (5, .int (0)), (0, .ref (ad 71)), (1, .int (x1)), (2, .int (x2)), (3, .int (x3)), (4, .int (x4))]) hx hb d_Mo_point_51 hl (k := 6) rfl (nI_1 _) (by decide) rfl (fun ls hl => ?_)
            refine lv_goto (tgt := 19) hx hb d_Mo_point_54 (by decide) ?_
            exact ih ((k + 1)) _ _ _ _ _ 0 (w) (by omega) (by omega) hI hM hF (lv_sub hl [2, 3, 4, 5, 6, 1, 0] rfl) (by decide) (by omega) (by omega) o90 u90 (fun _ => ht c_157) hs0 (py_b hy c_157 hs0 e_160 c_161)
          · refine lv_iconst (v := 1) hx hb d_Mo_point_44 (by decide) ?_
            refine lv_goto (tgt := 49) hx hb d_Mo_point_45 (by decide) ?_
            refine lv_istore (lv' := [(5, .int (1)), (0, .ref (ad 71)), (1, .int (x1)), (2, .int (x2)), (3, .int (x3)), (4, .int (x4)), (6, .int (nI k))]) hx hb d_Mo_point_49 hl (by decide) rfl (fun ls hl => ?_)
            refine lv_iinc (v := nI (k + 1)) (lv' := [(6, .int (nI (k + 1))), (5, .int (1)), (0, .ref (ad 71)), (1, .int (x1)), (2, .int (x2)), (3, .int (x3)), (4, .int (x4))]) hx hb d_Mo_point_51 hl (k := 6) rfl (nI_1 _) (by decide) rfl (fun ls hl => ?_)
            refine lv_goto (tgt := 19) hx hb d_Mo_point_54 (by decide) ?_
            exact ih ((k + 1)) _ _ _ _ _ 1 (w) (by omega) (by omega) hI hM hF (lv_sub hl [2, 3, 4, 5, 6, 1, 0] rfl) (by decide) (by omega) (by omega) o90 u90 (fun h => absurd h (by decide)) hs0 (py_c k_156 hs0 e_160 c_161)
  refine lv_aload_n hx hb d_Mo_point_0 rfl (lv_at hl 0 rfl) ?_
  obtain ⟨n_162, h_163, h_164, e_165⟩ := hM.2.2.2.2.1 2
  refine mq_get (k := 2) (v := .int (nI n_162)) hx hb hts hown hI hM (by decide) (congrArg (fun z => some (Value.int z)) e_165) rfl (hts _ tw_1171) d_Mo_point_1 ?_
  refine lv_bipush (v := 32) hx hb d_Mo_point_4 (by decide) ?_
  refine lv_icmp_ne (tgt := 13) hx hb d_Mo_point_6 (by decide) (fun c_166 => ?_) (fun c_166 => ?_)
  · have k_167 : ¬ n_162 = 32 := (fun q => c_166 ((nI_eq (a := n_162) (b := 32) (by omega) (by omega)).mpr q))
    refine lv_iconst (v := 0) hx hb d_Mo_point_13 (by decide) ?_
    refine lv_istore (lv' := [(5, .int (0)), (0, .ref (ad 71)), (1, .int (x1)), (2, .int (x2)), (3, .int (x3)), (4, .int (x4))]) hx hb d_Mo_point_14 hl (by decide) rfl (fun ls hl => ?_)
    refine lv_iconst (v := 0) hx hb d_Mo_point_16 (by decide) ?_
    refine lv_istore (lv' := [(6, .int (0)), (5, .int (0)), (0, .ref (ad 71)), (1, .int (x1)), (2, .int (x2)), (3, .int (x3)), (4, .int (x4))]) hx hb d_Mo_point_17 hl (by decide) rfl (fun ls hl => ?_)
    exact hJ_19 _ (0) _ _ _ _ _ 0 (n_162) (Nat.le_refl _) (by omega) hI hM hF (lv_sub hl [2, 3, 4, 5, 6, 1, 0] rfl) (by decide) (by omega) (by omega) e_165 u0 (fun _ => by omega) rfl (py_0 k_167)
  · have k_168 : n_162 = 32 := (nI_eq (a := n_162) (b := 32) (by omega) (by omega)).mp c_166
    refine lv_iconst (v := 1) hx hb d_Mo_point_9 (by decide) ?_
    refine lv_goto (tgt := 14) hx hb d_Mo_point_10 (by decide) ?_
    refine lv_istore (lv' := [(5, .int (1)), (0, .ref (ad 71)), (1, .int (x1)), (2, .int (x2)), (3, .int (x3)), (4, .int (x4))]) hx hb d_Mo_point_14 hl (by decide) rfl (fun ls hl => ?_)
    refine lv_iconst (v := 0) hx hb d_Mo_point_16 (by decide) ?_
    refine lv_istore (lv' := [(6, .int (0)), (5, .int (1)), (0, .ref (ad 71)), (1, .int (x1)), (2, .int (x2)), (3, .int (x3)), (4, .int (x4))]) hx hb d_Mo_point_17 hl (by decide) rfl (fun ls hl => ?_)
    exact hJ_19 _ (0) _ _ _ _ _ 1 (n_162) (Nat.le_refl _) (by omega) hI hM hF (lv_sub hl [2, 3, 4, 5, 6, 1, 0] rfl) (by decide) (by omega) (by omega) e_165 u0 (fun h => absurd h (by decide)) rfl (py_1 k_168)
