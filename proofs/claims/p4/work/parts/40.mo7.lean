/-! the reference: commands (written by wip/tools) -/
theorem d_Mo_operate_0 : decode b_Mo_operate 0 = .ok (.aload_n 0, 1) := by decide +kernel
theorem d_Mo_operate_1 : decode b_Mo_operate 1 = .ok (.getfield 485, 3) := by decide +kernel
theorem d_Mo_operate_4 : decode b_Mo_operate 4 = .ok (.istore 5, 2) := by decide +kernel
theorem d_Mo_operate_6 : decode b_Mo_operate 6 = .ok (.aload_n 0, 1) := by decide +kernel
theorem d_Mo_operate_7 : decode b_Mo_operate 7 = .ok (.dup, 1) := by decide +kernel
theorem d_Mo_operate_8 : decode b_Mo_operate 8 = .ok (.getfield 485, 3) := by decide +kernel
theorem d_Mo_operate_11 : decode b_Mo_operate 11 = .ok (.iconst 1, 1) := by decide +kernel
theorem d_Mo_operate_12 : decode b_Mo_operate 12 = .ok (.iadd, 1) := by decide +kernel
theorem d_Mo_operate_13 : decode b_Mo_operate 13 = .ok (.putfield 485, 3) := by decide +kernel
theorem d_Mo_operate_16 : decode b_Mo_operate 16 = .ok (.aload_n 0, 1) := by decide +kernel
theorem d_Mo_operate_17 : decode b_Mo_operate 17 = .ok (.getfield 172, 3) := by decide +kernel
theorem d_Mo_operate_20 : decode b_Mo_operate 20 = .ok (.iconst 0, 1) := by decide +kernel
theorem d_Mo_operate_21 : decode b_Mo_operate 21 = .ok (.iaload, 1) := by decide +kernel
theorem d_Mo_operate_22 : decode b_Mo_operate 22 = .ok (.istore 6, 2) := by decide +kernel
theorem d_Mo_operate_24 : decode b_Mo_operate 24 = .ok (.aload_n 0, 1) := by decide +kernel
theorem d_Mo_operate_25 : decode b_Mo_operate 25 = .ok (.getfield 142, 3) := by decide +kernel
theorem d_Mo_operate_28 : decode b_Mo_operate 28 = .ok (.iload 5, 2) := by decide +kernel
theorem d_Mo_operate_30 : decode b_Mo_operate 30 = .ok (.iload_n 2, 1) := by decide +kernel
theorem d_Mo_operate_31 : decode b_Mo_operate 31 = .ok (.iastore, 1) := by decide +kernel
theorem d_Mo_operate_32 : decode b_Mo_operate 32 = .ok (.aload_n 0, 1) := by decide +kernel
theorem d_Mo_operate_33 : decode b_Mo_operate 33 = .ok (.getfield 145, 3) := by decide +kernel
theorem d_Mo_operate_36 : decode b_Mo_operate 36 = .ok (.iload 5, 2) := by decide +kernel
theorem d_Mo_operate_38 : decode b_Mo_operate 38 = .ok (.iload 6, 2) := by decide +kernel
theorem d_Mo_operate_40 : decode b_Mo_operate 40 = .ok (.bipush 45, 2) := by decide +kernel
theorem d_Mo_operate_42 : decode b_Mo_operate 42 = .ok (.if_icmp .ne 10, 3) := by decide +kernel
theorem d_Mo_operate_45 : decode b_Mo_operate 45 = .ok (.iload 4, 2) := by decide +kernel
theorem d_Mo_operate_47 : decode b_Mo_operate 47 = .ok (.iconst 1, 1) := by decide +kernel
theorem d_Mo_operate_48 : decode b_Mo_operate 48 = .ok (.iand, 1) := by decide +kernel
theorem d_Mo_operate_49 : decode b_Mo_operate 49 = .ok (.goto 23, 3) := by decide +kernel
theorem d_Mo_operate_52 : decode b_Mo_operate 52 = .ok (.iload 6, 2) := by decide +kernel
theorem d_Mo_operate_54 : decode b_Mo_operate 54 = .ok (.bipush 46, 2) := by decide +kernel
theorem d_Mo_operate_56 : decode b_Mo_operate 56 = .ok (.if_icmp .ne 10, 3) := by decide +kernel
theorem d_Mo_operate_59 : decode b_Mo_operate 59 = .ok (.iload 4, 2) := by decide +kernel
theorem d_Mo_operate_61 : decode b_Mo_operate 61 = .ok (.iconst 3, 1) := by decide +kernel
theorem d_Mo_operate_62 : decode b_Mo_operate 62 = .ok (.iand, 1) := by decide +kernel
theorem d_Mo_operate_63 : decode b_Mo_operate 63 = .ok (.goto 9, 3) := by decide +kernel
theorem d_Mo_operate_66 : decode b_Mo_operate 66 = .ok (.aload_n 0, 1) := by decide +kernel
theorem d_Mo_operate_67 : decode b_Mo_operate 67 = .ok (.iload_n 3, 1) := by decide +kernel
theorem d_Mo_operate_68 : decode b_Mo_operate 68 = .ok (.iconst 4, 1) := by decide +kernel
theorem d_Mo_operate_69 : decode b_Mo_operate 69 = .ok (.invokevirtual 451, 3) := by decide +kernel
theorem d_Mo_operate_72 : decode b_Mo_operate 72 = .ok (.iastore, 1) := by decide +kernel
theorem d_Mo_operate_73 : decode b_Mo_operate 73 = .ok (.aload_n 0, 1) := by decide +kernel
theorem d_Mo_operate_74 : decode b_Mo_operate 74 = .ok (.getfield 148, 3) := by decide +kernel
theorem d_Mo_operate_77 : decode b_Mo_operate 77 = .ok (.iload 5, 2) := by decide +kernel
theorem d_Mo_operate_79 : decode b_Mo_operate 79 = .ok (.iload 4, 2) := by decide +kernel
theorem d_Mo_operate_81 : decode b_Mo_operate 81 = .ok (.bipush 127, 2) := by decide +kernel
theorem d_Mo_operate_83 : decode b_Mo_operate 83 = .ok (.iand, 1) := by decide +kernel
theorem d_Mo_operate_84 : decode b_Mo_operate 84 = .ok (.iastore, 1) := by decide +kernel
theorem d_Mo_operate_85 : decode b_Mo_operate 85 = .ok (.aload_n 0, 1) := by decide +kernel
theorem d_Mo_operate_86 : decode b_Mo_operate 86 = .ok (.getfield 151, 3) := by decide +kernel
theorem d_Mo_operate_89 : decode b_Mo_operate 89 = .ok (.iload 5, 2) := by decide +kernel
theorem d_Mo_operate_91 : decode b_Mo_operate 91 = .ok (.iload_n 1, 1) := by decide +kernel
theorem d_Mo_operate_92 : decode b_Mo_operate 92 = .ok (.iastore, 1) := by decide +kernel
theorem d_Mo_operate_93 : decode b_Mo_operate 93 = .ok (.aload_n 0, 1) := by decide +kernel
theorem d_Mo_operate_94 : decode b_Mo_operate 94 = .ok (.getfield 154, 3) := by decide +kernel
theorem d_Mo_operate_97 : decode b_Mo_operate 97 = .ok (.iload 5, 2) := by decide +kernel
theorem d_Mo_operate_99 : decode b_Mo_operate 99 = .ok (.aload_n 0, 1) := by decide +kernel
theorem d_Mo_operate_100 : decode b_Mo_operate 100 = .ok (.getfield 32, 3) := by decide +kernel
theorem d_Mo_operate_103 : decode b_Mo_operate 103 = .ok (.iload_n 1, 1) := by decide +kernel
theorem d_Mo_operate_104 : decode b_Mo_operate 104 = .ok (.iaload, 1) := by decide +kernel
theorem d_Mo_operate_105 : decode b_Mo_operate 105 = .ok (.iastore, 1) := by decide +kernel
theorem d_Mo_operate_106 : decode b_Mo_operate 106 = .ok (.aload_n 0, 1) := by decide +kernel
theorem d_Mo_operate_107 : decode b_Mo_operate 107 = .ok (.getfield 157, 3) := by decide +kernel
theorem d_Mo_operate_110 : decode b_Mo_operate 110 = .ok (.iload 5, 2) := by decide +kernel
theorem d_Mo_operate_112 : decode b_Mo_operate 112 = .ok (.iconst 1, 1) := by decide +kernel
theorem d_Mo_operate_113 : decode b_Mo_operate 113 = .ok (.bastore, 1) := by decide +kernel
theorem d_Mo_operate_114 : decode b_Mo_operate 114 = .ok (.aload_n 0, 1) := by decide +kernel
theorem d_Mo_operate_115 : decode b_Mo_operate 115 = .ok (.getfield 163, 3) := by decide +kernel
theorem d_Mo_operate_118 : decode b_Mo_operate 118 = .ok (.iload 5, 2) := by decide +kernel
theorem d_Mo_operate_120 : decode b_Mo_operate 120 = .ok (.aload_n 0, 1) := by decide +kernel
theorem d_Mo_operate_121 : decode b_Mo_operate 121 = .ok (.getfield 219, 3) := by decide +kernel
theorem d_Mo_operate_124 : decode b_Mo_operate 124 = .ok (.iastore, 1) := by decide +kernel
theorem d_Mo_operate_125 : decode b_Mo_operate 125 = .ok (.iconst 0, 1) := by decide +kernel
theorem d_Mo_operate_126 : decode b_Mo_operate 126 = .ok (.istore 7, 2) := by decide +kernel
theorem d_Mo_operate_128 : decode b_Mo_operate 128 = .ok (.iload 7, 2) := by decide +kernel
theorem d_Mo_operate_130 : decode b_Mo_operate 130 = .ok (.aload_n 0, 1) := by decide +kernel
theorem d_Mo_operate_131 : decode b_Mo_operate 131 = .ok (.getfield 219, 3) := by decide +kernel
theorem d_Mo_operate_134 : decode b_Mo_operate 134 = .ok (.if_icmp .ge 29, 3) := by decide +kernel
theorem d_Mo_operate_137 : decode b_Mo_operate 137 = .ok (.aload_n 0, 1) := by decide +kernel
theorem d_Mo_operate_138 : decode b_Mo_operate 138 = .ok (.getfield 160, 3) := by decide +kernel
theorem d_Mo_operate_141 : decode b_Mo_operate 141 = .ok (.bipush 24, 2) := by decide +kernel
theorem d_Mo_operate_143 : decode b_Mo_operate 143 = .ok (.iload 5, 2) := by decide +kernel
theorem d_Mo_operate_145 : decode b_Mo_operate 145 = .ok (.imul, 1) := by decide +kernel
theorem d_Mo_operate_146 : decode b_Mo_operate 146 = .ok (.iload 7, 2) := by decide +kernel
theorem d_Mo_operate_148 : decode b_Mo_operate 148 = .ok (.iadd, 1) := by decide +kernel
theorem d_Mo_operate_149 : decode b_Mo_operate 149 = .ok (.aload_n 0, 1) := by decide +kernel
theorem d_Mo_operate_150 : decode b_Mo_operate 150 = .ok (.getfield 172, 3) := by decide +kernel
theorem d_Mo_operate_153 : decode b_Mo_operate 153 = .ok (.iload 7, 2) := by decide +kernel
theorem d_Mo_operate_155 : decode b_Mo_operate 155 = .ok (.iaload, 1) := by decide +kernel
theorem d_Mo_operate_156 : decode b_Mo_operate 156 = .ok (.iastore, 1) := by decide +kernel
theorem d_Mo_operate_157 : decode b_Mo_operate 157 = .ok (.iinc 7 1, 3) := by decide +kernel
theorem d_Mo_operate_160 : decode b_Mo_operate 160 = .ok (.goto (-32), 3) := by decide +kernel
theorem d_Mo_operate_163 : decode b_Mo_operate 163 = .ok (.return_, 1) := by decide +kernel
set_option maxRecDepth 100000 in
set_option maxHeartbeats 4000000 in
theorem c_Mo_operate (l : Launch) (D : va_G) (ca : Nat → ClassId) (ad : Nat → Nat) (L : List Nat) (f0 : Nat → va_E) (sz : Nat) (σ0 : mq_S) (hM : mq_B ca ad σ0 L f0) (j1 : Nat) (q1 : j1 ≤ 3) (x2 : Int32) (j3 : Nat) (q3 : j3 ≤ 240) (x4 : Int32) (z1 : Nat) (o0 : σ0.1 56 = nI z1) (z2 : Nat) (o1 : σ0.1 70 = nI z2) (hz : z1 ≤ 599) (hy : z2 ≤ 24) :
    Met l y_Mo_operate (Cond.code y_Mo_operate b_Mo_operate 8 none :: wg) { frames := 1, cells := 0, slots := 0, locals := 24 } (va_Pc [.ref (ad 71), .int (nI j1), .int (x2), .int (nI j3), .int (x4)] (sm_P D cl_all (ty_s ca) ek L f0 sz)) (sm_Qv D (ty_s ca) L f0 sz (fun u => mq_po ca ad L σ0 [56, 57, 58, 59, 60, 61, 62, 63, 64] (fun σ => σ.1 56 = nI (z1 + 1) ∧ True) u)) 0 0 (va_A (va_pl L f0) sz) := by
  refine sm_start (by decide) (Nat.le_of_ble_eq_true rfl) ?_
  intro p e s m below meth c ls hx hb hml hr hlk hnm hts hown hsz hE hI hl
  have hl : lv_has ls 8 [(0, .ref (ad 71)), (1, .int (nI j1)), (2, .int (x2)), (3, .int (nI j3)), (4, .int (x4))] := hl
  have hF : mq_fr [56, 57, 58, 59, 60, 61, 62, 63, 64] σ0 σ0 := mq_fr_rf
  have hJ_128 : ∀ (N k : Nat) (H : Heap) (locs : List Loc) (f : Nat → va_E) (σ : mq_S) (ls : Array Slot) (r : Nat) (y6 : Int32), 24 + 1 - k ≤ N → k ≤ 24 → sw_I D cl_all (ty_s ca) (va_A (va_pl L f0) sz) s H locs L f → mq_B ca ad σ L f → mq_fr [56, 57, 58, 59, 60, 61, 62, 63, 64] σ0 σ → lv_has ls 8 [(0, .ref (ad 71)), (1, .int (nI j1)), (2, .int (x2)), (3, .int (nI j3)), (4, .int (x4)), (5, .int (nI r)), (6, .int (y6)), (7, .int (nI k))] → (σ.1 56 = nI (z1 + 1)) → (σ.1 70 = nI (z2)) → (r ≤ 599) → W p l e { frames := 1, cells := 0, slots := 0, locals := 24 } s m ([.ref (ad 71), .int (nI j1), .int (x2), .int (nI j3), .int (x4)] : List Value).toArray below meth c H locs 0 0 (MQ below (sm_Qv D (ty_s ca) L f0 sz (fun u => mq_po ca ad L σ0 [56, 57, 58, 59, 60, 61, 62, 63, 64] (fun σ => σ.1 56 = nI (z1 + 1) ∧ True) u)) ([.ref (ad 71), .int (nI j1), .int (x2), .int (nI j3), .int (x4)] : List Value).toArray s 0 0 (va_A (va_pl L f0) sz)) (F0 m 128 ls []) := by
    intro N
    induction N with
    | zero => intros; omega
    | succ N ih =>
      intro k H locs f σ ls r y6 hN hk hI hM hF hl o90 o91 hrr
      refine lv_iload hx hb d_Mo_operate_128 (lv_at hl 7 rfl) ?_
      refine lv_aload_n hx hb d_Mo_operate_130 rfl (lv_at hl 0 rfl) ?_
      refine mq_get (k := 70) (v := .int (nI (z2))) hx hb hts hown hI hM (by decide) (congrArg (fun z => some (Value.int z)) o91) rfl (hts _ tw_1239) d_Mo_operate_131 ?_
      refine lv_icmp_ge (tgt := 163) hx hb d_Mo_operate_134 (by decide) (fun c_1 => ?_) (fun c_1 => ?_)
      · have k_2 : (z2) ≤ k := (nI_leI (a := (z2)) (b := k) (by omega) (by omega)).mp c_1
        exact sm_vret hx hb hr hlk hI ⟨σ, rfl, hM, hF, ⟨(Eq.trans o90 (congrArg nI (show ((z1 + 1) : Nat) = z1 + 1 by omega))), trivial⟩⟩ d_Mo_operate_163
      · have k_3 : k < (z2) := Nat.lt_of_not_le (fun q => c_1 ((nI_leI (a := (z2)) (b := k) (by omega) (by omega)).mpr q))
        refine lv_aload_n hx hb d_Mo_operate_137 rfl (lv_at hl 0 rfl) ?_
        refine mq_get (k := 63) (v := .ref (ad 63)) hx hb hts hown hI hM (by decide) rfl rfl (hts _ tw_1232) d_Mo_operate_138 ?_
        refine lv_bipush (v := 24) hx hb d_Mo_operate_141 (by decide) ?_
        refine lv_iload hx hb d_Mo_operate_143 (lv_at hl 5 rfl) ?_
        refine lv_imul hx hb d_Mo_operate_145 ?_
        refine lv_topi (fun x_4 e_5 => ?_)
        obtain rfl : x_4 = nI (24 * r) := by rw [e_5]; exact pk_mul _ _
        refine lv_iload hx hb d_Mo_operate_146 (lv_at hl 7 rfl) ?_
        refine lv_iadd hx hb d_Mo_operate_148 ?_
        refine lv_topi (fun x_6 e_7 => ?_)
        obtain rfl : x_6 = nI ((24 * r) + k) := by rw [e_7]; exact nI_add _ _
        refine lv_aload_n hx hb d_Mo_operate_149 rfl (lv_at hl 0 rfl) ?_
        refine mq_get (k := 69) (v := .ref (ad 69)) hx hb hts hown hI hM (by decide) rfl rfl (hts _ tw_1238) d_Mo_operate_150 ?_
        refine lv_iload hx hb d_Mo_operate_153 (lv_at hl 7 rfl) ?_
        obtain ⟨x_8, e_9⟩ : ∃ z, σ.2.2.1 69 (k) = z := ⟨_, rfl⟩
        refine mq_iald (k := 69) (j := k) (v := x_8) hx hb hI hM (by decide) rfl (by show k < 260; omega) (by decide) e_9 d_Mo_operate_155 ?_
        refine mq_iast (k := 63) (j := ((24 * r) + k)) (x := x_8) hx hb hI hM (by decide) rfl (by show ((24 * r) + k) < 14400; omega) (by decide) trivial d_Mo_operate_156 (fun H locs f σ_10 e_11 hI hM => ?_)
        have hF := mq_fr_ug hF e_11 rfl (Or.inl rfl)
        have o_12 : σ_10.1 56 = nI (z1 + 1) := by rw [e_11]; exact o90
        have o_13 : σ_10.1 70 = nI (z2) := by rw [e_11]; exact o91
        refine lv_iinc (v := nI (k + 1)) (lv' := [(7, .int (nI (k + 1))), (0, .ref (ad 71)), (1, .int (nI j1)), (2, .int (x2)), (3, .int (nI j3)), (4, .int (x4)), (5, .int (nI r)), (6, .int (y6))]) hx hb d_Mo_operate_157 hl (k := 7) rfl (nI_1 _) (by decide) rfl (fun ls hl => ?_)
        refine lv_goto (tgt := 128) hx hb d_Mo_operate_160 (by decide) ?_
        exact ih ((k + 1)) _ _ _ _ _ (r) y6 (by omega) (by omega) hI hM hF (lv_sub hl [1, 2, 3, 4, 5, 6, 7, 0] rfl) (Eq.trans o_12 (congrArg nI (show ((z1 + 1) : Nat) = _ by omega))) (Eq.trans o_13 (congrArg nI (show ((z2) : Nat) = _ by omega))) (by omega)
  refine lv_aload_n hx hb d_Mo_operate_0 rfl (lv_at hl 0 rfl) ?_
  refine mq_get (k := 56) (v := .int (nI z1)) hx hb hts hown hI hM (by decide) (congrArg (fun z => some (Value.int z)) o0) rfl (hts _ tw_1225) d_Mo_operate_1 ?_
  refine lv_istore (lv' := [(5, .int (nI z1)), (0, .ref (ad 71)), (1, .int (nI j1)), (2, .int (x2)), (3, .int (nI j3)), (4, .int (x4))]) hx hb d_Mo_operate_4 hl (by decide) rfl (fun ls hl => ?_)
  refine lv_aload_n hx hb d_Mo_operate_6 rfl (lv_at hl 1 rfl) ?_
  refine lv_dup hx hb d_Mo_operate_7 rfl ?_
  refine mq_get (k := 56) (v := .int (nI z1)) hx hb hts hown hI hM (by decide) (congrArg (fun z => some (Value.int z)) o0) rfl (hts _ tw_1225) d_Mo_operate_8 ?_
  refine lv_iconst (v := 1) hx hb d_Mo_operate_11 (by decide) ?_
  refine lv_iadd hx hb d_Mo_operate_12 ?_
  refine lv_topi (fun x_14 e_15 => ?_)
  obtain rfl : x_14 = nI (z1 + 1) := by rw [e_15]; exact nI_add _ _
  refine mq_puti (k := 56) (ty := .int) hx hb hts hown hI hM (by decide) rfl rfl (hts _ tw_1225) rfl (by decide +kernel) rfl rfl ⟨(z1 + 1), by omega, by omega, rfl⟩ d_Mo_operate_13 (fun H locs f σ_16 e_17 hI hM => ?_)
  have hF := mq_fr_ui hF e_17 rfl
  have o_18 : σ_16.1 70 = nI z2 := by rw [e_17]; exact o1
  have o_19 := mq_uik e_17
  refine lv_aload_n hx hb d_Mo_operate_16 rfl (lv_at hl 1 rfl) ?_
  refine mq_get (k := 69) (v := .ref (ad 69)) hx hb hts hown hI hM (by decide) rfl rfl (hts _ tw_1238) d_Mo_operate_17 ?_
  refine lv_iconst (v := 0) hx hb d_Mo_operate_20 (by decide) ?_
  obtain ⟨x_20, e_21⟩ : ∃ z, σ_16.2.2.1 69 (0) = z := ⟨_, rfl⟩
  refine mq_iald (k := 69) (j := 0) (v := x_20) hx hb hI hM (by decide) rfl (by show 0 < 260; omega) (by decide) e_21 d_Mo_operate_21 ?_
  refine lv_istore (lv' := [(6, .int (x_20)), (5, .int (nI z1)), (0, .ref (ad 71)), (1, .int (nI j1)), (2, .int (x2)), (3, .int (nI j3)), (4, .int (x4))]) hx hb d_Mo_operate_22 hl (by decide) rfl (fun ls hl => ?_)
  refine lv_aload_n hx hb d_Mo_operate_24 rfl (lv_at hl 2 rfl) ?_
  refine mq_get (k := 57) (v := .ref (ad 57)) hx hb hts hown hI hM (by decide) rfl rfl (hts _ tw_1226) d_Mo_operate_25 ?_
  refine lv_iload hx hb d_Mo_operate_28 (lv_at hl 1 rfl) ?_
  refine lv_iload_n hx hb d_Mo_operate_30 rfl (lv_at hl 4 rfl) ?_
  refine mq_iast (k := 57) (j := z1) (x := x2) hx hb hI hM (by decide) rfl (by show z1 < 600; omega) (by decide) trivial d_Mo_operate_31 (fun H locs f σ_22 e_23 hI hM => ?_)
  have hF := mq_fr_ug hF e_23 rfl (Or.inl rfl)
  have o_24 : σ_22.1 70 = nI z2 := by rw [e_23]; exact o_18
  have o_25 : σ_22.1 56 = nI (z1 + 1) := by rw [e_23]; exact o_19
  refine lv_aload_n hx hb d_Mo_operate_32 rfl (lv_at hl 2 rfl) ?_
  refine mq_get (k := 58) (v := .ref (ad 58)) hx hb hts hown hI hM (by decide) rfl rfl (hts _ tw_1227) d_Mo_operate_33 ?_
  refine lv_iload hx hb d_Mo_operate_36 (lv_at hl 1 rfl) ?_
  refine lv_iload hx hb d_Mo_operate_38 (lv_at hl 0 rfl) ?_
  refine lv_bipush (v := 45) hx hb d_Mo_operate_40 (by decide) ?_
  refine lv_icmp_ne (tgt := 52) hx hb d_Mo_operate_42 (by decide) (fun c_26 => ?_) (fun c_26 => ?_)
  · refine lv_iload hx hb d_Mo_operate_52 (lv_at hl 0 rfl) ?_
    refine lv_bipush (v := 46) hx hb d_Mo_operate_54 (by decide) ?_
    refine lv_icmp_ne (tgt := 66) hx hb d_Mo_operate_56 (by decide) (fun c_27 => ?_) (fun c_27 => ?_)
    · refine lv_aload_n hx hb d_Mo_operate_66 rfl (lv_at hl 2 rfl) ?_
      refine lv_iload_n hx hb d_Mo_operate_67 rfl (lv_at hl 5 rfl) ?_
      refine lv_iconst (v := 4) hx hb d_Mo_operate_68 (by decide) ?_
      refine sm_iP hI (va_runV (As := [.int (nI j3), .int (4)]) (rest := [.int (nI z1), .ref (ad 58)]) ⟨hx, hb, hml, hown, hts⟩ (c_Mo_numberAt l D ca ad L _ _ _ hM (j3) (by omega) (4) (by omega)) (kv_Mo_numberAt hts rfl rfl (hts _ tw_1622) ⟨Nat.le_of_ble_eq_true rfl, Nat.le_of_ble_eq_true rfl⟩) (pv_Mo hI hE hM) rfl rfl hl.1 rfl (lv_room (Nat.le_of_ble_eq_true rfl)) d_Mo_operate_69 ⟨Nat.le_of_ble_eq_true rfl, Nat.le_of_ble_eq_true rfl⟩) (fun x_29 H locs p_28 hI => ?_)
      refine mq_iast (k := 58) (j := z1) (x := x_29) hx hb hI hM (by decide) rfl (by show z1 < 600; omega) (by decide) trivial d_Mo_operate_72 (fun H locs f σ_30 e_31 hI hM => ?_)
      have hF := mq_fr_ug hF e_31 rfl (Or.inl rfl)
      have o_32 : σ_30.1 70 = nI z2 := by rw [e_31]; exact o_24
      have o_33 : σ_30.1 56 = nI (z1 + 1) := by rw [e_31]; exact o_25
      refine lv_aload_n hx hb d_Mo_operate_73 rfl (lv_at hl 2 rfl) ?_
      refine mq_get (k := 59) (v := .ref (ad 59)) hx hb hts hown hI hM (by decide) rfl rfl (hts _ tw_1228) d_Mo_operate_74 ?_
      refine lv_iload hx hb d_Mo_operate_77 (lv_at hl 1 rfl) ?_
      refine lv_iload hx hb d_Mo_operate_79 (lv_at hl 6 rfl) ?_
      refine lv_bipush (v := 127) hx hb d_Mo_operate_81 (by decide) ?_
      refine lv_iand hx hb d_Mo_operate_83 ?_
      refine lv_topi (fun x_34 e_35 => ?_)
      refine mq_iast (k := 59) (j := z1) (x := x_34) hx hb hI hM (by decide) rfl (by show z1 < 600; omega) (by decide) trivial d_Mo_operate_84 (fun H locs f σ_36 e_37 hI hM => ?_)
      have hF := mq_fr_ug hF e_37 rfl (Or.inl rfl)
      have o_38 : σ_36.1 70 = nI z2 := by rw [e_37]; exact o_32
      have o_39 : σ_36.1 56 = nI (z1 + 1) := by rw [e_37]; exact o_33
      refine lv_aload_n hx hb d_Mo_operate_85 rfl (lv_at hl 2 rfl) ?_
      refine mq_get (k := 60) (v := .ref (ad 60)) hx hb hts hown hI hM (by decide) rfl rfl (hts _ tw_1229) d_Mo_operate_86 ?_
      refine lv_iload hx hb d_Mo_operate_89 (lv_at hl 1 rfl) ?_
      refine lv_iload_n hx hb d_Mo_operate_91 rfl (lv_at hl 3 rfl) ?_
      refine mq_iast (k := 60) (j := z1) (x := nI j1) hx hb hI hM (by decide) rfl (by show z1 < 600; omega) (by decide) ⟨j1, by omega, by omega, rfl⟩ d_Mo_operate_92 (fun H locs f σ_40 e_41 hI hM => ?_)
      have hF := mq_fr_ug hF e_41 rfl (Or.inl rfl)
      have o_42 : σ_40.1 70 = nI z2 := by rw [e_41]; exact o_38
      have o_43 : σ_40.1 56 = nI (z1 + 1) := by rw [e_41]; exact o_39
      refine lv_aload_n hx hb d_Mo_operate_93 rfl (lv_at hl 2 rfl) ?_
      refine mq_get (k := 61) (v := .ref (ad 61)) hx hb hts hown hI hM (by decide) rfl rfl (hts _ tw_1230) d_Mo_operate_94 ?_
      refine lv_iload hx hb d_Mo_operate_97 (lv_at hl 1 rfl) ?_
      refine lv_aload_n hx hb d_Mo_operate_99 rfl (lv_at hl 2 rfl) ?_
      refine mq_get (k := 14) (v := .ref (ad 14)) hx hb hts hown hI hM (by decide) rfl rfl (hts _ tw_1183) d_Mo_operate_100 ?_
      refine lv_iload_n hx hb d_Mo_operate_103 rfl (lv_at hl 3 rfl) ?_
      obtain ⟨x_44, e_45⟩ : ∃ z, σ_40.2.2.1 14 (j1) = z := ⟨_, rfl⟩
      refine mq_iald (k := 14) (j := j1) (v := x_44) hx hb hI hM (by decide) rfl (by show j1 < 4; omega) (by decide) e_45 d_Mo_operate_104 ?_
      refine mq_iast (k := 61) (j := z1) (x := x_44) hx hb hI hM (by decide) rfl (by show z1 < 600; omega) (by decide) trivial d_Mo_operate_105 (fun H locs f σ_46 e_47 hI hM => ?_)
      have hF := mq_fr_ug hF e_47 rfl (Or.inl rfl)
      have o_48 : σ_46.1 70 = nI z2 := by rw [e_47]; exact o_42
      have o_49 : σ_46.1 56 = nI (z1 + 1) := by rw [e_47]; exact o_43
      refine lv_aload_n hx hb d_Mo_operate_106 rfl (lv_at hl 2 rfl) ?_
      refine mq_get (k := 62) (v := .ref (ad 62)) hx hb hts hown hI hM (by decide) rfl rfl (hts _ tw_1231) d_Mo_operate_107 ?_
      refine lv_iload hx hb d_Mo_operate_110 (lv_at hl 1 rfl) ?_
      refine lv_iconst (v := 1) hx hb d_Mo_operate_112 (by decide) ?_
      refine mq_zast (k := 62) (j := z1) hx hb hI hM (by decide) rfl (by show z1 < 600; omega) (by decide) rfl (by decide) d_Mo_operate_113 (fun H locs f σ_50 e_51 hI hM => ?_)
      have hF := mq_fr_ug hF e_51 rfl (Or.inl rfl)
      have o_52 : σ_50.1 70 = nI z2 := by rw [e_51]; exact o_48
      have o_53 : σ_50.1 56 = nI (z1 + 1) := by rw [e_51]; exact o_49
      refine lv_aload_n hx hb d_Mo_operate_114 rfl (lv_at hl 2 rfl) ?_
      refine mq_get (k := 64) (v := .ref (ad 64)) hx hb hts hown hI hM (by decide) rfl rfl (hts _ tw_1233) d_Mo_operate_115 ?_
      refine lv_iload hx hb d_Mo_operate_118 (lv_at hl 1 rfl) ?_
      refine lv_aload_n hx hb d_Mo_operate_120 rfl (lv_at hl 2 rfl) ?_
      refine mq_get (k := 70) (v := .int (nI z2)) hx hb hts hown hI hM (by decide) (congrArg (fun z => some (Value.int z)) o_52) rfl (hts _ tw_1239) d_Mo_operate_121 ?_
      refine mq_iast (k := 64) (j := z1) (x := nI z2) hx hb hI hM (by decide) rfl (by show z1 < 600; omega) (by decide) ⟨z2, by omega, by omega, rfl⟩ d_Mo_operate_124 (fun H locs f σ_54 e_55 hI hM => ?_)
      have hF := mq_fr_ug hF e_55 rfl (Or.inl rfl)
      have o_56 : σ_54.1 70 = nI z2 := by rw [e_55]; exact o_52
      have o_57 : σ_54.1 56 = nI (z1 + 1) := by rw [e_55]; exact o_53
      refine lv_iconst (v := 0) hx hb d_Mo_operate_125 (by decide) ?_
      refine lv_istore (lv' := [(7, .int (0)), (6, .int (x_20)), (5, .int (nI z1)), (0, .ref (ad 71)), (1, .int (nI j1)), (2, .int (x2)), (3, .int (nI j3)), (4, .int (x4))]) hx hb d_Mo_operate_126 hl (by decide) rfl (fun ls hl => ?_)
      exact hJ_128 _ (0) _ _ _ _ _ (z1) x_20 (Nat.le_refl _) (by omega) hI hM hF (lv_sub hl [3, 4, 5, 6, 7, 2, 1, 0] rfl) (Eq.trans o_57 (congrArg nI (show ((z1 + 1) : Nat) = _ by omega))) (Eq.trans o_56 (congrArg nI (show (z2 : Nat) = _ by omega))) (by omega)
    · refine lv_iload hx hb d_Mo_operate_59 (lv_at hl 6 rfl) ?_
      refine lv_iconst (v := 3) hx hb d_Mo_operate_61 (by decide) ?_
      refine lv_iand hx hb d_Mo_operate_62 ?_
      refine lv_topi (fun x_58 e_59 => ?_)
      refine lv_goto (tgt := 72) hx hb d_Mo_operate_63 (by decide) ?_
      refine mq_iast (k := 58) (j := z1) (x := x_58) hx hb hI hM (by decide) rfl (by show z1 < 600; omega) (by decide) trivial d_Mo_operate_72 (fun H locs f σ_60 e_61 hI hM => ?_)
      have hF := mq_fr_ug hF e_61 rfl (Or.inl rfl)
      have o_62 : σ_60.1 70 = nI z2 := by rw [e_61]; exact o_24
      have o_63 : σ_60.1 56 = nI (z1 + 1) := by rw [e_61]; exact o_25
      refine lv_aload_n hx hb d_Mo_operate_73 rfl (lv_at hl 2 rfl) ?_
      refine mq_get (k := 59) (v := .ref (ad 59)) hx hb hts hown hI hM (by decide) rfl rfl (hts _ tw_1228) d_Mo_operate_74 ?_
      refine lv_iload hx hb d_Mo_operate_77 (lv_at hl 1 rfl) ?_
      refine lv_iload hx hb d_Mo_operate_79 (lv_at hl 6 rfl) ?_
      refine lv_bipush (v := 127) hx hb d_Mo_operate_81 (by decide) ?_
      refine lv_iand hx hb d_Mo_operate_83 ?_
      refine lv_topi (fun x_64 e_65 => ?_)
      refine mq_iast (k := 59) (j := z1) (x := x_64) hx hb hI hM (by decide) rfl (by show z1 < 600; omega) (by decide) trivial d_Mo_operate_84 (fun H locs f σ_66 e_67 hI hM => ?_)
      have hF := mq_fr_ug hF e_67 rfl (Or.inl rfl)
      have o_68 : σ_66.1 70 = nI z2 := by rw [e_67]; exact o_62
      have o_69 : σ_66.1 56 = nI (z1 + 1) := by rw [e_67]; exact o_63
      refine lv_aload_n hx hb d_Mo_operate_85 rfl (lv_at hl 2 rfl) ?_
      refine mq_get (k := 60) (v := .ref (ad 60)) hx hb hts hown hI hM (by decide) rfl rfl (hts _ tw_1229) d_Mo_operate_86 ?_
      refine lv_iload hx hb d_Mo_operate_89 (lv_at hl 1 rfl) ?_
      refine lv_iload_n hx hb d_Mo_operate_91 rfl (lv_at hl 3 rfl) ?_
      refine mq_iast (k := 60) (j := z1) (x := nI j1) hx hb hI hM (by decide) rfl (by show z1 < 600; omega) (by decide) ⟨j1, by omega, by omega, rfl⟩ d_Mo_operate_92 (fun H locs f σ_70 e_71 hI hM => ?_)
      have hF := mq_fr_ug hF e_71 rfl (Or.inl rfl)
      have o_72 : σ_70.1 70 = nI z2 := by rw [e_71]; exact o_68
      have o_73 : σ_70.1 56 = nI (z1 + 1) := by rw [e_71]; exact o_69
      refine lv_aload_n hx hb d_Mo_operate_93 rfl (lv_at hl 2 rfl) ?_
      refine mq_get (k := 61) (v := .ref (ad 61)) hx hb hts hown hI hM (by decide) rfl rfl (hts _ tw_1230) d_Mo_operate_94 ?_
      refine lv_iload hx hb d_Mo_operate_97 (lv_at hl 1 rfl) ?_
      refine lv_aload_n hx hb d_Mo_operate_99 rfl (lv_at hl 2 rfl) ?_
      refine mq_get (k := 14) (v := .ref (ad 14)) hx hb hts hown hI hM (by decide) rfl rfl (hts _ tw_1183) d_Mo_operate_100 ?_
      refine lv_iload_n hx hb d_Mo_operate_103 rfl (lv_at hl 3 rfl) ?_
      obtain ⟨x_74, e_75⟩ : ∃ z, σ_70.2.2.1 14 (j1) = z := ⟨_, rfl⟩
      refine mq_iald (k := 14) (j := j1) (v := x_74) hx hb hI hM (by decide) rfl (by show j1 < 4; omega) (by decide) e_75 d_Mo_operate_104 ?_
      refine mq_iast (k := 61) (j := z1) (x := x_74) hx hb hI hM (by decide) rfl (by show z1 < 600; omega) (by decide) trivial d_Mo_operate_105 (fun H locs f σ_76 e_77 hI hM => ?_)
      have hF := mq_fr_ug hF e_77 rfl (Or.inl rfl)
      have o_78 : σ_76.1 70 = nI z2 := by rw [e_77]; exact o_72
      have o_79 : σ_76.1 56 = nI (z1 + 1) := by rw [e_77]; exact o_73
      refine lv_aload_n hx hb d_Mo_operate_106 rfl (lv_at hl 2 rfl) ?_
      refine mq_get (k := 62) (v := .ref (ad 62)) hx hb hts hown hI hM (by decide) rfl rfl (hts _ tw_1231) d_Mo_operate_107 ?_
      refine lv_iload hx hb d_Mo_operate_110 (lv_at hl 1 rfl) ?_
      refine lv_iconst (v := 1) hx hb d_Mo_operate_112 (by decide) ?_
      refine mq_zast (k := 62) (j := z1) hx hb hI hM (by decide) rfl (by show z1 < 600; omega) (by decide) rfl (by decide) d_Mo_operate_113 (fun H locs f σ_80 e_81 hI hM => ?_)
      have hF := mq_fr_ug hF e_81 rfl (Or.inl rfl)
      have o_82 : σ_80.1 70 = nI z2 := by rw [e_81]; exact o_78
      have o_83 : σ_80.1 56 = nI (z1 + 1) := by rw [e_81]; exact o_79
      refine lv_aload_n hx hb d_Mo_operate_114 rfl (lv_at hl 2 rfl) ?_
      refine mq_get (k := 64) (v := .ref (ad 64)) hx hb hts hown hI hM (by decide) rfl rfl (hts _ tw_1233) d_Mo_operate_115 ?_
      refine lv_iload hx hb d_Mo_operate_118 (lv_at hl 1 rfl) ?_
      refine lv_aload_n hx hb d_Mo_operate_120 rfl (lv_at hl 2 rfl) ?_
      refine mq_get (k := 70) (v := .int (nI z2)) hx hb hts hown hI hM (by decide) (congrArg (fun z => some (Value.int z)) o_82) rfl (hts _ tw_1239) d_Mo_operate_121 ?_
      refine mq_iast (k := 64) (j := z1) (x := nI z2) hx hb hI hM (by decide) rfl (by show z1 < 600; omega) (by decide) ⟨z2, by omega, by omega, rfl⟩ d_Mo_operate_124 (fun H locs f σ_84 e_85 hI hM => ?_)
      have hF := mq_fr_ug hF e_85 rfl (Or.inl rfl)
      have o_86 : σ_84.1 70 = nI z2 := by rw [e_85]; exact o_82
      have o_87 : σ_84.1 56 = nI (z1 + 1) := by rw [e_85]; exact o_83
      refine lv_iconst (v := 0) hx hb d_Mo_operate_125 (by decide) ?_
      refine lv_istore (lv' := [(7, .int (0)), (6, .int (x_20)), (5, .int (nI z1)), (0, .ref (ad 71)), (1, .int (nI j1)), (2, .int (x2)), (3, .int (nI j3)), (4, .int (x4))]) hx hb d_Mo_operate_126 hl (by decide) rfl (fun ls hl => ?_)
      exact hJ_128 _ (0) _ _ _ _ _ (z1) x_20 (Nat.le_refl _) (by omega) hI hM hF (lv_sub hl [3, 4, 5, 6, 7, 2, 1, 0] rfl) (Eq.trans o_87 (congrArg nI (show ((z1 + 1) : Nat) = _ by omega))) (Eq.trans o_86 (congrArg nI (show (z2 : Nat) = _ by omega))) (by omega)
  · refine lv_iload hx hb d_Mo_operate_45 (lv_at hl 6 rfl) ?_
    refine lv_iconst (v := 1) hx hb d_Mo_operate_47 (by decide) ?_
    refine lv_iand hx hb d_Mo_operate_48 ?_
    refine lv_topi (fun x_88 e_89 => ?_)
    refine lv_goto (tgt := 72) hx hb d_Mo_operate_49 (by decide) ?_
    refine mq_iast (k := 58) (j := z1) (x := x_88) hx hb hI hM (by decide) rfl (by show z1 < 600; omega) (by decide) trivial d_Mo_operate_72 (fun H locs f σ_90 e_91 hI hM => ?_)
    have hF := mq_fr_ug hF e_91 rfl (Or.inl rfl)
    have o_92 : σ_90.1 70 = nI z2 := by rw [e_91]; exact o_24
    have o_93 : σ_90.1 56 = nI (z1 + 1) := by rw [e_91]; exact o_25
    refine lv_aload_n hx hb d_Mo_operate_73 rfl (lv_at hl 2 rfl) ?_
    refine mq_get (k := 59) (v := .ref (ad 59)) hx hb hts hown hI hM (by decide) rfl rfl (hts _ tw_1228) d_Mo_operate_74 ?_
    refine lv_iload hx hb d_Mo_operate_77 (lv_at hl 1 rfl) ?_
    refine lv_iload hx hb d_Mo_operate_79 (lv_at hl 6 rfl) ?_
    refine lv_bipush (v := 127) hx hb d_Mo_operate_81 (by decide) ?_
    refine lv_iand hx hb d_Mo_operate_83 ?_
    refine lv_topi (fun x_94 e_95 => ?_)
    refine mq_iast (k := 59) (j := z1) (x := x_94) hx hb hI hM (by decide) rfl (by show z1 < 600; omega) (by decide) trivial d_Mo_operate_84 (fun H locs f σ_96 e_97 hI hM => ?_)
    have hF := mq_fr_ug hF e_97 rfl (Or.inl rfl)
    have o_98 : σ_96.1 70 = nI z2 := by rw [e_97]; exact o_92
    have o_99 : σ_96.1 56 = nI (z1 + 1) := by rw [e_97]; exact o_93
    refine lv_aload_n hx hb d_Mo_operate_85 rfl (lv_at hl 2 rfl) ?_
    refine mq_get (k := 60) (v := .ref (ad 60)) hx hb hts hown hI hM (by decide) rfl rfl (hts _ tw_1229) d_Mo_operate_86 ?_
    refine lv_iload hx hb d_Mo_operate_89 (lv_at hl 1 rfl) ?_
    refine lv_iload_n hx hb d_Mo_operate_91 rfl (lv_at hl 3 rfl) ?_
    refine mq_iast (k := 60) (j := z1) (x := nI j1) hx hb hI hM (by decide) rfl (by show z1 < 600; omega) (by decide) ⟨j1, by omega, by omega, rfl⟩ d_Mo_operate_92 (fun H locs f σ_100 e_101 hI hM => ?_)
    have hF := mq_fr_ug hF e_101 rfl (Or.inl rfl)
    have o_102 : σ_100.1 70 = nI z2 := by rw [e_101]; exact o_98
    have o_103 : σ_100.1 56 = nI (z1 + 1) := by rw [e_101]; exact o_99
    refine lv_aload_n hx hb d_Mo_operate_93 rfl (lv_at hl 2 rfl) ?_
    refine mq_get (k := 61) (v := .ref (ad 61)) hx hb hts hown hI hM (by decide) rfl rfl (hts _ tw_1230) d_Mo_operate_94 ?_
    refine lv_iload hx hb d_Mo_operate_97 (lv_at hl 1 rfl) ?_
    refine lv_aload_n hx hb d_Mo_operate_99 rfl (lv_at hl 2 rfl) ?_
    refine mq_get (k := 14) (v := .ref (ad 14)) hx hb hts hown hI hM (by decide) rfl rfl (hts _ tw_1183) d_Mo_operate_100 ?_
    refine lv_iload_n hx hb d_Mo_operate_103 rfl (lv_at hl 3 rfl) ?_
    obtain ⟨x_104, e_105⟩ : ∃ z, σ_100.2.2.1 14 (j1) = z := ⟨_, rfl⟩
    refine mq_iald (k := 14) (j := j1) (v := x_104) hx hb hI hM (by decide) rfl (by show j1 < 4; omega) (by decide) e_105 d_Mo_operate_104 ?_
    refine mq_iast (k := 61) (j := z1) (x := x_104) hx hb hI hM (by decide) rfl (by show z1 < 600; omega) (by decide) trivial d_Mo_operate_105 (fun H locs f σ_106 e_107 hI hM => ?_)
    have hF := mq_fr_ug hF e_107 rfl (Or.inl rfl)
    have o_108 : σ_106.1 70 = nI z2 := by rw [e_107]; exact o_102
    have o_109 : σ_106.1 56 = nI (z1 + 1) := by rw [e_107]; exact o_103
    refine lv_aload_n hx hb d_Mo_operate_106 rfl (lv_at hl 2 rfl) ?_
    refine mq_get (k := 62) (v := .ref (ad 62)) hx hb hts hown hI hM (by decide) rfl rfl (hts _ tw_1231) d_Mo_operate_107 ?_
    refine lv_iload hx hb d_Mo_operate_110 (lv_at hl 1 rfl) ?_
    refine lv_iconst (v := 1) hx hb d_Mo_operate_112 (by decide) ?_
    refine mq_zast (k := 62) (j := z1) hx hb hI hM (by decide) rfl (by show z1 < 600; omega) (by decide) rfl (by decide) d_Mo_operate_113 (fun H locs f σ_110 e_111 hI hM => ?_)
    have hF := mq_fr_ug hF e_111 rfl (Or.inl rfl)
    have o_112 : σ_110.1 70 = nI z2 := by rw [e_111]; exact o_108
    have o_113 : σ_110.1 56 = nI (z1 + 1) := by rw [e_111]; exact o_109
    refine lv_aload_n hx hb d_Mo_operate_114 rfl (lv_at hl 2 rfl) ?_
    refine mq_get (k := 64) (v := .ref (ad 64)) hx hb hts hown hI hM (by decide) rfl rfl (hts _ tw_1233) d_Mo_operate_115 ?_
    refine lv_iload hx hb d_Mo_operate_118 (lv_at hl 1 rfl) ?_
    refine lv_aload_n hx hb d_Mo_operate_120 rfl (lv_at hl 2 rfl) ?_
    refine mq_get (k := 70) (v := .int (nI z2)) hx hb hts hown hI hM (by decide) (congrArg (fun z => some (Value.int z)) o_112) rfl (hts _ tw_1239) d_Mo_operate_121 ?_
    refine mq_iast (k := 64) (j := z1) (x := nI z2) hx hb hI hM (by decide) rfl (by show z1 < 600; omega) (by decide) ⟨z2, by omega, by omega, rfl⟩ d_Mo_operate_124 (fun H locs f σ_114 e_115 hI hM => ?_)
    have hF := mq_fr_ug hF e_115 rfl (Or.inl rfl)
    have o_116 : σ_114.1 70 = nI z2 := by rw [e_115]; exact o_112
    have o_117 : σ_114.1 56 = nI (z1 + 1) := by rw [e_115]; exact o_113
    refine lv_iconst (v := 0) hx hb d_Mo_operate_125 (by decide) ?_
    refine lv_istore (lv' := [(7, .int (0)), (6, .int (x_20)), (5, .int (nI z1)), (0, .ref (ad 71)), (1, .int (nI j1)), (2, .int (x2)), (3, .int (nI j3)), (4, .int (x4))]) hx hb d_Mo_operate_126 hl (by decide) rfl (fun ls hl => ?_)
    exact hJ_128 _ (0) _ _ _ _ _ (z1) x_20 (Nat.le_refl _) (by omega) hI hM hF (lv_sub hl [3, 4, 5, 6, 7, 2, 1, 0] rfl) (Eq.trans o_117 (congrArg nI (show ((z1 + 1) : Nat) = _ by omega))) (Eq.trans o_116 (congrArg nI (show (z2 : Nat) = _ by omega))) (by omega)
theorem d_Mo_command_0 : decode b_Mo_command 0 = .ok (.aload_n 0, 1) := by decide +kernel
theorem d_Mo_command_1 : decode b_Mo_command 1 = .ok (.getfield 172, 3) := by decide +kernel
theorem d_Mo_command_4 : decode b_Mo_command 4 = .ok (.iconst 0, 1) := by decide +kernel
theorem d_Mo_command_5 : decode b_Mo_command 5 = .ok (.iaload, 1) := by decide +kernel
theorem d_Mo_command_6 : decode b_Mo_command 6 = .ok (.istore 5, 2) := by decide +kernel
theorem d_Mo_command_8 : decode b_Mo_command 8 = .ok (.iload 5, 2) := by decide +kernel
theorem d_Mo_command_10 : decode b_Mo_command 10 = .ok (.invokestatic 448, 3) := by decide +kernel
theorem d_Mo_command_13 : decode b_Mo_command 13 = .ok (.istore 6, 2) := by decide +kernel
theorem d_Mo_command_15 : decode b_Mo_command 15 = .ok (.aload_n 0, 1) := by decide +kernel
theorem d_Mo_command_16 : decode b_Mo_command 16 = .ok (.getfield 172, 3) := by decide +kernel
theorem d_Mo_command_19 : decode b_Mo_command 19 = .ok (.iload_n 3, 1) := by decide +kernel
theorem d_Mo_command_20 : decode b_Mo_command 20 = .ok (.iload 6, 2) := by decide +kernel
theorem d_Mo_command_22 : decode b_Mo_command 22 = .ok (.iadd, 1) := by decide +kernel
theorem d_Mo_command_23 : decode b_Mo_command 23 = .ok (.iconst 1, 1) := by decide +kernel
theorem d_Mo_command_24 : decode b_Mo_command 24 = .ok (.isub, 1) := by decide +kernel
theorem d_Mo_command_25 : decode b_Mo_command 25 = .ok (.iaload, 1) := by decide +kernel
theorem d_Mo_command_26 : decode b_Mo_command 26 = .ok (.istore 7, 2) := by decide +kernel
theorem d_Mo_command_28 : decode b_Mo_command 28 = .ok (.aload_n 0, 1) := by decide +kernel
theorem d_Mo_command_29 : decode b_Mo_command 29 = .ok (.invokevirtual 482, 3) := by decide +kernel
theorem d_Mo_command_32 : decode b_Mo_command 32 = .ok (.ifCond .eq 23, 3) := by decide +kernel
theorem d_Mo_command_35 : decode b_Mo_command 35 = .ok (.aload_n 0, 1) := by decide +kernel
theorem d_Mo_command_36 : decode b_Mo_command 36 = .ok (.getfield 166, 3) := by decide +kernel
theorem d_Mo_command_39 : decode b_Mo_command 39 = .ok (.iload_n 2, 1) := by decide +kernel
theorem d_Mo_command_40 : decode b_Mo_command 40 = .ok (.if_icmp .ne 15, 3) := by decide +kernel
theorem d_Mo_command_43 : decode b_Mo_command 43 = .ok (.aload_n 0, 1) := by decide +kernel
theorem d_Mo_command_44 : decode b_Mo_command 44 = .ok (.getfield 347, 3) := by decide +kernel
theorem d_Mo_command_47 : decode b_Mo_command 47 = .ok (.iload_n 1, 1) := by decide +kernel
theorem d_Mo_command_48 : decode b_Mo_command 48 = .ok (.if_icmp .ne 7, 3) := by decide +kernel
theorem d_Mo_command_51 : decode b_Mo_command 51 = .ok (.iconst 1, 1) := by decide +kernel
theorem d_Mo_command_52 : decode b_Mo_command 52 = .ok (.goto 4, 3) := by decide +kernel
theorem d_Mo_command_55 : decode b_Mo_command 55 = .ok (.iconst 0, 1) := by decide +kernel
theorem d_Mo_command_56 : decode b_Mo_command 56 = .ok (.istore 8, 2) := by decide +kernel
theorem d_Mo_command_58 : decode b_Mo_command 58 = .ok (.iload 4, 2) := by decide +kernel
theorem d_Mo_command_60 : decode b_Mo_command 60 = .ok (.bipush 8, 2) := by decide +kernel
theorem d_Mo_command_62 : decode b_Mo_command 62 = .ok (.if_icmp .ne 31, 3) := by decide +kernel
theorem d_Mo_command_65 : decode b_Mo_command 65 = .ok (.iload 8, 2) := by decide +kernel
theorem d_Mo_command_67 : decode b_Mo_command 67 = .ok (.ifCond .eq 8, 3) := by decide +kernel
theorem d_Mo_command_70 : decode b_Mo_command 70 = .ok (.aload_n 0, 1) := by decide +kernel
theorem d_Mo_command_71 : decode b_Mo_command 71 = .ok (.iconst (-1), 1) := by decide +kernel
theorem d_Mo_command_72 : decode b_Mo_command 72 = .ok (.putfield 166, 3) := by decide +kernel
theorem d_Mo_command_75 : decode b_Mo_command 75 = .ok (.aload_n 0, 1) := by decide +kernel
theorem d_Mo_command_76 : decode b_Mo_command 76 = .ok (.iload_n 1, 1) := by decide +kernel
theorem d_Mo_command_77 : decode b_Mo_command 77 = .ok (.bipush 9, 2) := by decide +kernel
theorem d_Mo_command_79 : decode b_Mo_command 79 = .ok (.iload 8, 2) := by decide +kernel
theorem d_Mo_command_81 : decode b_Mo_command 81 = .ok (.ifCond .ne 7, 3) := by decide +kernel
theorem d_Mo_command_84 : decode b_Mo_command 84 = .ok (.iconst 1, 1) := by decide +kernel
theorem d_Mo_command_85 : decode b_Mo_command 85 = .ok (.goto 4, 3) := by decide +kernel
theorem d_Mo_command_88 : decode b_Mo_command 88 = .ok (.iconst 0, 1) := by decide +kernel
theorem d_Mo_command_89 : decode b_Mo_command 89 = .ok (.invokevirtual 444, 3) := by decide +kernel
theorem d_Mo_command_92 : decode b_Mo_command 92 = .ok (.return_, 1) := by decide +kernel
theorem d_Mo_command_93 : decode b_Mo_command 93 = .ok (.iload 5, 2) := by decide +kernel
theorem d_Mo_command_95 : decode b_Mo_command 95 = .ok (.bipush 46, 2) := by decide +kernel
theorem d_Mo_command_97 : decode b_Mo_command 97 = .ok (.if_icmp .ne 18, 3) := by decide +kernel
theorem d_Mo_command_100 : decode b_Mo_command 100 = .ok (.iload 7, 2) := by decide +kernel
theorem d_Mo_command_102 : decode b_Mo_command 102 = .ok (.iconst 3, 1) := by decide +kernel
theorem d_Mo_command_103 : decode b_Mo_command 103 = .ok (.iand, 1) := by decide +kernel
theorem d_Mo_command_104 : decode b_Mo_command 104 = .ok (.i2l, 1) := by decide +kernel
theorem d_Mo_command_105 : decode b_Mo_command 105 = .ok (.lconst 1, 1) := by decide +kernel
theorem d_Mo_command_106 : decode b_Mo_command 106 = .ok (.ldc2_w 350, 3) := by decide +kernel
theorem d_Mo_command_109 : decode b_Mo_command 109 = .ok (.invokestatic 187, 3) := by decide +kernel
theorem d_Mo_command_112 : decode b_Mo_command 112 = .ok (.ifCond .eq 7, 3) := by decide +kernel
theorem d_Mo_command_115 : decode b_Mo_command 115 = .ok (.iconst 1, 1) := by decide +kernel
theorem d_Mo_command_116 : decode b_Mo_command 116 = .ok (.goto 4, 3) := by decide +kernel
theorem d_Mo_command_119 : decode b_Mo_command 119 = .ok (.iconst 0, 1) := by decide +kernel
theorem d_Mo_command_120 : decode b_Mo_command 120 = .ok (.istore 9, 2) := by decide +kernel
theorem d_Mo_command_122 : decode b_Mo_command 122 = .ok (.iload 7, 2) := by decide +kernel
theorem d_Mo_command_124 : decode b_Mo_command 124 = .ok (.bipush 127, 2) := by decide +kernel
theorem d_Mo_command_126 : decode b_Mo_command 126 = .ok (.if_icmp .le 122, 3) := by decide +kernel
theorem d_Mo_command_129 : decode b_Mo_command 129 = .ok (.iload 9, 2) := by decide +kernel
theorem d_Mo_command_131 : decode b_Mo_command 131 = .ok (.ifCond .eq 23, 3) := by decide +kernel
theorem d_Mo_command_134 : decode b_Mo_command 134 = .ok (.aload_n 0, 1) := by decide +kernel
theorem d_Mo_command_135 : decode b_Mo_command 135 = .ok (.getfield 19, 3) := by decide +kernel
theorem d_Mo_command_138 : decode b_Mo_command 138 = .ok (.iload_n 2, 1) := by decide +kernel
theorem d_Mo_command_139 : decode b_Mo_command 139 = .ok (.baload, 1) := by decide +kernel
theorem d_Mo_command_140 : decode b_Mo_command 140 = .ok (.ifCond .eq 14, 3) := by decide +kernel
theorem d_Mo_command_143 : decode b_Mo_command 143 = .ok (.aload_n 0, 1) := by decide +kernel
theorem d_Mo_command_144 : decode b_Mo_command 144 = .ok (.invokevirtual 482, 3) := by decide +kernel
theorem d_Mo_command_147 : decode b_Mo_command 147 = .ok (.ifCond .ne 7, 3) := by decide +kernel
theorem d_Mo_command_150 : decode b_Mo_command 150 = .ok (.iconst 1, 1) := by decide +kernel
theorem d_Mo_command_151 : decode b_Mo_command 151 = .ok (.goto 4, 3) := by decide +kernel
theorem d_Mo_command_154 : decode b_Mo_command 154 = .ok (.iconst 0, 1) := by decide +kernel
theorem d_Mo_command_155 : decode b_Mo_command 155 = .ok (.istore 9, 2) := by decide +kernel
theorem d_Mo_command_157 : decode b_Mo_command 157 = .ok (.iload 9, 2) := by decide +kernel
theorem d_Mo_command_159 : decode b_Mo_command 159 = .ok (.ifCond .eq 71, 3) := by decide +kernel
theorem d_Mo_command_162 : decode b_Mo_command 162 = .ok (.aload_n 0, 1) := by decide +kernel
theorem d_Mo_command_163 : decode b_Mo_command 163 = .ok (.iload_n 2, 1) := by decide +kernel
theorem d_Mo_command_164 : decode b_Mo_command 164 = .ok (.putfield 166, 3) := by decide +kernel
theorem d_Mo_command_167 : decode b_Mo_command 167 = .ok (.aload_n 0, 1) := by decide +kernel
theorem d_Mo_command_168 : decode b_Mo_command 168 = .ok (.iload_n 1, 1) := by decide +kernel
theorem d_Mo_command_169 : decode b_Mo_command 169 = .ok (.putfield 347, 3) := by decide +kernel
theorem d_Mo_command_172 : decode b_Mo_command 172 = .ok (.aload_n 0, 1) := by decide +kernel
theorem d_Mo_command_173 : decode b_Mo_command 173 = .ok (.aload_n 0, 1) := by decide +kernel
theorem d_Mo_command_174 : decode b_Mo_command 174 = .ok (.getfield 282, 3) := by decide +kernel
theorem d_Mo_command_177 : decode b_Mo_command 177 = .ok (.putfield 479, 3) := by decide +kernel
theorem d_Mo_command_180 : decode b_Mo_command 180 = .ok (.iconst 0, 1) := by decide +kernel
theorem d_Mo_command_181 : decode b_Mo_command 181 = .ok (.istore 10, 2) := by decide +kernel
theorem d_Mo_command_183 : decode b_Mo_command 183 = .ok (.iload 10, 2) := by decide +kernel
theorem d_Mo_command_185 : decode b_Mo_command 185 = .ok (.iload 6, 2) := by decide +kernel
theorem d_Mo_command_187 : decode b_Mo_command 187 = .ok (.if_icmp .ge 43, 3) := by decide +kernel
theorem d_Mo_command_190 : decode b_Mo_command 190 = .ok (.aload_n 0, 1) := by decide +kernel
theorem d_Mo_command_191 : decode b_Mo_command 191 = .ok (.getfield 169, 3) := by decide +kernel
theorem d_Mo_command_194 : decode b_Mo_command 194 = .ok (.iload 10, 2) := by decide +kernel
theorem d_Mo_command_196 : decode b_Mo_command 196 = .ok (.aload_n 0, 1) := by decide +kernel
theorem d_Mo_command_197 : decode b_Mo_command 197 = .ok (.getfield 172, 3) := by decide +kernel
theorem d_Mo_command_200 : decode b_Mo_command 200 = .ok (.iload_n 3, 1) := by decide +kernel
theorem d_Mo_command_201 : decode b_Mo_command 201 = .ok (.iload 10, 2) := by decide +kernel
theorem d_Mo_command_203 : decode b_Mo_command 203 = .ok (.iadd, 1) := by decide +kernel
theorem d_Mo_command_204 : decode b_Mo_command 204 = .ok (.iaload, 1) := by decide +kernel
theorem d_Mo_command_205 : decode b_Mo_command 205 = .ok (.iload 10, 2) := by decide +kernel
theorem d_Mo_command_207 : decode b_Mo_command 207 = .ok (.iload 6, 2) := by decide +kernel
theorem d_Mo_command_209 : decode b_Mo_command 209 = .ok (.iconst 1, 1) := by decide +kernel
theorem d_Mo_command_210 : decode b_Mo_command 210 = .ok (.isub, 1) := by decide +kernel
theorem d_Mo_command_211 : decode b_Mo_command 211 = .ok (.if_icmp .ne 8, 3) := by decide +kernel
theorem d_Mo_command_214 : decode b_Mo_command 214 = .ok (.bipush 127, 2) := by decide +kernel
theorem d_Mo_command_216 : decode b_Mo_command 216 = .ok (.goto 6, 3) := by decide +kernel
theorem d_Mo_command_219 : decode b_Mo_command 219 = .ok (.sipush 255, 3) := by decide +kernel
theorem d_Mo_command_222 : decode b_Mo_command 222 = .ok (.iand, 1) := by decide +kernel
theorem d_Mo_command_223 : decode b_Mo_command 223 = .ok (.iastore, 1) := by decide +kernel
theorem d_Mo_command_224 : decode b_Mo_command 224 = .ok (.iinc 10 1, 3) := by decide +kernel
theorem d_Mo_command_227 : decode b_Mo_command 227 = .ok (.goto (-44), 3) := by decide +kernel
theorem d_Mo_command_230 : decode b_Mo_command 230 = .ok (.aload_n 0, 1) := by decide +kernel
theorem d_Mo_command_231 : decode b_Mo_command 231 = .ok (.iload_n 1, 1) := by decide +kernel
theorem d_Mo_command_232 : decode b_Mo_command 232 = .ok (.bipush 7, 2) := by decide +kernel
theorem d_Mo_command_234 : decode b_Mo_command 234 = .ok (.iload 9, 2) := by decide +kernel
theorem d_Mo_command_236 : decode b_Mo_command 236 = .ok (.ifCond .ne 7, 3) := by decide +kernel
theorem d_Mo_command_239 : decode b_Mo_command 239 = .ok (.iconst 1, 1) := by decide +kernel
theorem d_Mo_command_240 : decode b_Mo_command 240 = .ok (.goto 4, 3) := by decide +kernel
theorem d_Mo_command_243 : decode b_Mo_command 243 = .ok (.iconst 0, 1) := by decide +kernel
theorem d_Mo_command_244 : decode b_Mo_command 244 = .ok (.invokevirtual 444, 3) := by decide +kernel
theorem d_Mo_command_247 : decode b_Mo_command 247 = .ok (.return_, 1) := by decide +kernel
theorem d_Mo_command_248 : decode b_Mo_command 248 = .ok (.aload_n 0, 1) := by decide +kernel
theorem d_Mo_command_249 : decode b_Mo_command 249 = .ok (.getfield 19, 3) := by decide +kernel
theorem d_Mo_command_252 : decode b_Mo_command 252 = .ok (.iload_n 2, 1) := by decide +kernel
theorem d_Mo_command_253 : decode b_Mo_command 253 = .ok (.baload, 1) := by decide +kernel
theorem d_Mo_command_254 : decode b_Mo_command 254 = .ok (.ifCond .eq 77, 3) := by decide +kernel
theorem d_Mo_command_257 : decode b_Mo_command 257 = .ok (.iload 9, 2) := by decide +kernel
theorem d_Mo_command_259 : decode b_Mo_command 259 = .ok (.ifCond .eq 12, 3) := by decide +kernel
theorem d_Mo_command_262 : decode b_Mo_command 262 = .ok (.iload 8, 2) := by decide +kernel
theorem d_Mo_command_264 : decode b_Mo_command 264 = .ok (.ifCond .eq 7, 3) := by decide +kernel
theorem d_Mo_command_267 : decode b_Mo_command 267 = .ok (.iconst 1, 1) := by decide +kernel
theorem d_Mo_command_268 : decode b_Mo_command 268 = .ok (.goto 4, 3) := by decide +kernel
theorem d_Mo_command_271 : decode b_Mo_command 271 = .ok (.iconst 0, 1) := by decide +kernel
theorem d_Mo_command_272 : decode b_Mo_command 272 = .ok (.istore 9, 2) := by decide +kernel
theorem d_Mo_command_274 : decode b_Mo_command 274 = .ok (.iconst 0, 1) := by decide +kernel
theorem d_Mo_command_275 : decode b_Mo_command 275 = .ok (.istore 10, 2) := by decide +kernel
theorem d_Mo_command_277 : decode b_Mo_command 277 = .ok (.iload 10, 2) := by decide +kernel
theorem d_Mo_command_279 : decode b_Mo_command 279 = .ok (.iload 6, 2) := by decide +kernel
theorem d_Mo_command_281 : decode b_Mo_command 281 = .ok (.if_icmp .ge 40, 3) := by decide +kernel
theorem d_Mo_command_284 : decode b_Mo_command 284 = .ok (.iload 9, 2) := by decide +kernel
theorem d_Mo_command_286 : decode b_Mo_command 286 = .ok (.ifCond .eq 26, 3) := by decide +kernel
theorem d_Mo_command_289 : decode b_Mo_command 289 = .ok (.aload_n 0, 1) := by decide +kernel
theorem d_Mo_command_290 : decode b_Mo_command 290 = .ok (.getfield 172, 3) := by decide +kernel
theorem d_Mo_command_293 : decode b_Mo_command 293 = .ok (.iload_n 3, 1) := by decide +kernel
theorem d_Mo_command_294 : decode b_Mo_command 294 = .ok (.iload 10, 2) := by decide +kernel
theorem d_Mo_command_296 : decode b_Mo_command 296 = .ok (.iadd, 1) := by decide +kernel
theorem d_Mo_command_297 : decode b_Mo_command 297 = .ok (.iaload, 1) := by decide +kernel
theorem d_Mo_command_298 : decode b_Mo_command 298 = .ok (.aload_n 0, 1) := by decide +kernel
theorem d_Mo_command_299 : decode b_Mo_command 299 = .ok (.getfield 169, 3) := by decide +kernel
theorem d_Mo_command_302 : decode b_Mo_command 302 = .ok (.iload 10, 2) := by decide +kernel
theorem d_Mo_command_304 : decode b_Mo_command 304 = .ok (.iaload, 1) := by decide +kernel
theorem d_Mo_command_305 : decode b_Mo_command 305 = .ok (.if_icmp .ne 7, 3) := by decide +kernel
theorem d_Mo_command_308 : decode b_Mo_command 308 = .ok (.iconst 1, 1) := by decide +kernel
theorem d_Mo_command_309 : decode b_Mo_command 309 = .ok (.goto 4, 3) := by decide +kernel
theorem d_Mo_command_312 : decode b_Mo_command 312 = .ok (.iconst 0, 1) := by decide +kernel
theorem d_Mo_command_313 : decode b_Mo_command 313 = .ok (.istore 9, 2) := by decide +kernel
theorem d_Mo_command_315 : decode b_Mo_command 315 = .ok (.iinc 10 1, 3) := by decide +kernel
theorem d_Mo_command_318 : decode b_Mo_command 318 = .ok (.goto (-41), 3) := by decide +kernel
theorem d_Mo_command_321 : decode b_Mo_command 321 = .ok (.iload 8, 2) := by decide +kernel
theorem d_Mo_command_323 : decode b_Mo_command 323 = .ok (.ifCond .eq 8, 3) := by decide +kernel
theorem d_Mo_command_326 : decode b_Mo_command 326 = .ok (.aload_n 0, 1) := by decide +kernel
theorem d_Mo_command_327 : decode b_Mo_command 327 = .ok (.iconst (-1), 1) := by decide +kernel
theorem d_Mo_command_328 : decode b_Mo_command 328 = .ok (.putfield 166, 3) := by decide +kernel
theorem d_Mo_command_331 : decode b_Mo_command 331 = .ok (.iconst 0, 1) := by decide +kernel
theorem d_Mo_command_332 : decode b_Mo_command 332 = .ok (.istore 10, 2) := by decide +kernel
theorem d_Mo_command_334 : decode b_Mo_command 334 = .ok (.iconst 0, 1) := by decide +kernel
theorem d_Mo_command_335 : decode b_Mo_command 335 = .ok (.istore 11, 2) := by decide +kernel
theorem d_Mo_command_337 : decode b_Mo_command 337 = .ok (.iload 11, 2) := by decide +kernel
theorem d_Mo_command_339 : decode b_Mo_command 339 = .ok (.aload_n 0, 1) := by decide +kernel
theorem d_Mo_command_340 : decode b_Mo_command 340 = .ok (.getfield 485, 3) := by decide +kernel
theorem d_Mo_command_343 : decode b_Mo_command 343 = .ok (.if_icmp .ge 63, 3) := by decide +kernel
theorem d_Mo_command_346 : decode b_Mo_command 346 = .ok (.iload 9, 2) := by decide +kernel
theorem d_Mo_command_348 : decode b_Mo_command 348 = .ok (.ifCond .eq 28, 3) := by decide +kernel
theorem d_Mo_command_351 : decode b_Mo_command 351 = .ok (.aload_n 0, 1) := by decide +kernel
theorem d_Mo_command_352 : decode b_Mo_command 352 = .ok (.getfield 157, 3) := by decide +kernel
theorem d_Mo_command_355 : decode b_Mo_command 355 = .ok (.iload 11, 2) := by decide +kernel
theorem d_Mo_command_357 : decode b_Mo_command 357 = .ok (.baload, 1) := by decide +kernel
theorem d_Mo_command_358 : decode b_Mo_command 358 = .ok (.ifCond .eq 14, 3) := by decide +kernel
theorem d_Mo_command_361 : decode b_Mo_command 361 = .ok (.aload_n 0, 1) := by decide +kernel
theorem d_Mo_command_362 : decode b_Mo_command 362 = .ok (.getfield 142, 3) := by decide +kernel
theorem d_Mo_command_365 : decode b_Mo_command 365 = .ok (.iload 11, 2) := by decide +kernel
theorem d_Mo_command_367 : decode b_Mo_command 367 = .ok (.iaload, 1) := by decide +kernel
theorem d_Mo_command_368 : decode b_Mo_command 368 = .ok (.iload_n 2, 1) := by decide +kernel
theorem d_Mo_command_369 : decode b_Mo_command 369 = .ok (.if_icmp .eq 7, 3) := by decide +kernel
theorem d_Mo_command_372 : decode b_Mo_command 372 = .ok (.iconst 1, 1) := by decide +kernel
theorem d_Mo_command_373 : decode b_Mo_command 373 = .ok (.goto 4, 3) := by decide +kernel
theorem d_Mo_command_376 : decode b_Mo_command 376 = .ok (.iconst 0, 1) := by decide +kernel
theorem d_Mo_command_377 : decode b_Mo_command 377 = .ok (.istore 9, 2) := by decide +kernel
theorem d_Mo_command_379 : decode b_Mo_command 379 = .ok (.aload_n 0, 1) := by decide +kernel
theorem d_Mo_command_380 : decode b_Mo_command 380 = .ok (.getfield 157, 3) := by decide +kernel
theorem d_Mo_command_383 : decode b_Mo_command 383 = .ok (.iload 11, 2) := by decide +kernel
theorem d_Mo_command_385 : decode b_Mo_command 385 = .ok (.baload, 1) := by decide +kernel
theorem d_Mo_command_386 : decode b_Mo_command 386 = .ok (.ifCond .eq 10, 3) := by decide +kernel
theorem d_Mo_command_389 : decode b_Mo_command 389 = .ok (.iload 10, 2) := by decide +kernel
theorem d_Mo_command_391 : decode b_Mo_command 391 = .ok (.iconst 1, 1) := by decide +kernel
theorem d_Mo_command_392 : decode b_Mo_command 392 = .ok (.iadd, 1) := by decide +kernel
theorem d_Mo_command_393 : decode b_Mo_command 393 = .ok (.goto 5, 3) := by decide +kernel
theorem d_Mo_command_396 : decode b_Mo_command 396 = .ok (.iload 10, 2) := by decide +kernel
theorem d_Mo_command_398 : decode b_Mo_command 398 = .ok (.istore 10, 2) := by decide +kernel
theorem d_Mo_command_400 : decode b_Mo_command 400 = .ok (.iinc 11 1, 3) := by decide +kernel
theorem d_Mo_command_403 : decode b_Mo_command 403 = .ok (.goto (-66), 3) := by decide +kernel
theorem d_Mo_command_406 : decode b_Mo_command 406 = .ok (.iload 9, 2) := by decide +kernel
theorem d_Mo_command_408 : decode b_Mo_command 408 = .ok (.ifCond .eq 14, 3) := by decide +kernel
theorem d_Mo_command_411 : decode b_Mo_command 411 = .ok (.iload 10, 2) := by decide +kernel
theorem d_Mo_command_413 : decode b_Mo_command 413 = .ok (.bipush 8, 2) := by decide +kernel
theorem d_Mo_command_415 : decode b_Mo_command 415 = .ok (.if_icmp .ge 7, 3) := by decide +kernel
theorem d_Mo_command_418 : decode b_Mo_command 418 = .ok (.iconst 1, 1) := by decide +kernel
theorem d_Mo_command_419 : decode b_Mo_command 419 = .ok (.goto 4, 3) := by decide +kernel
theorem d_Mo_command_422 : decode b_Mo_command 422 = .ok (.iconst 0, 1) := by decide +kernel
theorem d_Mo_command_423 : decode b_Mo_command 423 = .ok (.istore 9, 2) := by decide +kernel
theorem d_Mo_command_425 : decode b_Mo_command 425 = .ok (.iload 9, 2) := by decide +kernel
theorem d_Mo_command_427 : decode b_Mo_command 427 = .ok (.ifCond .eq 12, 3) := by decide +kernel
theorem d_Mo_command_430 : decode b_Mo_command 430 = .ok (.aload_n 0, 1) := by decide +kernel
theorem d_Mo_command_431 : decode b_Mo_command 431 = .ok (.iload_n 1, 1) := by decide +kernel
theorem d_Mo_command_432 : decode b_Mo_command 432 = .ok (.iload_n 2, 1) := by decide +kernel
theorem d_Mo_command_433 : decode b_Mo_command 433 = .ok (.iload_n 3, 1) := by decide +kernel
theorem d_Mo_command_434 : decode b_Mo_command 434 = .ok (.iload 7, 2) := by decide +kernel
theorem d_Mo_command_436 : decode b_Mo_command 436 = .ok (.invokevirtual 488, 3) := by decide +kernel
theorem d_Mo_command_439 : decode b_Mo_command 439 = .ok (.aload_n 0, 1) := by decide +kernel
theorem d_Mo_command_440 : decode b_Mo_command 440 = .ok (.iload_n 1, 1) := by decide +kernel
theorem d_Mo_command_441 : decode b_Mo_command 441 = .ok (.bipush 7, 2) := by decide +kernel
theorem d_Mo_command_443 : decode b_Mo_command 443 = .ok (.iload 9, 2) := by decide +kernel
theorem d_Mo_command_445 : decode b_Mo_command 445 = .ok (.ifCond .ne 7, 3) := by decide +kernel
theorem d_Mo_command_448 : decode b_Mo_command 448 = .ok (.iconst 1, 1) := by decide +kernel
theorem d_Mo_command_449 : decode b_Mo_command 449 = .ok (.goto 4, 3) := by decide +kernel
theorem d_Mo_command_452 : decode b_Mo_command 452 = .ok (.iconst 0, 1) := by decide +kernel
theorem d_Mo_command_453 : decode b_Mo_command 453 = .ok (.invokevirtual 444, 3) := by decide +kernel
theorem d_Mo_command_456 : decode b_Mo_command 456 = .ok (.return_, 1) := by decide +kernel
set_option maxRecDepth 100000 in
set_option maxHeartbeats 4000000 in
theorem c_Mo_command (l : Launch) (D : va_G) (ca : Nat → ClassId) (ad : Nat → Nat) (L : List Nat) (f0 : Nat → va_E) (sz : Nat) (σ0 : mq_S) (hM : mq_B ca ad σ0 L f0) (j1 : Nat) (q1 : j1 ≤ 3) (j2 : Nat) (q2 : j2 ≤ 31) (j3 : Nat) (q3 : j3 ≤ 240) (w3 : 1 ≤ j3) (x4 : Int32) (z1 : Nat) (o0 : σ0.1 56 = nI z1) (z2 : Nat) (o1 : σ0.1 70 = nI z2) (hz : z1 ≤ 599) (hy : z2 ≤ 24) (u0 : IH σ0) :
    Met l y_Mo_command (Cond.code y_Mo_command b_Mo_command 12 none :: wg) { frames := 4, cells := 0, slots := 0, locals := 90 } (va_Pc [.ref (ad 71), .int (nI j1), .int (nI j2), .int (nI j3), .int (x4)] (sm_P D cl_all (ty_s ca) ek L f0 sz)) (sm_Qv D (ty_s ca) L f0 sz (fun u => mq_po ca ad L σ0 [13, 14, 16, 18, 24, 30, 31, 32, 33, 34, 42, 52, 56, 57, 58, 59, 60, 61, 62, 63, 64, 65, 66, 67, 68, 69] (fun σ => (∃ n : Nat, z1 ≤ n ∧ n ≤ z1 + 1 ∧ σ.1 56 = nI n) ∧ IH σ ∧ True) u)) 0 0 (va_A (va_pl L f0) sz) := by
  refine sm_start (by decide) (Nat.le_of_ble_eq_true rfl) ?_
  intro p e s m below meth c ls hx hb hml hr hlk hnm hts hown hsz hE hI hl
  have hl : lv_has ls 12 [(0, .ref (ad 71)), (1, .int (nI j1)), (2, .int (nI j2)), (3, .int (nI j3)), (4, .int (x4))] := hl
  have hF : mq_fr [13, 14, 16, 18, 24, 30, 31, 32, 33, 34, 42, 52, 56, 57, 58, 59, 60, 61, 62, 63, 64, 65, 66, 67, 68, 69] σ0 σ0 := mq_fr_rf
  have hJ_439 : ∀ (H : Heap) (locs : List Loc) (f : Nat → va_E) (σ : mq_S) (ls : Array Slot) (y5 : Int32) (y6 : Int32) (y7 : Int32) (y8 : Int32) (y9 : Int32) (y10 : Int32) (y11 : Int32) (w : Nat), sw_I D cl_all (ty_s ca) (va_A (va_pl L f0) sz) s H locs L f → mq_B ca ad σ L f → mq_fr [13, 14, 16, 18, 24, 30, 31, 32, 33, 34, 42, 52, 56, 57, 58, 59, 60, 61, 62, 63, 64, 65, 66, 67, 68, 69] σ0 σ → lv_has ls 12 [(0, .ref (ad 71)), (1, .int (nI j1)), (2, .int (nI j2)), (3, .int (nI j3)), (4, .int (x4)), (5, .int (y5)), (6, .int (y6)), (7, .int (y7)), (8, .int (y8)), (9, .int (y9)), (10, .int (y10)), (11, .int (y11))] → (y8 = 0 ∨ y8 = 1) → (y9 = 0 ∨ y9 = 1) → (z1 ≤ w) → (w ≤ z1 + 1) → (σ.1 56 = nI w) → (IH σ) → W p l e { frames := 4, cells := 0, slots := 0, locals := 90 } s m ([.ref (ad 71), .int (nI j1), .int (nI j2), .int (nI j3), .int (x4)] : List Value).toArray below meth c H locs 0 0 (MQ below (sm_Qv D (ty_s ca) L f0 sz (fun u => mq_po ca ad L σ0 [13, 14, 16, 18, 24, 30, 31, 32, 33, 34, 42, 52, 56, 57, 58, 59, 60, 61, 62, 63, 64, 65, 66, 67, 68, 69] (fun σ => (∃ n : Nat, z1 ≤ n ∧ n ≤ z1 + 1 ∧ σ.1 56 = nI n) ∧ IH σ ∧ True) u)) ([.ref (ad 71), .int (nI j1), .int (nI j2), .int (nI j3), .int (x4)] : List Value).toArray s 0 0 (va_A (va_pl L f0) sz)) (F0 m 439 ls []) := by
    intro H locs f σ ls y5 y6 y7 y8 y9 y10 y11 w hI hM hF hl py8 py9 h90a h90b o90 u90
    refine lv_aload_n hx hb d_Mo_command_439 rfl (lv_at hl 0 rfl) ?_
    refine lv_iload_n hx hb d_Mo_command_440 rfl (lv_at hl 1 rfl) ?_
    refine lv_bipush (v := 7) hx hb d_Mo_command_441 (by decide) ?_
    refine lv_iload hx hb d_Mo_command_443 (lv_at hl 9 rfl) ?_
    refine lv_if_ne (tgt := 452) hx hb d_Mo_command_445 (by decide) (fun c_1 => ?_) (fun c_1 => ?_)
    · refine lv_iconst (v := 0) hx hb d_Mo_command_452 (by decide) ?_
      refine sm_vM hI (va_runV (As := [.int (nI j1), .int (7), .int (0)]) (rest := []) ⟨hx, hb, hml, hown, hts⟩ (c_Mo_comes l D ca ad L _ _ _ hM (j1) (by omega) 7 0 (by decide) u90) (kv_Mo_comes hts rfl rfl (hts _ tw_1611) ⟨Nat.le_of_ble_eq_true rfl, Nat.le_of_ble_eq_true rfl⟩) (pv_Mo hI hE hM) rfl rfl hl.1 rfl (lv_room (Nat.le_of_ble_eq_true rfl)) d_Mo_command_453 ⟨Nat.le_of_ble_eq_true rfl, Nat.le_of_ble_eq_true rfl⟩) (fun H locs f σ_3 hI hM hF_4 p_2 => ?_)
      have hF := mq_fr_tr hF hF_4 (by decide)
      have o_5 : σ_3.1 56 = nI w := mq_fi hF_4 (by decide) o90
      obtain ⟨u_6, -⟩ := p_2
      exact sm_vret hx hb hr hlk hI ⟨σ_3, rfl, hM, hF, ⟨⟨w, by omega, by omega, o_5⟩, u_6, trivial⟩⟩ d_Mo_command_456
    · refine lv_iconst (v := 1) hx hb d_Mo_command_448 (by decide) ?_
      refine lv_goto (tgt := 453) hx hb d_Mo_command_449 (by decide) ?_
      refine sm_vM hI (va_runV (As := [.int (nI j1), .int (7), .int (1)]) (rest := []) ⟨hx, hb, hml, hown, hts⟩ (c_Mo_comes l D ca ad L _ _ _ hM (j1) (by omega) 7 1 (by decide) u90) (kv_Mo_comes hts rfl rfl (hts _ tw_1611) ⟨Nat.le_of_ble_eq_true rfl, Nat.le_of_ble_eq_true rfl⟩) (pv_Mo hI hE hM) rfl rfl hl.1 rfl (lv_room (Nat.le_of_ble_eq_true rfl)) d_Mo_command_453 ⟨Nat.le_of_ble_eq_true rfl, Nat.le_of_ble_eq_true rfl⟩) (fun H locs f σ_8 hI hM hF_9 p_7 => ?_)
      have hF := mq_fr_tr hF hF_9 (by decide)
      have o_10 : σ_8.1 56 = nI w := mq_fi hF_9 (by decide) o90
      obtain ⟨u_11, -⟩ := p_7
      exact sm_vret hx hb hr hlk hI ⟨σ_8, rfl, hM, hF, ⟨⟨w, by omega, by omega, o_10⟩, u_11, trivial⟩⟩ d_Mo_command_456
  have hJ_423 : ∀ (H : Heap) (locs : List Loc) (f : Nat → va_E) (σ : mq_S) (ls : Array Slot) (y5 : Int32) (y6 : Int32) (y7 : Int32) (y8 : Int32) (y9 : Int32) (y10 : Int32) (y11 : Int32) (z0 : Int32), sw_I D cl_all (ty_s ca) (va_A (va_pl L f0) sz) s H locs L f → mq_B ca ad σ L f → mq_fr [13, 14, 16, 18, 24, 30, 31, 32, 33, 34, 42, 52, 56, 57, 58, 59, 60, 61, 62, 63, 64, 65, 66, 67, 68, 69] σ0 σ → lv_has ls 12 [(0, .ref (ad 71)), (1, .int (nI j1)), (2, .int (nI j2)), (3, .int (nI j3)), (4, .int (x4)), (5, .int (y5)), (6, .int (y6)), (7, .int (y7)), (8, .int (y8)), (9, .int (y9)), (10, .int (y10)), (11, .int (y11))] → (y8 = 0 ∨ y8 = 1) → (y9 = 0 ∨ y9 = 1) → (z0 = 0 ∨ z0 = 1) → (σ.1 56 = nI (z1)) → (σ.1 70 = nI (z2)) → (IH σ) → W p l e { frames := 4, cells := 0, slots := 0, locals := 90 } s m ([.ref (ad 71), .int (nI j1), .int (nI j2), .int (nI j3), .int (x4)] : List Value).toArray below meth c H locs 0 0 (MQ below (sm_Qv D (ty_s ca) L f0 sz (fun u => mq_po ca ad L σ0 [13, 14, 16, 18, 24, 30, 31, 32, 33, 34, 42, 52, 56, 57, 58, 59, 60, 61, 62, 63, 64, 65, 66, 67, 68, 69] (fun σ => (∃ n : Nat, z1 ≤ n ∧ n ≤ z1 + 1 ∧ σ.1 56 = nI n) ∧ IH σ ∧ True) u)) ([.ref (ad 71), .int (nI j1), .int (nI j2), .int (nI j3), .int (x4)] : List Value).toArray s 0 0 (va_A (va_pl L f0) sz)) (F0 m 423 ls [.int (z0)]) := by
    intro H locs f σ ls y5 y6 y7 y8 y9 y10 y11 z0 hI hM hF hl py8 py9 pz0 o90 o91 u90
    refine lv_istore (lv' := [(9, .int (z0)), (0, .ref (ad 71)), (1, .int (nI j1)), (2, .int (nI j2)), (3, .int (nI j3)), (4, .int (x4)), (5, .int (y5)), (6, .int (y6)), (7, .int (y7)), (8, .int (y8)), (10, .int (y10)), (11, .int (y11))]) hx hb d_Mo_command_423 hl (by decide) rfl (fun ls hl => ?_)
    refine lv_iload hx hb d_Mo_command_425 (lv_at hl 0 rfl) ?_
    refine lv_if_eq (tgt := 439) hx hb d_Mo_command_427 (by decide) (fun c_12 => ?_) (fun c_12 => ?_)
    · exact hJ_439 _ _ _ _ _ y5 y6 y7 y8 z0 y10 y11 ((z1)) hI hM hF (lv_sub hl [1, 2, 3, 4, 5, 6, 7, 8, 9, 0, 10, 11] rfl) py8 pz0 (by omega) (by omega) o90 u90
    · refine lv_aload_n hx hb d_Mo_command_430 rfl (lv_at hl 1 rfl) ?_
      refine lv_iload_n hx hb d_Mo_command_431 rfl (lv_at hl 2 rfl) ?_
      refine lv_iload_n hx hb d_Mo_command_432 rfl (lv_at hl 3 rfl) ?_
      refine lv_iload_n hx hb d_Mo_command_433 rfl (lv_at hl 4 rfl) ?_
      refine lv_iload hx hb d_Mo_command_434 (lv_at hl 8 rfl) ?_
      refine sm_vM hI (va_runV (As := [.int (nI j1), .int (nI j2), .int (nI j3), .int (y7)]) (rest := []) ⟨hx, hb, hml, hown, hts⟩ (c_Mo_operate l D ca ad L _ _ _ hM (j1) (by omega) (nI j2) (j3) (by omega) y7 ((z1)) o90 ((z2)) o91 (by omega) (by omega)) (kv_Mo_operate hts rfl rfl (hts _ tw_1639) ⟨Nat.le_of_ble_eq_true rfl, Nat.le_of_ble_eq_true rfl⟩) (pv_Mo hI hE hM) rfl rfl hl.1 rfl (lv_room (Nat.le_of_ble_eq_true rfl)) d_Mo_command_436 ⟨Nat.le_of_ble_eq_true rfl, Nat.le_of_ble_eq_true rfl⟩) (fun H locs f σ_14 hI hM hF_15 p_13 => ?_)
      have hF := mq_fr_tr hF hF_15 (by decide)
      have o_16 : σ_14.1 70 = nI (z2) := mq_fi hF_15 (by decide) o91
      have u_17 := IH_fr hF_15 (by decide) u90
      obtain ⟨o_18, -⟩ := p_13
      exact hJ_439 _ _ _ _ _ y5 y6 y7 y8 z0 y10 y11 ((((z1)) + 1)) hI hM hF (lv_sub hl [1, 2, 3, 4, 5, 6, 7, 8, 9, 0, 10, 11] rfl) py8 pz0 (by omega) (by omega) o_18 u_17
  have hJ_337 : ∀ (N k : Nat) (H : Heap) (locs : List Loc) (f : Nat → va_E) (σ : mq_S) (ls : Array Slot) (y5 : Int32) (y6 : Int32) (y7 : Int32) (y8 : Int32) (y9 : Int32) (y10 : Int32), 600 + 1 - k ≤ N → k ≤ 600 → sw_I D cl_all (ty_s ca) (va_A (va_pl L f0) sz) s H locs L f → mq_B ca ad σ L f → mq_fr [13, 14, 16, 18, 24, 30, 31, 32, 33, 34, 42, 52, 56, 57, 58, 59, 60, 61, 62, 63, 64, 65, 66, 67, 68, 69] σ0 σ → lv_has ls 12 [(0, .ref (ad 71)), (1, .int (nI j1)), (2, .int (nI j2)), (3, .int (nI j3)), (4, .int (x4)), (5, .int (y5)), (6, .int (y6)), (7, .int (y7)), (8, .int (y8)), (9, .int (y9)), (10, .int (y10)), (11, .int (nI k))] → (y8 = 0 ∨ y8 = 1) → (y9 = 0 ∨ y9 = 1) → (σ.1 56 = nI (z1)) → (σ.1 70 = nI (z2)) → (IH σ) → W p l e { frames := 4, cells := 0, slots := 0, locals := 90 } s m ([.ref (ad 71), .int (nI j1), .int (nI j2), .int (nI j3), .int (x4)] : List Value).toArray below meth c H locs 0 0 (MQ below (sm_Qv D (ty_s ca) L f0 sz (fun u => mq_po ca ad L σ0 [13, 14, 16, 18, 24, 30, 31, 32, 33, 34, 42, 52, 56, 57, 58, 59, 60, 61, 62, 63, 64, 65, 66, 67, 68, 69] (fun σ => (∃ n : Nat, z1 ≤ n ∧ n ≤ z1 + 1 ∧ σ.1 56 = nI n) ∧ IH σ ∧ True) u)) ([.ref (ad 71), .int (nI j1), .int (nI j2), .int (nI j3), .int (x4)] : List Value).toArray s 0 0 (va_A (va_pl L f0) sz)) (F0 m 337 ls []) := by
    intro N
    induction N with
    | zero => intros; omega
    | succ N ih =>
      intro k H locs f σ ls y5 y6 y7 y8 y9 y10 hN hk hI hM hF hl py8 py9 o90 o91 u90
      refine lv_iload hx hb d_Mo_command_337 (lv_at hl 11 rfl) ?_
      refine lv_aload_n hx hb d_Mo_command_339 rfl (lv_at hl 0 rfl) ?_
      refine mq_get (k := 56) (v := .int (nI (z1))) hx hb hts hown hI hM (by decide) (congrArg (fun z => some (Value.int z)) o90) rfl (hts _ tw_1225) d_Mo_command_340 ?_
      refine lv_icmp_ge (tgt := 406) hx hb d_Mo_command_343 (by decide) (fun c_19 => ?_) (fun c_19 => ?_)
      · have k_20 : (z1) ≤ k := (nI_leI (a := (z1)) (b := k) (by omega) (by omega)).mp c_19
        refine lv_iload hx hb d_Mo_command_406 (lv_at hl 9 rfl) ?_
        refine lv_if_eq (tgt := 422) hx hb d_Mo_command_408 (by decide) (fun c_21 => ?_) (fun c_21 => ?_)
        · refine lv_iconst (v := 0) hx hb d_Mo_command_422 (by decide) ?_
          exact hJ_423 _ _ _ _ _ y5 y6 y7 y8 y9 y10 (nI k) 0 hI hM hF (lv_sub hl [0, 1, 2, 3, 4, 5, 6, 7, 8, 9, 10, 11] rfl) py8 py9 (by decide) (Eq.trans o90 (congrArg nI (show ((z1) : Nat) = _ by omega))) (Eq.trans o91 (congrArg nI (show ((z2) : Nat) = _ by omega))) u90
        · refine lv_iload hx hb d_Mo_command_411 (lv_at hl 10 rfl) ?_
          refine lv_bipush (v := 8) hx hb d_Mo_command_413 (by decide) ?_
          refine lv_icmp_ge (tgt := 422) hx hb d_Mo_command_415 (by decide) (fun c_22 => ?_) (fun c_22 => ?_)
          · refine lv_iconst (v := 0) hx hb d_Mo_command_422 (by decide) ?_
            exact hJ_423 _ _ _ _ _ y5 y6 y7 y8 y9 y10 (nI k) 0 hI hM hF (lv_sub hl [0, 1, 2, 3, 4, 5, 6, 7, 8, 9, 10, 11] rfl) py8 py9 (by decide) (Eq.trans o90 (congrArg nI (show ((z1) : Nat) = _ by omega))) (Eq.trans o91 (congrArg nI (show ((z2) : Nat) = _ by omega))) u90
          · refine lv_iconst (v := 1) hx hb d_Mo_command_418 (by decide) ?_
            refine lv_goto (tgt := 423) hx hb d_Mo_command_419 (by decide) ?_
            exact hJ_423 _ _ _ _ _ y5 y6 y7 y8 y9 y10 (nI k) 1 hI hM hF (lv_sub hl [0, 1, 2, 3, 4, 5, 6, 7, 8, 9, 10, 11] rfl) py8 py9 (by decide) (Eq.trans o90 (congrArg nI (show ((z1) : Nat) = _ by omega))) (Eq.trans o91 (congrArg nI (show ((z2) : Nat) = _ by omega))) u90
      · have k_23 : k < (z1) := Nat.lt_of_not_le (fun q => c_19 ((nI_leI (a := (z1)) (b := k) (by omega) (by omega)).mpr q))
        refine lv_iload hx hb d_Mo_command_346 (lv_at hl 9 rfl) ?_
        refine lv_if_eq (tgt := 376) hx hb d_Mo_command_348 (by decide) (fun c_24 => ?_) (fun c_24 => ?_)
        · refine lv_iconst (v := 0) hx hb d_Mo_command_376 (by decide) ?_
          refine lv_istore (lv' := [(9, .int (0)), (0, .ref (ad 71)), (1, .int (nI j1)), (2, .int (nI j2)), (3, .int (nI j3)), (4, .int (x4)), (5, .int (y5)), (6, .int (y6)), (7, .int (y7)), (8, .int (y8)), (10, .int (y10)), (11, .int (nI k))]) hx hb d_Mo_command_377 hl (by decide) rfl (fun ls hl => ?_)
          refine lv_aload_n hx hb d_Mo_command_379 rfl (lv_at hl 1 rfl) ?_
          refine mq_get (k := 62) (v := .ref (ad 62)) hx hb hts hown hI hM (by decide) rfl rfl (hts _ tw_1231) d_Mo_command_380 ?_
          refine lv_iload hx hb d_Mo_command_383 (lv_at hl 11 rfl) ?_
          obtain ⟨n_25, h_26, h_27, e_28⟩ := hM.2.2.2.2.2 62 (k)
          have p_29 : nI n_25 = 0 ∨ nI n_25 = 1 := mq_zok ⟨n_25, h_26, h_27, rfl⟩
          refine mq_zald (k := 62) (j := k) (v := nI n_25) hx hb hI hM (by decide) rfl (by show k < 600; omega) (by decide) e_28 d_Mo_command_385 ?_
          refine lv_if_eq (tgt := 396) hx hb d_Mo_command_386 (by decide) (fun c_30 => ?_) (fun c_30 => ?_)
          · refine lv_iload hx hb d_Mo_command_396 (lv_at hl 10 rfl) ?_
            refine lv_istore (lv' := [(10, .int (y10)), (9, .int (0)), (0, .ref (ad 71)), (1, .int (nI j1)), (2, .int (nI j2)), (3, .int (nI j3)), (4, .int (x4)), (5, .int (y5)), (6, .int (y6)), (7, .int (y7)), (8, .int (y8)), (11, .int (nI k))]) hx hb d_Mo_command_398 hl (by decide) rfl (fun ls hl => ?_)
            refine lv_iinc (v := nI (k + 1)) (lv' := [(11, .int (nI (k + 1))), (10, .int (y10)), (9, .int (0)), (0, .ref (ad 71)), (1, .int (nI j1)), (2, .int (nI j2)), (3, .int (nI j3)), (4, .int (x4)), (5, .int (y5)), (6, .int (y6)), (7, .int (y7)), (8, .int (y8))]) hx hb d_Mo_command_400 hl (k := 11) rfl (nI_1 _) (by decide) rfl (fun ls hl => ?_)
            refine lv_goto (tgt := 337) hx hb d_Mo_command_403 (by decide) ?_
            exact ih ((k + 1)) _ _ _ _ _ y5 y6 y7 y8 0 y10 (by omega) (by omega) hI hM hF (lv_sub hl [3, 4, 5, 6, 7, 8, 9, 10, 11, 2, 1, 0] rfl) py8 (by decide) (Eq.trans o90 (congrArg nI (show ((z1) : Nat) = _ by omega))) (Eq.trans o91 (congrArg nI (show ((z2) : Nat) = _ by omega))) u90
          · refine lv_iload hx hb d_Mo_command_389 (lv_at hl 10 rfl) ?_
            refine lv_iconst (v := 1) hx hb d_Mo_command_391 (by decide) ?_
            refine lv_iadd hx hb d_Mo_command_392 ?_
            refine lv_topi (fun x_31 e_32 => ?_)
            refine lv_goto (tgt := 398) hx hb d_Mo_command_393 (by decide) ?_
            refine lv_istore (lv' := [(10, .int (x_31)), (9, .int (0)), (0, .ref (ad 71)), (1, .int (nI j1)), (2, .int (nI j2)), (3, .int (nI j3)), (4, .int (x4)), (5, .int (y5)), (6, .int (y6)), (7, .int (y7)), (8, .int (y8)), (11, .int (nI k))]) hx hb d_Mo_command_398 hl (by decide) rfl (fun ls hl => ?_)
            refine lv_iinc (v := nI (k + 1)) (lv' := [(11, .int (nI (k + 1))), (10, .int (x_31)), (9, .int (0)), (0, .ref (ad 71)), (1, .int (nI j1)), (2, .int (nI j2)), (3, .int (nI j3)), (4, .int (x4)), (5, .int (y5)), (6, .int (y6)), (7, .int (y7)), (8, .int (y8))]) hx hb d_Mo_command_400 hl (k := 11) rfl (nI_1 _) (by decide) rfl (fun ls hl => ?_)
            refine lv_goto (tgt := 337) hx hb d_Mo_command_403 (by decide) ?_
            exact ih ((k + 1)) _ _ _ _ _ y5 y6 y7 y8 0 x_31 (by omega) (by omega) hI hM hF (lv_sub hl [3, 4, 5, 6, 7, 8, 9, 10, 11, 2, 1, 0] rfl) py8 (by decide) (Eq.trans o90 (congrArg nI (show ((z1) : Nat) = _ by omega))) (Eq.trans o91 (congrArg nI (show ((z2) : Nat) = _ by omega))) u90
        · refine lv_aload_n hx hb d_Mo_command_351 rfl (lv_at hl 0 rfl) ?_
          refine mq_get (k := 62) (v := .ref (ad 62)) hx hb hts hown hI hM (by decide) rfl rfl (hts _ tw_1231) d_Mo_command_352 ?_
          refine lv_iload hx hb d_Mo_command_355 (lv_at hl 11 rfl) ?_
          obtain ⟨n_33, h_34, h_35, e_36⟩ := hM.2.2.2.2.2 62 (k)
          have p_37 : nI n_33 = 0 ∨ nI n_33 = 1 := mq_zok ⟨n_33, h_34, h_35, rfl⟩
          refine mq_zald (k := 62) (j := k) (v := nI n_33) hx hb hI hM (by decide) rfl (by show k < 600; omega) (by decide) e_36 d_Mo_command_357 ?_
          refine lv_if_eq (tgt := 372) hx hb d_Mo_command_358 (by decide) (fun c_38 => ?_) (fun c_38 => ?_)
          · refine lv_iconst (v := 1) hx hb d_Mo_command_372 (by decide) ?_
            refine lv_goto (tgt := 377) hx hb d_Mo_command_373 (by decide) ?_
            refine lv_istore (lv' := [(9, .int (1)), (0, .ref (ad 71)), (1, .int (nI j1)), (2, .int (nI j2)), (3, .int (nI j3)), (4, .int (x4)), (5, .int (y5)), (6, .int (y6)), (7, .int (y7)), (8, .int (y8)), (10, .int (y10)), (11, .int (nI k))]) hx hb d_Mo_command_377 hl (by decide) rfl (fun ls hl => ?_)
            refine lv_aload_n hx hb d_Mo_command_379 rfl (lv_at hl 1 rfl) ?_
            refine mq_get (k := 62) (v := .ref (ad 62)) hx hb hts hown hI hM (by decide) rfl rfl (hts _ tw_1231) d_Mo_command_380 ?_
            refine lv_iload hx hb d_Mo_command_383 (lv_at hl 11 rfl) ?_
            obtain ⟨n_39, h_40, h_41, e_42⟩ := hM.2.2.2.2.2 62 (k)
            have p_43 : nI n_39 = 0 ∨ nI n_39 = 1 := mq_zok ⟨n_39, h_40, h_41, rfl⟩
            refine mq_zald (k := 62) (j := k) (v := nI n_39) hx hb hI hM (by decide) rfl (by show k < 600; omega) (by decide) e_42 d_Mo_command_385 ?_
            refine lv_if_eq (tgt := 396) hx hb d_Mo_command_386 (by decide) (fun c_44 => ?_) (fun c_44 => ?_)
            · refine lv_iload hx hb d_Mo_command_396 (lv_at hl 10 rfl) ?_
              refine lv_istore (lv' := [(10, .int (y10)), (9, .int (1)), (0, .ref (ad 71)), (1, .int (nI j1)), (2, .int (nI j2)), (3, .int (nI j3)), (4, .int (x4)), (5, .int (y5)), (6, .int (y6)), (7, .int (y7)), (8, .int (y8)), (11, .int (nI k))]) hx hb d_Mo_command_398 hl (by decide) rfl (fun ls hl => ?_)
              refine lv_iinc (v := nI (k + 1)) (lv' := [(11, .int (nI (k + 1))), (10, .int (y10)), (9, .int (1)), (0, .ref (ad 71)), (1, .int (nI j1)), (2, .int (nI j2)), (3, .int (nI j3)), (4, .int (x4)), (5, .int (y5)), (6, .int (y6)), (7, .int (y7)), (8, .int (y8))]) hx hb d_Mo_command_400 hl (k := 11) rfl (nI_1 _) (by decide) rfl (fun ls hl => ?_)
              refine lv_goto (tgt := 337) hx hb d_Mo_command_403 (by decide) ?_
              exact ih ((k + 1)) _ _ _ _ _ y5 y6 y7 y8 1 y10 (by omega) (by omega) hI hM hF (lv_sub hl [3, 4, 5, 6, 7, 8, 9, 10, 11, 2, 1, 0] rfl) py8 (by decide) (Eq.trans o90 (congrArg nI (show ((z1) : Nat) = _ by omega))) (Eq.trans o91 (congrArg nI (show ((z2) : Nat) = _ by omega))) u90
            · refine lv_iload hx hb d_Mo_command_389 (lv_at hl 10 rfl) ?_
              refine lv_iconst (v := 1) hx hb d_Mo_command_391 (by decide) ?_
              refine lv_iadd hx hb d_Mo_command_392 ?_
              refine lv_topi (fun x_45 e_46 => ?_)
              refine lv_goto (tgt := 398) hx hb d_Mo_command_393 (by decide) ?_
              refine lv_istore (lv' := [(10, .int (x_45)), (9, .int (1)), (0, .ref (ad 71)), (1, .int (nI j1)), (2, .int (nI j2)), (3, .int (nI j3)), (4, .int (x4)), (5, .int (y5)), (6, .int (y6)), (7, .int (y7)), (8, .int (y8)), (11, .int (nI k))]) hx hb d_Mo_command_398 hl (by decide) rfl (fun ls hl => ?_)
              refine lv_iinc (v := nI (k + 1)) (lv' := [(11, .int (nI (k + 1))), (10, .int (x_45)), (9, .int (1)), (0, .ref (ad 71)), (1, .int (nI j1)), (2, .int (nI j2)), (3, .int (nI j3)), (4, .int (x4)), (5, .int (y5)), (6, .int (y6)), (7, .int (y7)), (8, .int (y8))]) hx hb d_Mo_command_400 hl (k := 11) rfl (nI_1 _) (by decide) rfl (fun ls hl => ?_)
              refine lv_goto (tgt := 337) hx hb d_Mo_command_403 (by decide) ?_
              exact ih ((k + 1)) _ _ _ _ _ y5 y6 y7 y8 1 x_45 (by omega) (by omega) hI hM hF (lv_sub hl [3, 4, 5, 6, 7, 8, 9, 10, 11, 2, 1, 0] rfl) py8 (by decide) (Eq.trans o90 (congrArg nI (show ((z1) : Nat) = _ by omega))) (Eq.trans o91 (congrArg nI (show ((z2) : Nat) = _ by omega))) u90
          · refine lv_aload_n hx hb d_Mo_command_361 rfl (lv_at hl 0 rfl) ?_
            refine mq_get (k := 57) (v := .ref (ad 57)) hx hb hts hown hI hM (by decide) rfl rfl (hts _ tw_1226) d_Mo_command_362 ?_
            refine lv_iload hx hb d_Mo_command_365 (lv_at hl 11 rfl) ?_
            obtain ⟨x_47, e_48⟩ : ∃ z, σ.2.2.1 57 (k) = z := ⟨_, rfl⟩
            refine mq_iald (k := 57) (j := k) (v := x_47) hx hb hI hM (by decide) rfl (by show k < 600; omega) (by decide) e_48 d_Mo_command_367 ?_
            refine lv_iload_n hx hb d_Mo_command_368 rfl (lv_at hl 2 rfl) ?_
            refine lv_icmp_eq (tgt := 376) hx hb d_Mo_command_369 (by decide) (fun c_49 => ?_) (fun c_49 => ?_)
            · refine lv_iconst (v := 0) hx hb d_Mo_command_376 (by decide) ?_
              refine lv_istore (lv' := [(9, .int (0)), (0, .ref (ad 71)), (1, .int (nI j1)), (2, .int (nI j2)), (3, .int (nI j3)), (4, .int (x4)), (5, .int (y5)), (6, .int (y6)), (7, .int (y7)), (8, .int (y8)), (10, .int (y10)), (11, .int (nI k))]) hx hb d_Mo_command_377 hl (by decide) rfl (fun ls hl => ?_)
              refine lv_aload_n hx hb d_Mo_command_379 rfl (lv_at hl 1 rfl) ?_
              refine mq_get (k := 62) (v := .ref (ad 62)) hx hb hts hown hI hM (by decide) rfl rfl (hts _ tw_1231) d_Mo_command_380 ?_
              refine lv_iload hx hb d_Mo_command_383 (lv_at hl 11 rfl) ?_
              obtain ⟨n_50, h_51, h_52, e_53⟩ := hM.2.2.2.2.2 62 (k)
              have p_54 : nI n_50 = 0 ∨ nI n_50 = 1 := mq_zok ⟨n_50, h_51, h_52, rfl⟩
              refine mq_zald (k := 62) (j := k) (v := nI n_50) hx hb hI hM (by decide) rfl (by show k < 600; omega) (by decide) e_53 d_Mo_command_385 ?_
              refine lv_if_eq (tgt := 396) hx hb d_Mo_command_386 (by decide) (fun c_55 => ?_) (fun c_55 => ?_)
              · refine lv_iload hx hb d_Mo_command_396 (lv_at hl 10 rfl) ?_
                refine lv_istore (lv' := [(10, .int (y10)), (9, .int (0)), (0, .ref (ad 71)), (1, .int (nI j1)), (2, .int (nI j2)), (3, .int (nI j3)), (4, .int (x4)), (5, .int (y5)), (6, .int (y6)), (7, .int (y7)), (8, .int (y8)), (11, .int (nI k))]) hx hb d_Mo_command_398 hl (by decide) rfl (fun ls hl => ?_)
                refine lv_iinc (v := nI (k + 1)) (lv' := [(11, .int (nI (k + 1))), (10, .int (y10)), (9, .int (0)), (0, .ref (ad 71)), (1, .int (nI j1)), (2, .int (nI j2)), (3, .int (nI j3)), (4, .int (x4)), (5, .int (y5)), (6, .int (y6)), (7, .int (y7)), (8, .int (y8))]) hx hb d_Mo_command_400 hl (k := 11) rfl (nI_1 _) (by decide) rfl (fun ls hl => ?_)
                refine lv_goto (tgt := 337) hx hb d_Mo_command_403 (by decide) ?_
                exact ih ((k + 1)) _ _ _ _ _ y5 y6 y7 y8 0 y10 (by omega) (by omega) hI hM hF (lv_sub hl [3, 4, 5, 6, 7, 8, 9, 10, 11, 2, 1, 0] rfl) py8 (by decide) (Eq.trans o90 (congrArg nI (show ((z1) : Nat) = _ by omega))) (Eq.trans o91 (congrArg nI (show ((z2) : Nat) = _ by omega))) u90
              · refine lv_iload hx hb d_Mo_command_389 (lv_at hl 10 rfl) ?_
                refine lv_iconst (v := 1) hx hb d_Mo_command_391 (by decide) ?_
                refine lv_iadd hx hb d_Mo_command_392 ?_
                refine lv_topi (fun x_56 e_57 => ?_)
                refine lv_goto (tgt := 398) hx hb d_Mo_command_393 (by decide) ?_
                refine lv_istore (lv' := [(10, .int (x_56)), (9, .int (0)), (0, .ref (ad 71)), (1, .int (nI j1)), (2, .int (nI j2)), (3, .int (nI j3)), (4, .int (x4)), (5, .int (y5)), (6, .int (y6)), (7, .int (y7)), (8, .int (y8)), (11, .int (nI k))]) hx hb d_Mo_command_398 hl (by decide) rfl (fun ls hl => ?_)
                refine lv_iinc (v := nI (k + 1)) (lv' := [(11, .int (nI (k + 1))), (10, .int (x_56)), (9, .int (0)), (0, .ref (ad 71)), (1, .int (nI j1)), (2, .int (nI j2)), (3, .int (nI j3)), (4, .int (x4)), (5, .int (y5)), (6, .int (y6)), (7, .int (y7)), (8, .int (y8))]) hx hb d_Mo_command_400 hl (k := 11) rfl (nI_1 _) (by decide) rfl (fun ls hl => ?_)
                refine lv_goto (tgt := 337) hx hb d_Mo_command_403 (by decide) ?_
                exact ih ((k + 1)) _ _ _ _ _ y5 y6 y7 y8 0 x_56 (by omega) (by omega) hI hM hF (lv_sub hl [3, 4, 5, 6, 7, 8, 9, 10, 11, 2, 1, 0] rfl) py8 (by decide) (Eq.trans o90 (congrArg nI (show ((z1) : Nat) = _ by omega))) (Eq.trans o91 (congrArg nI (show ((z2) : Nat) = _ by omega))) u90
            · refine lv_iconst (v := 1) hx hb d_Mo_command_372 (by decide) ?_
              refine lv_goto (tgt := 377) hx hb d_Mo_command_373 (by decide) ?_
              refine lv_istore (lv' := [(9, .int (1)), (0, .ref (ad 71)), (1, .int (nI j1)), (2, .int (nI j2)), (3, .int (nI j3)), (4, .int (x4)), (5, .int (y5)), (6, .int (y6)), (7, .int (y7)), (8, .int (y8)), (10, .int (y10)), (11, .int (nI k))]) hx hb d_Mo_command_377 hl (by decide) rfl (fun ls hl => ?_)
              refine lv_aload_n hx hb d_Mo_command_379 rfl (lv_at hl 1 rfl) ?_
              refine mq_get (k := 62) (v := .ref (ad 62)) hx hb hts hown hI hM (by decide) rfl rfl (hts _ tw_1231) d_Mo_command_380 ?_
              refine lv_iload hx hb d_Mo_command_383 (lv_at hl 11 rfl) ?_
              obtain ⟨n_58, h_59, h_60, e_61⟩ := hM.2.2.2.2.2 62 (k)
              have p_62 : nI n_58 = 0 ∨ nI n_58 = 1 := mq_zok ⟨n_58, h_59, h_60, rfl⟩
              refine mq_zald (k := 62) (j := k) (v := nI n_58) hx hb hI hM (by decide) rfl (by show k < 600; omega) (by decide) e_61 d_Mo_command_385 ?_
              refine lv_if_eq (tgt := 396) hx hb d_Mo_command_386 (by decide) (fun c_63 => ?_) (fun c_63 => ?_)
              · refine lv_iload hx hb d_Mo_command_396 (lv_at hl 10 rfl) ?_
                refine lv_istore (lv' := [(10, .int (y10)), (9, .int (1)), (0, .ref (ad 71)), (1, .int (nI j1)), (2, .int (nI j2)), (3, .int (nI j3)), (4, .int (x4)), (5, .int (y5)), (6, .int (y6)), (7, .int (y7)), (8, .int (y8)), (11, .int (nI k))]) hx hb d_Mo_command_398 hl (by decide) rfl (fun ls hl => ?_)
                refine lv_iinc (v := nI (k + 1)) (lv' := [(11, .int (nI (k + 1))), (10, .int (y10)), (9, .int (1)), (0, .ref (ad 71)), (1, .int (nI j1)), (2, .int (nI j2)), (3, .int (nI j3)), (4, .int (x4)), (5, .int (y5)), (6, .int (y6)), (7, .int (y7)), (8, .int (y8))]) hx hb d_Mo_command_400 hl (k := 11) rfl (nI_1 _) (by decide) rfl (fun ls hl => ?_)
                refine lv_goto (tgt := 337) hx hb d_Mo_command_403 (by decide) ?_
                exact ih ((k + 1)) _ _ _ _ _ y5 y6 y7 y8 1 y10 (by omega) (by omega) hI hM hF (lv_sub hl [3, 4, 5, 6, 7, 8, 9, 10, 11, 2, 1, 0] rfl) py8 (by decide) (Eq.trans o90 (congrArg nI (show ((z1) : Nat) = _ by omega))) (Eq.trans o91 (congrArg nI (show ((z2) : Nat) = _ by omega))) u90
              · refine lv_iload hx hb d_Mo_command_389 (lv_at hl 10 rfl) ?_
                refine lv_iconst (v := 1) hx hb d_Mo_command_391 (by decide) ?_
                refine lv_iadd hx hb d_Mo_command_392 ?_
                refine lv_topi (fun x_64 e_65 => ?_)
                refine lv_goto (tgt := 398) hx hb d_Mo_command_393 (by decide) ?_
                refine lv_istore (lv' := [(10, .int (x_64)), (9, .int (1)), (0, .ref (ad 71)), (1, .int (nI j1)), (2, .int (nI j2)), (3, .int (nI j3)), (4, .int (x4)), (5, .int (y5)), (6, .int (y6)), (7, .int (y7)), (8, .int (y8)), (11, .int (nI k))]) hx hb d_Mo_command_398 hl (by decide) rfl (fun ls hl => ?_)
                refine lv_iinc (v := nI (k + 1)) (lv' := [(11, .int (nI (k + 1))), (10, .int (x_64)), (9, .int (1)), (0, .ref (ad 71)), (1, .int (nI j1)), (2, .int (nI j2)), (3, .int (nI j3)), (4, .int (x4)), (5, .int (y5)), (6, .int (y6)), (7, .int (y7)), (8, .int (y8))]) hx hb d_Mo_command_400 hl (k := 11) rfl (nI_1 _) (by decide) rfl (fun ls hl => ?_)
                refine lv_goto (tgt := 337) hx hb d_Mo_command_403 (by decide) ?_
                exact ih ((k + 1)) _ _ _ _ _ y5 y6 y7 y8 1 x_64 (by omega) (by omega) hI hM hF (lv_sub hl [3, 4, 5, 6, 7, 8, 9, 10, 11, 2, 1, 0] rfl) py8 (by decide) (Eq.trans o90 (congrArg nI (show ((z1) : Nat) = _ by omega))) (Eq.trans o91 (congrArg nI (show ((z2) : Nat) = _ by omega))) u90
  have hJ_331 : ∀ (H : Heap) (locs : List Loc) (f : Nat → va_E) (σ : mq_S) (ls : Array Slot) (y5 : Int32) (y6 : Int32) (y7 : Int32) (y8 : Int32) (y9 : Int32), sw_I D cl_all (ty_s ca) (va_A (va_pl L f0) sz) s H locs L f → mq_B ca ad σ L f → mq_fr [13, 14, 16, 18, 24, 30, 31, 32, 33, 34, 42, 52, 56, 57, 58, 59, 60, 61, 62, 63, 64, 65, 66, 67, 68, 69] σ0 σ → lv_has ls 12 [(0, .ref (ad 71)), (1, .int (nI j1)), (2, .int (nI j2)), (3, .int (nI j3)), (4, .int (x4)), (5, .int (y5)), (6, .int (y6)), (7, .int (y7)), (8, .int (y8)), (9, .int (y9))] → (y8 = 0 ∨ y8 = 1) → (y9 = 0 ∨ y9 = 1) → (σ.1 56 = nI (z1)) → (σ.1 70 = nI (z2)) → (IH σ) → W p l e { frames := 4, cells := 0, slots := 0, locals := 90 } s m ([.ref (ad 71), .int (nI j1), .int (nI j2), .int (nI j3), .int (x4)] : List Value).toArray below meth c H locs 0 0 (MQ below (sm_Qv D (ty_s ca) L f0 sz (fun u => mq_po ca ad L σ0 [13, 14, 16, 18, 24, 30, 31, 32, 33, 34, 42, 52, 56, 57, 58, 59, 60, 61, 62, 63, 64, 65, 66, 67, 68, 69] (fun σ => (∃ n : Nat, z1 ≤ n ∧ n ≤ z1 + 1 ∧ σ.1 56 = nI n) ∧ IH σ ∧ True) u)) ([.ref (ad 71), .int (nI j1), .int (nI j2), .int (nI j3), .int (x4)] : List Value).toArray s 0 0 (va_A (va_pl L f0) sz)) (F0 m 331 ls []) := by
    intro H locs f σ ls y5 y6 y7 y8 y9 hI hM hF hl py8 py9 o90 o91 u90
    refine lv_iconst (v := 0) hx hb d_Mo_command_331 (by decide) ?_
    refine lv_istore (lv' := [(10, .int (0)), (0, .ref (ad 71)), (1, .int (nI j1)), (2, .int (nI j2)), (3, .int (nI j3)), (4, .int (x4)), (5, .int (y5)), (6, .int (y6)), (7, .int (y7)), (8, .int (y8)), (9, .int (y9))]) hx hb d_Mo_command_332 hl (by decide) rfl (fun ls hl => ?_)
    refine lv_iconst (v := 0) hx hb d_Mo_command_334 (by decide) ?_
    refine lv_istore (lv' := [(11, .int (0)), (10, .int (0)), (0, .ref (ad 71)), (1, .int (nI j1)), (2, .int (nI j2)), (3, .int (nI j3)), (4, .int (x4)), (5, .int (y5)), (6, .int (y6)), (7, .int (y7)), (8, .int (y8)), (9, .int (y9))]) hx hb d_Mo_command_335 hl (by decide) rfl (fun ls hl => ?_)
    exact hJ_337 _ (0) _ _ _ _ _ y5 y6 y7 y8 y9 0 (Nat.le_refl _) (by omega) hI hM hF (lv_sub hl [2, 3, 4, 5, 6, 7, 8, 9, 10, 11, 1, 0] rfl) py8 py9 (Eq.trans o90 (congrArg nI (show ((z1) : Nat) = _ by omega))) (Eq.trans o91 (congrArg nI (show ((z2) : Nat) = _ by omega))) u90
  have hJ_277 : ∀ (N k : Nat) (H : Heap) (locs : List Loc) (f : Nat → va_E) (σ : mq_S) (ls : Array Slot) (y5 : Int32) (r : Nat) (y7 : Int32) (y8 : Int32) (y9 : Int32), 7 + 1 - k ≤ N → k ≤ 7 → sw_I D cl_all (ty_s ca) (va_A (va_pl L f0) sz) s H locs L f → mq_B ca ad σ L f → mq_fr [13, 14, 16, 18, 24, 30, 31, 32, 33, 34, 42, 52, 56, 57, 58, 59, 60, 61, 62, 63, 64, 65, 66, 67, 68, 69] σ0 σ → lv_has ls 12 [(0, .ref (ad 71)), (1, .int (nI j1)), (2, .int (nI j2)), (3, .int (nI j3)), (4, .int (x4)), (5, .int (y5)), (6, .int (nI r)), (7, .int (y7)), (8, .int (y8)), (9, .int (y9)), (10, .int (nI k))] → (y8 = 0 ∨ y8 = 1) → (y9 = 0 ∨ y9 = 1) → (σ.1 56 = nI (z1)) → (σ.1 70 = nI (z2)) → (IH σ) → (r ≤ 7) → W p l e { frames := 4, cells := 0, slots := 0, locals := 90 } s m ([.ref (ad 71), .int (nI j1), .int (nI j2), .int (nI j3), .int (x4)] : List Value).toArray below meth c H locs 0 0 (MQ below (sm_Qv D (ty_s ca) L f0 sz (fun u => mq_po ca ad L σ0 [13, 14, 16, 18, 24, 30, 31, 32, 33, 34, 42, 52, 56, 57, 58, 59, 60, 61, 62, 63, 64, 65, 66, 67, 68, 69] (fun σ => (∃ n : Nat, z1 ≤ n ∧ n ≤ z1 + 1 ∧ σ.1 56 = nI n) ∧ IH σ ∧ True) u)) ([.ref (ad 71), .int (nI j1), .int (nI j2), .int (nI j3), .int (x4)] : List Value).toArray s 0 0 (va_A (va_pl L f0) sz)) (F0 m 277 ls []) := by
    intro N
    induction N with
    | zero => intros; omega
    | succ N ih =>
      intro k H locs f σ ls y5 r y7 y8 y9 hN hk hI hM hF hl py8 py9 o90 o91 u90 hrr
      refine lv_iload hx hb d_Mo_command_277 (lv_at hl 10 rfl) ?_
      refine lv_iload hx hb d_Mo_command_279 (lv_at hl 6 rfl) ?_
      refine lv_icmp_ge (tgt := 321) hx hb d_Mo_command_281 (by decide) (fun c_66 => ?_) (fun c_66 => ?_)
      · have k_67 : r ≤ k := (nI_leI (a := r) (b := k) (by omega) (by omega)).mp c_66
        refine lv_iload hx hb d_Mo_command_321 (lv_at hl 8 rfl) ?_
        refine lv_if_eq (tgt := 331) hx hb d_Mo_command_323 (by decide) (fun c_68 => ?_) (fun c_68 => ?_)
        · exact hJ_331 _ _ _ _ _ y5 (nI r) y7 y8 y9 hI hM hF (lv_sub hl [0, 1, 2, 3, 4, 5, 6, 7, 8, 9] rfl) py8 py9 (Eq.trans o90 (congrArg nI (show ((z1) : Nat) = _ by omega))) (Eq.trans o91 (congrArg nI (show ((z2) : Nat) = _ by omega))) u90
        · refine lv_aload_n hx hb d_Mo_command_326 rfl (lv_at hl 0 rfl) ?_
          refine lv_iconst (v := -1) hx hb d_Mo_command_327 (by decide) ?_
          refine mq_puti (k := 65) (ty := .int) hx hb hts hown hI hM (by decide) rfl rfl (hts _ tw_1234) rfl (by decide +kernel) rfl rfl trivial d_Mo_command_328 (fun H locs f σ_69 e_70 hI hM => ?_)
          have hF := mq_fr_ui hF e_70 rfl
          have o_71 : σ_69.1 56 = nI (z1) := by rw [e_70]; exact o90
          have o_72 : σ_69.1 70 = nI (z2) := by rw [e_70]; exact o91
          have u_73 := IH_fr (mq_fr_ui (X := [65]) mq_fr_rf e_70 rfl) (by decide) u90
          exact hJ_331 _ _ _ _ _ y5 (nI r) y7 y8 y9 hI hM hF (lv_sub hl [0, 1, 2, 3, 4, 5, 6, 7, 8, 9] rfl) py8 py9 (Eq.trans o_71 (congrArg nI (show ((z1) : Nat) = _ by omega))) (Eq.trans o_72 (congrArg nI (show ((z2) : Nat) = _ by omega))) u_73
      · have k_74 : k < r := Nat.lt_of_not_le (fun q => c_66 ((nI_leI (a := r) (b := k) (by omega) (by omega)).mpr q))
        refine lv_iload hx hb d_Mo_command_284 (lv_at hl 9 rfl) ?_
        refine lv_if_eq (tgt := 312) hx hb d_Mo_command_286 (by decide) (fun c_75 => ?_) (fun c_75 => ?_)
        · refine lv_iconst (v := 0) hx hb d_Mo_command_312 (by decide) ?_
          refine lv_istore (lv' := [(9, .int (0)), (0, .ref (ad 71)), (1, .int (nI j1)), (2, .int (nI j2)), (3, .int (nI j3)), (4, .int (x4)), (5, .int (y5)), (6, .int (nI r)), (7, .int (y7)), (8, .int (y8)), (10, .int (nI k))]) hx hb d_Mo_command_313 hl (by decide) rfl (fun ls hl => ?_)
          refine lv_iinc (v := nI (k + 1)) (lv' := [(10, .int (nI (k + 1))), (9, .int (0)), (0, .ref (ad 71)), (1, .int (nI j1)), (2, .int (nI j2)), (3, .int (nI j3)), (4, .int (x4)), (5, .int (y5)), (6, .int (nI r)), (7, .int (y7)), (8, .int (y8))]) hx hb d_Mo_command_315 hl (k := 10) rfl (nI_1 _) (by decide) rfl (fun ls hl => ?_)
          refine lv_goto (tgt := 277) hx hb d_Mo_command_318 (by decide) ?_
          exact ih ((k + 1)) _ _ _ _ _ y5 (r) y7 y8 0 (by omega) (by omega) hI hM hF (lv_sub hl [2, 3, 4, 5, 6, 7, 8, 9, 10, 1, 0] rfl) py8 (by decide) (Eq.trans o90 (congrArg nI (show ((z1) : Nat) = _ by omega))) (Eq.trans o91 (congrArg nI (show ((z2) : Nat) = _ by omega))) u90 (by omega)
        · refine lv_aload_n hx hb d_Mo_command_289 rfl (lv_at hl 0 rfl) ?_
          refine mq_get (k := 69) (v := .ref (ad 69)) hx hb hts hown hI hM (by decide) rfl rfl (hts _ tw_1238) d_Mo_command_290 ?_
          refine lv_iload_n hx hb d_Mo_command_293 rfl (lv_at hl 3 rfl) ?_
          refine lv_iload hx hb d_Mo_command_294 (lv_at hl 10 rfl) ?_
          refine lv_iadd hx hb d_Mo_command_296 ?_
          refine lv_topi (fun x_76 e_77 => ?_)
          obtain rfl : x_76 = nI (j3 + k) := by rw [e_77]; exact nI_add _ _
          obtain ⟨x_78, e_79⟩ : ∃ z, σ.2.2.1 69 ((j3 + k)) = z := ⟨_, rfl⟩
          refine mq_iald (k := 69) (j := (j3 + k)) (v := x_78) hx hb hI hM (by decide) rfl (by show (j3 + k) < 260; omega) (by decide) e_79 d_Mo_command_297 ?_
          refine lv_aload_n hx hb d_Mo_command_298 rfl (lv_at hl 0 rfl) ?_
          refine mq_get (k := 68) (v := .ref (ad 68)) hx hb hts hown hI hM (by decide) rfl rfl (hts _ tw_1237) d_Mo_command_299 ?_
          refine lv_iload hx hb d_Mo_command_302 (lv_at hl 10 rfl) ?_
          obtain ⟨x_80, e_81⟩ : ∃ z, σ.2.2.1 68 (k) = z := ⟨_, rfl⟩
          refine mq_iald (k := 68) (j := k) (v := x_80) hx hb hI hM (by decide) rfl (by show k < 8; omega) (by decide) e_81 d_Mo_command_304 ?_
          refine lv_icmp_ne (tgt := 312) hx hb d_Mo_command_305 (by decide) (fun c_82 => ?_) (fun c_82 => ?_)
          · refine lv_iconst (v := 0) hx hb d_Mo_command_312 (by decide) ?_
            refine lv_istore (lv' := [(9, .int (0)), (0, .ref (ad 71)), (1, .int (nI j1)), (2, .int (nI j2)), (3, .int (nI j3)), (4, .int (x4)), (5, .int (y5)), (6, .int (nI r)), (7, .int (y7)), (8, .int (y8)), (10, .int (nI k))]) hx hb d_Mo_command_313 hl (by decide) rfl (fun ls hl => ?_)
            refine lv_iinc (v := nI (k + 1)) (lv' := [(10, .int (nI (k + 1))), (9, .int (0)), (0, .ref (ad 71)), (1, .int (nI j1)), (2, .int (nI j2)), (3, .int (nI j3)), (4, .int (x4)), (5, .int (y5)), (6, .int (nI r)), (7, .int (y7)), (8, .int (y8))]) hx hb d_Mo_command_315 hl (k := 10) rfl (nI_1 _) (by decide) rfl (fun ls hl => ?_)
            refine lv_goto (tgt := 277) hx hb d_Mo_command_318 (by decide) ?_
            exact ih ((k + 1)) _ _ _ _ _ y5 (r) y7 y8 0 (by omega) (by omega) hI hM hF (lv_sub hl [2, 3, 4, 5, 6, 7, 8, 9, 10, 1, 0] rfl) py8 (by decide) (Eq.trans o90 (congrArg nI (show ((z1) : Nat) = _ by omega))) (Eq.trans o91 (congrArg nI (show ((z2) : Nat) = _ by omega))) u90 (by omega)
          · refine lv_iconst (v := 1) hx hb d_Mo_command_308 (by decide) ?_
            refine lv_goto (tgt := 313) hx hb d_Mo_command_309 (by decide) ?_
            refine lv_istore (lv' := [(9, .int (1)), (0, .ref (ad 71)), (1, .int (nI j1)), (2, .int (nI j2)), (3, .int (nI j3)), (4, .int (x4)), (5, .int (y5)), (6, .int (nI r)), (7, .int (y7)), (8, .int (y8)), (10, .int (nI k))]) hx hb d_Mo_command_313 hl (by decide) rfl (fun ls hl => ?_)
            refine lv_iinc (v := nI (k + 1)) (lv' := [(10, .int (nI (k + 1))), (9, .int (1)), (0, .ref (ad 71)), (1, .int (nI j1)), (2, .int (nI j2)), (3, .int (nI j3)), (4, .int (x4)), (5, .int (y5)), (6, .int (nI r)), (7, .int (y7)), (8, .int (y8))]) hx hb d_Mo_command_315 hl (k := 10) rfl (nI_1 _) (by decide) rfl (fun ls hl => ?_)
            refine lv_goto (tgt := 277) hx hb d_Mo_command_318 (by decide) ?_
            exact ih ((k + 1)) _ _ _ _ _ y5 (r) y7 y8 1 (by omega) (by omega) hI hM hF (lv_sub hl [2, 3, 4, 5, 6, 7, 8, 9, 10, 1, 0] rfl) py8 (by decide) (Eq.trans o90 (congrArg nI (show ((z1) : Nat) = _ by omega))) (Eq.trans o91 (congrArg nI (show ((z2) : Nat) = _ by omega))) u90 (by omega)
  have hJ_272 : ∀ (H : Heap) (locs : List Loc) (f : Nat → va_E) (σ : mq_S) (ls : Array Slot) (y5 : Int32) (r : Nat) (y7 : Int32) (y8 : Int32) (y9 : Int32) (z0 : Int32), sw_I D cl_all (ty_s ca) (va_A (va_pl L f0) sz) s H locs L f → mq_B ca ad σ L f → mq_fr [13, 14, 16, 18, 24, 30, 31, 32, 33, 34, 42, 52, 56, 57, 58, 59, 60, 61, 62, 63, 64, 65, 66, 67, 68, 69] σ0 σ → lv_has ls 12 [(0, .ref (ad 71)), (1, .int (nI j1)), (2, .int (nI j2)), (3, .int (nI j3)), (4, .int (x4)), (5, .int (y5)), (6, .int (nI r)), (7, .int (y7)), (8, .int (y8)), (9, .int (y9))] → (y8 = 0 ∨ y8 = 1) → (y9 = 0 ∨ y9 = 1) → (z0 = 0 ∨ z0 = 1) → (σ.1 56 = nI (z1)) → (σ.1 70 = nI (z2)) → (IH σ) → (r ≤ 7) → W p l e { frames := 4, cells := 0, slots := 0, locals := 90 } s m ([.ref (ad 71), .int (nI j1), .int (nI j2), .int (nI j3), .int (x4)] : List Value).toArray below meth c H locs 0 0 (MQ below (sm_Qv D (ty_s ca) L f0 sz (fun u => mq_po ca ad L σ0 [13, 14, 16, 18, 24, 30, 31, 32, 33, 34, 42, 52, 56, 57, 58, 59, 60, 61, 62, 63, 64, 65, 66, 67, 68, 69] (fun σ => (∃ n : Nat, z1 ≤ n ∧ n ≤ z1 + 1 ∧ σ.1 56 = nI n) ∧ IH σ ∧ True) u)) ([.ref (ad 71), .int (nI j1), .int (nI j2), .int (nI j3), .int (x4)] : List Value).toArray s 0 0 (va_A (va_pl L f0) sz)) (F0 m 272 ls [.int (z0)]) := by
    intro H locs f σ ls y5 r y7 y8 y9 z0 hI hM hF hl py8 py9 pz0 o90 o91 u90 hrr
    refine lv_istore (lv' := [(9, .int (z0)), (0, .ref (ad 71)), (1, .int (nI j1)), (2, .int (nI j2)), (3, .int (nI j3)), (4, .int (x4)), (5, .int (y5)), (6, .int (nI r)), (7, .int (y7)), (8, .int (y8))]) hx hb d_Mo_command_272 hl (by decide) rfl (fun ls hl => ?_)
    refine lv_iconst (v := 0) hx hb d_Mo_command_274 (by decide) ?_
    refine lv_istore (lv' := [(10, .int (0)), (9, .int (z0)), (0, .ref (ad 71)), (1, .int (nI j1)), (2, .int (nI j2)), (3, .int (nI j3)), (4, .int (x4)), (5, .int (y5)), (6, .int (nI r)), (7, .int (y7)), (8, .int (y8))]) hx hb d_Mo_command_275 hl (by decide) rfl (fun ls hl => ?_)
    exact hJ_277 _ (0) _ _ _ _ _ y5 (r) y7 y8 z0 (Nat.le_refl _) (by omega) hI hM hF (lv_sub hl [2, 3, 4, 5, 6, 7, 8, 9, 10, 1, 0] rfl) py8 pz0 (Eq.trans o90 (congrArg nI (show ((z1) : Nat) = _ by omega))) (Eq.trans o91 (congrArg nI (show ((z2) : Nat) = _ by omega))) u90 (by omega)
  have hJ_230 : ∀ (H : Heap) (locs : List Loc) (f : Nat → va_E) (σ : mq_S) (ls : Array Slot) (y5 : Int32) (y6 : Int32) (y7 : Int32) (y8 : Int32) (y9 : Int32), sw_I D cl_all (ty_s ca) (va_A (va_pl L f0) sz) s H locs L f → mq_B ca ad σ L f → mq_fr [13, 14, 16, 18, 24, 30, 31, 32, 33, 34, 42, 52, 56, 57, 58, 59, 60, 61, 62, 63, 64, 65, 66, 67, 68, 69] σ0 σ → lv_has ls 12 [(0, .ref (ad 71)), (1, .int (nI j1)), (2, .int (nI j2)), (3, .int (nI j3)), (4, .int (x4)), (5, .int (y5)), (6, .int (y6)), (7, .int (y7)), (8, .int (y8)), (9, .int (y9))] → (y8 = 0 ∨ y8 = 1) → (y9 = 0 ∨ y9 = 1) → (σ.1 56 = nI (z1)) → (σ.1 70 = nI (z2)) → (IH σ) → W p l e { frames := 4, cells := 0, slots := 0, locals := 90 } s m ([.ref (ad 71), .int (nI j1), .int (nI j2), .int (nI j3), .int (x4)] : List Value).toArray below meth c H locs 0 0 (MQ below (sm_Qv D (ty_s ca) L f0 sz (fun u => mq_po ca ad L σ0 [13, 14, 16, 18, 24, 30, 31, 32, 33, 34, 42, 52, 56, 57, 58, 59, 60, 61, 62, 63, 64, 65, 66, 67, 68, 69] (fun σ => (∃ n : Nat, z1 ≤ n ∧ n ≤ z1 + 1 ∧ σ.1 56 = nI n) ∧ IH σ ∧ True) u)) ([.ref (ad 71), .int (nI j1), .int (nI j2), .int (nI j3), .int (x4)] : List Value).toArray s 0 0 (va_A (va_pl L f0) sz)) (F0 m 230 ls []) := by
    intro H locs f σ ls y5 y6 y7 y8 y9 hI hM hF hl py8 py9 o90 o91 u90
    refine lv_aload_n hx hb d_Mo_command_230 rfl (lv_at hl 0 rfl) ?_
    refine lv_iload_n hx hb d_Mo_command_231 rfl (lv_at hl 1 rfl) ?_
    refine lv_bipush (v := 7) hx hb d_Mo_command_232 (by decide) ?_
    refine lv_iload hx hb d_Mo_command_234 (lv_at hl 9 rfl) ?_
    refine lv_if_ne (tgt := 243) hx hb d_Mo_command_236 (by decide) (fun c_83 => ?_) (fun c_83 => ?_)
    · refine lv_iconst (v := 0) hx hb d_Mo_command_243 (by decide) ?_
      refine sm_vM hI (va_runV (As := [.int (nI j1), .int (7), .int (0)]) (rest := []) ⟨hx, hb, hml, hown, hts⟩ (c_Mo_comes l D ca ad L _ _ _ hM (j1) (by omega) 7 0 (by decide) u90) (kv_Mo_comes hts rfl rfl (hts _ tw_1611) ⟨Nat.le_of_ble_eq_true rfl, Nat.le_of_ble_eq_true rfl⟩) (pv_Mo hI hE hM) rfl rfl hl.1 rfl (lv_room (Nat.le_of_ble_eq_true rfl)) d_Mo_command_244 ⟨Nat.le_of_ble_eq_true rfl, Nat.le_of_ble_eq_true rfl⟩) (fun H locs f σ_85 hI hM hF_86 p_84 => ?_)
      have hF := mq_fr_tr hF hF_86 (by decide)
      have o_87 : σ_85.1 56 = nI (z1) := mq_fi hF_86 (by decide) o90
      have o_88 : σ_85.1 70 = nI (z2) := mq_fi hF_86 (by decide) o91
      obtain ⟨u_89, -⟩ := p_84
      exact sm_vret hx hb hr hlk hI ⟨σ_85, rfl, hM, hF, ⟨⟨(z1), by omega, by omega, o_87⟩, u_89, trivial⟩⟩ d_Mo_command_247
    · refine lv_iconst (v := 1) hx hb d_Mo_command_239 (by decide) ?_
      refine lv_goto (tgt := 244) hx hb d_Mo_command_240 (by decide) ?_
      refine sm_vM hI (va_runV (As := [.int (nI j1), .int (7), .int (1)]) (rest := []) ⟨hx, hb, hml, hown, hts⟩ (c_Mo_comes l D ca ad L _ _ _ hM (j1) (by omega) 7 1 (by decide) u90) (kv_Mo_comes hts rfl rfl (hts _ tw_1611) ⟨Nat.le_of_ble_eq_true rfl, Nat.le_of_ble_eq_true rfl⟩) (pv_Mo hI hE hM) rfl rfl hl.1 rfl (lv_room (Nat.le_of_ble_eq_true rfl)) d_Mo_command_244 ⟨Nat.le_of_ble_eq_true rfl, Nat.le_of_ble_eq_true rfl⟩) (fun H locs f σ_91 hI hM hF_92 p_90 => ?_)
      have hF := mq_fr_tr hF hF_92 (by decide)
      have o_93 : σ_91.1 56 = nI (z1) := mq_fi hF_92 (by decide) o90
      have o_94 : σ_91.1 70 = nI (z2) := mq_fi hF_92 (by decide) o91
      obtain ⟨u_95, -⟩ := p_90
      exact sm_vret hx hb hr hlk hI ⟨σ_91, rfl, hM, hF, ⟨⟨(z1), by omega, by omega, o_93⟩, u_95, trivial⟩⟩ d_Mo_command_247
  have hJ_183 : ∀ (N k : Nat) (H : Heap) (locs : List Loc) (f : Nat → va_E) (σ : mq_S) (ls : Array Slot) (y5 : Int32) (r : Nat) (y7 : Int32) (y8 : Int32) (y9 : Int32), 7 + 1 - k ≤ N → k ≤ 7 → sw_I D cl_all (ty_s ca) (va_A (va_pl L f0) sz) s H locs L f → mq_B ca ad σ L f → mq_fr [13, 14, 16, 18, 24, 30, 31, 32, 33, 34, 42, 52, 56, 57, 58, 59, 60, 61, 62, 63, 64, 65, 66, 67, 68, 69] σ0 σ → lv_has ls 12 [(0, .ref (ad 71)), (1, .int (nI j1)), (2, .int (nI j2)), (3, .int (nI j3)), (4, .int (x4)), (5, .int (y5)), (6, .int (nI r)), (7, .int (y7)), (8, .int (y8)), (9, .int (y9)), (10, .int (nI k))] → (y8 = 0 ∨ y8 = 1) → (y9 = 0 ∨ y9 = 1) → (σ.1 56 = nI (z1)) → (σ.1 70 = nI (z2)) → (IH σ) → (r ≤ 7) → W p l e { frames := 4, cells := 0, slots := 0, locals := 90 } s m ([.ref (ad 71), .int (nI j1), .int (nI j2), .int (nI j3), .int (x4)] : List Value).toArray below meth c H locs 0 0 (MQ below (sm_Qv D (ty_s ca) L f0 sz (fun u => mq_po ca ad L σ0 [13, 14, 16, 18, 24, 30, 31, 32, 33, 34, 42, 52, 56, 57, 58, 59, 60, 61, 62, 63, 64, 65, 66, 67, 68, 69] (fun σ => (∃ n : Nat, z1 ≤ n ∧ n ≤ z1 + 1 ∧ σ.1 56 = nI n) ∧ IH σ ∧ True) u)) ([.ref (ad 71), .int (nI j1), .int (nI j2), .int (nI j3), .int (x4)] : List Value).toArray s 0 0 (va_A (va_pl L f0) sz)) (F0 m 183 ls []) := by
    intro N
    induction N with
    | zero => intros; omega
    | succ N ih =>
      intro k H locs f σ ls y5 r y7 y8 y9 hN hk hI hM hF hl py8 py9 o90 o91 u90 hrr
      refine lv_iload hx hb d_Mo_command_183 (lv_at hl 10 rfl) ?_
      refine lv_iload hx hb d_Mo_command_185 (lv_at hl 6 rfl) ?_
      refine lv_icmp_ge (tgt := 230) hx hb d_Mo_command_187 (by decide) (fun c_96 => ?_) (fun c_96 => ?_)
      · have k_97 : r ≤ k := (nI_leI (a := r) (b := k) (by omega) (by omega)).mp c_96
        exact hJ_230 _ _ _ _ _ y5 (nI r) y7 y8 y9 hI hM hF (lv_sub hl [0, 1, 2, 3, 4, 5, 6, 7, 8, 9] rfl) py8 py9 (Eq.trans o90 (congrArg nI (show ((z1) : Nat) = _ by omega))) (Eq.trans o91 (congrArg nI (show ((z2) : Nat) = _ by omega))) u90
      · have k_98 : k < r := Nat.lt_of_not_le (fun q => c_96 ((nI_leI (a := r) (b := k) (by omega) (by omega)).mpr q))
        refine lv_aload_n hx hb d_Mo_command_190 rfl (lv_at hl 0 rfl) ?_
        refine mq_get (k := 68) (v := .ref (ad 68)) hx hb hts hown hI hM (by decide) rfl rfl (hts _ tw_1237) d_Mo_command_191 ?_
        refine lv_iload hx hb d_Mo_command_194 (lv_at hl 10 rfl) ?_
        refine lv_aload_n hx hb d_Mo_command_196 rfl (lv_at hl 0 rfl) ?_
        refine mq_get (k := 69) (v := .ref (ad 69)) hx hb hts hown hI hM (by decide) rfl rfl (hts _ tw_1238) d_Mo_command_197 ?_
        refine lv_iload_n hx hb d_Mo_command_200 rfl (lv_at hl 3 rfl) ?_
        refine lv_iload hx hb d_Mo_command_201 (lv_at hl 10 rfl) ?_
        refine lv_iadd hx hb d_Mo_command_203 ?_
        refine lv_topi (fun x_99 e_100 => ?_)
        obtain rfl : x_99 = nI (j3 + k) := by rw [e_100]; exact nI_add _ _
        obtain ⟨x_101, e_102⟩ : ∃ z, σ.2.2.1 69 ((j3 + k)) = z := ⟨_, rfl⟩
        refine mq_iald (k := 69) (j := (j3 + k)) (v := x_101) hx hb hI hM (by decide) rfl (by show (j3 + k) < 260; omega) (by decide) e_102 d_Mo_command_204 ?_
        refine lv_iload hx hb d_Mo_command_205 (lv_at hl 10 rfl) ?_
        refine lv_iload hx hb d_Mo_command_207 (lv_at hl 6 rfl) ?_
        refine lv_iconst (v := 1) hx hb d_Mo_command_209 (by decide) ?_
        refine lv_isub hx hb d_Mo_command_210 ?_
        refine lv_topi (fun x_103 e_104 => ?_)
        refine lv_icmp_ne (tgt := 219) hx hb d_Mo_command_211 (by decide) (fun c_105 => ?_) (fun c_105 => ?_)
        · refine lv_sipush (v := 255) hx hb d_Mo_command_219 (by decide) ?_
          refine lv_iand hx hb d_Mo_command_222 ?_
          refine lv_topi (fun x_106 e_107 => ?_)
          refine mq_iast (k := 68) (j := k) (x := x_106) hx hb hI hM (by decide) rfl (by show k < 8; omega) (by decide) trivial d_Mo_command_223 (fun H locs f σ_108 e_109 hI hM => ?_)
          have hF := mq_fr_ug hF e_109 rfl (Or.inl rfl)
          have o_110 : σ_108.1 56 = nI (z1) := by rw [e_109]; exact o90
          have o_111 : σ_108.1 70 = nI (z2) := by rw [e_109]; exact o91
          have u_112 := IH_fr (mq_fr_ug (X := [68]) mq_fr_rf e_109 rfl (Or.inl rfl)) (by decide) u90
          refine lv_iinc (v := nI (k + 1)) (lv' := [(10, .int (nI (k + 1))), (0, .ref (ad 71)), (1, .int (nI j1)), (2, .int (nI j2)), (3, .int (nI j3)), (4, .int (x4)), (5, .int (y5)), (6, .int (nI r)), (7, .int (y7)), (8, .int (y8)), (9, .int (y9))]) hx hb d_Mo_command_224 hl (k := 10) rfl (nI_1 _) (by decide) rfl (fun ls hl => ?_)
          refine lv_goto (tgt := 183) hx hb d_Mo_command_227 (by decide) ?_
          exact ih ((k + 1)) _ _ _ _ _ y5 (r) y7 y8 y9 (by omega) (by omega) hI hM hF (lv_sub hl [1, 2, 3, 4, 5, 6, 7, 8, 9, 10, 0] rfl) py8 py9 (Eq.trans o_110 (congrArg nI (show ((z1) : Nat) = _ by omega))) (Eq.trans o_111 (congrArg nI (show ((z2) : Nat) = _ by omega))) u_112 (by omega)
        · refine lv_bipush (v := 127) hx hb d_Mo_command_214 (by decide) ?_
          refine lv_goto (tgt := 222) hx hb d_Mo_command_216 (by decide) ?_
          refine lv_iand hx hb d_Mo_command_222 ?_
          refine lv_topi (fun x_113 e_114 => ?_)
          refine mq_iast (k := 68) (j := k) (x := x_113) hx hb hI hM (by decide) rfl (by show k < 8; omega) (by decide) trivial d_Mo_command_223 (fun H locs f σ_115 e_116 hI hM => ?_)
          have hF := mq_fr_ug hF e_116 rfl (Or.inl rfl)
          have o_117 : σ_115.1 56 = nI (z1) := by rw [e_116]; exact o90
          have o_118 : σ_115.1 70 = nI (z2) := by rw [e_116]; exact o91
          have u_119 := IH_fr (mq_fr_ug (X := [68]) mq_fr_rf e_116 rfl (Or.inl rfl)) (by decide) u90
          refine lv_iinc (v := nI (k + 1)) (lv' := [(10, .int (nI (k + 1))), (0, .ref (ad 71)), (1, .int (nI j1)), (2, .int (nI j2)), (3, .int (nI j3)), (4, .int (x4)), (5, .int (y5)), (6, .int (nI r)), (7, .int (y7)), (8, .int (y8)), (9, .int (y9))]) hx hb d_Mo_command_224 hl (k := 10) rfl (nI_1 _) (by decide) rfl (fun ls hl => ?_)
          refine lv_goto (tgt := 183) hx hb d_Mo_command_227 (by decide) ?_
          exact ih ((k + 1)) _ _ _ _ _ y5 (r) y7 y8 y9 (by omega) (by omega) hI hM hF (lv_sub hl [1, 2, 3, 4, 5, 6, 7, 8, 9, 10, 0] rfl) py8 py9 (Eq.trans o_117 (congrArg nI (show ((z1) : Nat) = _ by omega))) (Eq.trans o_118 (congrArg nI (show ((z2) : Nat) = _ by omega))) u_119 (by omega)
  have hJ_155 : ∀ (H : Heap) (locs : List Loc) (f : Nat → va_E) (σ : mq_S) (ls : Array Slot) (y5 : Int32) (r : Nat) (y7 : Int32) (y8 : Int32) (y9 : Int32) (z0 : Int32), sw_I D cl_all (ty_s ca) (va_A (va_pl L f0) sz) s H locs L f → mq_B ca ad σ L f → mq_fr [13, 14, 16, 18, 24, 30, 31, 32, 33, 34, 42, 52, 56, 57, 58, 59, 60, 61, 62, 63, 64, 65, 66, 67, 68, 69] σ0 σ → lv_has ls 12 [(0, .ref (ad 71)), (1, .int (nI j1)), (2, .int (nI j2)), (3, .int (nI j3)), (4, .int (x4)), (5, .int (y5)), (6, .int (nI r)), (7, .int (y7)), (8, .int (y8)), (9, .int (y9))] → (y8 = 0 ∨ y8 = 1) → (y9 = 0 ∨ y9 = 1) → (z0 = 0 ∨ z0 = 1) → (σ.1 56 = nI (z1)) → (σ.1 70 = nI (z2)) → (IH σ) → (r ≤ 7) → W p l e { frames := 4, cells := 0, slots := 0, locals := 90 } s m ([.ref (ad 71), .int (nI j1), .int (nI j2), .int (nI j3), .int (x4)] : List Value).toArray below meth c H locs 0 0 (MQ below (sm_Qv D (ty_s ca) L f0 sz (fun u => mq_po ca ad L σ0 [13, 14, 16, 18, 24, 30, 31, 32, 33, 34, 42, 52, 56, 57, 58, 59, 60, 61, 62, 63, 64, 65, 66, 67, 68, 69] (fun σ => (∃ n : Nat, z1 ≤ n ∧ n ≤ z1 + 1 ∧ σ.1 56 = nI n) ∧ IH σ ∧ True) u)) ([.ref (ad 71), .int (nI j1), .int (nI j2), .int (nI j3), .int (x4)] : List Value).toArray s 0 0 (va_A (va_pl L f0) sz)) (F0 m 155 ls [.int (z0)]) := by
    intro H locs f σ ls y5 r y7 y8 y9 z0 hI hM hF hl py8 py9 pz0 o90 o91 u90 hrr
    refine lv_istore (lv' := [(9, .int (z0)), (0, .ref (ad 71)), (1, .int (nI j1)), (2, .int (nI j2)), (3, .int (nI j3)), (4, .int (x4)), (5, .int (y5)), (6, .int (nI r)), (7, .int (y7)), (8, .int (y8))]) hx hb d_Mo_command_155 hl (by decide) rfl (fun ls hl => ?_)
    refine lv_iload hx hb d_Mo_command_157 (lv_at hl 0 rfl) ?_
    refine lv_if_eq (tgt := 230) hx hb d_Mo_command_159 (by decide) (fun c_120 => ?_) (fun c_120 => ?_)
    · exact hJ_230 _ _ _ _ _ y5 (nI r) y7 y8 z0 hI hM hF (lv_sub hl [1, 2, 3, 4, 5, 6, 7, 8, 9, 0] rfl) py8 pz0 (Eq.trans o90 (congrArg nI (show ((z1) : Nat) = _ by omega))) (Eq.trans o91 (congrArg nI (show ((z2) : Nat) = _ by omega))) u90
    · refine lv_aload_n hx hb d_Mo_command_162 rfl (lv_at hl 1 rfl) ?_
      refine lv_iload_n hx hb d_Mo_command_163 rfl (lv_at hl 3 rfl) ?_
      refine mq_puti (k := 65) (ty := .int) hx hb hts hown hI hM (by decide) rfl rfl (hts _ tw_1234) rfl (by decide +kernel) rfl rfl trivial d_Mo_command_164 (fun H locs f σ_121 e_122 hI hM => ?_)
      have hF := mq_fr_ui hF e_122 rfl
      have o_123 : σ_121.1 56 = nI (z1) := by rw [e_122]; exact o90
      have o_124 : σ_121.1 70 = nI (z2) := by rw [e_122]; exact o91
      have u_125 := IH_fr (mq_fr_ui (X := [65]) mq_fr_rf e_122 rfl) (by decide) u90
      refine lv_aload_n hx hb d_Mo_command_167 rfl (lv_at hl 1 rfl) ?_
      refine lv_iload_n hx hb d_Mo_command_168 rfl (lv_at hl 2 rfl) ?_
      refine mq_puti (k := 66) (ty := .int) hx hb hts hown hI hM (by decide) rfl rfl (hts _ tw_1235) rfl (by decide +kernel) rfl rfl trivial d_Mo_command_169 (fun H locs f σ_126 e_127 hI hM => ?_)
      have hF := mq_fr_ui hF e_127 rfl
      have o_128 : σ_126.1 56 = nI (z1) := by rw [e_127]; exact o_123
      have o_129 : σ_126.1 70 = nI (z2) := by rw [e_127]; exact o_124
      have u_130 := IH_fr (mq_fr_ui (X := [66]) mq_fr_rf e_127 rfl) (by decide) u_125
      refine lv_aload_n hx hb d_Mo_command_172 rfl (lv_at hl 1 rfl) ?_
      refine lv_aload_n hx hb d_Mo_command_173 rfl (lv_at hl 1 rfl) ?_
      refine mq_get (k := 12) (v := .long (σ_126.2.1 12)) hx hb hts hown hI hM (by decide) rfl rfl (hts _ tw_1181) d_Mo_command_174 ?_
      refine lv_topl (fun x_131 e_132 => ?_)
      refine mq_putj (k := 67) hx hb hts hown hI hM (by decide) rfl rfl (hts _ tw_1236) rfl (by decide +kernel) d_Mo_command_177 (fun H locs f σ_133 e_134 hI hM => ?_)
      have hF := mq_fr_uj hF e_134 rfl
      have o_135 : σ_133.1 56 = nI (z1) := by rw [e_134]; exact o_128
      have o_136 : σ_133.1 70 = nI (z2) := by rw [e_134]; exact o_129
      have u_137 := IH_fr (mq_fr_uj (X := [67]) mq_fr_rf e_134 rfl) (by decide) u_130
      refine lv_iconst (v := 0) hx hb d_Mo_command_180 (by decide) ?_
      refine lv_istore (lv' := [(10, .int (0)), (9, .int (z0)), (0, .ref (ad 71)), (1, .int (nI j1)), (2, .int (nI j2)), (3, .int (nI j3)), (4, .int (x4)), (5, .int (y5)), (6, .int (nI r)), (7, .int (y7)), (8, .int (y8))]) hx hb d_Mo_command_181 hl (by decide) rfl (fun ls hl => ?_)
      exact hJ_183 _ (0) _ _ _ _ _ y5 (r) y7 y8 z0 (Nat.le_refl _) (by omega) hI hM hF (lv_sub hl [2, 3, 4, 5, 6, 7, 8, 9, 10, 1, 0] rfl) py8 pz0 (Eq.trans o_135 (congrArg nI (show ((z1) : Nat) = _ by omega))) (Eq.trans o_136 (congrArg nI (show ((z2) : Nat) = _ by omega))) u_137 (by omega)
  have hJ_120 : ∀ (H : Heap) (locs : List Loc) (f : Nat → va_E) (σ : mq_S) (ls : Array Slot) (y5 : Int32) (r : Nat) (y7 : Int32) (y8 : Int32) (z0 : Int32), sw_I D cl_all (ty_s ca) (va_A (va_pl L f0) sz) s H locs L f → mq_B ca ad σ L f → mq_fr [13, 14, 16, 18, 24, 30, 31, 32, 33, 34, 42, 52, 56, 57, 58, 59, 60, 61, 62, 63, 64, 65, 66, 67, 68, 69] σ0 σ → lv_has ls 12 [(0, .ref (ad 71)), (1, .int (nI j1)), (2, .int (nI j2)), (3, .int (nI j3)), (4, .int (x4)), (5, .int (y5)), (6, .int (nI r)), (7, .int (y7)), (8, .int (y8))] → (y8 = 0 ∨ y8 = 1) → (z0 = 0 ∨ z0 = 1) → (σ.1 56 = nI (z1)) → (σ.1 70 = nI (z2)) → (IH σ) → (r ≤ 7) → W p l e { frames := 4, cells := 0, slots := 0, locals := 90 } s m ([.ref (ad 71), .int (nI j1), .int (nI j2), .int (nI j3), .int (x4)] : List Value).toArray below meth c H locs 0 0 (MQ below (sm_Qv D (ty_s ca) L f0 sz (fun u => mq_po ca ad L σ0 [13, 14, 16, 18, 24, 30, 31, 32, 33, 34, 42, 52, 56, 57, 58, 59, 60, 61, 62, 63, 64, 65, 66, 67, 68, 69] (fun σ => (∃ n : Nat, z1 ≤ n ∧ n ≤ z1 + 1 ∧ σ.1 56 = nI n) ∧ IH σ ∧ True) u)) ([.ref (ad 71), .int (nI j1), .int (nI j2), .int (nI j3), .int (x4)] : List Value).toArray s 0 0 (va_A (va_pl L f0) sz)) (F0 m 120 ls [.int (z0)]) := by
    intro H locs f σ ls y5 r y7 y8 z0 hI hM hF hl py8 pz0 o90 o91 u90 hrr
    refine lv_istore (lv' := [(9, .int (z0)), (0, .ref (ad 71)), (1, .int (nI j1)), (2, .int (nI j2)), (3, .int (nI j3)), (4, .int (x4)), (5, .int (y5)), (6, .int (nI r)), (7, .int (y7)), (8, .int (y8))]) hx hb d_Mo_command_120 hl (by decide) rfl (fun ls hl => ?_)
    refine lv_iload hx hb d_Mo_command_122 (lv_at hl 8 rfl) ?_
    refine lv_bipush (v := 127) hx hb d_Mo_command_124 (by decide) ?_
    refine lv_icmp_le (tgt := 248) hx hb d_Mo_command_126 (by decide) (fun c_138 => ?_) (fun c_138 => ?_)
    · refine lv_aload_n hx hb d_Mo_command_248 rfl (lv_at hl 1 rfl) ?_
      refine mq_get (k := 6) (v := .ref (ad 6)) hx hb hts hown hI hM (by decide) rfl rfl (hts _ tw_1175) d_Mo_command_249 ?_
      refine lv_iload_n hx hb d_Mo_command_252 rfl (lv_at hl 3 rfl) ?_
      obtain ⟨n_139, h_140, h_141, e_142⟩ := hM.2.2.2.2.2 6 (j2)
      have p_143 : nI n_139 = 0 ∨ nI n_139 = 1 := mq_zok ⟨n_139, h_140, h_141, rfl⟩
      refine mq_zald (k := 6) (j := j2) (v := nI n_139) hx hb hI hM (by decide) rfl (by show j2 < 32; omega) (by decide) e_142 d_Mo_command_253 ?_
      refine lv_if_eq (tgt := 331) hx hb d_Mo_command_254 (by decide) (fun c_144 => ?_) (fun c_144 => ?_)
      · exact hJ_331 _ _ _ _ _ y5 (nI r) y7 y8 z0 hI hM hF (lv_sub hl [1, 2, 3, 4, 5, 6, 7, 8, 9, 0] rfl) py8 pz0 (Eq.trans o90 (congrArg nI (show ((z1) : Nat) = _ by omega))) (Eq.trans o91 (congrArg nI (show ((z2) : Nat) = _ by omega))) u90
      · refine lv_iload hx hb d_Mo_command_257 (lv_at hl 0 rfl) ?_
        refine lv_if_eq (tgt := 271) hx hb d_Mo_command_259 (by decide) (fun c_145 => ?_) (fun c_145 => ?_)
        · refine lv_iconst (v := 0) hx hb d_Mo_command_271 (by decide) ?_
          exact hJ_272 _ _ _ _ _ y5 (r) y7 y8 z0 0 hI hM hF (lv_sub hl [1, 2, 3, 4, 5, 6, 7, 8, 9, 0] rfl) py8 pz0 (by decide) (Eq.trans o90 (congrArg nI (show ((z1) : Nat) = _ by omega))) (Eq.trans o91 (congrArg nI (show ((z2) : Nat) = _ by omega))) u90 (by omega)
        · refine lv_iload hx hb d_Mo_command_262 (lv_at hl 9 rfl) ?_
          refine lv_if_eq (tgt := 271) hx hb d_Mo_command_264 (by decide) (fun c_146 => ?_) (fun c_146 => ?_)
          · refine lv_iconst (v := 0) hx hb d_Mo_command_271 (by decide) ?_
            exact hJ_272 _ _ _ _ _ y5 (r) y7 y8 z0 0 hI hM hF (lv_sub hl [1, 2, 3, 4, 5, 6, 7, 8, 9, 0] rfl) py8 pz0 (by decide) (Eq.trans o90 (congrArg nI (show ((z1) : Nat) = _ by omega))) (Eq.trans o91 (congrArg nI (show ((z2) : Nat) = _ by omega))) u90 (by omega)
          · refine lv_iconst (v := 1) hx hb d_Mo_command_267 (by decide) ?_
            refine lv_goto (tgt := 272) hx hb d_Mo_command_268 (by decide) ?_
            exact hJ_272 _ _ _ _ _ y5 (r) y7 y8 z0 1 hI hM hF (lv_sub hl [1, 2, 3, 4, 5, 6, 7, 8, 9, 0] rfl) py8 pz0 (by decide) (Eq.trans o90 (congrArg nI (show ((z1) : Nat) = _ by omega))) (Eq.trans o91 (congrArg nI (show ((z2) : Nat) = _ by omega))) u90 (by omega)
    · refine lv_iload hx hb d_Mo_command_129 (lv_at hl 0 rfl) ?_
      refine lv_if_eq (tgt := 154) hx hb d_Mo_command_131 (by decide) (fun c_147 => ?_) (fun c_147 => ?_)
      · refine lv_iconst (v := 0) hx hb d_Mo_command_154 (by decide) ?_
        exact hJ_155 _ _ _ _ _ y5 (r) y7 y8 z0 0 hI hM hF (lv_sub hl [1, 2, 3, 4, 5, 6, 7, 8, 9, 0] rfl) py8 pz0 (by decide) (Eq.trans o90 (congrArg nI (show ((z1) : Nat) = _ by omega))) (Eq.trans o91 (congrArg nI (show ((z2) : Nat) = _ by omega))) u90 (by omega)
      · refine lv_aload_n hx hb d_Mo_command_134 rfl (lv_at hl 1 rfl) ?_
        refine mq_get (k := 6) (v := .ref (ad 6)) hx hb hts hown hI hM (by decide) rfl rfl (hts _ tw_1175) d_Mo_command_135 ?_
        refine lv_iload_n hx hb d_Mo_command_138 rfl (lv_at hl 3 rfl) ?_
        obtain ⟨n_148, h_149, h_150, e_151⟩ := hM.2.2.2.2.2 6 (j2)
        have p_152 : nI n_148 = 0 ∨ nI n_148 = 1 := mq_zok ⟨n_148, h_149, h_150, rfl⟩
        refine mq_zald (k := 6) (j := j2) (v := nI n_148) hx hb hI hM (by decide) rfl (by show j2 < 32; omega) (by decide) e_151 d_Mo_command_139 ?_
        refine lv_if_eq (tgt := 154) hx hb d_Mo_command_140 (by decide) (fun c_153 => ?_) (fun c_153 => ?_)
        · refine lv_iconst (v := 0) hx hb d_Mo_command_154 (by decide) ?_
          exact hJ_155 _ _ _ _ _ y5 (r) y7 y8 z0 0 hI hM hF (lv_sub hl [1, 2, 3, 4, 5, 6, 7, 8, 9, 0] rfl) py8 pz0 (by decide) (Eq.trans o90 (congrArg nI (show ((z1) : Nat) = _ by omega))) (Eq.trans o91 (congrArg nI (show ((z2) : Nat) = _ by omega))) u90 (by omega)
        · refine lv_aload_n hx hb d_Mo_command_143 rfl (lv_at hl 1 rfl) ?_
          refine sm_iP hI (va_runV (As := []) (rest := []) ⟨hx, hb, hml, hown, hts⟩ (c_Mo_isSelected l D ca ad L _ _ _ hM ) (kv_Mo_isSelected hts rfl rfl (hts _ tw_1635) ⟨Nat.le_of_ble_eq_true rfl, Nat.le_of_ble_eq_true rfl⟩) (pv_Mo hI hE hM) rfl rfl hl.1 rfl (lv_room (Nat.le_of_ble_eq_true rfl)) d_Mo_command_144 ⟨Nat.le_of_ble_eq_true rfl, Nat.le_of_ble_eq_true rfl⟩) (fun x_155 H locs p_154 hI => ?_)
          refine lv_if_ne (tgt := 154) hx hb d_Mo_command_147 (by decide) (fun c_156 => ?_) (fun c_156 => ?_)
          · refine lv_iconst (v := 0) hx hb d_Mo_command_154 (by decide) ?_
            exact hJ_155 _ _ _ _ _ y5 (r) y7 y8 z0 0 hI hM hF (lv_sub hl [1, 2, 3, 4, 5, 6, 7, 8, 9, 0] rfl) py8 pz0 (by decide) (Eq.trans o90 (congrArg nI (show ((z1) : Nat) = _ by omega))) (Eq.trans o91 (congrArg nI (show ((z2) : Nat) = _ by omega))) u90 (by omega)
          · refine lv_iconst (v := 1) hx hb d_Mo_command_150 (by decide) ?_
            refine lv_goto (tgt := 155) hx hb d_Mo_command_151 (by decide) ?_
            exact hJ_155 _ _ _ _ _ y5 (r) y7 y8 z0 1 hI hM hF (lv_sub hl [1, 2, 3, 4, 5, 6, 7, 8, 9, 0] rfl) py8 pz0 (by decide) (Eq.trans o90 (congrArg nI (show ((z1) : Nat) = _ by omega))) (Eq.trans o91 (congrArg nI (show ((z2) : Nat) = _ by omega))) u90 (by omega)
  have hJ_75 : ∀ (H : Heap) (locs : List Loc) (f : Nat → va_E) (σ : mq_S) (ls : Array Slot) (y5 : Int32) (y6 : Int32) (y7 : Int32) (y8 : Int32), sw_I D cl_all (ty_s ca) (va_A (va_pl L f0) sz) s H locs L f → mq_B ca ad σ L f → mq_fr [13, 14, 16, 18, 24, 30, 31, 32, 33, 34, 42, 52, 56, 57, 58, 59, 60, 61, 62, 63, 64, 65, 66, 67, 68, 69] σ0 σ → lv_has ls 12 [(0, .ref (ad 71)), (1, .int (nI j1)), (2, .int (nI j2)), (3, .int (nI j3)), (4, .int (x4)), (5, .int (y5)), (6, .int (y6)), (7, .int (y7)), (8, .int (y8))] → (y8 = 0 ∨ y8 = 1) → (σ.1 56 = nI (z1)) → (σ.1 70 = nI (z2)) → (IH σ) → W p l e { frames := 4, cells := 0, slots := 0, locals := 90 } s m ([.ref (ad 71), .int (nI j1), .int (nI j2), .int (nI j3), .int (x4)] : List Value).toArray below meth c H locs 0 0 (MQ below (sm_Qv D (ty_s ca) L f0 sz (fun u => mq_po ca ad L σ0 [13, 14, 16, 18, 24, 30, 31, 32, 33, 34, 42, 52, 56, 57, 58, 59, 60, 61, 62, 63, 64, 65, 66, 67, 68, 69] (fun σ => (∃ n : Nat, z1 ≤ n ∧ n ≤ z1 + 1 ∧ σ.1 56 = nI n) ∧ IH σ ∧ True) u)) ([.ref (ad 71), .int (nI j1), .int (nI j2), .int (nI j3), .int (x4)] : List Value).toArray s 0 0 (va_A (va_pl L f0) sz)) (F0 m 75 ls []) := by
    intro H locs f σ ls y5 y6 y7 y8 hI hM hF hl py8 o90 o91 u90
    refine lv_aload_n hx hb d_Mo_command_75 rfl (lv_at hl 0 rfl) ?_
    refine lv_iload_n hx hb d_Mo_command_76 rfl (lv_at hl 1 rfl) ?_
    refine lv_bipush (v := 9) hx hb d_Mo_command_77 (by decide) ?_
    refine lv_iload hx hb d_Mo_command_79 (lv_at hl 8 rfl) ?_
    refine lv_if_ne (tgt := 88) hx hb d_Mo_command_81 (by decide) (fun c_157 => ?_) (fun c_157 => ?_)
    · refine lv_iconst (v := 0) hx hb d_Mo_command_88 (by decide) ?_
      refine sm_vM hI (va_runV (As := [.int (nI j1), .int (9), .int (0)]) (rest := []) ⟨hx, hb, hml, hown, hts⟩ (c_Mo_comes l D ca ad L _ _ _ hM (j1) (by omega) 9 0 (by decide) u90) (kv_Mo_comes hts rfl rfl (hts _ tw_1611) ⟨Nat.le_of_ble_eq_true rfl, Nat.le_of_ble_eq_true rfl⟩) (pv_Mo hI hE hM) rfl rfl hl.1 rfl (lv_room (Nat.le_of_ble_eq_true rfl)) d_Mo_command_89 ⟨Nat.le_of_ble_eq_true rfl, Nat.le_of_ble_eq_true rfl⟩) (fun H locs f σ_159 hI hM hF_160 p_158 => ?_)
      have hF := mq_fr_tr hF hF_160 (by decide)
      have o_161 : σ_159.1 56 = nI (z1) := mq_fi hF_160 (by decide) o90
      have o_162 : σ_159.1 70 = nI (z2) := mq_fi hF_160 (by decide) o91
      obtain ⟨u_163, -⟩ := p_158
      exact sm_vret hx hb hr hlk hI ⟨σ_159, rfl, hM, hF, ⟨⟨(z1), by omega, by omega, o_161⟩, u_163, trivial⟩⟩ d_Mo_command_92
    · refine lv_iconst (v := 1) hx hb d_Mo_command_84 (by decide) ?_
      refine lv_goto (tgt := 89) hx hb d_Mo_command_85 (by decide) ?_
      refine sm_vM hI (va_runV (As := [.int (nI j1), .int (9), .int (1)]) (rest := []) ⟨hx, hb, hml, hown, hts⟩ (c_Mo_comes l D ca ad L _ _ _ hM (j1) (by omega) 9 1 (by decide) u90) (kv_Mo_comes hts rfl rfl (hts _ tw_1611) ⟨Nat.le_of_ble_eq_true rfl, Nat.le_of_ble_eq_true rfl⟩) (pv_Mo hI hE hM) rfl rfl hl.1 rfl (lv_room (Nat.le_of_ble_eq_true rfl)) d_Mo_command_89 ⟨Nat.le_of_ble_eq_true rfl, Nat.le_of_ble_eq_true rfl⟩) (fun H locs f σ_165 hI hM hF_166 p_164 => ?_)
      have hF := mq_fr_tr hF hF_166 (by decide)
      have o_167 : σ_165.1 56 = nI (z1) := mq_fi hF_166 (by decide) o90
      have o_168 : σ_165.1 70 = nI (z2) := mq_fi hF_166 (by decide) o91
      obtain ⟨u_169, -⟩ := p_164
      exact sm_vret hx hb hr hlk hI ⟨σ_165, rfl, hM, hF, ⟨⟨(z1), by omega, by omega, o_167⟩, u_169, trivial⟩⟩ d_Mo_command_92
  have hJ_56 : ∀ (H : Heap) (locs : List Loc) (f : Nat → va_E) (σ : mq_S) (ls : Array Slot) (y5 : Int32) (r : Nat) (y7 : Int32) (z0 : Int32), sw_I D cl_all (ty_s ca) (va_A (va_pl L f0) sz) s H locs L f → mq_B ca ad σ L f → mq_fr [13, 14, 16, 18, 24, 30, 31, 32, 33, 34, 42, 52, 56, 57, 58, 59, 60, 61, 62, 63, 64, 65, 66, 67, 68, 69] σ0 σ → lv_has ls 12 [(0, .ref (ad 71)), (1, .int (nI j1)), (2, .int (nI j2)), (3, .int (nI j3)), (4, .int (x4)), (5, .int (y5)), (6, .int (nI r)), (7, .int (y7))] → (z0 = 0 ∨ z0 = 1) → (σ.1 56 = nI (z1)) → (σ.1 70 = nI (z2)) → (IH σ) → (r ≤ 7) → W p l e { frames := 4, cells := 0, slots := 0, locals := 90 } s m ([.ref (ad 71), .int (nI j1), .int (nI j2), .int (nI j3), .int (x4)] : List Value).toArray below meth c H locs 0 0 (MQ below (sm_Qv D (ty_s ca) L f0 sz (fun u => mq_po ca ad L σ0 [13, 14, 16, 18, 24, 30, 31, 32, 33, 34, 42, 52, 56, 57, 58, 59, 60, 61, 62, 63, 64, 65, 66, 67, 68, 69] (fun σ => (∃ n : Nat, z1 ≤ n ∧ n ≤ z1 + 1 ∧ σ.1 56 = nI n) ∧ IH σ ∧ True) u)) ([.ref (ad 71), .int (nI j1), .int (nI j2), .int (nI j3), .int (x4)] : List Value).toArray s 0 0 (va_A (va_pl L f0) sz)) (F0 m 56 ls [.int (z0)]) := by
    intro H locs f σ ls y5 r y7 z0 hI hM hF hl pz0 o90 o91 u90 hrr
    refine lv_istore (lv' := [(8, .int (z0)), (0, .ref (ad 71)), (1, .int (nI j1)), (2, .int (nI j2)), (3, .int (nI j3)), (4, .int (x4)), (5, .int (y5)), (6, .int (nI r)), (7, .int (y7))]) hx hb d_Mo_command_56 hl (by decide) rfl (fun ls hl => ?_)
    refine lv_iload hx hb d_Mo_command_58 (lv_at hl 5 rfl) ?_
    refine lv_bipush (v := 8) hx hb d_Mo_command_60 (by decide) ?_
    refine lv_icmp_ne (tgt := 93) hx hb d_Mo_command_62 (by decide) (fun c_170 => ?_) (fun c_170 => ?_)
    · refine lv_iload hx hb d_Mo_command_93 (lv_at hl 6 rfl) ?_
      refine lv_bipush (v := 46) hx hb d_Mo_command_95 (by decide) ?_
      refine lv_icmp_ne (tgt := 115) hx hb d_Mo_command_97 (by decide) (fun c_171 => ?_) (fun c_171 => ?_)
      · refine lv_iconst (v := 1) hx hb d_Mo_command_115 (by decide) ?_
        refine lv_goto (tgt := 120) hx hb d_Mo_command_116 (by decide) ?_
        exact hJ_120 _ _ _ _ _ y5 (r) y7 z0 1 hI hM hF (lv_sub hl [1, 2, 3, 4, 5, 6, 7, 8, 0] rfl) pz0 (by decide) (Eq.trans o90 (congrArg nI (show ((z1) : Nat) = _ by omega))) (Eq.trans o91 (congrArg nI (show ((z2) : Nat) = _ by omega))) u90 (by omega)
      · refine lv_iload hx hb d_Mo_command_100 (lv_at hl 8 rfl) ?_
        refine lv_iconst (v := 3) hx hb d_Mo_command_102 (by decide) ?_
        refine lv_iand hx hb d_Mo_command_103 ?_
        refine lv_topi (fun x_172 e_173 => ?_)
        refine lv_i2l hx hb d_Mo_command_104 rfl ?_
        refine lv_topl (fun x_174 e_175 => ?_)
        refine lv_lconst (v := 1) hx hb d_Mo_command_105 (by decide) ?_
        refine lv_ldc2 (v := 2) hx hb hown (hts _ tw_1549) d_Mo_command_106 ?_
        refine sm_iP hI (va_runS (As := [.long (x_174), .long (1), .long (2)]) (rest := []) ⟨hx, hb, hml, hown, hts⟩ (c_Mo_in l D ca L _ _ x_174 1 2) (ks_Mo_in hts rfl rfl (hts _ tw_1393) ⟨Nat.le_of_ble_eq_true rfl, Nat.le_of_ble_eq_true rfl⟩) (sm_preS hI hE) rfl rfl hl.1 rfl (lv_room (Nat.le_of_ble_eq_true rfl)) d_Mo_command_109 ⟨Nat.le_of_ble_eq_true rfl, Nat.le_of_ble_eq_true rfl⟩) (fun x_177 H locs p_176 hI => ?_)
        refine lv_if_eq (tgt := 119) hx hb d_Mo_command_112 (by decide) (fun c_178 => ?_) (fun c_178 => ?_)
        · refine lv_iconst (v := 0) hx hb d_Mo_command_119 (by decide) ?_
          exact hJ_120 _ _ _ _ _ y5 (r) y7 z0 0 hI hM hF (lv_sub hl [1, 2, 3, 4, 5, 6, 7, 8, 0] rfl) pz0 (by decide) (Eq.trans o90 (congrArg nI (show ((z1) : Nat) = _ by omega))) (Eq.trans o91 (congrArg nI (show ((z2) : Nat) = _ by omega))) u90 (by omega)
        · refine lv_iconst (v := 1) hx hb d_Mo_command_115 (by decide) ?_
          refine lv_goto (tgt := 120) hx hb d_Mo_command_116 (by decide) ?_
          exact hJ_120 _ _ _ _ _ y5 (r) y7 z0 1 hI hM hF (lv_sub hl [1, 2, 3, 4, 5, 6, 7, 8, 0] rfl) pz0 (by decide) (Eq.trans o90 (congrArg nI (show ((z1) : Nat) = _ by omega))) (Eq.trans o91 (congrArg nI (show ((z2) : Nat) = _ by omega))) u90 (by omega)
    · refine lv_iload hx hb d_Mo_command_65 (lv_at hl 0 rfl) ?_
      refine lv_if_eq (tgt := 75) hx hb d_Mo_command_67 (by decide) (fun c_179 => ?_) (fun c_179 => ?_)
      · exact hJ_75 _ _ _ _ _ y5 (nI r) y7 z0 hI hM hF (lv_sub hl [1, 2, 3, 4, 5, 6, 7, 8, 0] rfl) pz0 (Eq.trans o90 (congrArg nI (show ((z1) : Nat) = _ by omega))) (Eq.trans o91 (congrArg nI (show ((z2) : Nat) = _ by omega))) u90
      · refine lv_aload_n hx hb d_Mo_command_70 rfl (lv_at hl 1 rfl) ?_
        refine lv_iconst (v := -1) hx hb d_Mo_command_71 (by decide) ?_
        refine mq_puti (k := 65) (ty := .int) hx hb hts hown hI hM (by decide) rfl rfl (hts _ tw_1234) rfl (by decide +kernel) rfl rfl trivial d_Mo_command_72 (fun H locs f σ_180 e_181 hI hM => ?_)
        have hF := mq_fr_ui hF e_181 rfl
        have o_182 : σ_180.1 56 = nI (z1) := by rw [e_181]; exact o90
        have o_183 : σ_180.1 70 = nI (z2) := by rw [e_181]; exact o91
        have u_184 := IH_fr (mq_fr_ui (X := [65]) mq_fr_rf e_181 rfl) (by decide) u90
        exact hJ_75 _ _ _ _ _ y5 (nI r) y7 z0 hI hM hF (lv_sub hl [1, 2, 3, 4, 5, 6, 7, 8, 0] rfl) pz0 (Eq.trans o_182 (congrArg nI (show ((z1) : Nat) = _ by omega))) (Eq.trans o_183 (congrArg nI (show ((z2) : Nat) = _ by omega))) u_184
  refine lv_aload_n hx hb d_Mo_command_0 rfl (lv_at hl 0 rfl) ?_
  refine mq_get (k := 69) (v := .ref (ad 69)) hx hb hts hown hI hM (by decide) rfl rfl (hts _ tw_1238) d_Mo_command_1 ?_
  refine lv_iconst (v := 0) hx hb d_Mo_command_4 (by decide) ?_
  obtain ⟨x_185, e_186⟩ : ∃ z, σ0.2.2.1 69 (0) = z := ⟨_, rfl⟩
  refine mq_iald (k := 69) (j := 0) (v := x_185) hx hb hI hM (by decide) rfl (by show 0 < 260; omega) (by decide) e_186 d_Mo_command_5 ?_
  refine lv_istore (lv' := [(5, .int (x_185)), (0, .ref (ad 71)), (1, .int (nI j1)), (2, .int (nI j2)), (3, .int (nI j3)), (4, .int (x4))]) hx hb d_Mo_command_6 hl (by decide) rfl (fun ls hl => ?_)
  refine lv_iload hx hb d_Mo_command_8 (lv_at hl 0 rfl) ?_
  refine sm_iP hI (va_runS (As := [.int (x_185)]) (rest := []) ⟨hx, hb, hml, hown, hts⟩ (c_Mo_payload l D ca L _ _ x_185) (ks_Mo_payload hts rfl rfl (hts _ tw_1619) ⟨Nat.le_of_ble_eq_true rfl, Nat.le_of_ble_eq_true rfl⟩) (sm_preS hI hE) rfl rfl hl.1 rfl (lv_room (Nat.le_of_ble_eq_true rfl)) d_Mo_command_10 ⟨Nat.le_of_ble_eq_true rfl, Nat.le_of_ble_eq_true rfl⟩) (fun x_188 H locs p_187 hI => ?_)
  obtain ⟨n_189, rfl, h_190, h_191⟩ := p_187
  refine lv_istore (lv' := [(6, .int (nI n_189)), (5, .int (x_185)), (0, .ref (ad 71)), (1, .int (nI j1)), (2, .int (nI j2)), (3, .int (nI j3)), (4, .int (x4))]) hx hb d_Mo_command_13 hl (by decide) rfl (fun ls hl => ?_)
  refine lv_aload_n hx hb d_Mo_command_15 rfl (lv_at hl 2 rfl) ?_
  refine mq_get (k := 69) (v := .ref (ad 69)) hx hb hts hown hI hM (by decide) rfl rfl (hts _ tw_1238) d_Mo_command_16 ?_
  refine lv_iload_n hx hb d_Mo_command_19 rfl (lv_at hl 5 rfl) ?_
  refine lv_iload hx hb d_Mo_command_20 (lv_at hl 0 rfl) ?_
  refine lv_iadd hx hb d_Mo_command_22 ?_
  refine lv_topi (fun x_192 e_193 => ?_)
  obtain rfl : x_192 = nI (j3 + n_189) := by rw [e_193]; exact nI_add _ _
  refine lv_iconst (v := 1) hx hb d_Mo_command_23 (by decide) ?_
  refine lv_isub hx hb d_Mo_command_24 ?_
  refine lv_topi (fun x_194 e_195 => ?_)
  obtain rfl : x_194 = nI ((j3 + n_189) - 1) := by rw [e_195]; exact pk_sub (a := (j3 + n_189)) (b := 1) (by omega)
  obtain ⟨x_196, e_197⟩ : ∃ z, σ0.2.2.1 69 (((j3 + n_189) - 1)) = z := ⟨_, rfl⟩
  refine mq_iald (k := 69) (j := ((j3 + n_189) - 1)) (v := x_196) hx hb hI hM (by decide) rfl (by show ((j3 + n_189) - 1) < 260; omega) (by decide) e_197 d_Mo_command_25 ?_
  refine lv_istore (lv' := [(7, .int (x_196)), (6, .int (nI n_189)), (5, .int (x_185)), (0, .ref (ad 71)), (1, .int (nI j1)), (2, .int (nI j2)), (3, .int (nI j3)), (4, .int (x4))]) hx hb d_Mo_command_26 hl (by decide) rfl (fun ls hl => ?_)
  refine lv_aload_n hx hb d_Mo_command_28 rfl (lv_at hl 3 rfl) ?_
  refine sm_iP hI (va_runV (As := []) (rest := []) ⟨hx, hb, hml, hown, hts⟩ (c_Mo_isSelected l D ca ad L _ _ _ hM ) (kv_Mo_isSelected hts rfl rfl (hts _ tw_1635) ⟨Nat.le_of_ble_eq_true rfl, Nat.le_of_ble_eq_true rfl⟩) (pv_Mo hI hE hM) rfl rfl hl.1 rfl (lv_room (Nat.le_of_ble_eq_true rfl)) d_Mo_command_29 ⟨Nat.le_of_ble_eq_true rfl, Nat.le_of_ble_eq_true rfl⟩) (fun x_199 H locs p_198 hI => ?_)
  refine lv_if_eq (tgt := 55) hx hb d_Mo_command_32 (by decide) (fun c_200 => ?_) (fun c_200 => ?_)
  · refine lv_iconst (v := 0) hx hb d_Mo_command_55 (by decide) ?_
    exact hJ_56 _ _ _ _ _ x_185 (n_189) x_196 0 hI hM hF (lv_sub hl [3, 4, 5, 6, 7, 2, 1, 0] rfl) (by decide) (Eq.trans o0 (congrArg nI (show (z1 : Nat) = _ by omega))) (Eq.trans o1 (congrArg nI (show (z2 : Nat) = _ by omega))) u0 (by omega)
  · refine lv_aload_n hx hb d_Mo_command_35 rfl (lv_at hl 3 rfl) ?_
    obtain ⟨x_201, e_202⟩ : ∃ z, σ0.1 65 = z := ⟨_, rfl⟩
    refine mq_get (k := 65) (v := .int (x_201)) hx hb hts hown hI hM (by decide) (congrArg (fun z => some (Value.int z)) e_202) rfl (hts _ tw_1234) d_Mo_command_36 ?_
    refine lv_iload_n hx hb d_Mo_command_39 rfl (lv_at hl 5 rfl) ?_
    refine lv_icmp_ne (tgt := 55) hx hb d_Mo_command_40 (by decide) (fun c_203 => ?_) (fun c_203 => ?_)
    · refine lv_iconst (v := 0) hx hb d_Mo_command_55 (by decide) ?_
      exact hJ_56 _ _ _ _ _ x_185 (n_189) x_196 0 hI hM hF (lv_sub hl [3, 4, 5, 6, 7, 2, 1, 0] rfl) (by decide) (Eq.trans o0 (congrArg nI (show (z1 : Nat) = _ by omega))) (Eq.trans o1 (congrArg nI (show (z2 : Nat) = _ by omega))) u0 (by omega)
    · refine lv_aload_n hx hb d_Mo_command_43 rfl (lv_at hl 3 rfl) ?_
      obtain ⟨x_204, e_205⟩ : ∃ z, σ0.1 66 = z := ⟨_, rfl⟩
      refine mq_get (k := 66) (v := .int (x_204)) hx hb hts hown hI hM (by decide) (congrArg (fun z => some (Value.int z)) e_205) rfl (hts _ tw_1235) d_Mo_command_44 ?_
      refine lv_iload_n hx hb d_Mo_command_47 rfl (lv_at hl 4 rfl) ?_
      refine lv_icmp_ne (tgt := 55) hx hb d_Mo_command_48 (by decide) (fun c_206 => ?_) (fun c_206 => ?_)
      · refine lv_iconst (v := 0) hx hb d_Mo_command_55 (by decide) ?_
        exact hJ_56 _ _ _ _ _ x_185 (n_189) x_196 0 hI hM hF (lv_sub hl [3, 4, 5, 6, 7, 2, 1, 0] rfl) (by decide) (Eq.trans o0 (congrArg nI (show (z1 : Nat) = _ by omega))) (Eq.trans o1 (congrArg nI (show (z2 : Nat) = _ by omega))) u0 (by omega)
      · refine lv_iconst (v := 1) hx hb d_Mo_command_51 (by decide) ?_
        refine lv_goto (tgt := 56) hx hb d_Mo_command_52 (by decide) ?_
        exact hJ_56 _ _ _ _ _ x_185 (n_189) x_196 1 hI hM hF (lv_sub hl [3, 4, 5, 6, 7, 2, 1, 0] rfl) (by decide) (Eq.trans o0 (congrArg nI (show (z1 : Nat) = _ by omega))) (Eq.trans o1 (congrArg nI (show (z2 : Nat) = _ by omega))) u0 (by omega)
theorem d_Mo_does_0 : decode b_Mo_does 0 = .ok (.iload_n 2, 1) := by decide +kernel
theorem d_Mo_does_1 : decode b_Mo_does 1 = .ok (.bipush 102, 2) := by decide +kernel
theorem d_Mo_does_3 : decode b_Mo_does 3 = .ok (.if_icmp .ne 7, 3) := by decide +kernel
theorem d_Mo_does_6 : decode b_Mo_does 6 = .ok (.iconst 0, 1) := by decide +kernel
theorem d_Mo_does_7 : decode b_Mo_does 7 = .ok (.goto 9, 3) := by decide +kernel
theorem d_Mo_does_10 : decode b_Mo_does 10 = .ok (.aload_n 0, 1) := by decide +kernel
theorem d_Mo_does_11 : decode b_Mo_does 11 = .ok (.getfield 172, 3) := by decide +kernel
theorem d_Mo_does_14 : decode b_Mo_does 14 = .ok (.iload_n 3, 1) := by decide +kernel
theorem d_Mo_does_15 : decode b_Mo_does 15 = .ok (.iaload, 1) := by decide +kernel
theorem d_Mo_does_16 : decode b_Mo_does 16 = .ok (.istore 5, 2) := by decide +kernel
theorem d_Mo_does_18 : decode b_Mo_does 18 = .ok (.aload_n 0, 1) := by decide +kernel
theorem d_Mo_does_19 : decode b_Mo_does 19 = .ok (.getfield 172, 3) := by decide +kernel
theorem d_Mo_does_22 : decode b_Mo_does 22 = .ok (.iconst 2, 1) := by decide +kernel
theorem d_Mo_does_23 : decode b_Mo_does 23 = .ok (.iaload, 1) := by decide +kernel
theorem d_Mo_does_24 : decode b_Mo_does 24 = .ok (.sipush 128, 3) := by decide +kernel
theorem d_Mo_does_27 : decode b_Mo_does 27 = .ok (.iand, 1) := by decide +kernel
theorem d_Mo_does_28 : decode b_Mo_does 28 = .ok (.istore 6, 2) := by decide +kernel
theorem d_Mo_does_30 : decode b_Mo_does 30 = .ok (.aload_n 0, 1) := by decide +kernel
theorem d_Mo_does_31 : decode b_Mo_does 31 = .ok (.getfield 172, 3) := by decide +kernel
theorem d_Mo_does_34 : decode b_Mo_does 34 = .ok (.iconst 3, 1) := by decide +kernel
theorem d_Mo_does_35 : decode b_Mo_does 35 = .ok (.iaload, 1) := by decide +kernel
theorem d_Mo_does_36 : decode b_Mo_does 36 = .ok (.istore 7, 2) := by decide +kernel
theorem d_Mo_does_38 : decode b_Mo_does 38 = .ok (.iload_n 2, 1) := by decide +kernel
theorem d_Mo_does_39 : decode b_Mo_does 39 = .ok (.bipush 100, 2) := by decide +kernel
theorem d_Mo_does_41 : decode b_Mo_does 41 = .ok (.if_icmp .eq 9, 3) := by decide +kernel
theorem d_Mo_does_44 : decode b_Mo_does 44 = .ok (.iload_n 2, 1) := by decide +kernel
theorem d_Mo_does_45 : decode b_Mo_does 45 = .ok (.bipush 101, 2) := by decide +kernel
theorem d_Mo_does_47 : decode b_Mo_does 47 = .ok (.if_icmp .ne 107, 3) := by decide +kernel
theorem d_Mo_does_50 : decode b_Mo_does 50 = .ok (.iload_n 2, 1) := by decide +kernel
theorem d_Mo_does_51 : decode b_Mo_does 51 = .ok (.bipush 100, 2) := by decide +kernel
theorem d_Mo_does_53 : decode b_Mo_does 53 = .ok (.if_icmp .ne 21, 3) := by decide +kernel
theorem d_Mo_does_56 : decode b_Mo_does 56 = .ok (.iload 5, 2) := by decide +kernel
theorem d_Mo_does_58 : decode b_Mo_does 58 = .ok (.i2l, 1) := by decide +kernel
theorem d_Mo_does_59 : decode b_Mo_does 59 = .ok (.ldc2_w 464, 3) := by decide +kernel
theorem d_Mo_does_62 : decode b_Mo_does 62 = .ok (.ldc2_w 466, 3) := by decide +kernel
theorem d_Mo_does_65 : decode b_Mo_does 65 = .ok (.invokestatic 187, 3) := by decide +kernel
theorem d_Mo_does_68 : decode b_Mo_does 68 = .ok (.ifCond .eq 37, 3) := by decide +kernel
theorem d_Mo_does_71 : decode b_Mo_does 71 = .ok (.goto 22, 3) := by decide +kernel
theorem d_Mo_does_74 : decode b_Mo_does 74 = .ok (.iload 5, 2) := by decide +kernel
theorem d_Mo_does_76 : decode b_Mo_does 76 = .ok (.iconst 5, 1) := by decide +kernel
theorem d_Mo_does_77 : decode b_Mo_does 77 = .ok (.if_icmp .eq 16, 3) := by decide +kernel
theorem d_Mo_does_80 : decode b_Mo_does 80 = .ok (.iload 5, 2) := by decide +kernel
theorem d_Mo_does_82 : decode b_Mo_does 82 = .ok (.i2l, 1) := by decide +kernel
theorem d_Mo_does_83 : decode b_Mo_does 83 = .ok (.lconst 1, 1) := by decide +kernel
theorem d_Mo_does_84 : decode b_Mo_does 84 = .ok (.ldc2_w 395, 3) := by decide +kernel
theorem d_Mo_does_87 : decode b_Mo_does 87 = .ok (.invokestatic 187, 3) := by decide +kernel
theorem d_Mo_does_90 : decode b_Mo_does 90 = .ok (.ifCond .eq 15, 3) := by decide +kernel
theorem d_Mo_does_93 : decode b_Mo_does 93 = .ok (.aload_n 0, 1) := by decide +kernel
theorem d_Mo_does_94 : decode b_Mo_does 94 = .ok (.iload_n 1, 1) := by decide +kernel
theorem d_Mo_does_95 : decode b_Mo_does 95 = .ok (.invokevirtual 468, 3) := by decide +kernel
theorem d_Mo_does_98 : decode b_Mo_does 98 = .ok (.ifCond .ne 7, 3) := by decide +kernel
theorem d_Mo_does_101 : decode b_Mo_does 101 = .ok (.iconst 1, 1) := by decide +kernel
theorem d_Mo_does_102 : decode b_Mo_does 102 = .ok (.goto 4, 3) := by decide +kernel
theorem d_Mo_does_105 : decode b_Mo_does 105 = .ok (.iconst 0, 1) := by decide +kernel
theorem d_Mo_does_106 : decode b_Mo_does 106 = .ok (.istore 8, 2) := by decide +kernel
theorem d_Mo_does_108 : decode b_Mo_does 108 = .ok (.iload 8, 2) := by decide +kernel
theorem d_Mo_does_110 : decode b_Mo_does 110 = .ok (.ifCond .eq 19, 3) := by decide +kernel
theorem d_Mo_does_113 : decode b_Mo_does 113 = .ok (.iload_n 2, 1) := by decide +kernel
theorem d_Mo_does_114 : decode b_Mo_does 114 = .ok (.bipush 101, 2) := by decide +kernel
theorem d_Mo_does_116 : decode b_Mo_does 116 = .ok (.if_icmp .ne 13, 3) := by decide +kernel
theorem d_Mo_does_119 : decode b_Mo_does 119 = .ok (.aload_n 0, 1) := by decide +kernel
theorem d_Mo_does_120 : decode b_Mo_does 120 = .ok (.dup, 1) := by decide +kernel
theorem d_Mo_does_121 : decode b_Mo_does 121 = .ok (.getfield 259, 3) := by decide +kernel
theorem d_Mo_does_124 : decode b_Mo_does 124 = .ok (.iconst 1, 1) := by decide +kernel
theorem d_Mo_does_125 : decode b_Mo_does 125 = .ok (.iadd, 1) := by decide +kernel
theorem d_Mo_does_126 : decode b_Mo_does 126 = .ok (.putfield 259, 3) := by decide +kernel
theorem d_Mo_does_129 : decode b_Mo_does 129 = .ok (.iload 8, 2) := by decide +kernel
theorem d_Mo_does_131 : decode b_Mo_does 131 = .ok (.ifCond .eq 12, 3) := by decide +kernel
theorem d_Mo_does_134 : decode b_Mo_does 134 = .ok (.aload_n 0, 1) := by decide +kernel
theorem d_Mo_does_135 : decode b_Mo_does 135 = .ok (.iload_n 1, 1) := by decide +kernel
theorem d_Mo_does_136 : decode b_Mo_does 136 = .ok (.iconst 1, 1) := by decide +kernel
theorem d_Mo_does_137 : decode b_Mo_does 137 = .ok (.invokevirtual 437, 3) := by decide +kernel
theorem d_Mo_does_140 : decode b_Mo_does 140 = .ok (.goto 11, 3) := by decide +kernel
theorem d_Mo_does_143 : decode b_Mo_does 143 = .ok (.aload_n 0, 1) := by decide +kernel
theorem d_Mo_does_144 : decode b_Mo_does 144 = .ok (.iload_n 1, 1) := by decide +kernel
theorem d_Mo_does_145 : decode b_Mo_does 145 = .ok (.bipush 7, 2) := by decide +kernel
theorem d_Mo_does_147 : decode b_Mo_does 147 = .ok (.iconst 1, 1) := by decide +kernel
theorem d_Mo_does_148 : decode b_Mo_does 148 = .ok (.invokevirtual 444, 3) := by decide +kernel
theorem d_Mo_does_151 : decode b_Mo_does 151 = .ok (.goto 227, 3) := by decide +kernel
theorem d_Mo_does_154 : decode b_Mo_does 154 = .ok (.iload_n 2, 1) := by decide +kernel
theorem d_Mo_does_155 : decode b_Mo_does 155 = .ok (.bipush 102, 2) := by decide +kernel
theorem d_Mo_does_157 : decode b_Mo_does 157 = .ok (.if_icmp .ne 79, 3) := by decide +kernel
theorem d_Mo_does_160 : decode b_Mo_does 160 = .ok (.aload_n 0, 1) := by decide +kernel
theorem d_Mo_does_161 : decode b_Mo_does 161 = .ok (.iload_n 1, 1) := by decide +kernel
theorem d_Mo_does_162 : decode b_Mo_does 162 = .ok (.aload_n 0, 1) := by decide +kernel
theorem d_Mo_does_163 : decode b_Mo_does 163 = .ok (.getfield 13, 3) := by decide +kernel
theorem d_Mo_does_166 : decode b_Mo_does 166 = .ok (.iload 4, 2) := by decide +kernel
theorem d_Mo_does_168 : decode b_Mo_does 168 = .ok (.iaload, 1) := by decide +kernel
theorem d_Mo_does_169 : decode b_Mo_does 169 = .ok (.invokestatic 302, 3) := by decide +kernel
theorem d_Mo_does_172 : decode b_Mo_does 172 = .ok (.iconst 1, 1) := by decide +kernel
theorem d_Mo_does_173 : decode b_Mo_does 173 = .ok (.iconst 5, 1) := by decide +kernel
theorem d_Mo_does_174 : decode b_Mo_does 174 = .ok (.iload 6, 2) := by decide +kernel
theorem d_Mo_does_176 : decode b_Mo_does 176 = .ok (.ior, 1) := by decide +kernel
theorem d_Mo_does_177 : decode b_Mo_does 177 = .ok (.iload 7, 2) := by decide +kernel
theorem d_Mo_does_179 : decode b_Mo_does 179 = .ok (.invokevirtual 305, 3) := by decide +kernel
theorem d_Mo_does_182 : decode b_Mo_does 182 = .ok (.aload_n 0, 1) := by decide +kernel
theorem d_Mo_does_183 : decode b_Mo_does 183 = .ok (.aload_n 0, 1) := by decide +kernel
theorem d_Mo_does_184 : decode b_Mo_does 184 = .ok (.getfield 7, 3) := by decide +kernel
theorem d_Mo_does_187 : decode b_Mo_does 187 = .ok (.iload 4, 2) := by decide +kernel
theorem d_Mo_does_189 : decode b_Mo_does 189 = .ok (.iaload, 1) := by decide +kernel
theorem d_Mo_does_190 : decode b_Mo_does 190 = .ok (.aload_n 0, 1) := by decide +kernel
theorem d_Mo_does_191 : decode b_Mo_does 191 = .ok (.iload_n 1, 1) := by decide +kernel
theorem d_Mo_does_192 : decode b_Mo_does 192 = .ok (.invokevirtual 296, 3) := by decide +kernel
theorem d_Mo_does_195 : decode b_Mo_does 195 = .ok (.invokevirtual 272, 3) := by decide +kernel
theorem d_Mo_does_198 : decode b_Mo_does 198 = .ok (.aload_n 0, 1) := by decide +kernel
theorem d_Mo_does_199 : decode b_Mo_does 199 = .ok (.aload_n 0, 1) := by decide +kernel
theorem d_Mo_does_200 : decode b_Mo_does 200 = .ok (.getfield 13, 3) := by decide +kernel
theorem d_Mo_does_203 : decode b_Mo_does 203 = .ok (.iload 4, 2) := by decide +kernel
theorem d_Mo_does_205 : decode b_Mo_does 205 = .ok (.iaload, 1) := by decide +kernel
theorem d_Mo_does_206 : decode b_Mo_does 206 = .ok (.aload_n 0, 1) := by decide +kernel
theorem d_Mo_does_207 : decode b_Mo_does 207 = .ok (.getfield 23, 3) := by decide +kernel
theorem d_Mo_does_210 : decode b_Mo_does 210 = .ok (.iload 4, 2) := by decide +kernel
theorem d_Mo_does_212 : decode b_Mo_does 212 = .ok (.iaload, 1) := by decide +kernel
theorem d_Mo_does_213 : decode b_Mo_does 213 = .ok (.aload_n 0, 1) := by decide +kernel
theorem d_Mo_does_214 : decode b_Mo_does 214 = .ok (.getfield 26, 3) := by decide +kernel
theorem d_Mo_does_217 : decode b_Mo_does 217 = .ok (.iload 4, 2) := by decide +kernel
theorem d_Mo_does_219 : decode b_Mo_does 219 = .ok (.iaload, 1) := by decide +kernel
theorem d_Mo_does_220 : decode b_Mo_does 220 = .ok (.aload_n 0, 1) := by decide +kernel
theorem d_Mo_does_221 : decode b_Mo_does 221 = .ok (.getfield 259, 3) := by decide +kernel
theorem d_Mo_does_224 : decode b_Mo_does 224 = .ok (.invokevirtual 312, 3) := by decide +kernel
theorem d_Mo_does_227 : decode b_Mo_does 227 = .ok (.aload_n 0, 1) := by decide +kernel
theorem d_Mo_does_228 : decode b_Mo_does 228 = .ok (.iload_n 1, 1) := by decide +kernel
theorem d_Mo_does_229 : decode b_Mo_does 229 = .ok (.iconst 0, 1) := by decide +kernel
theorem d_Mo_does_230 : decode b_Mo_does 230 = .ok (.invokevirtual 437, 3) := by decide +kernel
theorem d_Mo_does_233 : decode b_Mo_does 233 = .ok (.goto 145, 3) := by decide +kernel
theorem d_Mo_does_236 : decode b_Mo_does 236 = .ok (.iload_n 2, 1) := by decide +kernel
theorem d_Mo_does_237 : decode b_Mo_does 237 = .ok (.bipush 103, 2) := by decide +kernel
theorem d_Mo_does_239 : decode b_Mo_does 239 = .ok (.if_icmp .ne 12, 3) := by decide +kernel
theorem d_Mo_does_242 : decode b_Mo_does 242 = .ok (.aload_n 0, 1) := by decide +kernel
theorem d_Mo_does_243 : decode b_Mo_does 243 = .ok (.iload_n 1, 1) := by decide +kernel
theorem d_Mo_does_244 : decode b_Mo_does 244 = .ok (.iload_n 3, 1) := by decide +kernel
theorem d_Mo_does_245 : decode b_Mo_does 245 = .ok (.invokevirtual 471, 3) := by decide +kernel
theorem d_Mo_does_248 : decode b_Mo_does 248 = .ok (.goto 130, 3) := by decide +kernel
theorem d_Mo_does_251 : decode b_Mo_does 251 = .ok (.iload_n 2, 1) := by decide +kernel
theorem d_Mo_does_252 : decode b_Mo_does 252 = .ok (.bipush 104, 2) := by decide +kernel
theorem d_Mo_does_254 : decode b_Mo_does 254 = .ok (.if_icmp .ne 39, 3) := by decide +kernel
theorem d_Mo_does_257 : decode b_Mo_does 257 = .ok (.aload_n 0, 1) := by decide +kernel
theorem d_Mo_does_258 : decode b_Mo_does 258 = .ok (.iload_n 1, 1) := by decide +kernel
theorem d_Mo_does_259 : decode b_Mo_does 259 = .ok (.bipush 7, 2) := by decide +kernel
theorem d_Mo_does_261 : decode b_Mo_does 261 = .ok (.iload 5, 2) := by decide +kernel
theorem d_Mo_does_263 : decode b_Mo_does 263 = .ok (.sipush 170, 3) := by decide +kernel
theorem d_Mo_does_266 : decode b_Mo_does 266 = .ok (.if_icmp .ne 16, 3) := by decide +kernel
theorem d_Mo_does_269 : decode b_Mo_does 269 = .ok (.aload_n 0, 1) := by decide +kernel
theorem d_Mo_does_270 : decode b_Mo_does 270 = .ok (.getfield 172, 3) := by decide +kernel
theorem d_Mo_does_273 : decode b_Mo_does 273 = .ok (.iload_n 3, 1) := by decide +kernel
theorem d_Mo_does_274 : decode b_Mo_does 274 = .ok (.iconst 1, 1) := by decide +kernel
theorem d_Mo_does_275 : decode b_Mo_does 275 = .ok (.iadd, 1) := by decide +kernel
theorem d_Mo_does_276 : decode b_Mo_does 276 = .ok (.iaload, 1) := by decide +kernel
theorem d_Mo_does_277 : decode b_Mo_does 277 = .ok (.bipush 85, 2) := by decide +kernel
theorem d_Mo_does_279 : decode b_Mo_does 279 = .ok (.if_icmp .eq 7, 3) := by decide +kernel
theorem d_Mo_does_282 : decode b_Mo_does 282 = .ok (.iconst 1, 1) := by decide +kernel
theorem d_Mo_does_283 : decode b_Mo_does 283 = .ok (.goto 4, 3) := by decide +kernel
theorem d_Mo_does_286 : decode b_Mo_does 286 = .ok (.iconst 0, 1) := by decide +kernel
theorem d_Mo_does_287 : decode b_Mo_does 287 = .ok (.invokevirtual 444, 3) := by decide +kernel
theorem d_Mo_does_290 : decode b_Mo_does 290 = .ok (.goto 88, 3) := by decide +kernel
theorem d_Mo_does_293 : decode b_Mo_does 293 = .ok (.aload_n 0, 1) := by decide +kernel
theorem d_Mo_does_294 : decode b_Mo_does 294 = .ok (.getfield 32, 3) := by decide +kernel
theorem d_Mo_does_297 : decode b_Mo_does 297 = .ok (.iload_n 1, 1) := by decide +kernel
theorem d_Mo_does_298 : decode b_Mo_does 298 = .ok (.iaload, 1) := by decide +kernel
theorem d_Mo_does_299 : decode b_Mo_does 299 = .ok (.istore 8, 2) := by decide +kernel
theorem d_Mo_does_301 : decode b_Mo_does 301 = .ok (.aload_n 0, 1) := by decide +kernel
theorem d_Mo_does_302 : decode b_Mo_does 302 = .ok (.iload_n 1, 1) := by decide +kernel
theorem d_Mo_does_303 : decode b_Mo_does 303 = .ok (.bipush 7, 2) := by decide +kernel
theorem d_Mo_does_305 : decode b_Mo_does 305 = .ok (.iload 5, 2) := by decide +kernel
theorem d_Mo_does_307 : decode b_Mo_does 307 = .ok (.iconst 1, 1) := by decide +kernel
theorem d_Mo_does_308 : decode b_Mo_does 308 = .ok (.if_icmp .eq 7, 3) := by decide +kernel
theorem d_Mo_does_311 : decode b_Mo_does 311 = .ok (.iconst 1, 1) := by decide +kernel
theorem d_Mo_does_312 : decode b_Mo_does 312 = .ok (.goto 4, 3) := by decide +kernel
theorem d_Mo_does_315 : decode b_Mo_does 315 = .ok (.iconst 0, 1) := by decide +kernel
theorem d_Mo_does_316 : decode b_Mo_does 316 = .ok (.invokevirtual 444, 3) := by decide +kernel
theorem d_Mo_does_319 : decode b_Mo_does 319 = .ok (.iload 5, 2) := by decide +kernel
theorem d_Mo_does_321 : decode b_Mo_does 321 = .ok (.iconst 1, 1) := by decide +kernel
theorem d_Mo_does_322 : decode b_Mo_does 322 = .ok (.if_icmp .eq 4, 3) := by decide +kernel
theorem d_Mo_does_325 : decode b_Mo_does 325 = .ok (.return_, 1) := by decide +kernel
theorem d_Mo_does_326 : decode b_Mo_does 326 = .ok (.aload_n 0, 1) := by decide +kernel
theorem d_Mo_does_327 : decode b_Mo_does 327 = .ok (.iconst (-1), 1) := by decide +kernel
theorem d_Mo_does_328 : decode b_Mo_does 328 = .ok (.putfield 166, 3) := by decide +kernel
theorem d_Mo_does_331 : decode b_Mo_does 331 = .ok (.aload_n 0, 1) := by decide +kernel
theorem d_Mo_does_332 : decode b_Mo_does 332 = .ok (.getfield 32, 3) := by decide +kernel
theorem d_Mo_does_335 : decode b_Mo_does 335 = .ok (.iload_n 1, 1) := by decide +kernel
theorem d_Mo_does_336 : decode b_Mo_does 336 = .ok (.iaload, 1) := by decide +kernel
theorem d_Mo_does_337 : decode b_Mo_does 337 = .ok (.iload 8, 2) := by decide +kernel
theorem d_Mo_does_339 : decode b_Mo_does 339 = .ok (.if_icmp .eq 4, 3) := by decide +kernel
theorem d_Mo_does_342 : decode b_Mo_does 342 = .ok (.return_, 1) := by decide +kernel
theorem d_Mo_does_343 : decode b_Mo_does 343 = .ok (.aload_n 0, 1) := by decide +kernel
theorem d_Mo_does_344 : decode b_Mo_does 344 = .ok (.iload_n 1, 1) := by decide +kernel
theorem d_Mo_does_345 : decode b_Mo_does 345 = .ok (.bipush 70, 2) := by decide +kernel
theorem d_Mo_does_347 : decode b_Mo_does 347 = .ok (.iconst 1, 1) := by decide +kernel
theorem d_Mo_does_348 : decode b_Mo_does 348 = .ok (.iconst 4, 1) := by decide +kernel
theorem d_Mo_does_349 : decode b_Mo_does 349 = .ok (.iload 6, 2) := by decide +kernel
theorem d_Mo_does_351 : decode b_Mo_does 351 = .ok (.ior, 1) := by decide +kernel
theorem d_Mo_does_352 : decode b_Mo_does 352 = .ok (.iload 7, 2) := by decide +kernel
theorem d_Mo_does_354 : decode b_Mo_does 354 = .ok (.invokevirtual 305, 3) := by decide +kernel
theorem d_Mo_does_357 : decode b_Mo_does 357 = .ok (.aload_n 0, 1) := by decide +kernel
theorem d_Mo_does_358 : decode b_Mo_does 358 = .ok (.iconst 0, 1) := by decide +kernel
theorem d_Mo_does_359 : decode b_Mo_does 359 = .ok (.aload_n 0, 1) := by decide +kernel
theorem d_Mo_does_360 : decode b_Mo_does 360 = .ok (.iload_n 1, 1) := by decide +kernel
theorem d_Mo_does_361 : decode b_Mo_does 361 = .ok (.invokevirtual 296, 3) := by decide +kernel
theorem d_Mo_does_364 : decode b_Mo_does 364 = .ok (.invokevirtual 272, 3) := by decide +kernel
theorem d_Mo_does_367 : decode b_Mo_does 367 = .ok (.aload_n 0, 1) := by decide +kernel
theorem d_Mo_does_368 : decode b_Mo_does 368 = .ok (.iconst 2, 1) := by decide +kernel
theorem d_Mo_does_369 : decode b_Mo_does 369 = .ok (.invokevirtual 230, 3) := by decide +kernel
theorem d_Mo_does_372 : decode b_Mo_does 372 = .ok (.aload_n 0, 1) := by decide +kernel
theorem d_Mo_does_373 : decode b_Mo_does 373 = .ok (.iload_n 1, 1) := by decide +kernel
theorem d_Mo_does_374 : decode b_Mo_does 374 = .ok (.iconst 0, 1) := by decide +kernel
theorem d_Mo_does_375 : decode b_Mo_does 375 = .ok (.invokevirtual 437, 3) := by decide +kernel
theorem d_Mo_does_378 : decode b_Mo_does 378 = .ok (.return_, 1) := by decide +kernel
set_option maxRecDepth 100000 in
set_option maxHeartbeats 4000000 in
theorem c_Mo_does (l : Launch) (D : va_G) (ca : Nat → ClassId) (ad : Nat → Nat) (L : List Nat) (f0 : Nat → va_E) (sz : Nat) (σ0 : mq_S) (hM : mq_B ca ad σ0 L f0) (j1 : Nat) (q1 : j1 ≤ 3) (x2 : Int32) (j3 : Nat) (q3 : j3 ≤ 240) (w3 : 1 ≤ j3) (x4 : Int32) (hp : x2 = 102 → ∃ j : Nat, j ≤ 31 ∧ x4 = nI j) (u0 : IH σ0) :
    Met l y_Mo_does (Cond.code y_Mo_does b_Mo_does 9 none :: wg) { frames := 5, cells := 0, slots := 0, locals := 122 } (va_Pc [.ref (ad 71), .int (nI j1), .int (x2), .int (nI j3), .int (x4)] (sm_P D cl_all (ty_s ca) ek L f0 sz)) (sm_Qv D (ty_s ca) L f0 sz (fun u => mq_po ca ad L σ0 [9, 10, 11, 13, 14, 16, 18, 24, 30, 31, 32, 33, 34, 42, 52, 65, 69, 70] (fun σ => IH σ ∧ True) u)) 0 0 (va_A (va_pl L f0) sz) := by
  refine sm_start (by decide) (Nat.le_of_ble_eq_true rfl) ?_
  intro p e s m below meth c ls hx hb hml hr hlk hnm hts hown hsz hE hI hl
  have hl : lv_has ls 9 [(0, .ref (ad 71)), (1, .int (nI j1)), (2, .int (x2)), (3, .int (nI j3)), (4, .int (x4))] := hl
  have hF : mq_fr [9, 10, 11, 13, 14, 16, 18, 24, 30, 31, 32, 33, 34, 42, 52, 65, 69, 70] σ0 σ0 := mq_fr_rf
  have hJ_316 : ∀ (H : Heap) (locs : List Loc) (f : Nat → va_E) (σ : mq_S) (ls : Array Slot) (y5 : Int32) (y6 : Int32) (y7 : Int32) (y8 : Int32) (z2 : Int32) (z3 : Int32), sw_I D cl_all (ty_s ca) (va_A (va_pl L f0) sz) s H locs L f → mq_B ca ad σ L f → mq_fr [9, 10, 11, 13, 14, 16, 18, 24, 30, 31, 32, 33, 34, 42, 52, 65, 69, 70] σ0 σ → lv_has ls 9 [(0, .ref (ad 71)), (1, .int (nI j1)), (2, .int (x2)), (3, .int (nI j3)), (4, .int (x4)), (5, .int (y5)), (6, .int (y6)), (7, .int (y7)), (8, .int (y8))] → (z3 = 0 ∨ z3 = 1) → (IH σ) → W p l e { frames := 5, cells := 0, slots := 0, locals := 122 } s m ([.ref (ad 71), .int (nI j1), .int (x2), .int (nI j3), .int (x4)] : List Value).toArray below meth c H locs 0 0 (MQ below (sm_Qv D (ty_s ca) L f0 sz (fun u => mq_po ca ad L σ0 [9, 10, 11, 13, 14, 16, 18, 24, 30, 31, 32, 33, 34, 42, 52, 65, 69, 70] (fun σ => IH σ ∧ True) u)) ([.ref (ad 71), .int (nI j1), .int (x2), .int (nI j3), .int (x4)] : List Value).toArray s 0 0 (va_A (va_pl L f0) sz)) (F0 m 316 ls [.int (z3), .int (z2), .int (nI j1), .ref (ad 71)]) := by
    intro H locs f σ ls y5 y6 y7 y8 z2 z3 hI hM hF hl pz3 u90
    refine sm_vM hI (va_runV (As := [.int (nI j1), .int (z2), .int (z3)]) (rest := []) ⟨hx, hb, hml, hown, hts⟩ (c_Mo_comes l D ca ad L _ _ _ hM (j1) (by omega) z2 z3 pz3 u90) (kv_Mo_comes hts rfl rfl (hts _ tw_1611) ⟨Nat.le_of_ble_eq_true rfl, Nat.le_of_ble_eq_true rfl⟩) (pv_Mo hI hE hM) rfl rfl hl.1 rfl (lv_room (Nat.le_of_ble_eq_true rfl)) d_Mo_does_316 ⟨Nat.le_of_ble_eq_true rfl, Nat.le_of_ble_eq_true rfl⟩) (fun H locs f σ_2 hI hM hF_3 p_1 => ?_)
    have hF := mq_fr_tr hF hF_3 (by decide)
    obtain ⟨u_4, -⟩ := p_1
    refine lv_iload hx hb d_Mo_does_319 (lv_at hl 5 rfl) ?_
    refine lv_iconst (v := 1) hx hb d_Mo_does_321 (by decide) ?_
    refine lv_icmp_eq (tgt := 326) hx hb d_Mo_does_322 (by decide) (fun c_5 => ?_) (fun c_5 => ?_)
    · refine lv_aload_n hx hb d_Mo_does_326 rfl (lv_at hl 0 rfl) ?_
      refine lv_iconst (v := -1) hx hb d_Mo_does_327 (by decide) ?_
      refine mq_puti (k := 65) (ty := .int) hx hb hts hown hI hM (by decide) rfl rfl (hts _ tw_1234) rfl (by decide +kernel) rfl rfl trivial d_Mo_does_328 (fun H locs f σ_6 e_7 hI hM => ?_)
      have hF := mq_fr_ui hF e_7 rfl
      have u_8 := IH_fr (mq_fr_ui (X := [65]) mq_fr_rf e_7 rfl) (by decide) u_4
      refine lv_aload_n hx hb d_Mo_does_331 rfl (lv_at hl 0 rfl) ?_
      refine mq_get (k := 14) (v := .ref (ad 14)) hx hb hts hown hI hM (by decide) rfl rfl (hts _ tw_1183) d_Mo_does_332 ?_
      refine lv_iload_n hx hb d_Mo_does_335 rfl (lv_at hl 1 rfl) ?_
      obtain ⟨x_9, e_10⟩ : ∃ z, σ_6.2.2.1 14 (j1) = z := ⟨_, rfl⟩
      refine mq_iald (k := 14) (j := j1) (v := x_9) hx hb hI hM (by decide) rfl (by show j1 < 4; omega) (by decide) e_10 d_Mo_does_336 ?_
      refine lv_iload hx hb d_Mo_does_337 (lv_at hl 8 rfl) ?_
      refine lv_icmp_eq (tgt := 343) hx hb d_Mo_does_339 (by decide) (fun c_11 => ?_) (fun c_11 => ?_)
      · refine lv_aload_n hx hb d_Mo_does_343 rfl (lv_at hl 0 rfl) ?_
        refine lv_iload_n hx hb d_Mo_does_344 rfl (lv_at hl 1 rfl) ?_
        refine lv_bipush (v := 70) hx hb d_Mo_does_345 (by decide) ?_
        refine lv_iconst (v := 1) hx hb d_Mo_does_347 (by decide) ?_
        refine lv_iconst (v := 4) hx hb d_Mo_does_348 (by decide) ?_
        refine lv_iload hx hb d_Mo_does_349 (lv_at hl 6 rfl) ?_
        refine lv_ior hx hb d_Mo_does_351 ?_
        refine lv_topi (fun x_12 e_13 => ?_)
        refine lv_iload hx hb d_Mo_does_352 (lv_at hl 7 rfl) ?_
        refine sm_vM hI (va_runV (As := [.int (nI j1), .int (70), .int (1), .int (x_12), .int (y7)]) (rest := []) ⟨hx, hb, hml, hown, hts⟩ (c_Mo_begin l D ca ad L _ _ _ hM (nI j1) 70 1 x_12 y7) (kv_Mo_begin hts rfl rfl (hts _ tw_1473) ⟨Nat.le_of_ble_eq_true rfl, Nat.le_of_ble_eq_true rfl⟩) (pv_Mo hI hE hM) rfl rfl hl.1 rfl (lv_room (Nat.le_of_ble_eq_true rfl)) d_Mo_does_354 ⟨Nat.le_of_ble_eq_true rfl, Nat.le_of_ble_eq_true rfl⟩) (fun H locs f σ_15 hI hM hF_16 p_14 => ?_)
        have hF := mq_fr_tr hF hF_16 (by decide)
        have u_17 := IH_fr hF_16 (by decide) u_8
        obtain ⟨⟨n_19, h_20, h_21, o_18⟩, -⟩ := p_14
        refine lv_aload_n hx hb d_Mo_does_357 rfl (lv_at hl 0 rfl) ?_
        refine lv_iconst (v := 0) hx hb d_Mo_does_358 (by decide) ?_
        refine lv_aload_n hx hb d_Mo_does_359 rfl (lv_at hl 0 rfl) ?_
        refine lv_iload_n hx hb d_Mo_does_360 rfl (lv_at hl 1 rfl) ?_
        refine sm_iP hI (va_runV (As := [.int (nI j1)]) (rest := [.int (0), .ref (ad 71)]) ⟨hx, hb, hml, hown, hts⟩ (c_Mo_objectBytes l D ca ad L _ _ _ hM (nI j1)) (kv_Mo_objectBytes hts rfl rfl (hts _ tw_1462) ⟨Nat.le_of_ble_eq_true rfl, Nat.le_of_ble_eq_true rfl⟩) (pv_Mo hI hE hM) rfl rfl hl.1 rfl (lv_room (Nat.le_of_ble_eq_true rfl)) d_Mo_does_361 ⟨Nat.le_of_ble_eq_true rfl, Nat.le_of_ble_eq_true rfl⟩) (fun x_23 H locs p_22 hI => ?_)
        obtain ⟨n_24, rfl, h_25, h_26, h_27⟩ := p_22
        refine sm_vM hI (va_runV (As := [.int (0), .int (nI n_24)]) (rest := []) ⟨hx, hb, hml, hown, hts⟩ (c_Mo_addNumber l D ca ad L _ _ _ hM 0 (n_24) (by omega) (n_19) o_18 (by omega)) (kv_Mo_addNumber hts rfl rfl (hts _ tw_1481) ⟨Nat.le_of_ble_eq_true rfl, Nat.le_of_ble_eq_true rfl⟩) (pv_Mo hI hE hM) rfl rfl hl.1 rfl (lv_room (Nat.le_of_ble_eq_true rfl)) d_Mo_does_364 ⟨Nat.le_of_ble_eq_true rfl, Nat.le_of_ble_eq_true rfl⟩) (fun H locs f σ_29 hI hM hF_30 p_28 => ?_)
        have hF := mq_fr_tr hF hF_30 (by decide)
        have u_31 := IH_fr hF_30 (by decide) u_17
        obtain ⟨o_32, -⟩ := p_28
        refine lv_aload_n hx hb d_Mo_does_367 rfl (lv_at hl 0 rfl) ?_
        refine lv_iconst (v := 2) hx hb d_Mo_does_368 (by decide) ?_
        refine sm_vM hI (va_runV (As := [.int (2)]) (rest := []) ⟨hx, hb, hml, hown, hts⟩ (c_Mo_add l D ca ad L _ _ _ hM 2 ((n_19 + n_24)) o_32 (by omega)) (kv_Mo_add hts rfl rfl (hts _ tw_1477) ⟨Nat.le_of_ble_eq_true rfl, Nat.le_of_ble_eq_true rfl⟩) (pv_Mo hI hE hM) rfl rfl hl.1 rfl (lv_room (Nat.le_of_ble_eq_true rfl)) d_Mo_does_369 ⟨Nat.le_of_ble_eq_true rfl, Nat.le_of_ble_eq_true rfl⟩) (fun H locs f σ_34 hI hM hF_35 p_33 => ?_)
        have hF := mq_fr_tr hF hF_35 (by decide)
        have u_36 := IH_fr hF_35 (by decide) u_31
        obtain ⟨o_37, -⟩ := p_33
        refine lv_aload_n hx hb d_Mo_does_372 rfl (lv_at hl 0 rfl) ?_
        refine lv_iload_n hx hb d_Mo_does_373 rfl (lv_at hl 1 rfl) ?_
        refine lv_iconst (v := 0) hx hb d_Mo_does_374 (by decide) ?_
        refine sm_vM hI (va_runV (As := [.int (nI j1), .int (0)]) (rest := []) ⟨hx, hb, hml, hown, hts⟩ (c_Mo_answered l D ca ad L _ _ _ hM (j1) (by omega) 0 (by decide) u_36) (kv_Mo_answered hts rfl rfl (hts _ tw_1615) ⟨Nat.le_of_ble_eq_true rfl, Nat.le_of_ble_eq_true rfl⟩) (pv_Mo hI hE hM) rfl rfl hl.1 rfl (lv_room (Nat.le_of_ble_eq_true rfl)) d_Mo_does_375 ⟨Nat.le_of_ble_eq_true rfl, Nat.le_of_ble_eq_true rfl⟩) (fun H locs f σ_39 hI hM hF_40 p_38 => ?_)
        have hF := mq_fr_tr hF hF_40 (by decide)
        have o_41 : σ_39.1 70 = nI (((n_19 + n_24)) + 1) := mq_fi hF_40 (by decide) o_37
        obtain ⟨u_42, -⟩ := p_38
        exact sm_vret hx hb hr hlk hI ⟨σ_39, rfl, hM, hF, ⟨u_42, trivial⟩⟩ d_Mo_does_378
      · exact sm_vret hx hb hr hlk hI ⟨σ_6, rfl, hM, hF, ⟨u_8, trivial⟩⟩ d_Mo_does_342
    · exact sm_vret hx hb hr hlk hI ⟨σ_2, rfl, hM, hF, ⟨u_4, trivial⟩⟩ d_Mo_does_325
  have hJ_129 : ∀ (H : Heap) (locs : List Loc) (f : Nat → va_E) (σ : mq_S) (ls : Array Slot) (y5 : Int32) (y6 : Int32) (y7 : Int32) (y8 : Int32), sw_I D cl_all (ty_s ca) (va_A (va_pl L f0) sz) s H locs L f → mq_B ca ad σ L f → mq_fr [9, 10, 11, 13, 14, 16, 18, 24, 30, 31, 32, 33, 34, 42, 52, 65, 69, 70] σ0 σ → lv_has ls 9 [(0, .ref (ad 71)), (1, .int (nI j1)), (2, .int (x2)), (3, .int (nI j3)), (4, .int (x4)), (5, .int (y5)), (6, .int (y6)), (7, .int (y7)), (8, .int (y8))] → (y8 = 0 ∨ y8 = 1) → (IH σ) → W p l e { frames := 5, cells := 0, slots := 0, locals := 122 } s m ([.ref (ad 71), .int (nI j1), .int (x2), .int (nI j3), .int (x4)] : List Value).toArray below meth c H locs 0 0 (MQ below (sm_Qv D (ty_s ca) L f0 sz (fun u => mq_po ca ad L σ0 [9, 10, 11, 13, 14, 16, 18, 24, 30, 31, 32, 33, 34, 42, 52, 65, 69, 70] (fun σ => IH σ ∧ True) u)) ([.ref (ad 71), .int (nI j1), .int (x2), .int (nI j3), .int (x4)] : List Value).toArray s 0 0 (va_A (va_pl L f0) sz)) (F0 m 129 ls []) := by
    intro H locs f σ ls y5 y6 y7 y8 hI hM hF hl py8 u90
    refine lv_iload hx hb d_Mo_does_129 (lv_at hl 8 rfl) ?_
    refine lv_if_eq (tgt := 143) hx hb d_Mo_does_131 (by decide) (fun c_43 => ?_) (fun c_43 => ?_)
    · refine lv_aload_n hx hb d_Mo_does_143 rfl (lv_at hl 0 rfl) ?_
      refine lv_iload_n hx hb d_Mo_does_144 rfl (lv_at hl 1 rfl) ?_
      refine lv_bipush (v := 7) hx hb d_Mo_does_145 (by decide) ?_
      refine lv_iconst (v := 1) hx hb d_Mo_does_147 (by decide) ?_
      refine sm_vM hI (va_runV (As := [.int (nI j1), .int (7), .int (1)]) (rest := []) ⟨hx, hb, hml, hown, hts⟩ (c_Mo_comes l D ca ad L _ _ _ hM (j1) (by omega) 7 1 (by decide) u90) (kv_Mo_comes hts rfl rfl (hts _ tw_1611) ⟨Nat.le_of_ble_eq_true rfl, Nat.le_of_ble_eq_true rfl⟩) (pv_Mo hI hE hM) rfl rfl hl.1 rfl (lv_room (Nat.le_of_ble_eq_true rfl)) d_Mo_does_148 ⟨Nat.le_of_ble_eq_true rfl, Nat.le_of_ble_eq_true rfl⟩) (fun H locs f σ_45 hI hM hF_46 p_44 => ?_)
      have hF := mq_fr_tr hF hF_46 (by decide)
      obtain ⟨u_47, -⟩ := p_44
      refine lv_goto (tgt := 378) hx hb d_Mo_does_151 (by decide) ?_
      exact sm_vret hx hb hr hlk hI ⟨σ_45, rfl, hM, hF, ⟨u_47, trivial⟩⟩ d_Mo_does_378
    · refine lv_aload_n hx hb d_Mo_does_134 rfl (lv_at hl 0 rfl) ?_
      refine lv_iload_n hx hb d_Mo_does_135 rfl (lv_at hl 1 rfl) ?_
      refine lv_iconst (v := 1) hx hb d_Mo_does_136 (by decide) ?_
      refine sm_vM hI (va_runV (As := [.int (nI j1), .int (1)]) (rest := []) ⟨hx, hb, hml, hown, hts⟩ (c_Mo_answered l D ca ad L _ _ _ hM (j1) (by omega) 1 (by decide) u90) (kv_Mo_answered hts rfl rfl (hts _ tw_1615) ⟨Nat.le_of_ble_eq_true rfl, Nat.le_of_ble_eq_true rfl⟩) (pv_Mo hI hE hM) rfl rfl hl.1 rfl (lv_room (Nat.le_of_ble_eq_true rfl)) d_Mo_does_137 ⟨Nat.le_of_ble_eq_true rfl, Nat.le_of_ble_eq_true rfl⟩) (fun H locs f σ_49 hI hM hF_50 p_48 => ?_)
      have hF := mq_fr_tr hF hF_50 (by decide)
      obtain ⟨u_51, -⟩ := p_48
      refine lv_goto (tgt := 151) hx hb d_Mo_does_140 (by decide) ?_
      refine lv_goto (tgt := 378) hx hb d_Mo_does_151 (by decide) ?_
      exact sm_vret hx hb hr hlk hI ⟨σ_49, rfl, hM, hF, ⟨u_51, trivial⟩⟩ d_Mo_does_378
  have hJ_106 : ∀ (H : Heap) (locs : List Loc) (f : Nat → va_E) (σ : mq_S) (ls : Array Slot) (y5 : Int32) (y6 : Int32) (y7 : Int32) (z0 : Int32), sw_I D cl_all (ty_s ca) (va_A (va_pl L f0) sz) s H locs L f → mq_B ca ad σ L f → mq_fr [9, 10, 11, 13, 14, 16, 18, 24, 30, 31, 32, 33, 34, 42, 52, 65, 69, 70] σ0 σ → lv_has ls 9 [(0, .ref (ad 71)), (1, .int (nI j1)), (2, .int (x2)), (3, .int (nI j3)), (4, .int (x4)), (5, .int (y5)), (6, .int (y6)), (7, .int (y7))] → (z0 = 0 ∨ z0 = 1) → (IH σ) → W p l e { frames := 5, cells := 0, slots := 0, locals := 122 } s m ([.ref (ad 71), .int (nI j1), .int (x2), .int (nI j3), .int (x4)] : List Value).toArray below meth c H locs 0 0 (MQ below (sm_Qv D (ty_s ca) L f0 sz (fun u => mq_po ca ad L σ0 [9, 10, 11, 13, 14, 16, 18, 24, 30, 31, 32, 33, 34, 42, 52, 65, 69, 70] (fun σ => IH σ ∧ True) u)) ([.ref (ad 71), .int (nI j1), .int (x2), .int (nI j3), .int (x4)] : List Value).toArray s 0 0 (va_A (va_pl L f0) sz)) (F0 m 106 ls [.int (z0)]) := by
    intro H locs f σ ls y5 y6 y7 z0 hI hM hF hl pz0 u90
    refine lv_istore (lv' := [(8, .int (z0)), (0, .ref (ad 71)), (1, .int (nI j1)), (2, .int (x2)), (3, .int (nI j3)), (4, .int (x4)), (5, .int (y5)), (6, .int (y6)), (7, .int (y7))]) hx hb d_Mo_does_106 hl (by decide) rfl (fun ls hl => ?_)
    refine lv_iload hx hb d_Mo_does_108 (lv_at hl 0 rfl) ?_
    refine lv_if_eq (tgt := 129) hx hb d_Mo_does_110 (by decide) (fun c_52 => ?_) (fun c_52 => ?_)
    · exact hJ_129 _ _ _ _ _ y5 y6 y7 z0 hI hM hF (lv_sub hl [1, 2, 3, 4, 5, 6, 7, 8, 0] rfl) pz0 u90
    · refine lv_iload_n hx hb d_Mo_does_113 rfl (lv_at hl 3 rfl) ?_
      refine lv_bipush (v := 101) hx hb d_Mo_does_114 (by decide) ?_
      refine lv_icmp_ne (tgt := 129) hx hb d_Mo_does_116 (by decide) (fun c_53 => ?_) (fun c_53 => ?_)
      · exact hJ_129 _ _ _ _ _ y5 y6 y7 z0 hI hM hF (lv_sub hl [1, 2, 3, 4, 5, 6, 7, 8, 0] rfl) pz0 u90
      · refine lv_aload_n hx hb d_Mo_does_119 rfl (lv_at hl 1 rfl) ?_
        refine lv_dup hx hb d_Mo_does_120 rfl ?_
        obtain ⟨x_54, e_55⟩ : ∃ z, σ.1 9 = z := ⟨_, rfl⟩
        refine mq_get (k := 9) (v := .int (x_54)) hx hb hts hown hI hM (by decide) (congrArg (fun z => some (Value.int z)) e_55) rfl (hts _ tw_1178) d_Mo_does_121 ?_
        refine lv_iconst (v := 1) hx hb d_Mo_does_124 (by decide) ?_
        refine lv_iadd hx hb d_Mo_does_125 ?_
        refine lv_topi (fun x_56 e_57 => ?_)
        refine mq_puti (k := 9) (ty := .int) hx hb hts hown hI hM (by decide) rfl rfl (hts _ tw_1178) rfl (by decide +kernel) rfl rfl trivial d_Mo_does_126 (fun H locs f σ_58 e_59 hI hM => ?_)
        have hF := mq_fr_ui hF e_59 rfl
        have u_60 := IH_fr (mq_fr_ui (X := [9]) mq_fr_rf e_59 rfl) (by decide) u90
        exact hJ_129 _ _ _ _ _ y5 y6 y7 z0 hI hM hF (lv_sub hl [1, 2, 3, 4, 5, 6, 7, 8, 0] rfl) pz0 u_60
  have hJ_105 : ∀ (H : Heap) (locs : List Loc) (f : Nat → va_E) (σ : mq_S) (ls : Array Slot) (y5 : Int32) (y6 : Int32) (y7 : Int32), sw_I D cl_all (ty_s ca) (va_A (va_pl L f0) sz) s H locs L f → mq_B ca ad σ L f → mq_fr [9, 10, 11, 13, 14, 16, 18, 24, 30, 31, 32, 33, 34, 42, 52, 65, 69, 70] σ0 σ → lv_has ls 9 [(0, .ref (ad 71)), (1, .int (nI j1)), (2, .int (x2)), (3, .int (nI j3)), (4, .int (x4)), (5, .int (y5)), (6, .int (y6)), (7, .int (y7))] → (IH σ) → W p l e { frames := 5, cells := 0, slots := 0, locals := 122 } s m ([.ref (ad 71), .int (nI j1), .int (x2), .int (nI j3), .int (x4)] : List Value).toArray below meth c H locs 0 0 (MQ below (sm_Qv D (ty_s ca) L f0 sz (fun u => mq_po ca ad L σ0 [9, 10, 11, 13, 14, 16, 18, 24, 30, 31, 32, 33, 34, 42, 52, 65, 69, 70] (fun σ => IH σ ∧ True) u)) ([.ref (ad 71), .int (nI j1), .int (x2), .int (nI j3), .int (x4)] : List Value).toArray s 0 0 (va_A (va_pl L f0) sz)) (F0 m 105 ls []) := by
    intro H locs f σ ls y5 y6 y7 hI hM hF hl u90
    refine lv_iconst (v := 0) hx hb d_Mo_does_105 (by decide) ?_
    exact hJ_106 _ _ _ _ _ y5 y6 y7 0 hI hM hF (lv_sub hl [0, 1, 2, 3, 4, 5, 6, 7] rfl) (by decide) u90
  have hJ_93 : ∀ (H : Heap) (locs : List Loc) (f : Nat → va_E) (σ : mq_S) (ls : Array Slot) (y5 : Int32) (y6 : Int32) (y7 : Int32), sw_I D cl_all (ty_s ca) (va_A (va_pl L f0) sz) s H locs L f → mq_B ca ad σ L f → mq_fr [9, 10, 11, 13, 14, 16, 18, 24, 30, 31, 32, 33, 34, 42, 52, 65, 69, 70] σ0 σ → lv_has ls 9 [(0, .ref (ad 71)), (1, .int (nI j1)), (2, .int (x2)), (3, .int (nI j3)), (4, .int (x4)), (5, .int (y5)), (6, .int (y6)), (7, .int (y7))] → (IH σ) → W p l e { frames := 5, cells := 0, slots := 0, locals := 122 } s m ([.ref (ad 71), .int (nI j1), .int (x2), .int (nI j3), .int (x4)] : List Value).toArray below meth c H locs 0 0 (MQ below (sm_Qv D (ty_s ca) L f0 sz (fun u => mq_po ca ad L σ0 [9, 10, 11, 13, 14, 16, 18, 24, 30, 31, 32, 33, 34, 42, 52, 65, 69, 70] (fun σ => IH σ ∧ True) u)) ([.ref (ad 71), .int (nI j1), .int (x2), .int (nI j3), .int (x4)] : List Value).toArray s 0 0 (va_A (va_pl L f0) sz)) (F0 m 93 ls []) := by
    intro H locs f σ ls y5 y6 y7 hI hM hF hl u90
    refine lv_aload_n hx hb d_Mo_does_93 rfl (lv_at hl 0 rfl) ?_
    refine lv_iload_n hx hb d_Mo_does_94 rfl (lv_at hl 1 rfl) ?_
    refine sm_iP hI (va_runV (As := [.int (nI j1)]) (rest := []) ⟨hx, hb, hml, hown, hts⟩ (c_Mo_goesOn l D ca ad L _ _ _ hM (j1) (by omega)) (kv_Mo_goesOn hts rfl rfl (hts _ tw_1650) ⟨Nat.le_of_ble_eq_true rfl, Nat.le_of_ble_eq_true rfl⟩) (pv_Mo hI hE hM) rfl rfl hl.1 rfl (lv_room (Nat.le_of_ble_eq_true rfl)) d_Mo_does_95 ⟨Nat.le_of_ble_eq_true rfl, Nat.le_of_ble_eq_true rfl⟩) (fun x_62 H locs p_61 hI => ?_)
    refine lv_if_ne (tgt := 105) hx hb d_Mo_does_98 (by decide) (fun c_63 => ?_) (fun c_63 => ?_)
    · exact hJ_105 _ _ _ _ _ y5 y6 y7 hI hM hF (lv_sub hl [0, 1, 2, 3, 4, 5, 6, 7] rfl) u90
    · refine lv_iconst (v := 1) hx hb d_Mo_does_101 (by decide) ?_
      refine lv_goto (tgt := 106) hx hb d_Mo_does_102 (by decide) ?_
      exact hJ_106 _ _ _ _ _ y5 y6 y7 1 hI hM hF (lv_sub hl [0, 1, 2, 3, 4, 5, 6, 7] rfl) (by decide) u90
  have hJ_50 : ∀ (H : Heap) (locs : List Loc) (f : Nat → va_E) (σ : mq_S) (ls : Array Slot) (y5 : Int32) (y6 : Int32) (y7 : Int32), sw_I D cl_all (ty_s ca) (va_A (va_pl L f0) sz) s H locs L f → mq_B ca ad σ L f → mq_fr [9, 10, 11, 13, 14, 16, 18, 24, 30, 31, 32, 33, 34, 42, 52, 65, 69, 70] σ0 σ → lv_has ls 9 [(0, .ref (ad 71)), (1, .int (nI j1)), (2, .int (x2)), (3, .int (nI j3)), (4, .int (x4)), (5, .int (y5)), (6, .int (y6)), (7, .int (y7))] → (IH σ) → W p l e { frames := 5, cells := 0, slots := 0, locals := 122 } s m ([.ref (ad 71), .int (nI j1), .int (x2), .int (nI j3), .int (x4)] : List Value).toArray below meth c H locs 0 0 (MQ below (sm_Qv D (ty_s ca) L f0 sz (fun u => mq_po ca ad L σ0 [9, 10, 11, 13, 14, 16, 18, 24, 30, 31, 32, 33, 34, 42, 52, 65, 69, 70] (fun σ => IH σ ∧ True) u)) ([.ref (ad 71), .int (nI j1), .int (x2), .int (nI j3), .int (x4)] : List Value).toArray s 0 0 (va_A (va_pl L f0) sz)) (F0 m 50 ls []) := by
    intro H locs f σ ls y5 y6 y7 hI hM hF hl u90
    refine lv_iload_n hx hb d_Mo_does_50 rfl (lv_at hl 2 rfl) ?_
    refine lv_bipush (v := 100) hx hb d_Mo_does_51 (by decide) ?_
    refine lv_icmp_ne (tgt := 74) hx hb d_Mo_does_53 (by decide) (fun c_64 => ?_) (fun c_64 => ?_)
    · refine lv_iload hx hb d_Mo_does_74 (lv_at hl 5 rfl) ?_
      refine lv_iconst (v := 5) hx hb d_Mo_does_76 (by decide) ?_
      refine lv_icmp_eq (tgt := 93) hx hb d_Mo_does_77 (by decide) (fun c_65 => ?_) (fun c_65 => ?_)
      · exact hJ_93 _ _ _ _ _ y5 y6 y7 hI hM hF (lv_sub hl [0, 1, 2, 3, 4, 5, 6, 7] rfl) u90
      · refine lv_iload hx hb d_Mo_does_80 (lv_at hl 5 rfl) ?_
        refine lv_i2l hx hb d_Mo_does_82 rfl ?_
        refine lv_topl (fun x_66 e_67 => ?_)
        refine lv_lconst (v := 1) hx hb d_Mo_does_83 (by decide) ?_
        refine lv_ldc2 (v := 4) hx hb hown (hts _ tw_1649) d_Mo_does_84 ?_
        refine sm_iP hI (va_runS (As := [.long (x_66), .long (1), .long (4)]) (rest := []) ⟨hx, hb, hml, hown, hts⟩ (c_Mo_in l D ca L _ _ x_66 1 4) (ks_Mo_in hts rfl rfl (hts _ tw_1393) ⟨Nat.le_of_ble_eq_true rfl, Nat.le_of_ble_eq_true rfl⟩) (sm_preS hI hE) rfl rfl hl.1 rfl (lv_room (Nat.le_of_ble_eq_true rfl)) d_Mo_does_87 ⟨Nat.le_of_ble_eq_true rfl, Nat.le_of_ble_eq_true rfl⟩) (fun x_69 H locs p_68 hI => ?_)
        refine lv_if_eq (tgt := 105) hx hb d_Mo_does_90 (by decide) (fun c_70 => ?_) (fun c_70 => ?_)
        · exact hJ_105 _ _ _ _ _ y5 y6 y7 hI hM hF (lv_sub hl [0, 1, 2, 3, 4, 5, 6, 7] rfl) u90
        · exact hJ_93 _ _ _ _ _ y5 y6 y7 hI hM hF (lv_sub hl [0, 1, 2, 3, 4, 5, 6, 7] rfl) u90
    · refine lv_iload hx hb d_Mo_does_56 (lv_at hl 5 rfl) ?_
      refine lv_i2l hx hb d_Mo_does_58 rfl ?_
      refine lv_topl (fun x_71 e_72 => ?_)
      refine lv_ldc2 (v := 20) hx hb hown (hts _ tw_1647) d_Mo_does_59 ?_
      refine lv_ldc2 (v := 36) hx hb hown (hts _ tw_1648) d_Mo_does_62 ?_
      refine sm_iP hI (va_runS (As := [.long (x_71), .long (20), .long (36)]) (rest := []) ⟨hx, hb, hml, hown, hts⟩ (c_Mo_in l D ca L _ _ x_71 20 36) (ks_Mo_in hts rfl rfl (hts _ tw_1393) ⟨Nat.le_of_ble_eq_true rfl, Nat.le_of_ble_eq_true rfl⟩) (sm_preS hI hE) rfl rfl hl.1 rfl (lv_room (Nat.le_of_ble_eq_true rfl)) d_Mo_does_65 ⟨Nat.le_of_ble_eq_true rfl, Nat.le_of_ble_eq_true rfl⟩) (fun x_74 H locs p_73 hI => ?_)
      refine lv_if_eq (tgt := 105) hx hb d_Mo_does_68 (by decide) (fun c_75 => ?_) (fun c_75 => ?_)
      · exact hJ_105 _ _ _ _ _ y5 y6 y7 hI hM hF (lv_sub hl [0, 1, 2, 3, 4, 5, 6, 7] rfl) u90
      · refine lv_goto (tgt := 93) hx hb d_Mo_does_71 (by decide) ?_
        exact hJ_93 _ _ _ _ _ y5 y6 y7 hI hM hF (lv_sub hl [0, 1, 2, 3, 4, 5, 6, 7] rfl) u90
  have hJ_16 : ∀ (H : Heap) (locs : List Loc) (f : Nat → va_E) (σ : mq_S) (ls : Array Slot) (z0 : Int32), sw_I D cl_all (ty_s ca) (va_A (va_pl L f0) sz) s H locs L f → mq_B ca ad σ L f → mq_fr [9, 10, 11, 13, 14, 16, 18, 24, 30, 31, 32, 33, 34, 42, 52, 65, 69, 70] σ0 σ → lv_has ls 9 [(0, .ref (ad 71)), (1, .int (nI j1)), (2, .int (x2)), (3, .int (nI j3)), (4, .int (x4))] → (IH σ) → W p l e { frames := 5, cells := 0, slots := 0, locals := 122 } s m ([.ref (ad 71), .int (nI j1), .int (x2), .int (nI j3), .int (x4)] : List Value).toArray below meth c H locs 0 0 (MQ below (sm_Qv D (ty_s ca) L f0 sz (fun u => mq_po ca ad L σ0 [9, 10, 11, 13, 14, 16, 18, 24, 30, 31, 32, 33, 34, 42, 52, 65, 69, 70] (fun σ => IH σ ∧ True) u)) ([.ref (ad 71), .int (nI j1), .int (x2), .int (nI j3), .int (x4)] : List Value).toArray s 0 0 (va_A (va_pl L f0) sz)) (F0 m 16 ls [.int (z0)]) := by
    intro H locs f σ ls z0 hI hM hF hl u90
    refine lv_istore (lv' := [(5, .int (z0)), (0, .ref (ad 71)), (1, .int (nI j1)), (2, .int (x2)), (3, .int (nI j3)), (4, .int (x4))]) hx hb d_Mo_does_16 hl (by decide) rfl (fun ls hl => ?_)
    refine lv_aload_n hx hb d_Mo_does_18 rfl (lv_at hl 1 rfl) ?_
    refine mq_get (k := 69) (v := .ref (ad 69)) hx hb hts hown hI hM (by decide) rfl rfl (hts _ tw_1238) d_Mo_does_19 ?_
    refine lv_iconst (v := 2) hx hb d_Mo_does_22 (by decide) ?_
    obtain ⟨x_76, e_77⟩ : ∃ z, σ.2.2.1 69 (2) = z := ⟨_, rfl⟩
    refine mq_iald (k := 69) (j := 2) (v := x_76) hx hb hI hM (by decide) rfl (by show 2 < 260; omega) (by decide) e_77 d_Mo_does_23 ?_
    refine lv_sipush (v := 128) hx hb d_Mo_does_24 (by decide) ?_
    refine lv_iand hx hb d_Mo_does_27 ?_
    refine lv_topi (fun x_78 e_79 => ?_)
    refine lv_istore (lv' := [(6, .int (x_78)), (5, .int (z0)), (0, .ref (ad 71)), (1, .int (nI j1)), (2, .int (x2)), (3, .int (nI j3)), (4, .int (x4))]) hx hb d_Mo_does_28 hl (by decide) rfl (fun ls hl => ?_)
    refine lv_aload_n hx hb d_Mo_does_30 rfl (lv_at hl 2 rfl) ?_
    refine mq_get (k := 69) (v := .ref (ad 69)) hx hb hts hown hI hM (by decide) rfl rfl (hts _ tw_1238) d_Mo_does_31 ?_
    refine lv_iconst (v := 3) hx hb d_Mo_does_34 (by decide) ?_
    obtain ⟨x_80, e_81⟩ : ∃ z, σ.2.2.1 69 (3) = z := ⟨_, rfl⟩
    refine mq_iald (k := 69) (j := 3) (v := x_80) hx hb hI hM (by decide) rfl (by show 3 < 260; omega) (by decide) e_81 d_Mo_does_35 ?_
    refine lv_istore (lv' := [(7, .int (x_80)), (6, .int (x_78)), (5, .int (z0)), (0, .ref (ad 71)), (1, .int (nI j1)), (2, .int (x2)), (3, .int (nI j3)), (4, .int (x4))]) hx hb d_Mo_does_36 hl (by decide) rfl (fun ls hl => ?_)
    refine lv_iload_n hx hb d_Mo_does_38 rfl (lv_at hl 5 rfl) ?_
    refine lv_bipush (v := 100) hx hb d_Mo_does_39 (by decide) ?_
    refine lv_icmp_eq (tgt := 50) hx hb d_Mo_does_41 (by decide) (fun c_82 => ?_) (fun c_82 => ?_)
    · exact hJ_50 _ _ _ _ _ z0 x_78 x_80 hI hM hF (lv_sub hl [3, 4, 5, 6, 7, 2, 1, 0] rfl) u90
    · refine lv_iload_n hx hb d_Mo_does_44 rfl (lv_at hl 5 rfl) ?_
      refine lv_bipush (v := 101) hx hb d_Mo_does_45 (by decide) ?_
      refine lv_icmp_ne (tgt := 154) hx hb d_Mo_does_47 (by decide) (fun c_83 => ?_) (fun c_83 => ?_)
      · refine lv_iload_n hx hb d_Mo_does_154 rfl (lv_at hl 5 rfl) ?_
        refine lv_bipush (v := 102) hx hb d_Mo_does_155 (by decide) ?_
        refine lv_icmp_ne (tgt := 236) hx hb d_Mo_does_157 (by decide) (fun c_84 => ?_) (fun c_84 => ?_)
        · refine lv_iload_n hx hb d_Mo_does_236 rfl (lv_at hl 5 rfl) ?_
          refine lv_bipush (v := 103) hx hb d_Mo_does_237 (by decide) ?_
          refine lv_icmp_ne (tgt := 251) hx hb d_Mo_does_239 (by decide) (fun c_85 => ?_) (fun c_85 => ?_)
          · refine lv_iload_n hx hb d_Mo_does_251 rfl (lv_at hl 5 rfl) ?_
            refine lv_bipush (v := 104) hx hb d_Mo_does_252 (by decide) ?_
            refine lv_icmp_ne (tgt := 293) hx hb d_Mo_does_254 (by decide) (fun c_86 => ?_) (fun c_86 => ?_)
            · refine lv_aload_n hx hb d_Mo_does_293 rfl (lv_at hl 3 rfl) ?_
              refine mq_get (k := 14) (v := .ref (ad 14)) hx hb hts hown hI hM (by decide) rfl rfl (hts _ tw_1183) d_Mo_does_294 ?_
              refine lv_iload_n hx hb d_Mo_does_297 rfl (lv_at hl 4 rfl) ?_
              obtain ⟨x_87, e_88⟩ : ∃ z, σ.2.2.1 14 (j1) = z := ⟨_, rfl⟩
              refine mq_iald (k := 14) (j := j1) (v := x_87) hx hb hI hM (by decide) rfl (by show j1 < 4; omega) (by decide) e_88 d_Mo_does_298 ?_
              refine lv_istore (lv' := [(8, .int (x_87)), (7, .int (x_80)), (6, .int (x_78)), (5, .int (z0)), (0, .ref (ad 71)), (1, .int (nI j1)), (2, .int (x2)), (3, .int (nI j3)), (4, .int (x4))]) hx hb d_Mo_does_299 hl (by decide) rfl (fun ls hl => ?_)
              refine lv_aload_n hx hb d_Mo_does_301 rfl (lv_at hl 4 rfl) ?_
              refine lv_iload_n hx hb d_Mo_does_302 rfl (lv_at hl 5 rfl) ?_
              refine lv_bipush (v := 7) hx hb d_Mo_does_303 (by decide) ?_
              refine lv_iload hx hb d_Mo_does_305 (lv_at hl 3 rfl) ?_
              refine lv_iconst (v := 1) hx hb d_Mo_does_307 (by decide) ?_
              refine lv_icmp_eq (tgt := 315) hx hb d_Mo_does_308 (by decide) (fun c_89 => ?_) (fun c_89 => ?_)
              · refine lv_iconst (v := 0) hx hb d_Mo_does_315 (by decide) ?_
                exact hJ_316 _ _ _ _ _ z0 x_78 x_80 x_87 7 0 hI hM hF (lv_sub hl [4, 5, 6, 7, 8, 3, 2, 1, 0] rfl) (by decide) u90
              · refine lv_iconst (v := 1) hx hb d_Mo_does_311 (by decide) ?_
                refine lv_goto (tgt := 316) hx hb d_Mo_does_312 (by decide) ?_
                exact hJ_316 _ _ _ _ _ z0 x_78 x_80 x_87 7 1 hI hM hF (lv_sub hl [4, 5, 6, 7, 8, 3, 2, 1, 0] rfl) (by decide) u90
            · refine lv_aload_n hx hb d_Mo_does_257 rfl (lv_at hl 3 rfl) ?_
              refine lv_iload_n hx hb d_Mo_does_258 rfl (lv_at hl 4 rfl) ?_
              refine lv_bipush (v := 7) hx hb d_Mo_does_259 (by decide) ?_
              refine lv_iload hx hb d_Mo_does_261 (lv_at hl 2 rfl) ?_
              refine lv_sipush (v := 170) hx hb d_Mo_does_263 (by decide) ?_
              refine lv_icmp_ne (tgt := 282) hx hb d_Mo_does_266 (by decide) (fun c_90 => ?_) (fun c_90 => ?_)
              · refine lv_iconst (v := 1) hx hb d_Mo_does_282 (by decide) ?_
                refine lv_goto (tgt := 287) hx hb d_Mo_does_283 (by decide) ?_
                refine sm_vM hI (va_runV (As := [.int (nI j1), .int (7), .int (1)]) (rest := []) ⟨hx, hb, hml, hown, hts⟩ (c_Mo_comes l D ca ad L _ _ _ hM (j1) (by omega) 7 1 (by decide) u90) (kv_Mo_comes hts rfl rfl (hts _ tw_1611) ⟨Nat.le_of_ble_eq_true rfl, Nat.le_of_ble_eq_true rfl⟩) (pv_Mo hI hE hM) rfl rfl hl.1 rfl (lv_room (Nat.le_of_ble_eq_true rfl)) d_Mo_does_287 ⟨Nat.le_of_ble_eq_true rfl, Nat.le_of_ble_eq_true rfl⟩) (fun H locs f σ_92 hI hM hF_93 p_91 => ?_)
                have hF := mq_fr_tr hF hF_93 (by decide)
                obtain ⟨u_94, -⟩ := p_91
                refine lv_goto (tgt := 378) hx hb d_Mo_does_290 (by decide) ?_
                exact sm_vret hx hb hr hlk hI ⟨σ_92, rfl, hM, hF, ⟨u_94, trivial⟩⟩ d_Mo_does_378
              · refine lv_aload_n hx hb d_Mo_does_269 rfl (lv_at hl 3 rfl) ?_
                refine mq_get (k := 69) (v := .ref (ad 69)) hx hb hts hown hI hM (by decide) rfl rfl (hts _ tw_1238) d_Mo_does_270 ?_
                refine lv_iload_n hx hb d_Mo_does_273 rfl (lv_at hl 6 rfl) ?_
                refine lv_iconst (v := 1) hx hb d_Mo_does_274 (by decide) ?_
                refine lv_iadd hx hb d_Mo_does_275 ?_
                refine lv_topi (fun x_95 e_96 => ?_)
                obtain rfl : x_95 = nI (j3 + 1) := by rw [e_96]; exact nI_add _ _
                obtain ⟨x_97, e_98⟩ : ∃ z, σ.2.2.1 69 ((j3 + 1)) = z := ⟨_, rfl⟩
                refine mq_iald (k := 69) (j := (j3 + 1)) (v := x_97) hx hb hI hM (by decide) rfl (by show (j3 + 1) < 260; omega) (by decide) e_98 d_Mo_does_276 ?_
                refine lv_bipush (v := 85) hx hb d_Mo_does_277 (by decide) ?_
                refine lv_icmp_eq (tgt := 286) hx hb d_Mo_does_279 (by decide) (fun c_99 => ?_) (fun c_99 => ?_)
                · refine lv_iconst (v := 0) hx hb d_Mo_does_286 (by decide) ?_
                  refine sm_vM hI (va_runV (As := [.int (nI j1), .int (7), .int (0)]) (rest := []) ⟨hx, hb, hml, hown, hts⟩ (c_Mo_comes l D ca ad L _ _ _ hM (j1) (by omega) 7 0 (by decide) u90) (kv_Mo_comes hts rfl rfl (hts _ tw_1611) ⟨Nat.le_of_ble_eq_true rfl, Nat.le_of_ble_eq_true rfl⟩) (pv_Mo hI hE hM) rfl rfl hl.1 rfl (lv_room (Nat.le_of_ble_eq_true rfl)) d_Mo_does_287 ⟨Nat.le_of_ble_eq_true rfl, Nat.le_of_ble_eq_true rfl⟩) (fun H locs f σ_101 hI hM hF_102 p_100 => ?_)
                  have hF := mq_fr_tr hF hF_102 (by decide)
                  obtain ⟨u_103, -⟩ := p_100
                  refine lv_goto (tgt := 378) hx hb d_Mo_does_290 (by decide) ?_
                  exact sm_vret hx hb hr hlk hI ⟨σ_101, rfl, hM, hF, ⟨u_103, trivial⟩⟩ d_Mo_does_378
                · refine lv_iconst (v := 1) hx hb d_Mo_does_282 (by decide) ?_
                  refine lv_goto (tgt := 287) hx hb d_Mo_does_283 (by decide) ?_
                  refine sm_vM hI (va_runV (As := [.int (nI j1), .int (7), .int (1)]) (rest := []) ⟨hx, hb, hml, hown, hts⟩ (c_Mo_comes l D ca ad L _ _ _ hM (j1) (by omega) 7 1 (by decide) u90) (kv_Mo_comes hts rfl rfl (hts _ tw_1611) ⟨Nat.le_of_ble_eq_true rfl, Nat.le_of_ble_eq_true rfl⟩) (pv_Mo hI hE hM) rfl rfl hl.1 rfl (lv_room (Nat.le_of_ble_eq_true rfl)) d_Mo_does_287 ⟨Nat.le_of_ble_eq_true rfl, Nat.le_of_ble_eq_true rfl⟩) (fun H locs f σ_105 hI hM hF_106 p_104 => ?_)
                  have hF := mq_fr_tr hF hF_106 (by decide)
                  obtain ⟨u_107, -⟩ := p_104
                  refine lv_goto (tgt := 378) hx hb d_Mo_does_290 (by decide) ?_
                  exact sm_vret hx hb hr hlk hI ⟨σ_105, rfl, hM, hF, ⟨u_107, trivial⟩⟩ d_Mo_does_378
          · refine lv_aload_n hx hb d_Mo_does_242 rfl (lv_at hl 3 rfl) ?_
            refine lv_iload_n hx hb d_Mo_does_243 rfl (lv_at hl 4 rfl) ?_
            refine lv_iload_n hx hb d_Mo_does_244 rfl (lv_at hl 6 rfl) ?_
            refine sm_vM hI (va_runV (As := [.int (nI j1), .int (nI j3)]) (rest := []) ⟨hx, hb, hml, hown, hts⟩ (c_Mo_setClock l D ca ad L _ _ _ hM (j1) (by omega) (j3) (by omega) u90) (kv_Mo_setClock hts rfl rfl (hts _ tw_1654) ⟨Nat.le_of_ble_eq_true rfl, Nat.le_of_ble_eq_true rfl⟩) (pv_Mo hI hE hM) rfl rfl hl.1 rfl (lv_room (Nat.le_of_ble_eq_true rfl)) d_Mo_does_245 ⟨Nat.le_of_ble_eq_true rfl, Nat.le_of_ble_eq_true rfl⟩) (fun H locs f σ_109 hI hM hF_110 p_108 => ?_)
            have hF := mq_fr_tr hF hF_110 (by decide)
            obtain ⟨u_111, -⟩ := p_108
            refine lv_goto (tgt := 378) hx hb d_Mo_does_248 (by decide) ?_
            exact sm_vret hx hb hr hlk hI ⟨σ_109, rfl, hM, hF, ⟨u_111, trivial⟩⟩ d_Mo_does_378
        · refine lv_aload_n hx hb d_Mo_does_160 rfl (lv_at hl 3 rfl) ?_
          refine lv_iload_n hx hb d_Mo_does_161 rfl (lv_at hl 4 rfl) ?_
          refine lv_aload_n hx hb d_Mo_does_162 rfl (lv_at hl 3 rfl) ?_
          refine mq_get (k := 4) (v := .ref (ad 4)) hx hb hts hown hI hM (by decide) rfl rfl (hts _ tw_1173) d_Mo_does_163 ?_
          refine lv_iload hx hb d_Mo_does_166 (lv_at hl 7 rfl) ?_
          refine lv_topi (fun x_112 e_113 => ?_)
          obtain ⟨j_114, h_115, rfl⟩ : ∃ j : Nat, j < 32 ∧ x_112 = nI j := by rw [e_113]; obtain ⟨j, h1, h2⟩ := hp c_84; exact ⟨j, by omega, h2⟩
          obtain ⟨x_116, e_117⟩ : ∃ z, σ.2.2.1 4 (j_114) = z := ⟨_, rfl⟩
          refine mq_iald (k := 4) (j := j_114) (v := x_116) hx hb hI hM (by decide) rfl (by show j_114 < 32; omega) (by decide) e_117 d_Mo_does_168 ?_
          refine sm_iP hI (va_runS (As := [.int (x_116)]) (rest := [.int (nI j1), .ref (ad 71)]) ⟨hx, hb, hml, hown, hts⟩ (c_Mo_typeOf l D ca L _ _ x_116) (ks_Mo_typeOf hts rfl rfl (hts _ tw_1470) ⟨Nat.le_of_ble_eq_true rfl, Nat.le_of_ble_eq_true rfl⟩) (sm_preS hI hE) rfl rfl hl.1 rfl (lv_room (Nat.le_of_ble_eq_true rfl)) d_Mo_does_169 ⟨Nat.le_of_ble_eq_true rfl, Nat.le_of_ble_eq_true rfl⟩) (fun x_119 H locs p_118 hI => ?_)
          refine lv_iconst (v := 1) hx hb d_Mo_does_172 (by decide) ?_
          refine lv_iconst (v := 5) hx hb d_Mo_does_173 (by decide) ?_
          refine lv_iload hx hb d_Mo_does_174 (lv_at hl 1 rfl) ?_
          refine lv_ior hx hb d_Mo_does_176 ?_
          refine lv_topi (fun x_120 e_121 => ?_)
          refine lv_iload hx hb d_Mo_does_177 (lv_at hl 0 rfl) ?_
          refine sm_vM hI (va_runV (As := [.int (nI j1), .int (x_119), .int (1), .int (x_120), .int (x_80)]) (rest := []) ⟨hx, hb, hml, hown, hts⟩ (c_Mo_begin l D ca ad L _ _ _ hM (nI j1) x_119 1 x_120 x_80) (kv_Mo_begin hts rfl rfl (hts _ tw_1473) ⟨Nat.le_of_ble_eq_true rfl, Nat.le_of_ble_eq_true rfl⟩) (pv_Mo hI hE hM) rfl rfl hl.1 rfl (lv_room (Nat.le_of_ble_eq_true rfl)) d_Mo_does_179 ⟨Nat.le_of_ble_eq_true rfl, Nat.le_of_ble_eq_true rfl⟩) (fun H locs f σ_123 hI hM hF_124 p_122 => ?_)
          have hF := mq_fr_tr hF hF_124 (by decide)
          have u_125 := IH_fr hF_124 (by decide) u90
          obtain ⟨⟨n_127, h_128, h_129, o_126⟩, -⟩ := p_122
          refine lv_aload_n hx hb d_Mo_does_182 rfl (lv_at hl 3 rfl) ?_
          refine lv_aload_n hx hb d_Mo_does_183 rfl (lv_at hl 3 rfl) ?_
          refine mq_get (k := 3) (v := .ref (ad 3)) hx hb hts hown hI hM (by decide) rfl rfl (hts _ tw_1172) d_Mo_does_184 ?_
          refine lv_iload hx hb d_Mo_does_187 (lv_at hl 7 rfl) ?_
          refine lv_topi (fun x_130 e_131 => ?_)
          obtain ⟨j_132, h_133, rfl⟩ : ∃ j : Nat, j < 32 ∧ x_130 = nI j := by rw [e_131]; obtain ⟨j, h1, h2⟩ := hp c_84; exact ⟨j, by omega, h2⟩
          obtain ⟨x_134, e_135⟩ : ∃ z, σ_123.2.2.1 3 (j_132) = z := ⟨_, rfl⟩
          refine mq_iald (k := 3) (j := j_132) (v := x_134) hx hb hI hM (by decide) rfl (by show j_132 < 32; omega) (by decide) e_135 d_Mo_does_189 ?_
          refine lv_aload_n hx hb d_Mo_does_190 rfl (lv_at hl 3 rfl) ?_
          refine lv_iload_n hx hb d_Mo_does_191 rfl (lv_at hl 4 rfl) ?_
          refine sm_iP hI (va_runV (As := [.int (nI j1)]) (rest := [.int (x_134), .ref (ad 71)]) ⟨hx, hb, hml, hown, hts⟩ (c_Mo_objectBytes l D ca ad L _ _ _ hM (nI j1)) (kv_Mo_objectBytes hts rfl rfl (hts _ tw_1462) ⟨Nat.le_of_ble_eq_true rfl, Nat.le_of_ble_eq_true rfl⟩) (pv_Mo hI hE hM) rfl rfl hl.1 rfl (lv_room (Nat.le_of_ble_eq_true rfl)) d_Mo_does_192 ⟨Nat.le_of_ble_eq_true rfl, Nat.le_of_ble_eq_true rfl⟩) (fun x_137 H locs p_136 hI => ?_)
          obtain ⟨n_138, rfl, h_139, h_140, h_141⟩ := p_136
          refine sm_vM hI (va_runV (As := [.int (x_134), .int (nI n_138)]) (rest := []) ⟨hx, hb, hml, hown, hts⟩ (c_Mo_addNumber l D ca ad L _ _ _ hM x_134 (n_138) (by omega) (n_127) o_126 (by omega)) (kv_Mo_addNumber hts rfl rfl (hts _ tw_1481) ⟨Nat.le_of_ble_eq_true rfl, Nat.le_of_ble_eq_true rfl⟩) (pv_Mo hI hE hM) rfl rfl hl.1 rfl (lv_room (Nat.le_of_ble_eq_true rfl)) d_Mo_does_195 ⟨Nat.le_of_ble_eq_true rfl, Nat.le_of_ble_eq_true rfl⟩) (fun H locs f σ_143 hI hM hF_144 p_142 => ?_)
          have hF := mq_fr_tr hF hF_144 (by decide)
          have u_145 := IH_fr hF_144 (by decide) u_125
          obtain ⟨o_146, -⟩ := p_142
          refine lv_aload_n hx hb d_Mo_does_198 rfl (lv_at hl 3 rfl) ?_
          refine lv_aload_n hx hb d_Mo_does_199 rfl (lv_at hl 3 rfl) ?_
          refine mq_get (k := 4) (v := .ref (ad 4)) hx hb hts hown hI hM (by decide) rfl rfl (hts _ tw_1173) d_Mo_does_200 ?_
          refine lv_iload hx hb d_Mo_does_203 (lv_at hl 7 rfl) ?_
          refine lv_topi (fun x_147 e_148 => ?_)
          obtain ⟨j_149, h_150, rfl⟩ : ∃ j : Nat, j < 32 ∧ x_147 = nI j := by rw [e_148]; obtain ⟨j, h1, h2⟩ := hp c_84; exact ⟨j, by omega, h2⟩
          obtain ⟨x_151, e_152⟩ : ∃ z, σ_143.2.2.1 4 (j_149) = z := ⟨_, rfl⟩
          refine mq_iald (k := 4) (j := j_149) (v := x_151) hx hb hI hM (by decide) rfl (by show j_149 < 32; omega) (by decide) e_152 d_Mo_does_205 ?_
          refine lv_aload_n hx hb d_Mo_does_206 rfl (lv_at hl 3 rfl) ?_
          refine mq_get (k := 7) (v := .ref (ad 7)) hx hb hts hown hI hM (by decide) rfl rfl (hts _ tw_1176) d_Mo_does_207 ?_
          refine lv_iload hx hb d_Mo_does_210 (lv_at hl 7 rfl) ?_
          refine lv_topi (fun x_153 e_154 => ?_)
          obtain ⟨j_155, h_156, rfl⟩ : ∃ j : Nat, j < 32 ∧ x_153 = nI j := by rw [e_154]; obtain ⟨j, h1, h2⟩ := hp c_84; exact ⟨j, by omega, h2⟩
          obtain ⟨x_157, e_158⟩ : ∃ z, σ_143.2.2.1 7 (j_155) = z := ⟨_, rfl⟩
          refine mq_iald (k := 7) (j := j_155) (v := x_157) hx hb hI hM (by decide) rfl (by show j_155 < 32; omega) (by decide) e_158 d_Mo_does_212 ?_
          refine lv_aload_n hx hb d_Mo_does_213 rfl (lv_at hl 3 rfl) ?_
          refine mq_get (k := 8) (v := .ref (ad 8)) hx hb hts hown hI hM (by decide) rfl rfl (hts _ tw_1177) d_Mo_does_214 ?_
          refine lv_iload hx hb d_Mo_does_217 (lv_at hl 7 rfl) ?_
          refine lv_topi (fun x_159 e_160 => ?_)
          obtain ⟨j_161, h_162, rfl⟩ : ∃ j : Nat, j < 32 ∧ x_159 = nI j := by rw [e_160]; obtain ⟨j, h1, h2⟩ := hp c_84; exact ⟨j, by omega, h2⟩
          obtain ⟨x_163, e_164⟩ : ∃ z, σ_143.2.2.1 8 (j_161) = z := ⟨_, rfl⟩
          refine mq_iald (k := 8) (j := j_161) (v := x_163) hx hb hI hM (by decide) rfl (by show j_161 < 32; omega) (by decide) e_164 d_Mo_does_219 ?_
          refine lv_aload_n hx hb d_Mo_does_220 rfl (lv_at hl 3 rfl) ?_
          obtain ⟨x_165, e_166⟩ : ∃ z, σ_143.1 9 = z := ⟨_, rfl⟩
          refine mq_get (k := 9) (v := .int (x_165)) hx hb hts hown hI hM (by decide) (congrArg (fun z => some (Value.int z)) e_166) rfl (hts _ tw_1178) d_Mo_does_221 ?_
          refine sm_vM hI (va_runV (As := [.int (x_151), .int (x_157), .int (x_163), .int (x_165)]) (rest := []) ⟨hx, hb, hml, hown, hts⟩ (c_Mo_addObject l D ca ad L _ _ _ hM x_151 x_157 x_163 x_165 ((n_127 + n_138)) o_146 (by omega)) (kv_Mo_addObject hts rfl rfl (hts _ tw_1488) ⟨Nat.le_of_ble_eq_true rfl, Nat.le_of_ble_eq_true rfl⟩) (pv_Mo hI hE hM) rfl rfl hl.1 rfl (lv_room (Nat.le_of_ble_eq_true rfl)) d_Mo_does_224 ⟨Nat.le_of_ble_eq_true rfl, Nat.le_of_ble_eq_true rfl⟩) (fun H locs f σ_168 hI hM hF_169 p_167 => ?_)
          have hF := mq_fr_tr hF hF_169 (by decide)
          have u_170 := IH_fr hF_169 (by decide) u_145
          obtain ⟨⟨n_172, h_173, h_174, o_171⟩, -⟩ := p_167
          refine lv_aload_n hx hb d_Mo_does_227 rfl (lv_at hl 3 rfl) ?_
          refine lv_iload_n hx hb d_Mo_does_228 rfl (lv_at hl 4 rfl) ?_
          refine lv_iconst (v := 0) hx hb d_Mo_does_229 (by decide) ?_
          refine sm_vM hI (va_runV (As := [.int (nI j1), .int (0)]) (rest := []) ⟨hx, hb, hml, hown, hts⟩ (c_Mo_answered l D ca ad L _ _ _ hM (j1) (by omega) 0 (by decide) u_170) (kv_Mo_answered hts rfl rfl (hts _ tw_1615) ⟨Nat.le_of_ble_eq_true rfl, Nat.le_of_ble_eq_true rfl⟩) (pv_Mo hI hE hM) rfl rfl hl.1 rfl (lv_room (Nat.le_of_ble_eq_true rfl)) d_Mo_does_230 ⟨Nat.le_of_ble_eq_true rfl, Nat.le_of_ble_eq_true rfl⟩) (fun H locs f σ_176 hI hM hF_177 p_175 => ?_)
          have hF := mq_fr_tr hF hF_177 (by decide)
          have o_178 : σ_176.1 70 = nI n_172 := mq_fi hF_177 (by decide) o_171
          obtain ⟨u_179, -⟩ := p_175
          refine lv_goto (tgt := 378) hx hb d_Mo_does_233 (by decide) ?_
          exact sm_vret hx hb hr hlk hI ⟨σ_176, rfl, hM, hF, ⟨u_179, trivial⟩⟩ d_Mo_does_378
      · exact hJ_50 _ _ _ _ _ z0 x_78 x_80 hI hM hF (lv_sub hl [3, 4, 5, 6, 7, 2, 1, 0] rfl) u90
  refine lv_iload_n hx hb d_Mo_does_0 rfl (lv_at hl 2 rfl) ?_
  refine lv_bipush (v := 102) hx hb d_Mo_does_1 (by decide) ?_
  refine lv_icmp_ne (tgt := 10) hx hb d_Mo_does_3 (by decide) (fun c_180 => ?_) (fun c_180 => ?_)
  · refine lv_aload_n hx hb d_Mo_does_10 rfl (lv_at hl 0 rfl) ?_
    refine mq_get (k := 69) (v := .ref (ad 69)) hx hb hts hown hI hM (by decide) rfl rfl (hts _ tw_1238) d_Mo_does_11 ?_
    refine lv_iload_n hx hb d_Mo_does_14 rfl (lv_at hl 3 rfl) ?_
    obtain ⟨x_181, e_182⟩ : ∃ z, σ0.2.2.1 69 (j3) = z := ⟨_, rfl⟩
    refine mq_iald (k := 69) (j := j3) (v := x_181) hx hb hI hM (by decide) rfl (by show j3 < 260; omega) (by decide) e_182 d_Mo_does_15 ?_
    exact hJ_16 _ _ _ _ _ x_181 hI hM hF (lv_sub hl [0, 1, 2, 3, 4] rfl) u0
  · refine lv_iconst (v := 0) hx hb d_Mo_does_6 (by decide) ?_
    refine lv_goto (tgt := 16) hx hb d_Mo_does_7 (by decide) ?_
    exact hJ_16 _ _ _ _ _ 0 hI hM hF (lv_sub hl [0, 1, 2, 3, 4] rfl) u0
