/-! the reference: confirmations, replies (written by wip/tools) -/
theorem d_Mo_confirms_0 : decode b_Mo_confirms 0 = .ok (.aload_n 0, 1) := by decide +kernel
theorem d_Mo_confirms_1 : decode b_Mo_confirms 1 = .ok (.getfield 66, 3) := by decide +kernel
theorem d_Mo_confirms_4 : decode b_Mo_confirms 4 = .ok (.iload_n 1, 1) := by decide +kernel
theorem d_Mo_confirms_5 : decode b_Mo_confirms 5 = .ok (.iconst 0, 1) := by decide +kernel
theorem d_Mo_confirms_6 : decode b_Mo_confirms 6 = .ok (.iastore, 1) := by decide +kernel
theorem d_Mo_confirms_7 : decode b_Mo_confirms 7 = .ok (.aload_n 0, 1) := by decide +kernel
theorem d_Mo_confirms_8 : decode b_Mo_confirms 8 = .ok (.iload_n 1, 1) := by decide +kernel
theorem d_Mo_confirms_9 : decode b_Mo_confirms 9 = .ok (.iconst 1, 1) := by decide +kernel
theorem d_Mo_confirms_10 : decode b_Mo_confirms 10 = .ok (.iconst 2, 1) := by decide +kernel
theorem d_Mo_confirms_11 : decode b_Mo_confirms 11 = .ok (.aload_n 0, 1) := by decide +kernel
theorem d_Mo_confirms_12 : decode b_Mo_confirms 12 = .ok (.getfield 50, 3) := by decide +kernel
theorem d_Mo_confirms_15 : decode b_Mo_confirms 15 = .ok (.iload_n 1, 1) := by decide +kernel
theorem d_Mo_confirms_16 : decode b_Mo_confirms 16 = .ok (.iaload, 1) := by decide +kernel
theorem d_Mo_confirms_17 : decode b_Mo_confirms 17 = .ok (.imul, 1) := by decide +kernel
theorem d_Mo_confirms_18 : decode b_Mo_confirms 18 = .ok (.iconst 0, 1) := by decide +kernel
theorem d_Mo_confirms_19 : decode b_Mo_confirms 19 = .ok (.invokevirtual 286, 3) := by decide +kernel
theorem d_Mo_confirms_22 : decode b_Mo_confirms 22 = .ok (.return_, 1) := by decide +kernel
set_option maxRecDepth 100000 in
set_option maxHeartbeats 4000000 in
theorem c_Mo_confirms (l : Launch) (D : va_G) (ca : Nat → ClassId) (ad : Nat → Nat) (L : List Nat) (f0 : Nat → va_E) (sz : Nat) (σ0 : mq_S) (hM : mq_B ca ad σ0 L f0) (j1 : Nat) (q1 : j1 ≤ 2) (u0 : IH σ0) :
    Met l y_Mo_confirms (Cond.code y_Mo_confirms b_Mo_confirms 2 none :: wg) { frames := 3, cells := 0, slots := 0, locals := 69 } (va_Pc [.ref (ad 71), .int (nI j1)] (sm_P D cl_all (ty_s ca) ek L f0 sz)) (sm_Qv D (ty_s ca) L f0 sz (fun u => mq_po ca ad L σ0 [13, 14, 15, 16, 18, 24, 25, 30, 42, 52, 65] (fun σ => IH σ ∧ True) u)) 0 0 (va_A (va_pl L f0) sz) := by
  refine sm_start (by decide) (Nat.le_of_ble_eq_true rfl) ?_
  intro p e s m below meth c ls hx hb hml hr hlk hnm hts hown hsz hE hI hl
  have hl : lv_has ls 2 [(0, .ref (ad 71)), (1, .int (nI j1))] := hl
  have hF : mq_fr [13, 14, 15, 16, 18, 24, 25, 30, 42, 52, 65] σ0 σ0 := mq_fr_rf
  refine lv_aload_n hx hb d_Mo_confirms_0 rfl (lv_at hl 0 rfl) ?_
  refine mq_get (k := 25) (v := .ref (ad 25)) hx hb hts hown hI hM (by decide) rfl rfl (hts _ tw_1194) d_Mo_confirms_1 ?_
  refine lv_iload_n hx hb d_Mo_confirms_4 rfl (lv_at hl 1 rfl) ?_
  refine lv_iconst (v := 0) hx hb d_Mo_confirms_5 (by decide) ?_
  refine mq_iast (k := 25) (j := j1) (x := 0) hx hb hI hM (by decide) rfl (by show j1 < 3; omega) (by decide) trivial d_Mo_confirms_6 (fun H locs f σ_1 e_2 hI hM => ?_)
  have hF := mq_fr_ug hF e_2 rfl (Or.inl rfl)
  have u_3 := IH_fr (mq_fr_ug (X := [25]) mq_fr_rf e_2 rfl (Or.inl rfl)) (by decide) u0
  refine lv_aload_n hx hb d_Mo_confirms_7 rfl (lv_at hl 0 rfl) ?_
  refine lv_iload_n hx hb d_Mo_confirms_8 rfl (lv_at hl 1 rfl) ?_
  refine lv_iconst (v := 1) hx hb d_Mo_confirms_9 (by decide) ?_
  refine lv_iconst (v := 2) hx hb d_Mo_confirms_10 (by decide) ?_
  refine lv_aload_n hx hb d_Mo_confirms_11 rfl (lv_at hl 0 rfl) ?_
  refine mq_get (k := 20) (v := .ref (ad 20)) hx hb hts hown hI hM (by decide) rfl rfl (hts _ tw_1189) d_Mo_confirms_12 ?_
  refine lv_iload_n hx hb d_Mo_confirms_15 rfl (lv_at hl 1 rfl) ?_
  obtain ⟨x_4, e_5⟩ : ∃ z, σ_1.2.2.1 20 (j1) = z := ⟨_, rfl⟩
  refine mq_iald (k := 20) (j := j1) (v := x_4) hx hb hI hM (by decide) rfl (by show j1 < 3; omega) (by decide) e_5 d_Mo_confirms_16 ?_
  refine lv_imul hx hb d_Mo_confirms_17 ?_
  refine lv_topi (fun x_6 e_7 => ?_)
  refine lv_iconst (v := 0) hx hb d_Mo_confirms_18 (by decide) ?_
  refine sm_vM hI (va_runV (As := [.int (nI j1), .int (1), .int (x_6), .int (0)]) (rest := []) ⟨hx, hb, hml, hown, hts⟩ (c_Mo_frame l D ca ad L _ _ _ hM (j1) (by omega) 1 x_6 0 (by decide) u_3) (kv_Mo_frame hts rfl rfl (hts _ tw_1509) ⟨Nat.le_of_ble_eq_true rfl, Nat.le_of_ble_eq_true rfl⟩) (pv_Mo hI hE hM) rfl rfl hl.1 rfl (lv_room (Nat.le_of_ble_eq_true rfl)) d_Mo_confirms_19 ⟨Nat.le_of_ble_eq_true rfl, Nat.le_of_ble_eq_true rfl⟩) (fun H locs f σ_9 hI hM hF_10 p_8 => ?_)
  have hF := mq_fr_tr hF hF_10 (by decide)
  obtain ⟨u_11, -⟩ := p_8
  exact sm_vret hx hb hr hlk hI ⟨σ_9, rfl, hM, hF, ⟨u_11, trivial⟩⟩ d_Mo_confirms_22
theorem d_Mo_confirmed_0 : decode b_Mo_confirmed 0 = .ok (.iload_n 2, 1) := by decide +kernel
theorem d_Mo_confirmed_1 : decode b_Mo_confirmed 1 = .ok (.aload_n 0, 1) := by decide +kernel
theorem d_Mo_confirmed_2 : decode b_Mo_confirmed 2 = .ok (.getfield 53, 3) := by decide +kernel
theorem d_Mo_confirmed_5 : decode b_Mo_confirmed 5 = .ok (.iload_n 1, 1) := by decide +kernel
theorem d_Mo_confirmed_6 : decode b_Mo_confirmed 6 = .ok (.iaload, 1) := by decide +kernel
theorem d_Mo_confirmed_7 : decode b_Mo_confirmed 7 = .ok (.isub, 1) := by decide +kernel
theorem d_Mo_confirmed_8 : decode b_Mo_confirmed 8 = .ok (.ldc_w 285, 3) := by decide +kernel
theorem d_Mo_confirmed_11 : decode b_Mo_confirmed 11 = .ok (.iadd, 1) := by decide +kernel
theorem d_Mo_confirmed_12 : decode b_Mo_confirmed 12 = .ok (.ldc_w 285, 3) := by decide +kernel
theorem d_Mo_confirmed_15 : decode b_Mo_confirmed 15 = .ok (.irem, 1) := by decide +kernel
theorem d_Mo_confirmed_16 : decode b_Mo_confirmed 16 = .ok (.istore_n 3, 1) := by decide +kernel
theorem d_Mo_confirmed_17 : decode b_Mo_confirmed 17 = .ok (.iload_n 3, 1) := by decide +kernel
theorem d_Mo_confirmed_18 : decode b_Mo_confirmed 18 = .ok (.aload_n 0, 1) := by decide +kernel
theorem d_Mo_confirmed_19 : decode b_Mo_confirmed 19 = .ok (.getfield 56, 3) := by decide +kernel
theorem d_Mo_confirmed_22 : decode b_Mo_confirmed 22 = .ok (.iload_n 1, 1) := by decide +kernel
theorem d_Mo_confirmed_23 : decode b_Mo_confirmed 23 = .ok (.iaload, 1) := by decide +kernel
theorem d_Mo_confirmed_24 : decode b_Mo_confirmed 24 = .ok (.if_icmp .le 5, 3) := by decide +kernel
theorem d_Mo_confirmed_27 : decode b_Mo_confirmed 27 = .ok (.iconst 0, 1) := by decide +kernel
theorem d_Mo_confirmed_28 : decode b_Mo_confirmed 28 = .ok (.ireturn, 1) := by decide +kernel
theorem d_Mo_confirmed_29 : decode b_Mo_confirmed 29 = .ok (.iconst 0, 1) := by decide +kernel
theorem d_Mo_confirmed_30 : decode b_Mo_confirmed 30 = .ok (.istore 4, 2) := by decide +kernel
theorem d_Mo_confirmed_32 : decode b_Mo_confirmed 32 = .ok (.iload 4, 2) := by decide +kernel
theorem d_Mo_confirmed_34 : decode b_Mo_confirmed 34 = .ok (.iload_n 3, 1) := by decide +kernel
theorem d_Mo_confirmed_35 : decode b_Mo_confirmed 35 = .ok (.if_icmp .ge 26, 3) := by decide +kernel
theorem d_Mo_confirmed_38 : decode b_Mo_confirmed 38 = .ok (.aload_n 0, 1) := by decide +kernel
theorem d_Mo_confirmed_39 : decode b_Mo_confirmed 39 = .ok (.aload_n 0, 1) := by decide +kernel
theorem d_Mo_confirmed_40 : decode b_Mo_confirmed 40 = .ok (.getfield 63, 3) := by decide +kernel
theorem d_Mo_confirmed_43 : decode b_Mo_confirmed 43 = .ok (.iload_n 1, 1) := by decide +kernel
theorem d_Mo_confirmed_44 : decode b_Mo_confirmed 44 = .ok (.bipush 12, 2) := by decide +kernel
theorem d_Mo_confirmed_46 : decode b_Mo_confirmed 46 = .ok (.imul, 1) := by decide +kernel
theorem d_Mo_confirmed_47 : decode b_Mo_confirmed 47 = .ok (.iload 4, 2) := by decide +kernel
theorem d_Mo_confirmed_49 : decode b_Mo_confirmed 49 = .ok (.iadd, 1) := by decide +kernel
theorem d_Mo_confirmed_50 : decode b_Mo_confirmed 50 = .ok (.iaload, 1) := by decide +kernel
theorem d_Mo_confirmed_51 : decode b_Mo_confirmed 51 = .ok (.iload_n 1, 1) := by decide +kernel
theorem d_Mo_confirmed_52 : decode b_Mo_confirmed 52 = .ok (.invokevirtual 366, 3) := by decide +kernel
theorem d_Mo_confirmed_55 : decode b_Mo_confirmed 55 = .ok (.iinc 4 1, 3) := by decide +kernel
theorem d_Mo_confirmed_58 : decode b_Mo_confirmed 58 = .ok (.goto (-26), 3) := by decide +kernel
theorem d_Mo_confirmed_61 : decode b_Mo_confirmed 61 = .ok (.aload_n 0, 1) := by decide +kernel
theorem d_Mo_confirmed_62 : decode b_Mo_confirmed 62 = .ok (.getfield 56, 3) := by decide +kernel
theorem d_Mo_confirmed_65 : decode b_Mo_confirmed 65 = .ok (.iload_n 1, 1) := by decide +kernel
theorem d_Mo_confirmed_66 : decode b_Mo_confirmed 66 = .ok (.aload_n 0, 1) := by decide +kernel
theorem d_Mo_confirmed_67 : decode b_Mo_confirmed 67 = .ok (.getfield 56, 3) := by decide +kernel
theorem d_Mo_confirmed_70 : decode b_Mo_confirmed 70 = .ok (.iload_n 1, 1) := by decide +kernel
theorem d_Mo_confirmed_71 : decode b_Mo_confirmed 71 = .ok (.iaload, 1) := by decide +kernel
theorem d_Mo_confirmed_72 : decode b_Mo_confirmed 72 = .ok (.iload_n 3, 1) := by decide +kernel
theorem d_Mo_confirmed_73 : decode b_Mo_confirmed 73 = .ok (.isub, 1) := by decide +kernel
theorem d_Mo_confirmed_74 : decode b_Mo_confirmed 74 = .ok (.iastore, 1) := by decide +kernel
theorem d_Mo_confirmed_75 : decode b_Mo_confirmed 75 = .ok (.aload_n 0, 1) := by decide +kernel
theorem d_Mo_confirmed_76 : decode b_Mo_confirmed 76 = .ok (.getfield 53, 3) := by decide +kernel
theorem d_Mo_confirmed_79 : decode b_Mo_confirmed 79 = .ok (.iload_n 1, 1) := by decide +kernel
theorem d_Mo_confirmed_80 : decode b_Mo_confirmed 80 = .ok (.iload_n 2, 1) := by decide +kernel
theorem d_Mo_confirmed_81 : decode b_Mo_confirmed 81 = .ok (.iastore, 1) := by decide +kernel
theorem d_Mo_confirmed_82 : decode b_Mo_confirmed 82 = .ok (.iconst 0, 1) := by decide +kernel
theorem d_Mo_confirmed_83 : decode b_Mo_confirmed 83 = .ok (.istore 4, 2) := by decide +kernel
theorem d_Mo_confirmed_85 : decode b_Mo_confirmed 85 = .ok (.iload 4, 2) := by decide +kernel
theorem d_Mo_confirmed_87 : decode b_Mo_confirmed 87 = .ok (.aload_n 0, 1) := by decide +kernel
theorem d_Mo_confirmed_88 : decode b_Mo_confirmed 88 = .ok (.getfield 56, 3) := by decide +kernel
theorem d_Mo_confirmed_91 : decode b_Mo_confirmed 91 = .ok (.iload_n 1, 1) := by decide +kernel
theorem d_Mo_confirmed_92 : decode b_Mo_confirmed 92 = .ok (.iaload, 1) := by decide +kernel
theorem d_Mo_confirmed_93 : decode b_Mo_confirmed 93 = .ok (.if_icmp .ge 61, 3) := by decide +kernel
theorem d_Mo_confirmed_96 : decode b_Mo_confirmed 96 = .ok (.aload_n 0, 1) := by decide +kernel
theorem d_Mo_confirmed_97 : decode b_Mo_confirmed 97 = .ok (.getfield 59, 3) := by decide +kernel
theorem d_Mo_confirmed_100 : decode b_Mo_confirmed 100 = .ok (.iload_n 1, 1) := by decide +kernel
theorem d_Mo_confirmed_101 : decode b_Mo_confirmed 101 = .ok (.bipush 12, 2) := by decide +kernel
theorem d_Mo_confirmed_103 : decode b_Mo_confirmed 103 = .ok (.imul, 1) := by decide +kernel
theorem d_Mo_confirmed_104 : decode b_Mo_confirmed 104 = .ok (.iload 4, 2) := by decide +kernel
theorem d_Mo_confirmed_106 : decode b_Mo_confirmed 106 = .ok (.iadd, 1) := by decide +kernel
theorem d_Mo_confirmed_107 : decode b_Mo_confirmed 107 = .ok (.aload_n 0, 1) := by decide +kernel
theorem d_Mo_confirmed_108 : decode b_Mo_confirmed 108 = .ok (.getfield 59, 3) := by decide +kernel
theorem d_Mo_confirmed_111 : decode b_Mo_confirmed 111 = .ok (.iload_n 1, 1) := by decide +kernel
theorem d_Mo_confirmed_112 : decode b_Mo_confirmed 112 = .ok (.bipush 12, 2) := by decide +kernel
theorem d_Mo_confirmed_114 : decode b_Mo_confirmed 114 = .ok (.imul, 1) := by decide +kernel
theorem d_Mo_confirmed_115 : decode b_Mo_confirmed 115 = .ok (.iload 4, 2) := by decide +kernel
theorem d_Mo_confirmed_117 : decode b_Mo_confirmed 117 = .ok (.iadd, 1) := by decide +kernel
theorem d_Mo_confirmed_118 : decode b_Mo_confirmed 118 = .ok (.iload_n 3, 1) := by decide +kernel
theorem d_Mo_confirmed_119 : decode b_Mo_confirmed 119 = .ok (.iadd, 1) := by decide +kernel
theorem d_Mo_confirmed_120 : decode b_Mo_confirmed 120 = .ok (.laload, 1) := by decide +kernel
theorem d_Mo_confirmed_121 : decode b_Mo_confirmed 121 = .ok (.lastore, 1) := by decide +kernel
theorem d_Mo_confirmed_122 : decode b_Mo_confirmed 122 = .ok (.aload_n 0, 1) := by decide +kernel
theorem d_Mo_confirmed_123 : decode b_Mo_confirmed 123 = .ok (.getfield 63, 3) := by decide +kernel
theorem d_Mo_confirmed_126 : decode b_Mo_confirmed 126 = .ok (.iload_n 1, 1) := by decide +kernel
theorem d_Mo_confirmed_127 : decode b_Mo_confirmed 127 = .ok (.bipush 12, 2) := by decide +kernel
theorem d_Mo_confirmed_129 : decode b_Mo_confirmed 129 = .ok (.imul, 1) := by decide +kernel
theorem d_Mo_confirmed_130 : decode b_Mo_confirmed 130 = .ok (.iload 4, 2) := by decide +kernel
theorem d_Mo_confirmed_132 : decode b_Mo_confirmed 132 = .ok (.iadd, 1) := by decide +kernel
theorem d_Mo_confirmed_133 : decode b_Mo_confirmed 133 = .ok (.aload_n 0, 1) := by decide +kernel
theorem d_Mo_confirmed_134 : decode b_Mo_confirmed 134 = .ok (.getfield 63, 3) := by decide +kernel
theorem d_Mo_confirmed_137 : decode b_Mo_confirmed 137 = .ok (.iload_n 1, 1) := by decide +kernel
theorem d_Mo_confirmed_138 : decode b_Mo_confirmed 138 = .ok (.bipush 12, 2) := by decide +kernel
theorem d_Mo_confirmed_140 : decode b_Mo_confirmed 140 = .ok (.imul, 1) := by decide +kernel
theorem d_Mo_confirmed_141 : decode b_Mo_confirmed 141 = .ok (.iload 4, 2) := by decide +kernel
theorem d_Mo_confirmed_143 : decode b_Mo_confirmed 143 = .ok (.iadd, 1) := by decide +kernel
theorem d_Mo_confirmed_144 : decode b_Mo_confirmed 144 = .ok (.iload_n 3, 1) := by decide +kernel
theorem d_Mo_confirmed_145 : decode b_Mo_confirmed 145 = .ok (.iadd, 1) := by decide +kernel
theorem d_Mo_confirmed_146 : decode b_Mo_confirmed 146 = .ok (.iaload, 1) := by decide +kernel
theorem d_Mo_confirmed_147 : decode b_Mo_confirmed 147 = .ok (.iastore, 1) := by decide +kernel
theorem d_Mo_confirmed_148 : decode b_Mo_confirmed 148 = .ok (.iinc 4 1, 3) := by decide +kernel
theorem d_Mo_confirmed_151 : decode b_Mo_confirmed 151 = .ok (.goto (-66), 3) := by decide +kernel
theorem d_Mo_confirmed_154 : decode b_Mo_confirmed 154 = .ok (.aload_n 0, 1) := by decide +kernel
theorem d_Mo_confirmed_155 : decode b_Mo_confirmed 155 = .ok (.getfield 29, 3) := by decide +kernel
theorem d_Mo_confirmed_158 : decode b_Mo_confirmed 158 = .ok (.iload_n 1, 1) := by decide +kernel
theorem d_Mo_confirmed_159 : decode b_Mo_confirmed 159 = .ok (.iaload, 1) := by decide +kernel
theorem d_Mo_confirmed_160 : decode b_Mo_confirmed 160 = .ok (.iconst 3, 1) := by decide +kernel
theorem d_Mo_confirmed_161 : decode b_Mo_confirmed 161 = .ok (.if_icmp .ne 28, 3) := by decide +kernel
theorem d_Mo_confirmed_164 : decode b_Mo_confirmed 164 = .ok (.aload_n 0, 1) := by decide +kernel
theorem d_Mo_confirmed_165 : decode b_Mo_confirmed 165 = .ok (.getfield 56, 3) := by decide +kernel
theorem d_Mo_confirmed_168 : decode b_Mo_confirmed 168 = .ok (.iload_n 1, 1) := by decide +kernel
theorem d_Mo_confirmed_169 : decode b_Mo_confirmed 169 = .ok (.iaload, 1) := by decide +kernel
theorem d_Mo_confirmed_170 : decode b_Mo_confirmed 170 = .ok (.ifCond .ne 19, 3) := by decide +kernel
theorem d_Mo_confirmed_173 : decode b_Mo_confirmed 173 = .ok (.aload_n 0, 1) := by decide +kernel
theorem d_Mo_confirmed_174 : decode b_Mo_confirmed 174 = .ok (.getfield 29, 3) := by decide +kernel
theorem d_Mo_confirmed_177 : decode b_Mo_confirmed 177 = .ok (.iload_n 1, 1) := by decide +kernel
theorem d_Mo_confirmed_178 : decode b_Mo_confirmed 178 = .ok (.iconst 1, 1) := by decide +kernel
theorem d_Mo_confirmed_179 : decode b_Mo_confirmed 179 = .ok (.iastore, 1) := by decide +kernel
theorem d_Mo_confirmed_180 : decode b_Mo_confirmed 180 = .ok (.aload_n 0, 1) := by decide +kernel
theorem d_Mo_confirmed_181 : decode b_Mo_confirmed 181 = .ok (.iload_n 1, 1) := by decide +kernel
theorem d_Mo_confirmed_182 : decode b_Mo_confirmed 182 = .ok (.bipush 35, 2) := by decide +kernel
theorem d_Mo_confirmed_184 : decode b_Mo_confirmed 184 = .ok (.iconst 0, 1) := by decide +kernel
theorem d_Mo_confirmed_185 : decode b_Mo_confirmed 185 = .ok (.iconst 0, 1) := by decide +kernel
theorem d_Mo_confirmed_186 : decode b_Mo_confirmed 186 = .ok (.invokevirtual 286, 3) := by decide +kernel
theorem d_Mo_confirmed_189 : decode b_Mo_confirmed 189 = .ok (.iconst 1, 1) := by decide +kernel
theorem d_Mo_confirmed_190 : decode b_Mo_confirmed 190 = .ok (.ireturn, 1) := by decide +kernel
set_option maxRecDepth 100000 in
set_option maxHeartbeats 4000000 in
theorem c_Mo_confirmed (l : Launch) (D : va_G) (ca : Nat → ClassId) (ad : Nat → Nat) (L : List Nat) (f0 : Nat → va_E) (sz : Nat) (σ0 : mq_S) (hM : mq_B ca ad σ0 L f0) (j1 : Nat) (q1 : j1 ≤ 2) (j2 : Nat) (q2 : j2 ≤ 32767) (u0 : IH σ0) :
    Met l y_Mo_confirmed (Cond.code y_Mo_confirmed b_Mo_confirmed 5 (some .boolean) :: wg) { frames := 3, cells := 0, slots := 0, locals := 69 } (va_Pc [.ref (ad 71), .int (nI j1), .int (nI j2)] (sm_P D cl_all (ty_s ca) ek L f0 sz)) (sm_Qi D (ty_s ca) L f0 sz (fun r u => mq_po ca ad L σ0 [13, 14, 15, 16, 18, 21, 22, 23, 24, 30, 42, 43, 45, 46, 47, 48, 49, 50, 51, 52, 65] (fun σ => (r = 0 ∨ r = 1) ∧ IH σ ∧ True) u)) 0 0 (va_A (va_pl L f0) sz) := by
  refine sm_start (by decide) (Nat.le_of_ble_eq_true rfl) ?_
  intro p e s m below meth c ls hx hb hml hr hlk hnm hts hown hsz hE hI hl
  have hl : lv_has ls 5 [(0, .ref (ad 71)), (1, .int (nI j1)), (2, .int (nI j2))] := hl
  have hF : mq_fr [13, 14, 15, 16, 18, 21, 22, 23, 24, 30, 42, 43, 45, 46, 47, 48, 49, 50, 51, 52, 65] σ0 σ0 := mq_fr_rf
  have hJ_85 : ∀ (N k : Nat) (H : Heap) (locs : List Loc) (f : Nat → va_E) (σ : mq_S) (ls : Array Slot) (r : Nat) (w : Nat), 12 + 1 - k ≤ N → k ≤ 12 → sw_I D cl_all (ty_s ca) (va_A (va_pl L f0) sz) s H locs L f → mq_B ca ad σ L f → mq_fr [13, 14, 15, 16, 18, 21, 22, 23, 24, 30, 42, 43, 45, 46, 47, 48, 49, 50, 51, 52, 65] σ0 σ → lv_has ls 5 [(0, .ref (ad 71)), (1, .int (nI j1)), (2, .int (nI j2)), (3, .int (nI r)), (4, .int (nI k))] → (0 ≤ w) → (w ≤ 12) → (σ.2.2.1 22 (j1) = nI w) → (IH σ) → (r + w ≤ 12) → W p l e { frames := 3, cells := 0, slots := 0, locals := 69 } s m ([.ref (ad 71), .int (nI j1), .int (nI j2)] : List Value).toArray below meth c H locs 0 0 (MQ below (sm_Qi D (ty_s ca) L f0 sz (fun r u => mq_po ca ad L σ0 [13, 14, 15, 16, 18, 21, 22, 23, 24, 30, 42, 43, 45, 46, 47, 48, 49, 50, 51, 52, 65] (fun σ => (r = 0 ∨ r = 1) ∧ IH σ ∧ True) u)) ([.ref (ad 71), .int (nI j1), .int (nI j2)] : List Value).toArray s 0 0 (va_A (va_pl L f0) sz)) (F0 m 85 ls []) := by
    intro N
    induction N with
    | zero => intros; omega
    | succ N ih =>
      intro k H locs f σ ls r w hN hk hI hM hF hl h90a h90b o90 u90 hrr
      refine lv_iload hx hb d_Mo_confirmed_85 (lv_at hl 4 rfl) ?_
      refine lv_aload_n hx hb d_Mo_confirmed_87 rfl (lv_at hl 0 rfl) ?_
      refine mq_get (k := 22) (v := .ref (ad 22)) hx hb hts hown hI hM (by decide) rfl rfl (hts _ tw_1191) d_Mo_confirmed_88 ?_
      refine lv_iload_n hx hb d_Mo_confirmed_91 rfl (lv_at hl 1 rfl) ?_
      refine mq_iald (k := 22) (j := j1) (v := nI w) hx hb hI hM (by decide) rfl (by show j1 < 3; omega) (by decide) o90 d_Mo_confirmed_92 ?_
      refine lv_icmp_ge (tgt := 154) hx hb d_Mo_confirmed_93 (by decide) (fun c_1 => ?_) (fun c_1 => ?_)
      · have k_2 : w ≤ k := (nI_leI (a := w) (b := k) (by omega) (by omega)).mp c_1
        refine lv_aload_n hx hb d_Mo_confirmed_154 rfl (lv_at hl 0 rfl) ?_
        refine mq_get (k := 13) (v := .ref (ad 13)) hx hb hts hown hI hM (by decide) rfl rfl (hts _ tw_1182) d_Mo_confirmed_155 ?_
        refine lv_iload_n hx hb d_Mo_confirmed_158 rfl (lv_at hl 1 rfl) ?_
        obtain ⟨x_3, e_4⟩ : ∃ z, σ.2.2.1 13 (j1) = z := ⟨_, rfl⟩
        refine mq_iald (k := 13) (j := j1) (v := x_3) hx hb hI hM (by decide) rfl (by show j1 < 4; omega) (by decide) e_4 d_Mo_confirmed_159 ?_
        refine lv_iconst (v := 3) hx hb d_Mo_confirmed_160 (by decide) ?_
        refine lv_icmp_ne (tgt := 189) hx hb d_Mo_confirmed_161 (by decide) (fun c_5 => ?_) (fun c_5 => ?_)
        · refine lv_iconst (v := 1) hx hb d_Mo_confirmed_189 (by decide) ?_
          exact sm_zret hx hb hr hlk hI (by decide) ⟨σ, rfl, hM, hF, ⟨(by decide), u90, trivial⟩⟩ d_Mo_confirmed_190
        · refine lv_aload_n hx hb d_Mo_confirmed_164 rfl (lv_at hl 0 rfl) ?_
          refine mq_get (k := 22) (v := .ref (ad 22)) hx hb hts hown hI hM (by decide) rfl rfl (hts _ tw_1191) d_Mo_confirmed_165 ?_
          refine lv_iload_n hx hb d_Mo_confirmed_168 rfl (lv_at hl 1 rfl) ?_
          refine mq_iald (k := 22) (j := j1) (v := nI w) hx hb hI hM (by decide) rfl (by show j1 < 3; omega) (by decide) o90 d_Mo_confirmed_169 ?_
          refine lv_if_ne (tgt := 189) hx hb d_Mo_confirmed_170 (by decide) (fun c_6 => ?_) (fun c_6 => ?_)
          · have k_7 : 0 < w := Nat.pos_of_ne_zero (fun q => c_6 (by rw [q]; decide))
            refine lv_iconst (v := 1) hx hb d_Mo_confirmed_189 (by decide) ?_
            exact sm_zret hx hb hr hlk hI (by decide) ⟨σ, rfl, hM, hF, ⟨(by decide), u90, trivial⟩⟩ d_Mo_confirmed_190
          · have k_9 : w = 0 := nz_eq c_6 (by omega)
            refine lv_aload_n hx hb d_Mo_confirmed_173 rfl (lv_at hl 0 rfl) ?_
            refine mq_get (k := 13) (v := .ref (ad 13)) hx hb hts hown hI hM (by decide) rfl rfl (hts _ tw_1182) d_Mo_confirmed_174 ?_
            refine lv_iload_n hx hb d_Mo_confirmed_177 rfl (lv_at hl 1 rfl) ?_
            refine lv_iconst (v := 1) hx hb d_Mo_confirmed_178 (by decide) ?_
            refine mq_iast (k := 13) (j := j1) (x := 1) hx hb hI hM (by decide) rfl (by show j1 < 4; omega) (by decide) trivial d_Mo_confirmed_179 (fun H locs f σ_10 e_11 hI hM => ?_)
            have hF := mq_fr_ug hF e_11 rfl (Or.inl rfl)
            have o_12 : σ_10.2.2.1 22 (j1) = nI w := by rw [e_11]; exact o90
            have u_13 := IH_fr (mq_fr_ug (X := [13]) mq_fr_rf e_11 rfl (Or.inl rfl)) (by decide) u90
            refine lv_aload_n hx hb d_Mo_confirmed_180 rfl (lv_at hl 0 rfl) ?_
            refine lv_iload_n hx hb d_Mo_confirmed_181 rfl (lv_at hl 1 rfl) ?_
            refine lv_bipush (v := 35) hx hb d_Mo_confirmed_182 (by decide) ?_
            refine lv_iconst (v := 0) hx hb d_Mo_confirmed_184 (by decide) ?_
            refine lv_iconst (v := 0) hx hb d_Mo_confirmed_185 (by decide) ?_
            refine sm_vM hI (va_runV (As := [.int (nI j1), .int (35), .int (0), .int (0)]) (rest := []) ⟨hx, hb, hml, hown, hts⟩ (c_Mo_frame l D ca ad L _ _ _ hM (j1) (by omega) 35 0 0 (by decide) u_13) (kv_Mo_frame hts rfl rfl (hts _ tw_1509) ⟨Nat.le_of_ble_eq_true rfl, Nat.le_of_ble_eq_true rfl⟩) (pv_Mo hI hE hM) rfl rfl hl.1 rfl (lv_room (Nat.le_of_ble_eq_true rfl)) d_Mo_confirmed_186 ⟨Nat.le_of_ble_eq_true rfl, Nat.le_of_ble_eq_true rfl⟩) (fun H locs f σ_15 hI hM hF_16 p_14 => ?_)
            have hF := mq_fr_tr hF hF_16 (by decide)
            have o_17 : σ_15.2.2.1 22 (j1) = nI w := mq_fg hF_16 (by decide) o_12
            obtain ⟨u_18, -⟩ := p_14
            refine lv_iconst (v := 1) hx hb d_Mo_confirmed_189 (by decide) ?_
            exact sm_zret hx hb hr hlk hI (by decide) ⟨σ_15, rfl, hM, hF, ⟨(by decide), u_18, trivial⟩⟩ d_Mo_confirmed_190
      · have k_19 : k < w := Nat.lt_of_not_le (fun q => c_1 ((nI_leI (a := w) (b := k) (by omega) (by omega)).mpr q))
        refine lv_aload_n hx hb d_Mo_confirmed_96 rfl (lv_at hl 0 rfl) ?_
        refine mq_get (k := 23) (v := .ref (ad 23)) hx hb hts hown hI hM (by decide) rfl rfl (hts _ tw_1192) d_Mo_confirmed_97 ?_
        refine lv_iload_n hx hb d_Mo_confirmed_100 rfl (lv_at hl 1 rfl) ?_
        refine lv_bipush (v := 12) hx hb d_Mo_confirmed_101 (by decide) ?_
        refine lv_imul hx hb d_Mo_confirmed_103 ?_
        refine lv_topi (fun x_20 e_21 => ?_)
        obtain rfl : x_20 = nI (j1 * 12) := by rw [e_21]; exact pk_mul _ _
        refine lv_iload hx hb d_Mo_confirmed_104 (lv_at hl 4 rfl) ?_
        refine lv_iadd hx hb d_Mo_confirmed_106 ?_
        refine lv_topi (fun x_22 e_23 => ?_)
        obtain rfl : x_22 = nI ((j1 * 12) + k) := by rw [e_23]; exact nI_add _ _
        refine lv_aload_n hx hb d_Mo_confirmed_107 rfl (lv_at hl 0 rfl) ?_
        refine mq_get (k := 23) (v := .ref (ad 23)) hx hb hts hown hI hM (by decide) rfl rfl (hts _ tw_1192) d_Mo_confirmed_108 ?_
        refine lv_iload_n hx hb d_Mo_confirmed_111 rfl (lv_at hl 1 rfl) ?_
        refine lv_bipush (v := 12) hx hb d_Mo_confirmed_112 (by decide) ?_
        refine lv_imul hx hb d_Mo_confirmed_114 ?_
        refine lv_topi (fun x_24 e_25 => ?_)
        obtain rfl : x_24 = nI (j1 * 12) := by rw [e_25]; exact pk_mul _ _
        refine lv_iload hx hb d_Mo_confirmed_115 (lv_at hl 4 rfl) ?_
        refine lv_iadd hx hb d_Mo_confirmed_117 ?_
        refine lv_topi (fun x_26 e_27 => ?_)
        obtain rfl : x_26 = nI ((j1 * 12) + k) := by rw [e_27]; exact nI_add _ _
        refine lv_iload_n hx hb d_Mo_confirmed_118 rfl (lv_at hl 3 rfl) ?_
        refine lv_iadd hx hb d_Mo_confirmed_119 ?_
        refine lv_topi (fun x_28 e_29 => ?_)
        obtain rfl : x_28 = nI (((j1 * 12) + k) + r) := by rw [e_29]; exact nI_add _ _
        refine mq_lald (k := 23) (j := (((j1 * 12) + k) + r)) hx hb hI hM (by decide) rfl (by show (((j1 * 12) + k) + r) < 36; omega) (by decide) d_Mo_confirmed_120 ?_
        refine lv_topl (fun x_30 e_31 => ?_)
        refine mq_last (k := 23) (j := ((j1 * 12) + k)) hx hb hI hM (by decide) rfl (by show ((j1 * 12) + k) < 36; omega) (by decide) d_Mo_confirmed_121 (fun H locs f σ_32 e_33 hI hM => ?_)
        have hF := mq_fr_uh hF e_33 rfl
        have o_34 : σ_32.2.2.1 22 (j1) = nI w := by rw [e_33]; exact o90
        have u_35 := IH_fr (mq_fr_uh (X := [23]) mq_fr_rf e_33 rfl) (by decide) u90
        refine lv_aload_n hx hb d_Mo_confirmed_122 rfl (lv_at hl 0 rfl) ?_
        refine mq_get (k := 24) (v := .ref (ad 24)) hx hb hts hown hI hM (by decide) rfl rfl (hts _ tw_1193) d_Mo_confirmed_123 ?_
        refine lv_iload_n hx hb d_Mo_confirmed_126 rfl (lv_at hl 1 rfl) ?_
        refine lv_bipush (v := 12) hx hb d_Mo_confirmed_127 (by decide) ?_
        refine lv_imul hx hb d_Mo_confirmed_129 ?_
        refine lv_topi (fun x_36 e_37 => ?_)
        obtain rfl : x_36 = nI (j1 * 12) := by rw [e_37]; exact pk_mul _ _
        refine lv_iload hx hb d_Mo_confirmed_130 (lv_at hl 4 rfl) ?_
        refine lv_iadd hx hb d_Mo_confirmed_132 ?_
        refine lv_topi (fun x_38 e_39 => ?_)
        obtain rfl : x_38 = nI ((j1 * 12) + k) := by rw [e_39]; exact nI_add _ _
        refine lv_aload_n hx hb d_Mo_confirmed_133 rfl (lv_at hl 0 rfl) ?_
        refine mq_get (k := 24) (v := .ref (ad 24)) hx hb hts hown hI hM (by decide) rfl rfl (hts _ tw_1193) d_Mo_confirmed_134 ?_
        refine lv_iload_n hx hb d_Mo_confirmed_137 rfl (lv_at hl 1 rfl) ?_
        refine lv_bipush (v := 12) hx hb d_Mo_confirmed_138 (by decide) ?_
        refine lv_imul hx hb d_Mo_confirmed_140 ?_
        refine lv_topi (fun x_40 e_41 => ?_)
        obtain rfl : x_40 = nI (j1 * 12) := by rw [e_41]; exact pk_mul _ _
        refine lv_iload hx hb d_Mo_confirmed_141 (lv_at hl 4 rfl) ?_
        refine lv_iadd hx hb d_Mo_confirmed_143 ?_
        refine lv_topi (fun x_42 e_43 => ?_)
        obtain rfl : x_42 = nI ((j1 * 12) + k) := by rw [e_43]; exact nI_add _ _
        refine lv_iload_n hx hb d_Mo_confirmed_144 rfl (lv_at hl 3 rfl) ?_
        refine lv_iadd hx hb d_Mo_confirmed_145 ?_
        refine lv_topi (fun x_44 e_45 => ?_)
        obtain rfl : x_44 = nI (((j1 * 12) + k) + r) := by rw [e_45]; exact nI_add _ _
        obtain ⟨x_46, e_47⟩ : ∃ z, σ_32.2.2.1 24 ((((j1 * 12) + k) + r)) = z := ⟨_, rfl⟩
        refine mq_iald (k := 24) (j := (((j1 * 12) + k) + r)) (v := x_46) hx hb hI hM (by decide) rfl (by show (((j1 * 12) + k) + r) < 36; omega) (by decide) e_47 d_Mo_confirmed_146 ?_
        refine mq_iast (k := 24) (j := ((j1 * 12) + k)) (x := x_46) hx hb hI hM (by decide) rfl (by show ((j1 * 12) + k) < 36; omega) (by decide) trivial d_Mo_confirmed_147 (fun H locs f σ_48 e_49 hI hM => ?_)
        have hF := mq_fr_ug hF e_49 rfl (Or.inl rfl)
        have o_50 : σ_48.2.2.1 22 (j1) = nI w := by rw [e_49]; exact o_34
        have u_51 := IH_fr (mq_fr_ug (X := [24]) mq_fr_rf e_49 rfl (Or.inl rfl)) (by decide) u_35
        refine lv_iinc (v := nI (k + 1)) (lv' := [(4, .int (nI (k + 1))), (0, .ref (ad 71)), (1, .int (nI j1)), (2, .int (nI j2)), (3, .int (nI r))]) hx hb d_Mo_confirmed_148 hl (k := 4) rfl (nI_1 _) (by decide) rfl (fun ls hl => ?_)
        refine lv_goto (tgt := 85) hx hb d_Mo_confirmed_151 (by decide) ?_
        exact ih ((k + 1)) _ _ _ _ _ (r) (w) (by omega) (by omega) hI hM hF (lv_sub hl [1, 2, 3, 4, 0] rfl) (by omega) (by omega) o_50 u_51 (by omega)
  have hJ_32 : ∀ (N k : Nat) (H : Heap) (locs : List Loc) (f : Nat → va_E) (σ : mq_S) (ls : Array Slot) (r : Nat) (w : Nat), 12 + 1 - k ≤ N → k ≤ 12 → sw_I D cl_all (ty_s ca) (va_A (va_pl L f0) sz) s H locs L f → mq_B ca ad σ L f → mq_fr [13, 14, 15, 16, 18, 21, 22, 23, 24, 30, 42, 43, 45, 46, 47, 48, 49, 50, 51, 52, 65] σ0 σ → lv_has ls 5 [(0, .ref (ad 71)), (1, .int (nI j1)), (2, .int (nI j2)), (3, .int (nI r)), (4, .int (nI k))] → (0 ≤ w) → (w ≤ 12) → (σ.2.2.1 22 (j1) = nI w) → (IH σ) → (r ≤ w) → W p l e { frames := 3, cells := 0, slots := 0, locals := 69 } s m ([.ref (ad 71), .int (nI j1), .int (nI j2)] : List Value).toArray below meth c H locs 0 0 (MQ below (sm_Qi D (ty_s ca) L f0 sz (fun r u => mq_po ca ad L σ0 [13, 14, 15, 16, 18, 21, 22, 23, 24, 30, 42, 43, 45, 46, 47, 48, 49, 50, 51, 52, 65] (fun σ => (r = 0 ∨ r = 1) ∧ IH σ ∧ True) u)) ([.ref (ad 71), .int (nI j1), .int (nI j2)] : List Value).toArray s 0 0 (va_A (va_pl L f0) sz)) (F0 m 32 ls []) := by
    intro N
    induction N with
    | zero => intros; omega
    | succ N ih =>
      intro k H locs f σ ls r w hN hk hI hM hF hl h90a h90b o90 u90 hrr
      refine lv_iload hx hb d_Mo_confirmed_32 (lv_at hl 4 rfl) ?_
      refine lv_iload_n hx hb d_Mo_confirmed_34 rfl (lv_at hl 3 rfl) ?_
      refine lv_icmp_ge (tgt := 61) hx hb d_Mo_confirmed_35 (by decide) (fun c_52 => ?_) (fun c_52 => ?_)
      · have k_53 : r ≤ k := (nI_leI (a := r) (b := k) (by omega) (by omega)).mp c_52
        refine lv_aload_n hx hb d_Mo_confirmed_61 rfl (lv_at hl 0 rfl) ?_
        refine mq_get (k := 22) (v := .ref (ad 22)) hx hb hts hown hI hM (by decide) rfl rfl (hts _ tw_1191) d_Mo_confirmed_62 ?_
        refine lv_iload_n hx hb d_Mo_confirmed_65 rfl (lv_at hl 1 rfl) ?_
        refine lv_aload_n hx hb d_Mo_confirmed_66 rfl (lv_at hl 0 rfl) ?_
        refine mq_get (k := 22) (v := .ref (ad 22)) hx hb hts hown hI hM (by decide) rfl rfl (hts _ tw_1191) d_Mo_confirmed_67 ?_
        refine lv_iload_n hx hb d_Mo_confirmed_70 rfl (lv_at hl 1 rfl) ?_
        refine mq_iald (k := 22) (j := j1) (v := nI w) hx hb hI hM (by decide) rfl (by show j1 < 3; omega) (by decide) o90 d_Mo_confirmed_71 ?_
        refine lv_iload_n hx hb d_Mo_confirmed_72 rfl (lv_at hl 3 rfl) ?_
        refine lv_isub hx hb d_Mo_confirmed_73 ?_
        refine lv_topi (fun x_54 e_55 => ?_)
        obtain rfl : x_54 = nI (w - r) := by rw [e_55]; exact pk_sub (a := w) (b := r) (by omega)
        refine mq_iast (k := 22) (j := j1) (x := nI (w - r)) hx hb hI hM (by decide) rfl (by show j1 < 3; omega) (by decide) ⟨(w - r), by omega, by omega, rfl⟩ d_Mo_confirmed_74 (fun H locs f σ_56 e_57 hI hM => ?_)
        have hF := mq_fr_ug hF e_57 rfl (Or.inl rfl)
        have u_58 := IH_fr (mq_fr_ug (X := [22]) mq_fr_rf e_57 rfl (Or.inl rfl)) (by decide) u90
        have o_59 := mq_ugj e_57
        refine lv_aload_n hx hb d_Mo_confirmed_75 rfl (lv_at hl 0 rfl) ?_
        refine mq_get (k := 21) (v := .ref (ad 21)) hx hb hts hown hI hM (by decide) rfl rfl (hts _ tw_1190) d_Mo_confirmed_76 ?_
        refine lv_iload_n hx hb d_Mo_confirmed_79 rfl (lv_at hl 1 rfl) ?_
        refine lv_iload_n hx hb d_Mo_confirmed_80 rfl (lv_at hl 2 rfl) ?_
        refine mq_iast (k := 21) (j := j1) (x := nI j2) hx hb hI hM (by decide) rfl (by show j1 < 3; omega) (by decide) ⟨j2, by omega, by omega, rfl⟩ d_Mo_confirmed_81 (fun H locs f σ_60 e_61 hI hM => ?_)
        have hF := mq_fr_ug hF e_61 rfl (Or.inl rfl)
        have o_62 : σ_60.2.2.1 22 (j1) = nI (w - r) := by rw [e_61]; exact o_59
        have u_63 := IH_fr (mq_fr_ug (X := [21]) mq_fr_rf e_61 rfl (Or.inl rfl)) (by decide) u_58
        refine lv_iconst (v := 0) hx hb d_Mo_confirmed_82 (by decide) ?_
        refine lv_istore (lv' := [(4, .int (0)), (0, .ref (ad 71)), (1, .int (nI j1)), (2, .int (nI j2)), (3, .int (nI r))]) hx hb d_Mo_confirmed_83 hl (by decide) rfl (fun ls hl => ?_)
        exact hJ_85 _ (0) _ _ _ _ _ (r) ((w - r)) (Nat.le_refl _) (by omega) hI hM hF (lv_sub hl [1, 2, 3, 4, 0] rfl) (by omega) (by omega) o_62 u_63 (by omega)
      · have k_64 : k < r := Nat.lt_of_not_le (fun q => c_52 ((nI_leI (a := r) (b := k) (by omega) (by omega)).mpr q))
        refine lv_aload_n hx hb d_Mo_confirmed_38 rfl (lv_at hl 0 rfl) ?_
        refine lv_aload_n hx hb d_Mo_confirmed_39 rfl (lv_at hl 0 rfl) ?_
        refine mq_get (k := 24) (v := .ref (ad 24)) hx hb hts hown hI hM (by decide) rfl rfl (hts _ tw_1193) d_Mo_confirmed_40 ?_
        refine lv_iload_n hx hb d_Mo_confirmed_43 rfl (lv_at hl 1 rfl) ?_
        refine lv_bipush (v := 12) hx hb d_Mo_confirmed_44 (by decide) ?_
        refine lv_imul hx hb d_Mo_confirmed_46 ?_
        refine lv_topi (fun x_65 e_66 => ?_)
        obtain rfl : x_65 = nI (j1 * 12) := by rw [e_66]; exact pk_mul _ _
        refine lv_iload hx hb d_Mo_confirmed_47 (lv_at hl 4 rfl) ?_
        refine lv_iadd hx hb d_Mo_confirmed_49 ?_
        refine lv_topi (fun x_67 e_68 => ?_)
        obtain rfl : x_67 = nI ((j1 * 12) + k) := by rw [e_68]; exact nI_add _ _
        obtain ⟨x_69, e_70⟩ : ∃ z, σ.2.2.1 24 (((j1 * 12) + k)) = z := ⟨_, rfl⟩
        refine mq_iald (k := 24) (j := ((j1 * 12) + k)) (v := x_69) hx hb hI hM (by decide) rfl (by show ((j1 * 12) + k) < 36; omega) (by decide) e_70 d_Mo_confirmed_50 ?_
        refine lv_iload_n hx hb d_Mo_confirmed_51 rfl (lv_at hl 1 rfl) ?_
        refine sm_vM hI (va_runV (As := [.int (x_69), .int (nI j1)]) (rest := []) ⟨hx, hb, hml, hown, hts⟩ (c_Mo_confirmEvent l D ca ad L _ _ _ hM x_69 (nI j1)) (kv_Mo_confirmEvent hts rfl rfl (hts _ tw_1669) ⟨Nat.le_of_ble_eq_true rfl, Nat.le_of_ble_eq_true rfl⟩) (pv_Mo hI hE hM) rfl rfl hl.1 rfl (lv_room (Nat.le_of_ble_eq_true rfl)) d_Mo_confirmed_52 ⟨Nat.le_of_ble_eq_true rfl, Nat.le_of_ble_eq_true rfl⟩) (fun H locs f σ_72 hI hM hF_73 p_71 => ?_)
        have hF := mq_fr_tr hF hF_73 (by decide)
        have o_74 : σ_72.2.2.1 22 (j1) = nI w := mq_fg hF_73 (by decide) o90
        have u_75 := IH_fr hF_73 (by decide) u90
        refine lv_iinc (v := nI (k + 1)) (lv' := [(4, .int (nI (k + 1))), (0, .ref (ad 71)), (1, .int (nI j1)), (2, .int (nI j2)), (3, .int (nI r))]) hx hb d_Mo_confirmed_55 hl (k := 4) rfl (nI_1 _) (by decide) rfl (fun ls hl => ?_)
        refine lv_goto (tgt := 32) hx hb d_Mo_confirmed_58 (by decide) ?_
        exact ih ((k + 1)) _ _ _ _ _ (r) (w) (by omega) (by omega) hI hM hF (lv_sub hl [1, 2, 3, 4, 0] rfl) (by omega) (by omega) o_74 u_75 (by omega)
  refine lv_iload_n hx hb d_Mo_confirmed_0 rfl (lv_at hl 2 rfl) ?_
  refine lv_aload_n hx hb d_Mo_confirmed_1 rfl (lv_at hl 0 rfl) ?_
  refine mq_get (k := 21) (v := .ref (ad 21)) hx hb hts hown hI hM (by decide) rfl rfl (hts _ tw_1190) d_Mo_confirmed_2 ?_
  refine lv_iload_n hx hb d_Mo_confirmed_5 rfl (lv_at hl 1 rfl) ?_
  obtain ⟨n_76, h_77, h_78, e_79⟩ := hM.2.2.2.2.2 21 (j1)
  refine mq_iald (k := 21) (j := j1) (v := nI n_76) hx hb hI hM (by decide) rfl (by show j1 < 3; omega) (by decide) e_79 d_Mo_confirmed_6 ?_
  refine lv_isub hx hb d_Mo_confirmed_7 ?_
  refine lv_topi (fun x_80 e_81 => ?_)
  refine lv_ldcw (v := 32768) hx hb hown (hts _ tw_1508) d_Mo_confirmed_8 ?_
  refine lv_iadd hx hb d_Mo_confirmed_11 ?_
  refine lv_topi (fun x_82 e_83 => ?_)
  refine lv_ldcw (v := 32768) hx hb hown (hts _ tw_1508) d_Mo_confirmed_12 ?_
  refine lv_irem hx hb d_Mo_confirmed_15 (by decide) ?_
  refine lv_topi (fun x_84 e_85 => ?_)
  obtain rfl : x_84 = nI ((j2 + 32768 - n_76) % 32768) := cf_k e_81 e_83 e_85 (by omega) (by omega)
  refine lv_istore_n (lv' := [(3, .int (nI ((j2 + 32768 - n_76) % 32768))), (0, .ref (ad 71)), (1, .int (nI j1)), (2, .int (nI j2))]) hx hb d_Mo_confirmed_16 rfl hl (by decide) rfl (fun ls hl => ?_)
  refine lv_iload_n hx hb d_Mo_confirmed_17 rfl (lv_at hl 0 rfl) ?_
  refine lv_aload_n hx hb d_Mo_confirmed_18 rfl (lv_at hl 1 rfl) ?_
  refine mq_get (k := 22) (v := .ref (ad 22)) hx hb hts hown hI hM (by decide) rfl rfl (hts _ tw_1191) d_Mo_confirmed_19 ?_
  refine lv_iload_n hx hb d_Mo_confirmed_22 rfl (lv_at hl 2 rfl) ?_
  obtain ⟨n_86, h_87, h_88, e_89⟩ := hM.2.2.2.2.2 22 (j1)
  refine mq_iald (k := 22) (j := j1) (v := nI n_86) hx hb hI hM (by decide) rfl (by show j1 < 3; omega) (by decide) e_89 d_Mo_confirmed_23 ?_
  refine lv_icmp_le (tgt := 29) hx hb d_Mo_confirmed_24 (by decide) (fun c_90 => ?_) (fun c_90 => ?_)
  · have k_91 : ((j2 + 32768 - n_76) % 32768) ≤ n_86 := (nI_leI (a := ((j2 + 32768 - n_76) % 32768)) (b := n_86) (by omega) (by omega)).mp c_90
    refine lv_iconst (v := 0) hx hb d_Mo_confirmed_29 (by decide) ?_
    refine lv_istore (lv' := [(4, .int (0)), (3, .int (nI ((j2 + 32768 - n_76) % 32768))), (0, .ref (ad 71)), (1, .int (nI j1)), (2, .int (nI j2))]) hx hb d_Mo_confirmed_30 hl (by decide) rfl (fun ls hl => ?_)
    exact hJ_32 _ (0) _ _ _ _ _ (((j2 + 32768 - n_76) % 32768)) (n_86) (Nat.le_refl _) (by omega) hI hM hF (lv_sub hl [2, 3, 4, 1, 0] rfl) (by omega) (by omega) e_89 u0 (by omega)
  · have k_92 : n_86 < ((j2 + 32768 - n_76) % 32768) := Nat.lt_of_not_le (fun q => c_90 ((nI_leI (a := ((j2 + 32768 - n_76) % 32768)) (b := n_86) (by omega) (by omega)).mpr q))
    refine lv_iconst (v := 0) hx hb d_Mo_confirmed_27 (by decide) ?_
    exact sm_zret hx hb hr hlk hI (by decide) ⟨σ0, rfl, hM, hF, ⟨(by decide), u0, trivial⟩⟩ d_Mo_confirmed_28
theorem d_Mo_goesOn_0 : decode b_Mo_goesOn 0 = .ok (.iconst 0, 1) := by decide +kernel
theorem d_Mo_goesOn_1 : decode b_Mo_goesOn 1 = .ok (.istore_n 2, 1) := by decide +kernel
theorem d_Mo_goesOn_2 : decode b_Mo_goesOn 2 = .ok (.iload_n 2, 1) := by decide +kernel
theorem d_Mo_goesOn_3 : decode b_Mo_goesOn 3 = .ok (.aload_n 0, 1) := by decide +kernel
theorem d_Mo_goesOn_4 : decode b_Mo_goesOn 4 = .ok (.getfield 81, 3) := by decide +kernel
theorem d_Mo_goesOn_7 : decode b_Mo_goesOn 7 = .ok (.iload_n 1, 1) := by decide +kernel
theorem d_Mo_goesOn_8 : decode b_Mo_goesOn 8 = .ok (.iaload, 1) := by decide +kernel
theorem d_Mo_goesOn_9 : decode b_Mo_goesOn 9 = .ok (.if_icmp .ge 78, 3) := by decide +kernel
theorem d_Mo_goesOn_12 : decode b_Mo_goesOn 12 = .ok (.aload_n 0, 1) := by decide +kernel
theorem d_Mo_goesOn_13 : decode b_Mo_goesOn 13 = .ok (.getfield 90, 3) := by decide +kernel
theorem d_Mo_goesOn_16 : decode b_Mo_goesOn 16 = .ok (.aload_n 0, 1) := by decide +kernel
theorem d_Mo_goesOn_17 : decode b_Mo_goesOn 17 = .ok (.iload_n 1, 1) := by decide +kernel
theorem d_Mo_goesOn_18 : decode b_Mo_goesOn 18 = .ok (.iload_n 2, 1) := by decide +kernel
theorem d_Mo_goesOn_19 : decode b_Mo_goesOn 19 = .ok (.invokevirtual 290, 3) := by decide +kernel
theorem d_Mo_goesOn_22 : decode b_Mo_goesOn 22 = .ok (.iaload, 1) := by decide +kernel
theorem d_Mo_goesOn_23 : decode b_Mo_goesOn 23 = .ok (.ifCond .le 58, 3) := by decide +kernel
theorem d_Mo_goesOn_26 : decode b_Mo_goesOn 26 = .ok (.iload_n 2, 1) := by decide +kernel
theorem d_Mo_goesOn_27 : decode b_Mo_goesOn 27 = .ok (.ifCond .gt 52, 3) := by decide +kernel
theorem d_Mo_goesOn_30 : decode b_Mo_goesOn 30 = .ok (.aload_n 0, 1) := by decide +kernel
theorem d_Mo_goesOn_31 : decode b_Mo_goesOn 31 = .ok (.getfield 90, 3) := by decide +kernel
theorem d_Mo_goesOn_34 : decode b_Mo_goesOn 34 = .ok (.aload_n 0, 1) := by decide +kernel
theorem d_Mo_goesOn_35 : decode b_Mo_goesOn 35 = .ok (.iload_n 1, 1) := by decide +kernel
theorem d_Mo_goesOn_36 : decode b_Mo_goesOn 36 = .ok (.iconst 0, 1) := by decide +kernel
theorem d_Mo_goesOn_37 : decode b_Mo_goesOn 37 = .ok (.invokevirtual 290, 3) := by decide +kernel
theorem d_Mo_goesOn_40 : decode b_Mo_goesOn 40 = .ok (.iaload, 1) := by decide +kernel
theorem d_Mo_goesOn_41 : decode b_Mo_goesOn 41 = .ok (.iconst 1, 1) := by decide +kernel
theorem d_Mo_goesOn_42 : decode b_Mo_goesOn 42 = .ok (.if_icmp .eq 37, 3) := by decide +kernel
theorem d_Mo_goesOn_45 : decode b_Mo_goesOn 45 = .ok (.aload_n 0, 1) := by decide +kernel
theorem d_Mo_goesOn_46 : decode b_Mo_goesOn 46 = .ok (.getfield 90, 3) := by decide +kernel
theorem d_Mo_goesOn_49 : decode b_Mo_goesOn 49 = .ok (.aload_n 0, 1) := by decide +kernel
theorem d_Mo_goesOn_50 : decode b_Mo_goesOn 50 = .ok (.iload_n 1, 1) := by decide +kernel
theorem d_Mo_goesOn_51 : decode b_Mo_goesOn 51 = .ok (.iconst 0, 1) := by decide +kernel
theorem d_Mo_goesOn_52 : decode b_Mo_goesOn 52 = .ok (.invokevirtual 290, 3) := by decide +kernel
theorem d_Mo_goesOn_55 : decode b_Mo_goesOn 55 = .ok (.iaload, 1) := by decide +kernel
theorem d_Mo_goesOn_56 : decode b_Mo_goesOn 56 = .ok (.iconst 2, 1) := by decide +kernel
theorem d_Mo_goesOn_57 : decode b_Mo_goesOn 57 = .ok (.if_icmp .ne 24, 3) := by decide +kernel
theorem d_Mo_goesOn_60 : decode b_Mo_goesOn 60 = .ok (.aload_n 0, 1) := by decide +kernel
theorem d_Mo_goesOn_61 : decode b_Mo_goesOn 61 = .ok (.iload_n 1, 1) := by decide +kernel
theorem d_Mo_goesOn_62 : decode b_Mo_goesOn 62 = .ok (.aload_n 0, 1) := by decide +kernel
theorem d_Mo_goesOn_63 : decode b_Mo_goesOn 63 = .ok (.getfield 93, 3) := by decide +kernel
theorem d_Mo_goesOn_66 : decode b_Mo_goesOn 66 = .ok (.aload_n 0, 1) := by decide +kernel
theorem d_Mo_goesOn_67 : decode b_Mo_goesOn 67 = .ok (.iload_n 1, 1) := by decide +kernel
theorem d_Mo_goesOn_68 : decode b_Mo_goesOn 68 = .ok (.iconst 0, 1) := by decide +kernel
theorem d_Mo_goesOn_69 : decode b_Mo_goesOn 69 = .ok (.invokevirtual 290, 3) := by decide +kernel
theorem d_Mo_goesOn_72 : decode b_Mo_goesOn 72 = .ok (.iaload, 1) := by decide +kernel
theorem d_Mo_goesOn_73 : decode b_Mo_goesOn 73 = .ok (.invokevirtual 299, 3) := by decide +kernel
theorem d_Mo_goesOn_76 : decode b_Mo_goesOn 76 = .ok (.ifCond .lt 5, 3) := by decide +kernel
theorem d_Mo_goesOn_79 : decode b_Mo_goesOn 79 = .ok (.iconst 1, 1) := by decide +kernel
theorem d_Mo_goesOn_80 : decode b_Mo_goesOn 80 = .ok (.ireturn, 1) := by decide +kernel
theorem d_Mo_goesOn_81 : decode b_Mo_goesOn 81 = .ok (.iinc 2 1, 3) := by decide +kernel
theorem d_Mo_goesOn_84 : decode b_Mo_goesOn 84 = .ok (.goto (-82), 3) := by decide +kernel
theorem d_Mo_goesOn_87 : decode b_Mo_goesOn 87 = .ok (.iconst 0, 1) := by decide +kernel
theorem d_Mo_goesOn_88 : decode b_Mo_goesOn 88 = .ok (.ireturn, 1) := by decide +kernel
set_option maxRecDepth 100000 in
set_option maxHeartbeats 4000000 in
theorem c_Mo_goesOn (l : Launch) (D : va_G) (ca : Nat → ClassId) (ad : Nat → Nat) (L : List Nat) (f0 : Nat → va_E) (sz : Nat) (σ0 : mq_S) (hM : mq_B ca ad σ0 L f0) (j1 : Nat) (q1 : j1 ≤ 3) :
    Met l y_Mo_goesOn (Cond.code y_Mo_goesOn b_Mo_goesOn 3 (some .boolean) :: wg) { frames := 3, cells := 0, slots := 0, locals := 72 } (va_Pc [.ref (ad 71), .int (nI j1)] (sm_P D cl_all (ty_s ca) ek L f0 sz)) (sm_Qi D (ty_s ca) L f0 sz (fun r u => (r = 0 ∨ r = 1) ∧ u = (L, f0))) 0 0 (va_A (va_pl L f0) sz) := by
  refine sm_start (by decide) (Nat.le_of_ble_eq_true rfl) ?_
  intro p e s m below meth c ls hx hb hml hr hlk hnm hts hown hsz hE hI hl
  have hl : lv_has ls 3 [(0, .ref (ad 71)), (1, .int (nI j1))] := hl
  have hJ_2 : ∀ (N k : Nat) (H : Heap) (locs : List Loc) (ls : Array Slot) , 16 + 1 - k ≤ N → k ≤ 16 → sw_I D cl_all (ty_s ca) (va_A (va_pl L f0) sz) s H locs L f0 → lv_has ls 3 [(0, .ref (ad 71)), (1, .int (nI j1)), (2, .int (nI k))] → W p l e { frames := 3, cells := 0, slots := 0, locals := 72 } s m ([.ref (ad 71), .int (nI j1)] : List Value).toArray below meth c H locs 0 0 (MQ below (sm_Qi D (ty_s ca) L f0 sz (fun r u => (r = 0 ∨ r = 1) ∧ u = (L, f0))) ([.ref (ad 71), .int (nI j1)] : List Value).toArray s 0 0 (va_A (va_pl L f0) sz)) (F0 m 2 ls []) := by
    intro N
    induction N with
    | zero => intros; omega
    | succ N ih =>
      intro k H locs ls  hN hk hI hl 
      refine lv_iload_n hx hb d_Mo_goesOn_2 rfl (lv_at hl 2 rfl) ?_
      refine lv_aload_n hx hb d_Mo_goesOn_3 rfl (lv_at hl 0 rfl) ?_
      refine mq_get (k := 30) (v := .ref (ad 30)) hx hb hts hown hI hM (by decide) rfl rfl (hts _ tw_1199) d_Mo_goesOn_4 ?_
      refine lv_iload_n hx hb d_Mo_goesOn_7 rfl (lv_at hl 1 rfl) ?_
      obtain ⟨n_1, h_2, h_3, e_4⟩ := hM.2.2.2.2.2 30 (j1)
      refine mq_iald (k := 30) (j := j1) (v := nI n_1) hx hb hI hM (by decide) rfl (by show j1 < 4; omega) (by decide) e_4 d_Mo_goesOn_8 ?_
      refine lv_icmp_ge (tgt := 87) hx hb d_Mo_goesOn_9 (by decide) (fun c_5 => ?_) (fun c_5 => ?_)
      · have k_6 : n_1 ≤ k := (nI_leI (a := n_1) (b := k) (by omega) (by omega)).mp c_5
        refine lv_iconst (v := 0) hx hb d_Mo_goesOn_87 (by decide) ?_
        exact sm_zret hx hb hr hlk hI (by decide) ⟨(by decide), rfl⟩ d_Mo_goesOn_88
      · have k_7 : k < n_1 := Nat.lt_of_not_le (fun q => c_5 ((nI_leI (a := n_1) (b := k) (by omega) (by omega)).mpr q))
        refine lv_aload_n hx hb d_Mo_goesOn_12 rfl (lv_at hl 0 rfl) ?_
        refine mq_get (k := 33) (v := .ref (ad 33)) hx hb hts hown hI hM (by decide) rfl rfl (hts _ tw_1202) d_Mo_goesOn_13 ?_
        refine lv_aload_n hx hb d_Mo_goesOn_16 rfl (lv_at hl 0 rfl) ?_
        refine lv_iload_n hx hb d_Mo_goesOn_17 rfl (lv_at hl 1 rfl) ?_
        refine lv_iload_n hx hb d_Mo_goesOn_18 rfl (lv_at hl 2 rfl) ?_
        refine sm_iP hI (va_runV (As := [.int (nI j1), .int (nI k)]) (rest := [.ref (ad 33)]) ⟨hx, hb, hml, hown, hts⟩ (c_Mo_slot l D ca ad L _ _ _ hM (j1) (by omega) (k) (by omega)) (kv_Mo_slot hts rfl rfl (hts _ tw_1442) ⟨Nat.le_of_ble_eq_true rfl, Nat.le_of_ble_eq_true rfl⟩) (pv_Mo hI hE hM) rfl rfl hl.1 rfl (lv_room (Nat.le_of_ble_eq_true rfl)) d_Mo_goesOn_19 ⟨Nat.le_of_ble_eq_true rfl, Nat.le_of_ble_eq_true rfl⟩) (fun x_9 H locs p_8 hI => ?_)
        subst p_8
        obtain ⟨x_10, e_11⟩ : ∃ z, σ0.2.2.1 33 ((j1 * 16 + k)) = z := ⟨_, rfl⟩
        refine mq_iald (k := 33) (j := (j1 * 16 + k)) (v := x_10) hx hb hI hM (by decide) rfl (by show (j1 * 16 + k) < 64; omega) (by decide) e_11 d_Mo_goesOn_22 ?_
        refine lv_if_le (tgt := 81) hx hb d_Mo_goesOn_23 (by decide) (fun c_12 => ?_) (fun c_12 => ?_)
        · refine lv_iinc (v := nI (k + 1)) (lv' := [(2, .int (nI (k + 1))), (0, .ref (ad 71)), (1, .int (nI j1))]) hx hb d_Mo_goesOn_81 hl (k := 2) rfl (nI_1 _) (by decide) rfl (fun ls hl => ?_)
          refine lv_goto (tgt := 2) hx hb d_Mo_goesOn_84 (by decide) ?_
          exact ih ((k + 1)) _ _ _  (by omega) (by omega) hI (lv_sub hl [1, 2, 0] rfl) 
        · refine lv_iload_n hx hb d_Mo_goesOn_26 rfl (lv_at hl 2 rfl) ?_
          refine lv_if_gt (tgt := 79) hx hb d_Mo_goesOn_27 (by decide) (fun c_13 => ?_) (fun c_13 => ?_)
          · have k_14 : 0 < k := Nat.pos_of_ne_zero (fun q => absurd c_13 (by rw [q]; decide))
            refine lv_iconst (v := 1) hx hb d_Mo_goesOn_79 (by decide) ?_
            exact sm_zret hx hb hr hlk hI (by decide) ⟨(by decide), rfl⟩ d_Mo_goesOn_80
          · have k_16 : k = 0 := nz_le (nz_ng c_13) (by omega)
            refine lv_aload_n hx hb d_Mo_goesOn_30 rfl (lv_at hl 0 rfl) ?_
            refine mq_get (k := 33) (v := .ref (ad 33)) hx hb hts hown hI hM (by decide) rfl rfl (hts _ tw_1202) d_Mo_goesOn_31 ?_
            refine lv_aload_n hx hb d_Mo_goesOn_34 rfl (lv_at hl 0 rfl) ?_
            refine lv_iload_n hx hb d_Mo_goesOn_35 rfl (lv_at hl 1 rfl) ?_
            refine lv_iconst (v := 0) hx hb d_Mo_goesOn_36 (by decide) ?_
            refine sm_iP hI (va_runV (As := [.int (nI j1), .int (0)]) (rest := [.ref (ad 33)]) ⟨hx, hb, hml, hown, hts⟩ (c_Mo_slot l D ca ad L _ _ _ hM (j1) (by omega) (0) (by omega)) (kv_Mo_slot hts rfl rfl (hts _ tw_1442) ⟨Nat.le_of_ble_eq_true rfl, Nat.le_of_ble_eq_true rfl⟩) (pv_Mo hI hE hM) rfl rfl hl.1 rfl (lv_room (Nat.le_of_ble_eq_true rfl)) d_Mo_goesOn_37 ⟨Nat.le_of_ble_eq_true rfl, Nat.le_of_ble_eq_true rfl⟩) (fun x_18 H locs p_17 hI => ?_)
            subst p_17
            obtain ⟨x_19, e_20⟩ : ∃ z, σ0.2.2.1 33 ((j1 * 16 + 0)) = z := ⟨_, rfl⟩
            refine mq_iald (k := 33) (j := (j1 * 16 + 0)) (v := x_19) hx hb hI hM (by decide) rfl (by show (j1 * 16 + 0) < 64; omega) (by decide) e_20 d_Mo_goesOn_40 ?_
            refine lv_iconst (v := 1) hx hb d_Mo_goesOn_41 (by decide) ?_
            refine lv_icmp_eq (tgt := 79) hx hb d_Mo_goesOn_42 (by decide) (fun c_21 => ?_) (fun c_21 => ?_)
            · refine lv_iconst (v := 1) hx hb d_Mo_goesOn_79 (by decide) ?_
              exact sm_zret hx hb hr hlk hI (by decide) ⟨(by decide), rfl⟩ d_Mo_goesOn_80
            · refine lv_aload_n hx hb d_Mo_goesOn_45 rfl (lv_at hl 0 rfl) ?_
              refine mq_get (k := 33) (v := .ref (ad 33)) hx hb hts hown hI hM (by decide) rfl rfl (hts _ tw_1202) d_Mo_goesOn_46 ?_
              refine lv_aload_n hx hb d_Mo_goesOn_49 rfl (lv_at hl 0 rfl) ?_
              refine lv_iload_n hx hb d_Mo_goesOn_50 rfl (lv_at hl 1 rfl) ?_
              refine lv_iconst (v := 0) hx hb d_Mo_goesOn_51 (by decide) ?_
              refine sm_iP hI (va_runV (As := [.int (nI j1), .int (0)]) (rest := [.ref (ad 33)]) ⟨hx, hb, hml, hown, hts⟩ (c_Mo_slot l D ca ad L _ _ _ hM (j1) (by omega) (0) (by omega)) (kv_Mo_slot hts rfl rfl (hts _ tw_1442) ⟨Nat.le_of_ble_eq_true rfl, Nat.le_of_ble_eq_true rfl⟩) (pv_Mo hI hE hM) rfl rfl hl.1 rfl (lv_room (Nat.le_of_ble_eq_true rfl)) d_Mo_goesOn_52 ⟨Nat.le_of_ble_eq_true rfl, Nat.le_of_ble_eq_true rfl⟩) (fun x_23 H locs p_22 hI => ?_)
              subst p_22
              obtain ⟨x_24, e_25⟩ : ∃ z, σ0.2.2.1 33 ((j1 * 16 + 0)) = z := ⟨_, rfl⟩
              refine mq_iald (k := 33) (j := (j1 * 16 + 0)) (v := x_24) hx hb hI hM (by decide) rfl (by show (j1 * 16 + 0) < 64; omega) (by decide) e_25 d_Mo_goesOn_55 ?_
              refine lv_iconst (v := 2) hx hb d_Mo_goesOn_56 (by decide) ?_
              refine lv_icmp_ne (tgt := 81) hx hb d_Mo_goesOn_57 (by decide) (fun c_26 => ?_) (fun c_26 => ?_)
              · refine lv_iinc (v := nI (k + 1)) (lv' := [(2, .int (nI (k + 1))), (0, .ref (ad 71)), (1, .int (nI j1))]) hx hb d_Mo_goesOn_81 hl (k := 2) rfl (nI_1 _) (by decide) rfl (fun ls hl => ?_)
                refine lv_goto (tgt := 2) hx hb d_Mo_goesOn_84 (by decide) ?_
                exact ih ((k + 1)) _ _ _  (by omega) (by omega) hI (lv_sub hl [1, 2, 0] rfl) 
              · refine lv_aload_n hx hb d_Mo_goesOn_60 rfl (lv_at hl 0 rfl) ?_
                refine lv_iload_n hx hb d_Mo_goesOn_61 rfl (lv_at hl 1 rfl) ?_
                refine lv_aload_n hx hb d_Mo_goesOn_62 rfl (lv_at hl 0 rfl) ?_
                refine mq_get (k := 34) (v := .ref (ad 34)) hx hb hts hown hI hM (by decide) rfl rfl (hts _ tw_1203) d_Mo_goesOn_63 ?_
                refine lv_aload_n hx hb d_Mo_goesOn_66 rfl (lv_at hl 0 rfl) ?_
                refine lv_iload_n hx hb d_Mo_goesOn_67 rfl (lv_at hl 1 rfl) ?_
                refine lv_iconst (v := 0) hx hb d_Mo_goesOn_68 (by decide) ?_
                refine sm_iP hI (va_runV (As := [.int (nI j1), .int (0)]) (rest := [.ref (ad 34), .int (nI j1), .ref (ad 71)]) ⟨hx, hb, hml, hown, hts⟩ (c_Mo_slot l D ca ad L _ _ _ hM (j1) (by omega) (0) (by omega)) (kv_Mo_slot hts rfl rfl (hts _ tw_1442) ⟨Nat.le_of_ble_eq_true rfl, Nat.le_of_ble_eq_true rfl⟩) (pv_Mo hI hE hM) rfl rfl hl.1 rfl (lv_room (Nat.le_of_ble_eq_true rfl)) d_Mo_goesOn_69 ⟨Nat.le_of_ble_eq_true rfl, Nat.le_of_ble_eq_true rfl⟩) (fun x_28 H locs p_27 hI => ?_)
                subst p_27
                obtain ⟨x_29, e_30⟩ : ∃ z, σ0.2.2.1 34 ((j1 * 16 + 0)) = z := ⟨_, rfl⟩
                refine mq_iald (k := 34) (j := (j1 * 16 + 0)) (v := x_29) hx hb hI hM (by decide) rfl (by show (j1 * 16 + 0) < 64; omega) (by decide) e_30 d_Mo_goesOn_72 ?_
                refine sm_iP hI (va_runV (As := [.int (nI j1), .int (x_29)]) (rest := []) ⟨hx, hb, hml, hown, hts⟩ (c_Mo_nextPoint l D ca ad L _ _ _ hM (j1) (by omega) x_29) (kv_Mo_nextPoint hts rfl rfl (hts _ tw_1466) ⟨Nat.le_of_ble_eq_true rfl, Nat.le_of_ble_eq_true rfl⟩) (pv_Mo hI hE hM) rfl rfl hl.1 rfl (lv_room (Nat.le_of_ble_eq_true rfl)) d_Mo_goesOn_73 ⟨Nat.le_of_ble_eq_true rfl, Nat.le_of_ble_eq_true rfl⟩) (fun x_32 H locs p_31 hI => ?_)
                rcases p_31 with ⟨rfl, h_35⟩ | ⟨n_33, rfl, h_34, h_35⟩
                · refine lv_if_lt (tgt := 81) hx hb d_Mo_goesOn_76 (by decide) (fun c_36 => ?_) (fun c_36 => ?_)
                  · refine lv_iinc (v := nI (k + 1)) (lv' := [(2, .int (nI (k + 1))), (0, .ref (ad 71)), (1, .int (nI j1))]) hx hb d_Mo_goesOn_81 hl (k := 2) rfl (nI_1 _) (by decide) rfl (fun ls hl => ?_)
                    refine lv_goto (tgt := 2) hx hb d_Mo_goesOn_84 (by decide) ?_
                    exact ih ((k + 1)) _ _ _  (by omega) (by omega) hI (lv_sub hl [1, 2, 0] rfl) 
                  · exact absurd c_36 (by decide)
                · refine lv_if_lt (tgt := 81) hx hb d_Mo_goesOn_76 (by decide) (fun c_37 => ?_) (fun c_37 => ?_)
                  · exact absurd c_37 (nI_pos (by omega))
                  · refine lv_iconst (v := 1) hx hb d_Mo_goesOn_79 (by decide) ?_
                    exact sm_zret hx hb hr hlk hI (by decide) ⟨(by decide), rfl⟩ d_Mo_goesOn_80
  refine lv_iconst (v := 0) hx hb d_Mo_goesOn_0 (by decide) ?_
  refine lv_istore_n (lv' := [(2, .int (0)), (0, .ref (ad 71)), (1, .int (nI j1))]) hx hb d_Mo_goesOn_1 rfl hl (by decide) rfl (fun ls hl => ?_)
  exact hJ_2 _ (0) _ _ _  (Nat.le_refl _) (by omega) hI (lv_sub hl [1, 2, 0] rfl) 
theorem d_Mo_hasFirst_0 : decode b_Mo_hasFirst 0 = .ok (.aload_n 0, 1) := by decide +kernel
theorem d_Mo_hasFirst_1 : decode b_Mo_hasFirst 1 = .ok (.getfield 81, 3) := by decide +kernel
theorem d_Mo_hasFirst_4 : decode b_Mo_hasFirst 4 = .ok (.iconst 3, 1) := by decide +kernel
theorem d_Mo_hasFirst_5 : decode b_Mo_hasFirst 5 = .ok (.iaload, 1) := by decide +kernel
theorem d_Mo_hasFirst_6 : decode b_Mo_hasFirst 6 = .ok (.ifCond .le 18, 3) := by decide +kernel
theorem d_Mo_hasFirst_9 : decode b_Mo_hasFirst 9 = .ok (.aload_n 0, 1) := by decide +kernel
theorem d_Mo_hasFirst_10 : decode b_Mo_hasFirst 10 = .ok (.getfield 90, 3) := by decide +kernel
theorem d_Mo_hasFirst_13 : decode b_Mo_hasFirst 13 = .ok (.aload_n 0, 1) := by decide +kernel
theorem d_Mo_hasFirst_14 : decode b_Mo_hasFirst 14 = .ok (.iconst 3, 1) := by decide +kernel
theorem d_Mo_hasFirst_15 : decode b_Mo_hasFirst 15 = .ok (.iconst 0, 1) := by decide +kernel
theorem d_Mo_hasFirst_16 : decode b_Mo_hasFirst 16 = .ok (.invokevirtual 290, 3) := by decide +kernel
theorem d_Mo_hasFirst_19 : decode b_Mo_hasFirst 19 = .ok (.iaload, 1) := by decide +kernel
theorem d_Mo_hasFirst_20 : decode b_Mo_hasFirst 20 = .ok (.iconst 2, 1) := by decide +kernel
theorem d_Mo_hasFirst_21 : decode b_Mo_hasFirst 21 = .ok (.if_icmp .ne 18, 3) := by decide +kernel
theorem d_Mo_hasFirst_24 : decode b_Mo_hasFirst 24 = .ok (.aload_n 0, 1) := by decide +kernel
theorem d_Mo_hasFirst_25 : decode b_Mo_hasFirst 25 = .ok (.getfield 136, 3) := by decide +kernel
theorem d_Mo_hasFirst_28 : decode b_Mo_hasFirst 28 = .ok (.iconst 3, 1) := by decide +kernel
theorem d_Mo_hasFirst_29 : decode b_Mo_hasFirst 29 = .ok (.if_icmp .ne 14, 3) := by decide +kernel
theorem d_Mo_hasFirst_32 : decode b_Mo_hasFirst 32 = .ok (.aload_n 0, 1) := by decide +kernel
theorem d_Mo_hasFirst_33 : decode b_Mo_hasFirst 33 = .ok (.invokevirtual 326, 3) := by decide +kernel
theorem d_Mo_hasFirst_36 : decode b_Mo_hasFirst 36 = .ok (.ifCond .lt 7, 3) := by decide +kernel
theorem d_Mo_hasFirst_39 : decode b_Mo_hasFirst 39 = .ok (.iconst 1, 1) := by decide +kernel
theorem d_Mo_hasFirst_40 : decode b_Mo_hasFirst 40 = .ok (.goto 4, 3) := by decide +kernel
theorem d_Mo_hasFirst_43 : decode b_Mo_hasFirst 43 = .ok (.iconst 0, 1) := by decide +kernel
theorem d_Mo_hasFirst_44 : decode b_Mo_hasFirst 44 = .ok (.ireturn, 1) := by decide +kernel
set_option maxRecDepth 100000 in
set_option maxHeartbeats 4000000 in
theorem c_Mo_hasFirst (l : Launch) (D : va_G) (ca : Nat → ClassId) (ad : Nat → Nat) (L : List Nat) (f0 : Nat → va_E) (sz : Nat) (σ0 : mq_S) (hM : mq_B ca ad σ0 L f0)  :
    Met l y_Mo_hasFirst (Cond.code y_Mo_hasFirst b_Mo_hasFirst 1 (some .boolean) :: wg) { frames := 1, cells := 0, slots := 0, locals := 22 } (va_Pc [.ref (ad 71)] (sm_P D cl_all (ty_s ca) ek L f0 sz)) (sm_Qi D (ty_s ca) L f0 sz (fun r u => (r = 0 ∨ r = 1) ∧ u = (L, f0))) 0 0 (va_A (va_pl L f0) sz) := by
  refine sm_start (by decide) (Nat.le_of_ble_eq_true rfl) ?_
  intro p e s m below meth c ls hx hb hml hr hlk hnm hts hown hsz hE hI hl
  have hl : lv_has ls 1 [(0, .ref (ad 71))] := hl
  have hJ_24 : ∀ (H : Heap) (locs : List Loc) (ls : Array Slot) , sw_I D cl_all (ty_s ca) (va_A (va_pl L f0) sz) s H locs L f0 → lv_has ls 1 [(0, .ref (ad 71))] → W p l e { frames := 1, cells := 0, slots := 0, locals := 22 } s m ([.ref (ad 71)] : List Value).toArray below meth c H locs 0 0 (MQ below (sm_Qi D (ty_s ca) L f0 sz (fun r u => (r = 0 ∨ r = 1) ∧ u = (L, f0))) ([.ref (ad 71)] : List Value).toArray s 0 0 (va_A (va_pl L f0) sz)) (F0 m 24 ls []) := by
    intro H locs ls  hI hl 
    refine lv_aload_n hx hb d_Mo_hasFirst_24 rfl (lv_at hl 0 rfl) ?_
    obtain ⟨x_1, e_2⟩ : ∃ z, σ0.1 54 = z := ⟨_, rfl⟩
    refine mq_get (k := 54) (v := .int (x_1)) hx hb hts hown hI hM (by decide) (congrArg (fun z => some (Value.int z)) e_2) rfl (hts _ tw_1223) d_Mo_hasFirst_25 ?_
    refine lv_iconst (v := 3) hx hb d_Mo_hasFirst_28 (by decide) ?_
    refine lv_icmp_ne (tgt := 43) hx hb d_Mo_hasFirst_29 (by decide) (fun c_3 => ?_) (fun c_3 => ?_)
    · refine lv_iconst (v := 0) hx hb d_Mo_hasFirst_43 (by decide) ?_
      exact sm_zret hx hb hr hlk hI (by decide) ⟨(by decide), rfl⟩ d_Mo_hasFirst_44
    · refine lv_aload_n hx hb d_Mo_hasFirst_32 rfl (lv_at hl 0 rfl) ?_
      refine sm_iP hI (va_runV (As := []) (rest := []) ⟨hx, hb, hml, hown, hts⟩ (c_Mo_unsent l D ca ad L _ _ _ hM ) (kv_Mo_unsent hts rfl rfl (hts _ tw_1438) ⟨Nat.le_of_ble_eq_true rfl, Nat.le_of_ble_eq_true rfl⟩) (pv_Mo hI hE hM) rfl rfl hl.1 rfl (lv_room (Nat.le_of_ble_eq_true rfl)) d_Mo_hasFirst_33 ⟨Nat.le_of_ble_eq_true rfl, Nat.le_of_ble_eq_true rfl⟩) (fun x_5 H locs p_4 hI => ?_)
      rcases p_4 with rfl | ⟨n_6, rfl, h_7⟩
      · refine lv_if_lt (tgt := 43) hx hb d_Mo_hasFirst_36 (by decide) (fun c_8 => ?_) (fun c_8 => ?_)
        · refine lv_iconst (v := 0) hx hb d_Mo_hasFirst_43 (by decide) ?_
          exact sm_zret hx hb hr hlk hI (by decide) ⟨(by decide), rfl⟩ d_Mo_hasFirst_44
        · exact absurd c_8 (by decide)
      · refine lv_if_lt (tgt := 43) hx hb d_Mo_hasFirst_36 (by decide) (fun c_9 => ?_) (fun c_9 => ?_)
        · exact absurd c_9 (nI_pos (by omega))
        · refine lv_iconst (v := 1) hx hb d_Mo_hasFirst_39 (by decide) ?_
          refine lv_goto (tgt := 44) hx hb d_Mo_hasFirst_40 (by decide) ?_
          exact sm_zret hx hb hr hlk hI (by decide) ⟨(by decide), rfl⟩ d_Mo_hasFirst_44
  refine lv_aload_n hx hb d_Mo_hasFirst_0 rfl (lv_at hl 0 rfl) ?_
  refine mq_get (k := 30) (v := .ref (ad 30)) hx hb hts hown hI hM (by decide) rfl rfl (hts _ tw_1199) d_Mo_hasFirst_1 ?_
  refine lv_iconst (v := 3) hx hb d_Mo_hasFirst_4 (by decide) ?_
  obtain ⟨n_11, h_12, h_13, e_14⟩ := hM.2.2.2.2.2 30 (3)
  refine mq_iald (k := 30) (j := 3) (v := nI n_11) hx hb hI hM (by decide) rfl (by show 3 < 4; omega) (by decide) e_14 d_Mo_hasFirst_5 ?_
  refine lv_if_le (tgt := 24) hx hb d_Mo_hasFirst_6 (by decide) (fun c_15 => ?_) (fun c_15 => ?_)
  · have k_17 : n_11 = 0 := nz_le c_15 (by omega)
    exact hJ_24 _ _ _  hI (lv_sub hl [0] rfl) 
  · have k_18 : 0 < n_11 := Nat.pos_of_ne_zero (fun q => c_15 (by rw [q]; decide))
    refine lv_aload_n hx hb d_Mo_hasFirst_9 rfl (lv_at hl 0 rfl) ?_
    refine mq_get (k := 33) (v := .ref (ad 33)) hx hb hts hown hI hM (by decide) rfl rfl (hts _ tw_1202) d_Mo_hasFirst_10 ?_
    refine lv_aload_n hx hb d_Mo_hasFirst_13 rfl (lv_at hl 0 rfl) ?_
    refine lv_iconst (v := 3) hx hb d_Mo_hasFirst_14 (by decide) ?_
    refine lv_iconst (v := 0) hx hb d_Mo_hasFirst_15 (by decide) ?_
    refine sm_iP hI (va_runV (As := [.int (3), .int (0)]) (rest := [.ref (ad 33)]) ⟨hx, hb, hml, hown, hts⟩ (c_Mo_slot l D ca ad L _ _ _ hM (3) (by omega) (0) (by omega)) (kv_Mo_slot hts rfl rfl (hts _ tw_1442) ⟨Nat.le_of_ble_eq_true rfl, Nat.le_of_ble_eq_true rfl⟩) (pv_Mo hI hE hM) rfl rfl hl.1 rfl (lv_room (Nat.le_of_ble_eq_true rfl)) d_Mo_hasFirst_16 ⟨Nat.le_of_ble_eq_true rfl, Nat.le_of_ble_eq_true rfl⟩) (fun x_20 H locs p_19 hI => ?_)
    subst p_19
    obtain ⟨x_21, e_22⟩ : ∃ z, σ0.2.2.1 33 ((3 * 16 + 0)) = z := ⟨_, rfl⟩
    refine mq_iald (k := 33) (j := (3 * 16 + 0)) (v := x_21) hx hb hI hM (by decide) rfl (by show (3 * 16 + 0) < 64; omega) (by decide) e_22 d_Mo_hasFirst_19 ?_
    refine lv_iconst (v := 2) hx hb d_Mo_hasFirst_20 (by decide) ?_
    refine lv_icmp_ne (tgt := 39) hx hb d_Mo_hasFirst_21 (by decide) (fun c_23 => ?_) (fun c_23 => ?_)
    · refine lv_iconst (v := 1) hx hb d_Mo_hasFirst_39 (by decide) ?_
      refine lv_goto (tgt := 44) hx hb d_Mo_hasFirst_40 (by decide) ?_
      exact sm_zret hx hb hr hlk hI (by decide) ⟨(by decide), rfl⟩ d_Mo_hasFirst_44
    · exact hJ_24 _ _ _  hI (lv_sub hl [0] rfl)
theorem d_Mo_reply_0 : decode b_Mo_reply 0 = .ok (.iload_n 1, 1) := by decide +kernel
theorem d_Mo_reply_1 : decode b_Mo_reply 1 = .ok (.aload_n 0, 1) := by decide +kernel
theorem d_Mo_reply_2 : decode b_Mo_reply 2 = .ok (.invokevirtual 417, 3) := by decide +kernel
theorem d_Mo_reply_5 : decode b_Mo_reply 5 = .ok (.ifCond .eq 8, 3) := by decide +kernel
theorem d_Mo_reply_8 : decode b_Mo_reply 8 = .ok (.bipush 32, 2) := by decide +kernel
theorem d_Mo_reply_10 : decode b_Mo_reply 10 = .ok (.goto 4, 3) := by decide +kernel
theorem d_Mo_reply_13 : decode b_Mo_reply 13 = .ok (.iconst 0, 1) := by decide +kernel
theorem d_Mo_reply_14 : decode b_Mo_reply 14 = .ok (.ior, 1) := by decide +kernel
theorem d_Mo_reply_15 : decode b_Mo_reply 15 = .ok (.istore 4, 2) := by decide +kernel
theorem d_Mo_reply_17 : decode b_Mo_reply 17 = .ok (.iload_n 2, 1) := by decide +kernel
theorem d_Mo_reply_18 : decode b_Mo_reply 18 = .ok (.ifCond .eq 10, 3) := by decide +kernel
theorem d_Mo_reply_21 : decode b_Mo_reply 21 = .ok (.aload_n 0, 1) := by decide +kernel
theorem d_Mo_reply_22 : decode b_Mo_reply 22 = .ok (.getfield 219, 3) := by decide +kernel
theorem d_Mo_reply_25 : decode b_Mo_reply 25 = .ok (.goto 4, 3) := by decide +kernel
theorem d_Mo_reply_28 : decode b_Mo_reply 28 = .ok (.iconst 0, 1) := by decide +kernel
theorem d_Mo_reply_29 : decode b_Mo_reply 29 = .ok (.istore 5, 2) := by decide +kernel
theorem d_Mo_reply_31 : decode b_Mo_reply 31 = .ok (.iload 4, 2) := by decide +kernel
theorem d_Mo_reply_33 : decode b_Mo_reply 33 = .ok (.aload_n 0, 1) := by decide +kernel
theorem d_Mo_reply_34 : decode b_Mo_reply 34 = .ok (.getfield 404, 3) := by decide +kernel
theorem d_Mo_reply_37 : decode b_Mo_reply 37 = .ok (.iadd, 1) := by decide +kernel
theorem d_Mo_reply_38 : decode b_Mo_reply 38 = .ok (.istore 6, 2) := by decide +kernel
theorem d_Mo_reply_40 : decode b_Mo_reply 40 = .ok (.iconst 0, 1) := by decide +kernel
theorem d_Mo_reply_41 : decode b_Mo_reply 41 = .ok (.istore 7, 2) := by decide +kernel
theorem d_Mo_reply_43 : decode b_Mo_reply 43 = .ok (.iload 7, 2) := by decide +kernel
theorem d_Mo_reply_45 : decode b_Mo_reply 45 = .ok (.iload 5, 2) := by decide +kernel
theorem d_Mo_reply_47 : decode b_Mo_reply 47 = .ok (.if_icmp .ge 21, 3) := by decide +kernel
theorem d_Mo_reply_50 : decode b_Mo_reply 50 = .ok (.iload 6, 2) := by decide +kernel
theorem d_Mo_reply_52 : decode b_Mo_reply 52 = .ok (.aload_n 0, 1) := by decide +kernel
theorem d_Mo_reply_53 : decode b_Mo_reply 53 = .ok (.getfield 172, 3) := by decide +kernel
theorem d_Mo_reply_56 : decode b_Mo_reply 56 = .ok (.iload 7, 2) := by decide +kernel
theorem d_Mo_reply_58 : decode b_Mo_reply 58 = .ok (.iaload, 1) := by decide +kernel
theorem d_Mo_reply_59 : decode b_Mo_reply 59 = .ok (.iadd, 1) := by decide +kernel
theorem d_Mo_reply_60 : decode b_Mo_reply 60 = .ok (.istore 6, 2) := by decide +kernel
theorem d_Mo_reply_62 : decode b_Mo_reply 62 = .ok (.iinc 7 1, 3) := by decide +kernel
theorem d_Mo_reply_65 : decode b_Mo_reply 65 = .ok (.goto (-22), 3) := by decide +kernel
theorem d_Mo_reply_68 : decode b_Mo_reply 68 = .ok (.aload_n 0, 1) := by decide +kernel
theorem d_Mo_reply_69 : decode b_Mo_reply 69 = .ok (.getfield 38, 3) := by decide +kernel
theorem d_Mo_reply_72 : decode b_Mo_reply 72 = .ok (.iconst 3, 1) := by decide +kernel
theorem d_Mo_reply_73 : decode b_Mo_reply 73 = .ok (.iconst 0, 1) := by decide +kernel
theorem d_Mo_reply_74 : decode b_Mo_reply 74 = .ok (.iastore, 1) := by decide +kernel
theorem d_Mo_reply_75 : decode b_Mo_reply 75 = .ok (.aload_n 0, 1) := by decide +kernel
theorem d_Mo_reply_76 : decode b_Mo_reply 76 = .ok (.iconst 3, 1) := by decide +kernel
theorem d_Mo_reply_77 : decode b_Mo_reply 77 = .ok (.iload_n 2, 1) := by decide +kernel
theorem d_Mo_reply_78 : decode b_Mo_reply 78 = .ok (.ifCond .eq 8, 3) := by decide +kernel
theorem d_Mo_reply_81 : decode b_Mo_reply 81 = .ok (.bipush 104, 2) := by decide +kernel
theorem d_Mo_reply_83 : decode b_Mo_reply 83 = .ok (.goto 5, 3) := by decide +kernel
theorem d_Mo_reply_86 : decode b_Mo_reply 86 = .ok (.bipush 16, 2) := by decide +kernel
theorem d_Mo_reply_88 : decode b_Mo_reply 88 = .ok (.invokevirtual 279, 3) := by decide +kernel
theorem d_Mo_reply_91 : decode b_Mo_reply 91 = .ok (.iload_n 2, 1) := by decide +kernel
theorem d_Mo_reply_92 : decode b_Mo_reply 92 = .ok (.ifCond .eq 28, 3) := by decide +kernel
theorem d_Mo_reply_95 : decode b_Mo_reply 95 = .ok (.aload_n 0, 1) := by decide +kernel
theorem d_Mo_reply_96 : decode b_Mo_reply 96 = .ok (.iconst 3, 1) := by decide +kernel
theorem d_Mo_reply_97 : decode b_Mo_reply 97 = .ok (.iload 5, 2) := by decide +kernel
theorem d_Mo_reply_99 : decode b_Mo_reply 99 = .ok (.iconst 2, 1) := by decide +kernel
theorem d_Mo_reply_100 : decode b_Mo_reply 100 = .ok (.iadd, 1) := by decide +kernel
theorem d_Mo_reply_101 : decode b_Mo_reply 101 = .ok (.invokevirtual 279, 3) := by decide +kernel
theorem d_Mo_reply_104 : decode b_Mo_reply 104 = .ok (.aload_n 0, 1) := by decide +kernel
theorem d_Mo_reply_105 : decode b_Mo_reply 105 = .ok (.iconst 3, 1) := by decide +kernel
theorem d_Mo_reply_106 : decode b_Mo_reply 106 = .ok (.iload 5, 2) := by decide +kernel
theorem d_Mo_reply_108 : decode b_Mo_reply 108 = .ok (.iconst 2, 1) := by decide +kernel
theorem d_Mo_reply_109 : decode b_Mo_reply 109 = .ok (.iadd, 1) := by decide +kernel
theorem d_Mo_reply_110 : decode b_Mo_reply 110 = .ok (.invokevirtual 279, 3) := by decide +kernel
theorem d_Mo_reply_113 : decode b_Mo_reply 113 = .ok (.aload_n 0, 1) := by decide +kernel
theorem d_Mo_reply_114 : decode b_Mo_reply 114 = .ok (.iconst 3, 1) := by decide +kernel
theorem d_Mo_reply_115 : decode b_Mo_reply 115 = .ok (.bipush 104, 2) := by decide +kernel
theorem d_Mo_reply_117 : decode b_Mo_reply 117 = .ok (.invokevirtual 279, 3) := by decide +kernel
theorem d_Mo_reply_120 : decode b_Mo_reply 120 = .ok (.aload_n 0, 1) := by decide +kernel
theorem d_Mo_reply_121 : decode b_Mo_reply 121 = .ok (.iconst 3, 1) := by decide +kernel
theorem d_Mo_reply_122 : decode b_Mo_reply 122 = .ok (.iload 4, 2) := by decide +kernel
theorem d_Mo_reply_124 : decode b_Mo_reply 124 = .ok (.invokevirtual 279, 3) := by decide +kernel
theorem d_Mo_reply_127 : decode b_Mo_reply 127 = .ok (.aload_n 0, 1) := by decide +kernel
theorem d_Mo_reply_128 : decode b_Mo_reply 128 = .ok (.iconst 3, 1) := by decide +kernel
theorem d_Mo_reply_129 : decode b_Mo_reply 129 = .ok (.aload_n 0, 1) := by decide +kernel
theorem d_Mo_reply_130 : decode b_Mo_reply 130 = .ok (.getfield 404, 3) := by decide +kernel
theorem d_Mo_reply_133 : decode b_Mo_reply 133 = .ok (.invokevirtual 279, 3) := by decide +kernel
theorem d_Mo_reply_136 : decode b_Mo_reply 136 = .ok (.iconst 0, 1) := by decide +kernel
theorem d_Mo_reply_137 : decode b_Mo_reply 137 = .ok (.istore 7, 2) := by decide +kernel
theorem d_Mo_reply_139 : decode b_Mo_reply 139 = .ok (.iload 7, 2) := by decide +kernel
theorem d_Mo_reply_141 : decode b_Mo_reply 141 = .ok (.iload 5, 2) := by decide +kernel
theorem d_Mo_reply_143 : decode b_Mo_reply 143 = .ok (.if_icmp .ge 21, 3) := by decide +kernel
theorem d_Mo_reply_146 : decode b_Mo_reply 146 = .ok (.aload_n 0, 1) := by decide +kernel
theorem d_Mo_reply_147 : decode b_Mo_reply 147 = .ok (.iconst 3, 1) := by decide +kernel
theorem d_Mo_reply_148 : decode b_Mo_reply 148 = .ok (.aload_n 0, 1) := by decide +kernel
theorem d_Mo_reply_149 : decode b_Mo_reply 149 = .ok (.getfield 172, 3) := by decide +kernel
theorem d_Mo_reply_152 : decode b_Mo_reply 152 = .ok (.iload 7, 2) := by decide +kernel
theorem d_Mo_reply_154 : decode b_Mo_reply 154 = .ok (.iaload, 1) := by decide +kernel
theorem d_Mo_reply_155 : decode b_Mo_reply 155 = .ok (.invokevirtual 279, 3) := by decide +kernel
theorem d_Mo_reply_158 : decode b_Mo_reply 158 = .ok (.iinc 7 1, 3) := by decide +kernel
theorem d_Mo_reply_161 : decode b_Mo_reply 161 = .ok (.goto (-22), 3) := by decide +kernel
theorem d_Mo_reply_164 : decode b_Mo_reply 164 = .ok (.aload_n 0, 1) := by decide +kernel
theorem d_Mo_reply_165 : decode b_Mo_reply 165 = .ok (.iconst 3, 1) := by decide +kernel
theorem d_Mo_reply_166 : decode b_Mo_reply 166 = .ok (.iload 6, 2) := by decide +kernel
theorem d_Mo_reply_168 : decode b_Mo_reply 168 = .ok (.invokevirtual 279, 3) := by decide +kernel
theorem d_Mo_reply_171 : decode b_Mo_reply 171 = .ok (.aload_n 0, 1) := by decide +kernel
theorem d_Mo_reply_172 : decode b_Mo_reply 172 = .ok (.iconst 3, 1) := by decide +kernel
theorem d_Mo_reply_173 : decode b_Mo_reply 173 = .ok (.bipush 22, 2) := by decide +kernel
theorem d_Mo_reply_175 : decode b_Mo_reply 175 = .ok (.invokevirtual 279, 3) := by decide +kernel
theorem d_Mo_reply_178 : decode b_Mo_reply 178 = .ok (.iload_n 3, 1) := by decide +kernel
theorem d_Mo_reply_179 : decode b_Mo_reply 179 = .ok (.ifCond .ne 4, 3) := by decide +kernel
theorem d_Mo_reply_182 : decode b_Mo_reply 182 = .ok (.return_, 1) := by decide +kernel
theorem d_Mo_reply_183 : decode b_Mo_reply 183 = .ok (.aload_n 0, 1) := by decide +kernel
theorem d_Mo_reply_184 : decode b_Mo_reply 184 = .ok (.aload_n 0, 1) := by decide +kernel
theorem d_Mo_reply_185 : decode b_Mo_reply 185 = .ok (.getfield 38, 3) := by decide +kernel
theorem d_Mo_reply_188 : decode b_Mo_reply 188 = .ok (.iconst 3, 1) := by decide +kernel
theorem d_Mo_reply_189 : decode b_Mo_reply 189 = .ok (.iaload, 1) := by decide +kernel
theorem d_Mo_reply_190 : decode b_Mo_reply 190 = .ok (.putfield 407, 3) := by decide +kernel
theorem d_Mo_reply_193 : decode b_Mo_reply 193 = .ok (.iconst 0, 1) := by decide +kernel
theorem d_Mo_reply_194 : decode b_Mo_reply 194 = .ok (.istore 7, 2) := by decide +kernel
theorem d_Mo_reply_196 : decode b_Mo_reply 196 = .ok (.iload 7, 2) := by decide +kernel
theorem d_Mo_reply_198 : decode b_Mo_reply 198 = .ok (.aload_n 0, 1) := by decide +kernel
theorem d_Mo_reply_199 : decode b_Mo_reply 199 = .ok (.getfield 407, 3) := by decide +kernel
theorem d_Mo_reply_202 : decode b_Mo_reply 202 = .ok (.if_icmp .ge 27, 3) := by decide +kernel
theorem d_Mo_reply_205 : decode b_Mo_reply 205 = .ok (.aload_n 0, 1) := by decide +kernel
theorem d_Mo_reply_206 : decode b_Mo_reply 206 = .ok (.getfield 106, 3) := by decide +kernel
theorem d_Mo_reply_209 : decode b_Mo_reply 209 = .ok (.iload 7, 2) := by decide +kernel
theorem d_Mo_reply_211 : decode b_Mo_reply 211 = .ok (.aload_n 0, 1) := by decide +kernel
theorem d_Mo_reply_212 : decode b_Mo_reply 212 = .ok (.getfield 35, 3) := by decide +kernel
theorem d_Mo_reply_215 : decode b_Mo_reply 215 = .ok (.sipush 3900, 3) := by decide +kernel
theorem d_Mo_reply_218 : decode b_Mo_reply 218 = .ok (.iload 7, 2) := by decide +kernel
theorem d_Mo_reply_220 : decode b_Mo_reply 220 = .ok (.iadd, 1) := by decide +kernel
theorem d_Mo_reply_221 : decode b_Mo_reply 221 = .ok (.iaload, 1) := by decide +kernel
theorem d_Mo_reply_222 : decode b_Mo_reply 222 = .ok (.iastore, 1) := by decide +kernel
theorem d_Mo_reply_223 : decode b_Mo_reply 223 = .ok (.iinc 7 1, 3) := by decide +kernel
theorem d_Mo_reply_226 : decode b_Mo_reply 226 = .ok (.goto (-30), 3) := by decide +kernel
theorem d_Mo_reply_229 : decode b_Mo_reply 229 = .ok (.return_, 1) := by decide +kernel
set_option maxRecDepth 100000 in
set_option maxHeartbeats 4000000 in
theorem c_Mo_reply (l : Launch) (D : va_G) (ca : Nat → ClassId) (ad : Nat → Nat) (L : List Nat) (f0 : Nat → va_E) (sz : Nat) (σ0 : mq_S) (hM : mq_B ca ad σ0 L f0) (x1 : Int32) (x2 : Int32) (p2 : x2 = 0 ∨ x2 = 1) (x3 : Int32) (p3 : x3 = 0 ∨ x3 = 1) :
    Met l y_Mo_reply (Cond.code y_Mo_reply b_Mo_reply 8 none :: wg) { frames := 2, cells := 0, slots := 0, locals := 42 } (va_Pc [.ref (ad 71), .int (x1), .int (x2), .int (x3)] (sm_P D cl_all (ty_s ca) ek L f0 sz)) (sm_Qv D (ty_s ca) L f0 sz (fun u => mq_po ca ad L σ0 [15, 16, 40, 41] (fun σ => True) u)) 0 0 (va_A (va_pl L f0) sz) := by
  refine sm_start (by decide) (Nat.le_of_ble_eq_true rfl) ?_
  intro p e s m below meth c ls hx hb hml hr hlk hnm hts hown hsz hE hI hl
  have hl : lv_has ls 8 [(0, .ref (ad 71)), (1, .int (x1)), (2, .int (x2)), (3, .int (x3))] := hl
  have hF : mq_fr [15, 16, 40, 41] σ0 σ0 := mq_fr_rf
  have hJ_196 : ∀ (N k : Nat) (H : Heap) (locs : List Loc) (f : Nat → va_E) (σ : mq_S) (ls : Array Slot) (y4 : Int32) (y5 : Int32) (y6 : Int32), 270 + 1 - k ≤ N → k ≤ 270 → sw_I D cl_all (ty_s ca) (va_A (va_pl L f0) sz) s H locs L f → mq_B ca ad σ L f → mq_fr [15, 16, 40, 41] σ0 σ → lv_has ls 8 [(0, .ref (ad 71)), (1, .int (x1)), (2, .int (x2)), (3, .int (x3)), (4, .int (y4)), (5, .int (y5)), (6, .int (y6)), (7, .int (nI k))] → W p l e { frames := 2, cells := 0, slots := 0, locals := 42 } s m ([.ref (ad 71), .int (x1), .int (x2), .int (x3)] : List Value).toArray below meth c H locs 0 0 (MQ below (sm_Qv D (ty_s ca) L f0 sz (fun u => mq_po ca ad L σ0 [15, 16, 40, 41] (fun σ => True) u)) ([.ref (ad 71), .int (x1), .int (x2), .int (x3)] : List Value).toArray s 0 0 (va_A (va_pl L f0) sz)) (F0 m 196 ls []) := by
    intro N
    induction N with
    | zero => intros; omega
    | succ N ih =>
      intro k H locs f σ ls y4 y5 y6 hN hk hI hM hF hl 
      refine lv_iload hx hb d_Mo_reply_196 (lv_at hl 7 rfl) ?_
      refine lv_aload_n hx hb d_Mo_reply_198 rfl (lv_at hl 0 rfl) ?_
      obtain ⟨n_1, h_2, h_3, e_4⟩ := hM.2.2.2.2.1 40
      refine mq_get (k := 40) (v := .int (nI n_1)) hx hb hts hown hI hM (by decide) (congrArg (fun z => some (Value.int z)) e_4) rfl (hts _ tw_1209) d_Mo_reply_199 ?_
      refine lv_icmp_ge (tgt := 229) hx hb d_Mo_reply_202 (by decide) (fun c_5 => ?_) (fun c_5 => ?_)
      · have k_6 : n_1 ≤ k := (nI_leI (a := n_1) (b := k) (by omega) (by omega)).mp c_5
        exact sm_vret hx hb hr hlk hI ⟨σ, rfl, hM, hF, trivial⟩ d_Mo_reply_229
      · have k_7 : k < n_1 := Nat.lt_of_not_le (fun q => c_5 ((nI_leI (a := n_1) (b := k) (by omega) (by omega)).mpr q))
        refine lv_aload_n hx hb d_Mo_reply_205 rfl (lv_at hl 0 rfl) ?_
        refine mq_get (k := 41) (v := .ref (ad 41)) hx hb hts hown hI hM (by decide) rfl rfl (hts _ tw_1210) d_Mo_reply_206 ?_
        refine lv_iload hx hb d_Mo_reply_209 (lv_at hl 7 rfl) ?_
        refine lv_aload_n hx hb d_Mo_reply_211 rfl (lv_at hl 0 rfl) ?_
        refine mq_get (k := 15) (v := .ref (ad 15)) hx hb hts hown hI hM (by decide) rfl rfl (hts _ tw_1184) d_Mo_reply_212 ?_
        refine lv_sipush (v := 3900) hx hb d_Mo_reply_215 (by decide) ?_
        refine lv_iload hx hb d_Mo_reply_218 (lv_at hl 7 rfl) ?_
        refine lv_iadd hx hb d_Mo_reply_220 ?_
        refine lv_topi (fun x_8 e_9 => ?_)
        obtain rfl : x_8 = nI (3900 + k) := by rw [e_9]; exact nI_add _ _
        obtain ⟨x_10, e_11⟩ : ∃ z, σ.2.2.1 15 ((3900 + k)) = z := ⟨_, rfl⟩
        refine mq_iald (k := 15) (j := (3900 + k)) (v := x_10) hx hb hI hM (by decide) rfl (by show (3900 + k) < 5200; omega) (by decide) e_11 d_Mo_reply_221 ?_
        refine mq_iast (k := 41) (j := k) (x := x_10) hx hb hI hM (by decide) rfl (by show k < 270; omega) (by decide) trivial d_Mo_reply_222 (fun H locs f σ_12 e_13 hI hM => ?_)
        have hF := mq_fr_ug hF e_13 rfl (Or.inl rfl)
        refine lv_iinc (v := nI (k + 1)) (lv' := [(7, .int (nI (k + 1))), (0, .ref (ad 71)), (1, .int (x1)), (2, .int (x2)), (3, .int (x3)), (4, .int (y4)), (5, .int (y5)), (6, .int (y6))]) hx hb d_Mo_reply_223 hl (k := 7) rfl (nI_1 _) (by decide) rfl (fun ls hl => ?_)
        refine lv_goto (tgt := 196) hx hb d_Mo_reply_226 (by decide) ?_
        exact ih ((k + 1)) _ _ _ _ _ y4 y5 y6 (by omega) (by omega) hI hM hF (lv_sub hl [1, 2, 3, 4, 5, 6, 7, 0] rfl) 
  have hJ_139 : ∀ (N k : Nat) (H : Heap) (locs : List Loc) (f : Nat → va_E) (σ : mq_S) (ls : Array Slot) (y4 : Int32) (r : Nat) (y6 : Int32) (w : Nat), 260 + 1 - k ≤ N → k ≤ 260 → sw_I D cl_all (ty_s ca) (va_A (va_pl L f0) sz) s H locs L f → mq_B ca ad σ L f → mq_fr [15, 16, 40, 41] σ0 σ → lv_has ls 8 [(0, .ref (ad 71)), (1, .int (x1)), (2, .int (x2)), (3, .int (x3)), (4, .int (y4)), (5, .int (nI r)), (6, .int (y6)), (7, .int (nI k))] → (0 ≤ w) → (w ≤ 1299) → (σ.2.2.1 16 (3) = nI w) → (r ≤ 260) → (w ≤ 6 + k) → W p l e { frames := 2, cells := 0, slots := 0, locals := 42 } s m ([.ref (ad 71), .int (x1), .int (x2), .int (x3)] : List Value).toArray below meth c H locs 0 0 (MQ below (sm_Qv D (ty_s ca) L f0 sz (fun u => mq_po ca ad L σ0 [15, 16, 40, 41] (fun σ => True) u)) ([.ref (ad 71), .int (x1), .int (x2), .int (x3)] : List Value).toArray s 0 0 (va_A (va_pl L f0) sz)) (F0 m 139 ls []) := by
    intro N
    induction N with
    | zero => intros; omega
    | succ N ih =>
      intro k H locs f σ ls y4 r y6 w hN hk hI hM hF hl h90a h90b o90 hrr hw
      refine lv_iload hx hb d_Mo_reply_139 (lv_at hl 7 rfl) ?_
      refine lv_iload hx hb d_Mo_reply_141 (lv_at hl 5 rfl) ?_
      refine lv_icmp_ge (tgt := 164) hx hb d_Mo_reply_143 (by decide) (fun c_14 => ?_) (fun c_14 => ?_)
      · have k_15 : r ≤ k := (nI_leI (a := r) (b := k) (by omega) (by omega)).mp c_14
        refine lv_aload_n hx hb d_Mo_reply_164 rfl (lv_at hl 0 rfl) ?_
        refine lv_iconst (v := 3) hx hb d_Mo_reply_165 (by decide) ?_
        refine lv_iload hx hb d_Mo_reply_166 (lv_at hl 6 rfl) ?_
        refine sm_vM hI (va_runV (As := [.int (3), .int (y6)]) (rest := []) ⟨hx, hb, hml, hown, hts⟩ (c_Mo_put l D ca ad L _ _ _ hM (3) (by omega) y6 (w) o90 (by omega)) (kv_Mo_put hts rfl rfl (hts _ tw_1517) ⟨Nat.le_of_ble_eq_true rfl, Nat.le_of_ble_eq_true rfl⟩) (pv_Mo hI hE hM) rfl rfl hl.1 rfl (lv_room (Nat.le_of_ble_eq_true rfl)) d_Mo_reply_168 ⟨Nat.le_of_ble_eq_true rfl, Nat.le_of_ble_eq_true rfl⟩) (fun H locs f σ_17 hI hM hF_18 p_16 => ?_)
        have hF := mq_fr_tr hF hF_18 (by decide)
        obtain ⟨o_19, -⟩ := p_16
        refine lv_aload_n hx hb d_Mo_reply_171 rfl (lv_at hl 0 rfl) ?_
        refine lv_iconst (v := 3) hx hb d_Mo_reply_172 (by decide) ?_
        refine lv_bipush (v := 22) hx hb d_Mo_reply_173 (by decide) ?_
        refine sm_vM hI (va_runV (As := [.int (3), .int (22)]) (rest := []) ⟨hx, hb, hml, hown, hts⟩ (c_Mo_put l D ca ad L _ _ _ hM (3) (by omega) 22 ((w + 1)) o_19 (by omega)) (kv_Mo_put hts rfl rfl (hts _ tw_1517) ⟨Nat.le_of_ble_eq_true rfl, Nat.le_of_ble_eq_true rfl⟩) (pv_Mo hI hE hM) rfl rfl hl.1 rfl (lv_room (Nat.le_of_ble_eq_true rfl)) d_Mo_reply_175 ⟨Nat.le_of_ble_eq_true rfl, Nat.le_of_ble_eq_true rfl⟩) (fun H locs f σ_21 hI hM hF_22 p_20 => ?_)
        have hF := mq_fr_tr hF hF_22 (by decide)
        obtain ⟨o_23, -⟩ := p_20
        refine lv_iload_n hx hb d_Mo_reply_178 rfl (lv_at hl 3 rfl) ?_
        refine lv_if_ne (tgt := 183) hx hb d_Mo_reply_179 (by decide) (fun c_24 => ?_) (fun c_24 => ?_)
        · refine lv_aload_n hx hb d_Mo_reply_183 rfl (lv_at hl 0 rfl) ?_
          refine lv_aload_n hx hb d_Mo_reply_184 rfl (lv_at hl 0 rfl) ?_
          refine mq_get (k := 16) (v := .ref (ad 16)) hx hb hts hown hI hM (by decide) rfl rfl (hts _ tw_1185) d_Mo_reply_185 ?_
          refine lv_iconst (v := 3) hx hb d_Mo_reply_188 (by decide) ?_
          refine mq_iald (k := 16) (j := 3) (v := nI (((w + 1)) + 1)) hx hb hI hM (by decide) rfl (by show 3 < 4; omega) (by decide) o_23 d_Mo_reply_189 ?_
          refine mq_puti (k := 40) (ty := .int) hx hb hts hown hI hM (by decide) rfl rfl (hts _ tw_1209) rfl (by decide +kernel) rfl rfl ⟨(((w + 1)) + 1), by omega, by omega, rfl⟩ d_Mo_reply_190 (fun H locs f σ_25 e_26 hI hM => ?_)
          have hF := mq_fr_ui hF e_26 rfl
          have o_27 : σ_25.2.2.1 16 (3) = nI (((w + 1)) + 1) := by rw [e_26]; exact o_23
          refine lv_iconst (v := 0) hx hb d_Mo_reply_193 (by decide) ?_
          refine lv_istore (lv' := [(7, .int (0)), (0, .ref (ad 71)), (1, .int (x1)), (2, .int (x2)), (3, .int (x3)), (4, .int (y4)), (5, .int (nI r)), (6, .int (y6))]) hx hb d_Mo_reply_194 hl (by decide) rfl (fun ls hl => ?_)
          exact hJ_196 _ (0) _ _ _ _ _ y4 (nI r) y6 (Nat.le_refl _) (by omega) hI hM hF (lv_sub hl [1, 2, 3, 4, 5, 6, 7, 0] rfl) 
        · exact sm_vret hx hb hr hlk hI ⟨σ_21, rfl, hM, hF, trivial⟩ d_Mo_reply_182
      · have k_28 : k < r := Nat.lt_of_not_le (fun q => c_14 ((nI_leI (a := r) (b := k) (by omega) (by omega)).mpr q))
        refine lv_aload_n hx hb d_Mo_reply_146 rfl (lv_at hl 0 rfl) ?_
        refine lv_iconst (v := 3) hx hb d_Mo_reply_147 (by decide) ?_
        refine lv_aload_n hx hb d_Mo_reply_148 rfl (lv_at hl 0 rfl) ?_
        refine mq_get (k := 69) (v := .ref (ad 69)) hx hb hts hown hI hM (by decide) rfl rfl (hts _ tw_1238) d_Mo_reply_149 ?_
        refine lv_iload hx hb d_Mo_reply_152 (lv_at hl 7 rfl) ?_
        obtain ⟨x_29, e_30⟩ : ∃ z, σ.2.2.1 69 (k) = z := ⟨_, rfl⟩
        refine mq_iald (k := 69) (j := k) (v := x_29) hx hb hI hM (by decide) rfl (by show k < 260; omega) (by decide) e_30 d_Mo_reply_154 ?_
        refine sm_vM hI (va_runV (As := [.int (3), .int (x_29)]) (rest := []) ⟨hx, hb, hml, hown, hts⟩ (c_Mo_put l D ca ad L _ _ _ hM (3) (by omega) x_29 (w) o90 (by omega)) (kv_Mo_put hts rfl rfl (hts _ tw_1517) ⟨Nat.le_of_ble_eq_true rfl, Nat.le_of_ble_eq_true rfl⟩) (pv_Mo hI hE hM) rfl rfl hl.1 rfl (lv_room (Nat.le_of_ble_eq_true rfl)) d_Mo_reply_155 ⟨Nat.le_of_ble_eq_true rfl, Nat.le_of_ble_eq_true rfl⟩) (fun H locs f σ_32 hI hM hF_33 p_31 => ?_)
        have hF := mq_fr_tr hF hF_33 (by decide)
        obtain ⟨o_34, -⟩ := p_31
        refine lv_iinc (v := nI (k + 1)) (lv' := [(7, .int (nI (k + 1))), (0, .ref (ad 71)), (1, .int (x1)), (2, .int (x2)), (3, .int (x3)), (4, .int (y4)), (5, .int (nI r)), (6, .int (y6))]) hx hb d_Mo_reply_158 hl (k := 7) rfl (nI_1 _) (by decide) rfl (fun ls hl => ?_)
        refine lv_goto (tgt := 139) hx hb d_Mo_reply_161 (by decide) ?_
        exact ih ((k + 1)) _ _ _ _ _ y4 (r) y6 ((w + 1)) (by omega) (by omega) hI hM hF (lv_sub hl [1, 2, 3, 4, 5, 6, 7, 0] rfl) (by omega) (by omega) o_34 (by omega) (by omega)
  have hJ_43 : ∀ (N k : Nat) (H : Heap) (locs : List Loc) (f : Nat → va_E) (σ : mq_S) (ls : Array Slot) (y4 : Int32) (r : Nat) (y6 : Int32), 260 + 1 - k ≤ N → k ≤ 260 → sw_I D cl_all (ty_s ca) (va_A (va_pl L f0) sz) s H locs L f → mq_B ca ad σ L f → mq_fr [15, 16, 40, 41] σ0 σ → lv_has ls 8 [(0, .ref (ad 71)), (1, .int (x1)), (2, .int (x2)), (3, .int (x3)), (4, .int (y4)), (5, .int (nI r)), (6, .int (y6)), (7, .int (nI k))] → (r ≤ 260) → W p l e { frames := 2, cells := 0, slots := 0, locals := 42 } s m ([.ref (ad 71), .int (x1), .int (x2), .int (x3)] : List Value).toArray below meth c H locs 0 0 (MQ below (sm_Qv D (ty_s ca) L f0 sz (fun u => mq_po ca ad L σ0 [15, 16, 40, 41] (fun σ => True) u)) ([.ref (ad 71), .int (x1), .int (x2), .int (x3)] : List Value).toArray s 0 0 (va_A (va_pl L f0) sz)) (F0 m 43 ls []) := by
    intro N
    induction N with
    | zero => intros; omega
    | succ N ih =>
      intro k H locs f σ ls y4 r y6 hN hk hI hM hF hl hrr
      refine lv_iload hx hb d_Mo_reply_43 (lv_at hl 7 rfl) ?_
      refine lv_iload hx hb d_Mo_reply_45 (lv_at hl 5 rfl) ?_
      refine lv_icmp_ge (tgt := 68) hx hb d_Mo_reply_47 (by decide) (fun c_35 => ?_) (fun c_35 => ?_)
      · have k_36 : r ≤ k := (nI_leI (a := r) (b := k) (by omega) (by omega)).mp c_35
        refine lv_aload_n hx hb d_Mo_reply_68 rfl (lv_at hl 0 rfl) ?_
        refine mq_get (k := 16) (v := .ref (ad 16)) hx hb hts hown hI hM (by decide) rfl rfl (hts _ tw_1185) d_Mo_reply_69 ?_
        refine lv_iconst (v := 3) hx hb d_Mo_reply_72 (by decide) ?_
        refine lv_iconst (v := 0) hx hb d_Mo_reply_73 (by decide) ?_
        refine mq_iast (k := 16) (j := 3) (x := 0) hx hb hI hM (by decide) rfl (by show 3 < 4; omega) (by decide) ⟨0, by decide, by decide, rfl⟩ d_Mo_reply_74 (fun H locs f σ_37 e_38 hI hM => ?_)
        have hF := mq_fr_ug hF e_38 rfl (Or.inl rfl)
        have o_39 := mq_ugj e_38
        refine lv_aload_n hx hb d_Mo_reply_75 rfl (lv_at hl 0 rfl) ?_
        refine lv_iconst (v := 3) hx hb d_Mo_reply_76 (by decide) ?_
        refine lv_iload_n hx hb d_Mo_reply_77 rfl (lv_at hl 2 rfl) ?_
        refine lv_if_eq (tgt := 86) hx hb d_Mo_reply_78 (by decide) (fun c_40 => ?_) (fun c_40 => ?_)
        · refine lv_bipush (v := 16) hx hb d_Mo_reply_86 (by decide) ?_
          refine sm_vM hI (va_runV (As := [.int (3), .int (16)]) (rest := []) ⟨hx, hb, hml, hown, hts⟩ (c_Mo_put l D ca ad L _ _ _ hM (3) (by omega) 16 (0) o_39 (by omega)) (kv_Mo_put hts rfl rfl (hts _ tw_1517) ⟨Nat.le_of_ble_eq_true rfl, Nat.le_of_ble_eq_true rfl⟩) (pv_Mo hI hE hM) rfl rfl hl.1 rfl (lv_room (Nat.le_of_ble_eq_true rfl)) d_Mo_reply_88 ⟨Nat.le_of_ble_eq_true rfl, Nat.le_of_ble_eq_true rfl⟩) (fun H locs f σ_42 hI hM hF_43 p_41 => ?_)
          have hF := mq_fr_tr hF hF_43 (by decide)
          obtain ⟨o_44, -⟩ := p_41
          refine lv_iload_n hx hb d_Mo_reply_91 rfl (lv_at hl 2 rfl) ?_
          refine lv_if_eq (tgt := 120) hx hb d_Mo_reply_92 (by decide) (fun c_45 => ?_) (fun c_45 => ?_)
          · refine lv_aload_n hx hb d_Mo_reply_120 rfl (lv_at hl 0 rfl) ?_
            refine lv_iconst (v := 3) hx hb d_Mo_reply_121 (by decide) ?_
            refine lv_iload hx hb d_Mo_reply_122 (lv_at hl 4 rfl) ?_
            refine sm_vM hI (va_runV (As := [.int (3), .int (y4)]) (rest := []) ⟨hx, hb, hml, hown, hts⟩ (c_Mo_put l D ca ad L _ _ _ hM (3) (by omega) y4 ((0 + 1)) o_44 (by omega)) (kv_Mo_put hts rfl rfl (hts _ tw_1517) ⟨Nat.le_of_ble_eq_true rfl, Nat.le_of_ble_eq_true rfl⟩) (pv_Mo hI hE hM) rfl rfl hl.1 rfl (lv_room (Nat.le_of_ble_eq_true rfl)) d_Mo_reply_124 ⟨Nat.le_of_ble_eq_true rfl, Nat.le_of_ble_eq_true rfl⟩) (fun H locs f σ_47 hI hM hF_48 p_46 => ?_)
            have hF := mq_fr_tr hF hF_48 (by decide)
            obtain ⟨o_49, -⟩ := p_46
            refine lv_aload_n hx hb d_Mo_reply_127 rfl (lv_at hl 0 rfl) ?_
            refine lv_iconst (v := 3) hx hb d_Mo_reply_128 (by decide) ?_
            refine lv_aload_n hx hb d_Mo_reply_129 rfl (lv_at hl 0 rfl) ?_
            obtain ⟨x_50, e_51⟩ : ∃ z, σ_47.1 35 = z := ⟨_, rfl⟩
            refine mq_get (k := 35) (v := .int (x_50)) hx hb hts hown hI hM (by decide) (congrArg (fun z => some (Value.int z)) e_51) rfl (hts _ tw_1204) d_Mo_reply_130 ?_
            refine sm_vM hI (va_runV (As := [.int (3), .int (x_50)]) (rest := []) ⟨hx, hb, hml, hown, hts⟩ (c_Mo_put l D ca ad L _ _ _ hM (3) (by omega) x_50 ((((0 + 1)) + 1)) o_49 (by omega)) (kv_Mo_put hts rfl rfl (hts _ tw_1517) ⟨Nat.le_of_ble_eq_true rfl, Nat.le_of_ble_eq_true rfl⟩) (pv_Mo hI hE hM) rfl rfl hl.1 rfl (lv_room (Nat.le_of_ble_eq_true rfl)) d_Mo_reply_133 ⟨Nat.le_of_ble_eq_true rfl, Nat.le_of_ble_eq_true rfl⟩) (fun H locs f σ_53 hI hM hF_54 p_52 => ?_)
            have hF := mq_fr_tr hF hF_54 (by decide)
            obtain ⟨o_55, -⟩ := p_52
            refine lv_iconst (v := 0) hx hb d_Mo_reply_136 (by decide) ?_
            refine lv_istore (lv' := [(7, .int (0)), (0, .ref (ad 71)), (1, .int (x1)), (2, .int (x2)), (3, .int (x3)), (4, .int (y4)), (5, .int (nI r)), (6, .int (y6))]) hx hb d_Mo_reply_137 hl (by decide) rfl (fun ls hl => ?_)
            exact hJ_139 _ (0) _ _ _ _ _ y4 (r) y6 ((((((0 + 1)) + 1)) + 1)) (Nat.le_refl _) (by omega) hI hM hF (lv_sub hl [1, 2, 3, 4, 5, 6, 7, 0] rfl) (by omega) (by omega) o_55 (by omega) (by omega)
          · exact absurd c_40 c_45
        · refine lv_bipush (v := 104) hx hb d_Mo_reply_81 (by decide) ?_
          refine lv_goto (tgt := 88) hx hb d_Mo_reply_83 (by decide) ?_
          refine sm_vM hI (va_runV (As := [.int (3), .int (104)]) (rest := []) ⟨hx, hb, hml, hown, hts⟩ (c_Mo_put l D ca ad L _ _ _ hM (3) (by omega) 104 (0) o_39 (by omega)) (kv_Mo_put hts rfl rfl (hts _ tw_1517) ⟨Nat.le_of_ble_eq_true rfl, Nat.le_of_ble_eq_true rfl⟩) (pv_Mo hI hE hM) rfl rfl hl.1 rfl (lv_room (Nat.le_of_ble_eq_true rfl)) d_Mo_reply_88 ⟨Nat.le_of_ble_eq_true rfl, Nat.le_of_ble_eq_true rfl⟩) (fun H locs f σ_57 hI hM hF_58 p_56 => ?_)
          have hF := mq_fr_tr hF hF_58 (by decide)
          obtain ⟨o_59, -⟩ := p_56
          refine lv_iload_n hx hb d_Mo_reply_91 rfl (lv_at hl 2 rfl) ?_
          refine lv_if_eq (tgt := 120) hx hb d_Mo_reply_92 (by decide) (fun c_60 => ?_) (fun c_60 => ?_)
          · exact absurd c_60 c_40
          · refine lv_aload_n hx hb d_Mo_reply_95 rfl (lv_at hl 0 rfl) ?_
            refine lv_iconst (v := 3) hx hb d_Mo_reply_96 (by decide) ?_
            refine lv_iload hx hb d_Mo_reply_97 (lv_at hl 5 rfl) ?_
            refine lv_iconst (v := 2) hx hb d_Mo_reply_99 (by decide) ?_
            refine lv_iadd hx hb d_Mo_reply_100 ?_
            refine lv_topi (fun x_61 e_62 => ?_)
            obtain rfl : x_61 = nI (r + 2) := by rw [e_62]; exact nI_add _ _
            refine sm_vM hI (va_runV (As := [.int (3), .int (nI (r + 2))]) (rest := []) ⟨hx, hb, hml, hown, hts⟩ (c_Mo_put l D ca ad L _ _ _ hM (3) (by omega) (nI (r + 2)) ((0 + 1)) o_59 (by omega)) (kv_Mo_put hts rfl rfl (hts _ tw_1517) ⟨Nat.le_of_ble_eq_true rfl, Nat.le_of_ble_eq_true rfl⟩) (pv_Mo hI hE hM) rfl rfl hl.1 rfl (lv_room (Nat.le_of_ble_eq_true rfl)) d_Mo_reply_101 ⟨Nat.le_of_ble_eq_true rfl, Nat.le_of_ble_eq_true rfl⟩) (fun H locs f σ_64 hI hM hF_65 p_63 => ?_)
            have hF := mq_fr_tr hF hF_65 (by decide)
            obtain ⟨o_66, -⟩ := p_63
            refine lv_aload_n hx hb d_Mo_reply_104 rfl (lv_at hl 0 rfl) ?_
            refine lv_iconst (v := 3) hx hb d_Mo_reply_105 (by decide) ?_
            refine lv_iload hx hb d_Mo_reply_106 (lv_at hl 5 rfl) ?_
            refine lv_iconst (v := 2) hx hb d_Mo_reply_108 (by decide) ?_
            refine lv_iadd hx hb d_Mo_reply_109 ?_
            refine lv_topi (fun x_67 e_68 => ?_)
            obtain rfl : x_67 = nI (r + 2) := by rw [e_68]; exact nI_add _ _
            refine sm_vM hI (va_runV (As := [.int (3), .int (nI (r + 2))]) (rest := []) ⟨hx, hb, hml, hown, hts⟩ (c_Mo_put l D ca ad L _ _ _ hM (3) (by omega) (nI (r + 2)) ((((0 + 1)) + 1)) o_66 (by omega)) (kv_Mo_put hts rfl rfl (hts _ tw_1517) ⟨Nat.le_of_ble_eq_true rfl, Nat.le_of_ble_eq_true rfl⟩) (pv_Mo hI hE hM) rfl rfl hl.1 rfl (lv_room (Nat.le_of_ble_eq_true rfl)) d_Mo_reply_110 ⟨Nat.le_of_ble_eq_true rfl, Nat.le_of_ble_eq_true rfl⟩) (fun H locs f σ_70 hI hM hF_71 p_69 => ?_)
            have hF := mq_fr_tr hF hF_71 (by decide)
            obtain ⟨o_72, -⟩ := p_69
            refine lv_aload_n hx hb d_Mo_reply_113 rfl (lv_at hl 0 rfl) ?_
            refine lv_iconst (v := 3) hx hb d_Mo_reply_114 (by decide) ?_
            refine lv_bipush (v := 104) hx hb d_Mo_reply_115 (by decide) ?_
            refine sm_vM hI (va_runV (As := [.int (3), .int (104)]) (rest := []) ⟨hx, hb, hml, hown, hts⟩ (c_Mo_put l D ca ad L _ _ _ hM (3) (by omega) 104 ((((((0 + 1)) + 1)) + 1)) o_72 (by omega)) (kv_Mo_put hts rfl rfl (hts _ tw_1517) ⟨Nat.le_of_ble_eq_true rfl, Nat.le_of_ble_eq_true rfl⟩) (pv_Mo hI hE hM) rfl rfl hl.1 rfl (lv_room (Nat.le_of_ble_eq_true rfl)) d_Mo_reply_117 ⟨Nat.le_of_ble_eq_true rfl, Nat.le_of_ble_eq_true rfl⟩) (fun H locs f σ_74 hI hM hF_75 p_73 => ?_)
            have hF := mq_fr_tr hF hF_75 (by decide)
            obtain ⟨o_76, -⟩ := p_73
            refine lv_aload_n hx hb d_Mo_reply_120 rfl (lv_at hl 0 rfl) ?_
            refine lv_iconst (v := 3) hx hb d_Mo_reply_121 (by decide) ?_
            refine lv_iload hx hb d_Mo_reply_122 (lv_at hl 4 rfl) ?_
            refine sm_vM hI (va_runV (As := [.int (3), .int (y4)]) (rest := []) ⟨hx, hb, hml, hown, hts⟩ (c_Mo_put l D ca ad L _ _ _ hM (3) (by omega) y4 ((((((((0 + 1)) + 1)) + 1)) + 1)) o_76 (by omega)) (kv_Mo_put hts rfl rfl (hts _ tw_1517) ⟨Nat.le_of_ble_eq_true rfl, Nat.le_of_ble_eq_true rfl⟩) (pv_Mo hI hE hM) rfl rfl hl.1 rfl (lv_room (Nat.le_of_ble_eq_true rfl)) d_Mo_reply_124 ⟨Nat.le_of_ble_eq_true rfl, Nat.le_of_ble_eq_true rfl⟩) (fun H locs f σ_78 hI hM hF_79 p_77 => ?_)
            have hF := mq_fr_tr hF hF_79 (by decide)
            obtain ⟨o_80, -⟩ := p_77
            refine lv_aload_n hx hb d_Mo_reply_127 rfl (lv_at hl 0 rfl) ?_
            refine lv_iconst (v := 3) hx hb d_Mo_reply_128 (by decide) ?_
            refine lv_aload_n hx hb d_Mo_reply_129 rfl (lv_at hl 0 rfl) ?_
            obtain ⟨x_81, e_82⟩ : ∃ z, σ_78.1 35 = z := ⟨_, rfl⟩
            refine mq_get (k := 35) (v := .int (x_81)) hx hb hts hown hI hM (by decide) (congrArg (fun z => some (Value.int z)) e_82) rfl (hts _ tw_1204) d_Mo_reply_130 ?_
            refine sm_vM hI (va_runV (As := [.int (3), .int (x_81)]) (rest := []) ⟨hx, hb, hml, hown, hts⟩ (c_Mo_put l D ca ad L _ _ _ hM (3) (by omega) x_81 ((((((((((0 + 1)) + 1)) + 1)) + 1)) + 1)) o_80 (by omega)) (kv_Mo_put hts rfl rfl (hts _ tw_1517) ⟨Nat.le_of_ble_eq_true rfl, Nat.le_of_ble_eq_true rfl⟩) (pv_Mo hI hE hM) rfl rfl hl.1 rfl (lv_room (Nat.le_of_ble_eq_true rfl)) d_Mo_reply_133 ⟨Nat.le_of_ble_eq_true rfl, Nat.le_of_ble_eq_true rfl⟩) (fun H locs f σ_84 hI hM hF_85 p_83 => ?_)
            have hF := mq_fr_tr hF hF_85 (by decide)
            obtain ⟨o_86, -⟩ := p_83
            refine lv_iconst (v := 0) hx hb d_Mo_reply_136 (by decide) ?_
            refine lv_istore (lv' := [(7, .int (0)), (0, .ref (ad 71)), (1, .int (x1)), (2, .int (x2)), (3, .int (x3)), (4, .int (y4)), (5, .int (nI r)), (6, .int (y6))]) hx hb d_Mo_reply_137 hl (by decide) rfl (fun ls hl => ?_)
            exact hJ_139 _ (0) _ _ _ _ _ y4 (r) y6 ((((((((((((0 + 1)) + 1)) + 1)) + 1)) + 1)) + 1)) (Nat.le_refl _) (by omega) hI hM hF (lv_sub hl [1, 2, 3, 4, 5, 6, 7, 0] rfl) (by omega) (by omega) o_86 (by omega) (by omega)
      · have k_87 : k < r := Nat.lt_of_not_le (fun q => c_35 ((nI_leI (a := r) (b := k) (by omega) (by omega)).mpr q))
        refine lv_iload hx hb d_Mo_reply_50 (lv_at hl 6 rfl) ?_
        refine lv_aload_n hx hb d_Mo_reply_52 rfl (lv_at hl 0 rfl) ?_
        refine mq_get (k := 69) (v := .ref (ad 69)) hx hb hts hown hI hM (by decide) rfl rfl (hts _ tw_1238) d_Mo_reply_53 ?_
        refine lv_iload hx hb d_Mo_reply_56 (lv_at hl 7 rfl) ?_
        obtain ⟨x_88, e_89⟩ : ∃ z, σ.2.2.1 69 (k) = z := ⟨_, rfl⟩
        refine mq_iald (k := 69) (j := k) (v := x_88) hx hb hI hM (by decide) rfl (by show k < 260; omega) (by decide) e_89 d_Mo_reply_58 ?_
        refine lv_iadd hx hb d_Mo_reply_59 ?_
        refine lv_topi (fun x_90 e_91 => ?_)
        refine lv_istore (lv' := [(6, .int (x_90)), (0, .ref (ad 71)), (1, .int (x1)), (2, .int (x2)), (3, .int (x3)), (4, .int (y4)), (5, .int (nI r)), (7, .int (nI k))]) hx hb d_Mo_reply_60 hl (by decide) rfl (fun ls hl => ?_)
        refine lv_iinc (v := nI (k + 1)) (lv' := [(7, .int (nI (k + 1))), (6, .int (x_90)), (0, .ref (ad 71)), (1, .int (x1)), (2, .int (x2)), (3, .int (x3)), (4, .int (y4)), (5, .int (nI r))]) hx hb d_Mo_reply_62 hl (k := 7) rfl (nI_1 _) (by decide) rfl (fun ls hl => ?_)
        refine lv_goto (tgt := 43) hx hb d_Mo_reply_65 (by decide) ?_
        exact ih ((k + 1)) _ _ _ _ _ y4 (r) x_90 (by omega) (by omega) hI hM hF (lv_sub hl [2, 3, 4, 5, 6, 7, 1, 0] rfl) (by omega)
  refine lv_iload_n hx hb d_Mo_reply_0 rfl (lv_at hl 1 rfl) ?_
  refine lv_aload_n hx hb d_Mo_reply_1 rfl (lv_at hl 0 rfl) ?_
  refine sm_iP hI (va_runV (As := []) (rest := [.int (x1)]) ⟨hx, hb, hml, hown, hts⟩ (c_Mo_hasFirst l D ca ad L _ _ _ hM ) (kv_Mo_hasFirst hts rfl rfl (hts _ tw_1597) ⟨Nat.le_of_ble_eq_true rfl, Nat.le_of_ble_eq_true rfl⟩) (pv_Mo hI hE hM) rfl rfl hl.1 rfl (lv_room (Nat.le_of_ble_eq_true rfl)) d_Mo_reply_2 ⟨Nat.le_of_ble_eq_true rfl, Nat.le_of_ble_eq_true rfl⟩) (fun x_93 H locs p_92 hI => ?_)
  refine lv_if_eq (tgt := 13) hx hb d_Mo_reply_5 (by decide) (fun c_94 => ?_) (fun c_94 => ?_)
  · refine lv_iconst (v := 0) hx hb d_Mo_reply_13 (by decide) ?_
    refine lv_ior hx hb d_Mo_reply_14 ?_
    refine lv_topi (fun x_95 e_96 => ?_)
    refine lv_istore (lv' := [(4, .int (x_95)), (0, .ref (ad 71)), (1, .int (x1)), (2, .int (x2)), (3, .int (x3))]) hx hb d_Mo_reply_15 hl (by decide) rfl (fun ls hl => ?_)
    refine lv_iload_n hx hb d_Mo_reply_17 rfl (lv_at hl 3 rfl) ?_
    refine lv_if_eq (tgt := 28) hx hb d_Mo_reply_18 (by decide) (fun c_97 => ?_) (fun c_97 => ?_)
    · refine lv_iconst (v := 0) hx hb d_Mo_reply_28 (by decide) ?_
      refine lv_istore (lv' := [(5, .int (0)), (4, .int (x_95)), (0, .ref (ad 71)), (1, .int (x1)), (2, .int (x2)), (3, .int (x3))]) hx hb d_Mo_reply_29 hl (by decide) rfl (fun ls hl => ?_)
      refine lv_iload hx hb d_Mo_reply_31 (lv_at hl 1 rfl) ?_
      refine lv_aload_n hx hb d_Mo_reply_33 rfl (lv_at hl 2 rfl) ?_
      obtain ⟨x_98, e_99⟩ : ∃ z, σ0.1 35 = z := ⟨_, rfl⟩
      refine mq_get (k := 35) (v := .int (x_98)) hx hb hts hown hI hM (by decide) (congrArg (fun z => some (Value.int z)) e_99) rfl (hts _ tw_1204) d_Mo_reply_34 ?_
      refine lv_iadd hx hb d_Mo_reply_37 ?_
      refine lv_topi (fun x_100 e_101 => ?_)
      refine lv_istore (lv' := [(6, .int (x_100)), (5, .int (0)), (4, .int (x_95)), (0, .ref (ad 71)), (1, .int (x1)), (2, .int (x2)), (3, .int (x3))]) hx hb d_Mo_reply_38 hl (by decide) rfl (fun ls hl => ?_)
      refine lv_iconst (v := 0) hx hb d_Mo_reply_40 (by decide) ?_
      refine lv_istore (lv' := [(7, .int (0)), (6, .int (x_100)), (5, .int (0)), (4, .int (x_95)), (0, .ref (ad 71)), (1, .int (x1)), (2, .int (x2)), (3, .int (x3))]) hx hb d_Mo_reply_41 hl (by decide) rfl (fun ls hl => ?_)
      exact hJ_43 _ (0) _ _ _ _ _ x_95 (0) x_100 (Nat.le_refl _) (by omega) hI hM hF (lv_sub hl [4, 5, 6, 7, 3, 2, 1, 0] rfl) (by omega)
    · refine lv_aload_n hx hb d_Mo_reply_21 rfl (lv_at hl 1 rfl) ?_
      obtain ⟨n_102, h_103, h_104, e_105⟩ := hM.2.2.2.2.1 70
      refine mq_get (k := 70) (v := .int (nI n_102)) hx hb hts hown hI hM (by decide) (congrArg (fun z => some (Value.int z)) e_105) rfl (hts _ tw_1239) d_Mo_reply_22 ?_
      refine lv_goto (tgt := 29) hx hb d_Mo_reply_25 (by decide) ?_
      refine lv_istore (lv' := [(5, .int (nI n_102)), (4, .int (x_95)), (0, .ref (ad 71)), (1, .int (x1)), (2, .int (x2)), (3, .int (x3))]) hx hb d_Mo_reply_29 hl (by decide) rfl (fun ls hl => ?_)
      refine lv_iload hx hb d_Mo_reply_31 (lv_at hl 1 rfl) ?_
      refine lv_aload_n hx hb d_Mo_reply_33 rfl (lv_at hl 2 rfl) ?_
      obtain ⟨x_106, e_107⟩ : ∃ z, σ0.1 35 = z := ⟨_, rfl⟩
      refine mq_get (k := 35) (v := .int (x_106)) hx hb hts hown hI hM (by decide) (congrArg (fun z => some (Value.int z)) e_107) rfl (hts _ tw_1204) d_Mo_reply_34 ?_
      refine lv_iadd hx hb d_Mo_reply_37 ?_
      refine lv_topi (fun x_108 e_109 => ?_)
      refine lv_istore (lv' := [(6, .int (x_108)), (5, .int (nI n_102)), (4, .int (x_95)), (0, .ref (ad 71)), (1, .int (x1)), (2, .int (x2)), (3, .int (x3))]) hx hb d_Mo_reply_38 hl (by decide) rfl (fun ls hl => ?_)
      refine lv_iconst (v := 0) hx hb d_Mo_reply_40 (by decide) ?_
      refine lv_istore (lv' := [(7, .int (0)), (6, .int (x_108)), (5, .int (nI n_102)), (4, .int (x_95)), (0, .ref (ad 71)), (1, .int (x1)), (2, .int (x2)), (3, .int (x3))]) hx hb d_Mo_reply_41 hl (by decide) rfl (fun ls hl => ?_)
      exact hJ_43 _ (0) _ _ _ _ _ x_95 (n_102) x_108 (Nat.le_refl _) (by omega) hI hM hF (lv_sub hl [4, 5, 6, 7, 3, 2, 1, 0] rfl) (by omega)
  · refine lv_bipush (v := 32) hx hb d_Mo_reply_8 (by decide) ?_
    refine lv_goto (tgt := 14) hx hb d_Mo_reply_10 (by decide) ?_
    refine lv_ior hx hb d_Mo_reply_14 ?_
    refine lv_topi (fun x_110 e_111 => ?_)
    refine lv_istore (lv' := [(4, .int (x_110)), (0, .ref (ad 71)), (1, .int (x1)), (2, .int (x2)), (3, .int (x3))]) hx hb d_Mo_reply_15 hl (by decide) rfl (fun ls hl => ?_)
    refine lv_iload_n hx hb d_Mo_reply_17 rfl (lv_at hl 3 rfl) ?_
    refine lv_if_eq (tgt := 28) hx hb d_Mo_reply_18 (by decide) (fun c_112 => ?_) (fun c_112 => ?_)
    · refine lv_iconst (v := 0) hx hb d_Mo_reply_28 (by decide) ?_
      refine lv_istore (lv' := [(5, .int (0)), (4, .int (x_110)), (0, .ref (ad 71)), (1, .int (x1)), (2, .int (x2)), (3, .int (x3))]) hx hb d_Mo_reply_29 hl (by decide) rfl (fun ls hl => ?_)
      refine lv_iload hx hb d_Mo_reply_31 (lv_at hl 1 rfl) ?_
      refine lv_aload_n hx hb d_Mo_reply_33 rfl (lv_at hl 2 rfl) ?_
      obtain ⟨x_113, e_114⟩ : ∃ z, σ0.1 35 = z := ⟨_, rfl⟩
      refine mq_get (k := 35) (v := .int (x_113)) hx hb hts hown hI hM (by decide) (congrArg (fun z => some (Value.int z)) e_114) rfl (hts _ tw_1204) d_Mo_reply_34 ?_
      refine lv_iadd hx hb d_Mo_reply_37 ?_
      refine lv_topi (fun x_115 e_116 => ?_)
      refine lv_istore (lv' := [(6, .int (x_115)), (5, .int (0)), (4, .int (x_110)), (0, .ref (ad 71)), (1, .int (x1)), (2, .int (x2)), (3, .int (x3))]) hx hb d_Mo_reply_38 hl (by decide) rfl (fun ls hl => ?_)
      refine lv_iconst (v := 0) hx hb d_Mo_reply_40 (by decide) ?_
      refine lv_istore (lv' := [(7, .int (0)), (6, .int (x_115)), (5, .int (0)), (4, .int (x_110)), (0, .ref (ad 71)), (1, .int (x1)), (2, .int (x2)), (3, .int (x3))]) hx hb d_Mo_reply_41 hl (by decide) rfl (fun ls hl => ?_)
      exact hJ_43 _ (0) _ _ _ _ _ x_110 (0) x_115 (Nat.le_refl _) (by omega) hI hM hF (lv_sub hl [4, 5, 6, 7, 3, 2, 1, 0] rfl) (by omega)
    · refine lv_aload_n hx hb d_Mo_reply_21 rfl (lv_at hl 1 rfl) ?_
      obtain ⟨n_117, h_118, h_119, e_120⟩ := hM.2.2.2.2.1 70
      refine mq_get (k := 70) (v := .int (nI n_117)) hx hb hts hown hI hM (by decide) (congrArg (fun z => some (Value.int z)) e_120) rfl (hts _ tw_1239) d_Mo_reply_22 ?_
      refine lv_goto (tgt := 29) hx hb d_Mo_reply_25 (by decide) ?_
      refine lv_istore (lv' := [(5, .int (nI n_117)), (4, .int (x_110)), (0, .ref (ad 71)), (1, .int (x1)), (2, .int (x2)), (3, .int (x3))]) hx hb d_Mo_reply_29 hl (by decide) rfl (fun ls hl => ?_)
      refine lv_iload hx hb d_Mo_reply_31 (lv_at hl 1 rfl) ?_
      refine lv_aload_n hx hb d_Mo_reply_33 rfl (lv_at hl 2 rfl) ?_
      obtain ⟨x_121, e_122⟩ : ∃ z, σ0.1 35 = z := ⟨_, rfl⟩
      refine mq_get (k := 35) (v := .int (x_121)) hx hb hts hown hI hM (by decide) (congrArg (fun z => some (Value.int z)) e_122) rfl (hts _ tw_1204) d_Mo_reply_34 ?_
      refine lv_iadd hx hb d_Mo_reply_37 ?_
      refine lv_topi (fun x_123 e_124 => ?_)
      refine lv_istore (lv' := [(6, .int (x_123)), (5, .int (nI n_117)), (4, .int (x_110)), (0, .ref (ad 71)), (1, .int (x1)), (2, .int (x2)), (3, .int (x3))]) hx hb d_Mo_reply_38 hl (by decide) rfl (fun ls hl => ?_)
      refine lv_iconst (v := 0) hx hb d_Mo_reply_40 (by decide) ?_
      refine lv_istore (lv' := [(7, .int (0)), (6, .int (x_123)), (5, .int (nI n_117)), (4, .int (x_110)), (0, .ref (ad 71)), (1, .int (x1)), (2, .int (x2)), (3, .int (x3))]) hx hb d_Mo_reply_41 hl (by decide) rfl (fun ls hl => ?_)
      exact hJ_43 _ (0) _ _ _ _ _ x_110 (n_117) x_123 (Nat.le_refl _) (by omega) hI hM hF (lv_sub hl [4, 5, 6, 7, 3, 2, 1, 0] rfl) (by omega)
theorem d_Mo_again_0 : decode b_Mo_again 0 = .ok (.aload_n 0, 1) := by decide +kernel
theorem d_Mo_again_1 : decode b_Mo_again 1 = .ok (.getfield 407, 3) := by decide +kernel
theorem d_Mo_again_4 : decode b_Mo_again 4 = .ok (.ifCond .ne 4, 3) := by decide +kernel
theorem d_Mo_again_7 : decode b_Mo_again 7 = .ok (.return_, 1) := by decide +kernel
theorem d_Mo_again_8 : decode b_Mo_again 8 = .ok (.aload_n 0, 1) := by decide +kernel
theorem d_Mo_again_9 : decode b_Mo_again 9 = .ok (.getfield 38, 3) := by decide +kernel
theorem d_Mo_again_12 : decode b_Mo_again 12 = .ok (.iconst 3, 1) := by decide +kernel
theorem d_Mo_again_13 : decode b_Mo_again 13 = .ok (.iconst 0, 1) := by decide +kernel
theorem d_Mo_again_14 : decode b_Mo_again 14 = .ok (.iastore, 1) := by decide +kernel
theorem d_Mo_again_15 : decode b_Mo_again 15 = .ok (.iconst 0, 1) := by decide +kernel
theorem d_Mo_again_16 : decode b_Mo_again 16 = .ok (.istore_n 1, 1) := by decide +kernel
theorem d_Mo_again_17 : decode b_Mo_again 17 = .ok (.iload_n 1, 1) := by decide +kernel
theorem d_Mo_again_18 : decode b_Mo_again 18 = .ok (.aload_n 0, 1) := by decide +kernel
theorem d_Mo_again_19 : decode b_Mo_again 19 = .ok (.getfield 407, 3) := by decide +kernel
theorem d_Mo_again_22 : decode b_Mo_again 22 = .ok (.if_icmp .ge 20, 3) := by decide +kernel
theorem d_Mo_again_25 : decode b_Mo_again 25 = .ok (.aload_n 0, 1) := by decide +kernel
theorem d_Mo_again_26 : decode b_Mo_again 26 = .ok (.iconst 3, 1) := by decide +kernel
theorem d_Mo_again_27 : decode b_Mo_again 27 = .ok (.aload_n 0, 1) := by decide +kernel
theorem d_Mo_again_28 : decode b_Mo_again 28 = .ok (.getfield 106, 3) := by decide +kernel
theorem d_Mo_again_31 : decode b_Mo_again 31 = .ok (.iload_n 1, 1) := by decide +kernel
theorem d_Mo_again_32 : decode b_Mo_again 32 = .ok (.iaload, 1) := by decide +kernel
theorem d_Mo_again_33 : decode b_Mo_again 33 = .ok (.invokevirtual 279, 3) := by decide +kernel
theorem d_Mo_again_36 : decode b_Mo_again 36 = .ok (.iinc 1 1, 3) := by decide +kernel
theorem d_Mo_again_39 : decode b_Mo_again 39 = .ok (.goto (-22), 3) := by decide +kernel
theorem d_Mo_again_42 : decode b_Mo_again 42 = .ok (.return_, 1) := by decide +kernel
set_option maxRecDepth 100000 in
set_option maxHeartbeats 4000000 in
theorem c_Mo_again (l : Launch) (D : va_G) (ca : Nat → ClassId) (ad : Nat → Nat) (L : List Nat) (f0 : Nat → va_E) (sz : Nat) (σ0 : mq_S) (hM : mq_B ca ad σ0 L f0)  :
    Met l y_Mo_again (Cond.code y_Mo_again b_Mo_again 2 none :: wg) { frames := 1, cells := 0, slots := 0, locals := 22 } (va_Pc [.ref (ad 71)] (sm_P D cl_all (ty_s ca) ek L f0 sz)) (sm_Qv D (ty_s ca) L f0 sz (fun u => mq_po ca ad L σ0 [15, 16] (fun σ => True) u)) 0 0 (va_A (va_pl L f0) sz) := by
  refine sm_start (by decide) (Nat.le_of_ble_eq_true rfl) ?_
  intro p e s m below meth c ls hx hb hml hr hlk hnm hts hown hsz hE hI hl
  have hl : lv_has ls 2 [(0, .ref (ad 71))] := hl
  have hF : mq_fr [15, 16] σ0 σ0 := mq_fr_rf
  have hJ_17 : ∀ (N k : Nat) (H : Heap) (locs : List Loc) (f : Nat → va_E) (σ : mq_S) (ls : Array Slot) , 270 + 1 - k ≤ N → k ≤ 270 → sw_I D cl_all (ty_s ca) (va_A (va_pl L f0) sz) s H locs L f → mq_B ca ad σ L f → mq_fr [15, 16] σ0 σ → lv_has ls 2 [(0, .ref (ad 71)), (1, .int (nI k))] → (σ.2.2.1 16 (3) = nI (k)) → W p l e { frames := 1, cells := 0, slots := 0, locals := 22 } s m ([.ref (ad 71)] : List Value).toArray below meth c H locs 0 0 (MQ below (sm_Qv D (ty_s ca) L f0 sz (fun u => mq_po ca ad L σ0 [15, 16] (fun σ => True) u)) ([.ref (ad 71)] : List Value).toArray s 0 0 (va_A (va_pl L f0) sz)) (F0 m 17 ls []) := by
    intro N
    induction N with
    | zero => intros; omega
    | succ N ih =>
      intro k H locs f σ ls  hN hk hI hM hF hl o90
      refine lv_iload_n hx hb d_Mo_again_17 rfl (lv_at hl 1 rfl) ?_
      refine lv_aload_n hx hb d_Mo_again_18 rfl (lv_at hl 0 rfl) ?_
      obtain ⟨n_1, h_2, h_3, e_4⟩ := hM.2.2.2.2.1 40
      refine mq_get (k := 40) (v := .int (nI n_1)) hx hb hts hown hI hM (by decide) (congrArg (fun z => some (Value.int z)) e_4) rfl (hts _ tw_1209) d_Mo_again_19 ?_
      refine lv_icmp_ge (tgt := 42) hx hb d_Mo_again_22 (by decide) (fun c_5 => ?_) (fun c_5 => ?_)
      · have k_6 : n_1 ≤ k := (nI_leI (a := n_1) (b := k) (by omega) (by omega)).mp c_5
        exact sm_vret hx hb hr hlk hI ⟨σ, rfl, hM, hF, trivial⟩ d_Mo_again_42
      · have k_7 : k < n_1 := Nat.lt_of_not_le (fun q => c_5 ((nI_leI (a := n_1) (b := k) (by omega) (by omega)).mpr q))
        refine lv_aload_n hx hb d_Mo_again_25 rfl (lv_at hl 0 rfl) ?_
        refine lv_iconst (v := 3) hx hb d_Mo_again_26 (by decide) ?_
        refine lv_aload_n hx hb d_Mo_again_27 rfl (lv_at hl 0 rfl) ?_
        refine mq_get (k := 41) (v := .ref (ad 41)) hx hb hts hown hI hM (by decide) rfl rfl (hts _ tw_1210) d_Mo_again_28 ?_
        refine lv_iload_n hx hb d_Mo_again_31 rfl (lv_at hl 1 rfl) ?_
        obtain ⟨x_8, e_9⟩ : ∃ z, σ.2.2.1 41 (k) = z := ⟨_, rfl⟩
        refine mq_iald (k := 41) (j := k) (v := x_8) hx hb hI hM (by decide) rfl (by show k < 270; omega) (by decide) e_9 d_Mo_again_32 ?_
        refine sm_vM hI (va_runV (As := [.int (3), .int (x_8)]) (rest := []) ⟨hx, hb, hml, hown, hts⟩ (c_Mo_put l D ca ad L _ _ _ hM (3) (by omega) x_8 ((k)) o90 (by omega)) (kv_Mo_put hts rfl rfl (hts _ tw_1517) ⟨Nat.le_of_ble_eq_true rfl, Nat.le_of_ble_eq_true rfl⟩) (pv_Mo hI hE hM) rfl rfl hl.1 rfl (lv_room (Nat.le_of_ble_eq_true rfl)) d_Mo_again_33 ⟨Nat.le_of_ble_eq_true rfl, Nat.le_of_ble_eq_true rfl⟩) (fun H locs f σ_11 hI hM hF_12 p_10 => ?_)
        have hF := mq_fr_tr hF hF_12 (by decide)
        obtain ⟨o_13, -⟩ := p_10
        refine lv_iinc (v := nI (k + 1)) (lv' := [(1, .int (nI (k + 1))), (0, .ref (ad 71))]) hx hb d_Mo_again_36 hl (k := 1) rfl (nI_1 _) (by decide) rfl (fun ls hl => ?_)
        refine lv_goto (tgt := 17) hx hb d_Mo_again_39 (by decide) ?_
        exact ih ((k + 1)) _ _ _ _ _  (by omega) (by omega) hI hM hF (lv_sub hl [1, 0] rfl) (Eq.trans o_13 (congrArg nI (show ((((k)) + 1) : Nat) = _ by omega)))
  refine lv_aload_n hx hb d_Mo_again_0 rfl (lv_at hl 0 rfl) ?_
  obtain ⟨n_14, h_15, h_16, e_17⟩ := hM.2.2.2.2.1 40
  refine mq_get (k := 40) (v := .int (nI n_14)) hx hb hts hown hI hM (by decide) (congrArg (fun z => some (Value.int z)) e_17) rfl (hts _ tw_1209) d_Mo_again_1 ?_
  refine lv_if_ne (tgt := 8) hx hb d_Mo_again_4 (by decide) (fun c_18 => ?_) (fun c_18 => ?_)
  · have k_19 : 0 < n_14 := Nat.pos_of_ne_zero (fun q => c_18 (by rw [q]; decide))
    refine lv_aload_n hx hb d_Mo_again_8 rfl (lv_at hl 0 rfl) ?_
    refine mq_get (k := 16) (v := .ref (ad 16)) hx hb hts hown hI hM (by decide) rfl rfl (hts _ tw_1185) d_Mo_again_9 ?_
    refine lv_iconst (v := 3) hx hb d_Mo_again_12 (by decide) ?_
    refine lv_iconst (v := 0) hx hb d_Mo_again_13 (by decide) ?_
    refine mq_iast (k := 16) (j := 3) (x := 0) hx hb hI hM (by decide) rfl (by show 3 < 4; omega) (by decide) ⟨0, by decide, by decide, rfl⟩ d_Mo_again_14 (fun H locs f σ_20 e_21 hI hM => ?_)
    have hF := mq_fr_ug hF e_21 rfl (Or.inl rfl)
    have o_22 := mq_ugj e_21
    refine lv_iconst (v := 0) hx hb d_Mo_again_15 (by decide) ?_
    refine lv_istore_n (lv' := [(1, .int (0)), (0, .ref (ad 71))]) hx hb d_Mo_again_16 rfl hl (by decide) rfl (fun ls hl => ?_)
    exact hJ_17 _ (0) _ _ _ _ _  (Nat.le_refl _) (by omega) hI hM hF (lv_sub hl [1, 0] rfl) (Eq.trans o_22 (congrArg nI (show (0 : Nat) = _ by omega)))
  · have k_24 : n_14 = 0 := nz_eq c_18 (by omega)
    exact sm_vret hx hb hr hlk hI ⟨σ0, rfl, hM, hF, trivial⟩ d_Mo_again_7
theorem d_Mo_setClock_0 : decode b_Mo_setClock 0 = .ok (.aload_n 0, 1) := by decide +kernel
theorem d_Mo_setClock_1 : decode b_Mo_setClock 1 = .ok (.iload_n 2, 1) := by decide +kernel
theorem d_Mo_setClock_2 : decode b_Mo_setClock 2 = .ok (.iconst 2, 1) := by decide +kernel
theorem d_Mo_setClock_3 : decode b_Mo_setClock 3 = .ok (.invokevirtual 451, 3) := by decide +kernel
theorem d_Mo_setClock_6 : decode b_Mo_setClock 6 = .ok (.istore_n 3, 1) := by decide +kernel
theorem d_Mo_setClock_7 : decode b_Mo_setClock 7 = .ok (.aload_n 0, 1) := by decide +kernel
theorem d_Mo_setClock_8 : decode b_Mo_setClock 8 = .ok (.getfield 172, 3) := by decide +kernel
theorem d_Mo_setClock_11 : decode b_Mo_setClock 11 = .ok (.iload_n 2, 1) := by decide +kernel
theorem d_Mo_setClock_12 : decode b_Mo_setClock 12 = .ok (.iconst 2, 1) := by decide +kernel
theorem d_Mo_setClock_13 : decode b_Mo_setClock 13 = .ok (.iadd, 1) := by decide +kernel
theorem d_Mo_setClock_14 : decode b_Mo_setClock 14 = .ok (.iaload, 1) := by decide +kernel
theorem d_Mo_setClock_15 : decode b_Mo_setClock 15 = .ok (.bipush 63, 2) := by decide +kernel
theorem d_Mo_setClock_17 : decode b_Mo_setClock 17 = .ok (.iand, 1) := by decide +kernel
theorem d_Mo_setClock_18 : decode b_Mo_setClock 18 = .ok (.istore 4, 2) := by decide +kernel
theorem d_Mo_setClock_20 : decode b_Mo_setClock 20 = .ok (.aload_n 0, 1) := by decide +kernel
theorem d_Mo_setClock_21 : decode b_Mo_setClock 21 = .ok (.getfield 172, 3) := by decide +kernel
theorem d_Mo_setClock_24 : decode b_Mo_setClock 24 = .ok (.iload_n 2, 1) := by decide +kernel
theorem d_Mo_setClock_25 : decode b_Mo_setClock 25 = .ok (.iconst 3, 1) := by decide +kernel
theorem d_Mo_setClock_26 : decode b_Mo_setClock 26 = .ok (.iadd, 1) := by decide +kernel
theorem d_Mo_setClock_27 : decode b_Mo_setClock 27 = .ok (.iaload, 1) := by decide +kernel
theorem d_Mo_setClock_28 : decode b_Mo_setClock 28 = .ok (.bipush 31, 2) := by decide +kernel
theorem d_Mo_setClock_30 : decode b_Mo_setClock 30 = .ok (.iand, 1) := by decide +kernel
theorem d_Mo_setClock_31 : decode b_Mo_setClock 31 = .ok (.istore 5, 2) := by decide +kernel
theorem d_Mo_setClock_33 : decode b_Mo_setClock 33 = .ok (.aload_n 0, 1) := by decide +kernel
theorem d_Mo_setClock_34 : decode b_Mo_setClock 34 = .ok (.getfield 172, 3) := by decide +kernel
theorem d_Mo_setClock_37 : decode b_Mo_setClock 37 = .ok (.iload_n 2, 1) := by decide +kernel
theorem d_Mo_setClock_38 : decode b_Mo_setClock 38 = .ok (.iconst 4, 1) := by decide +kernel
theorem d_Mo_setClock_39 : decode b_Mo_setClock 39 = .ok (.iadd, 1) := by decide +kernel
theorem d_Mo_setClock_40 : decode b_Mo_setClock 40 = .ok (.iaload, 1) := by decide +kernel
theorem d_Mo_setClock_41 : decode b_Mo_setClock 41 = .ok (.bipush 31, 2) := by decide +kernel
theorem d_Mo_setClock_43 : decode b_Mo_setClock 43 = .ok (.iand, 1) := by decide +kernel
theorem d_Mo_setClock_44 : decode b_Mo_setClock 44 = .ok (.istore 6, 2) := by decide +kernel
theorem d_Mo_setClock_46 : decode b_Mo_setClock 46 = .ok (.aload_n 0, 1) := by decide +kernel
theorem d_Mo_setClock_47 : decode b_Mo_setClock 47 = .ok (.getfield 172, 3) := by decide +kernel
theorem d_Mo_setClock_50 : decode b_Mo_setClock 50 = .ok (.iload_n 2, 1) := by decide +kernel
theorem d_Mo_setClock_51 : decode b_Mo_setClock 51 = .ok (.iconst 5, 1) := by decide +kernel
theorem d_Mo_setClock_52 : decode b_Mo_setClock 52 = .ok (.iadd, 1) := by decide +kernel
theorem d_Mo_setClock_53 : decode b_Mo_setClock 53 = .ok (.iaload, 1) := by decide +kernel
theorem d_Mo_setClock_54 : decode b_Mo_setClock 54 = .ok (.bipush 15, 2) := by decide +kernel
theorem d_Mo_setClock_56 : decode b_Mo_setClock 56 = .ok (.iand, 1) := by decide +kernel
theorem d_Mo_setClock_57 : decode b_Mo_setClock 57 = .ok (.istore 7, 2) := by decide +kernel
theorem d_Mo_setClock_59 : decode b_Mo_setClock 59 = .ok (.sipush 2000, 3) := by decide +kernel
theorem d_Mo_setClock_62 : decode b_Mo_setClock 62 = .ok (.aload_n 0, 1) := by decide +kernel
theorem d_Mo_setClock_63 : decode b_Mo_setClock 63 = .ok (.getfield 172, 3) := by decide +kernel
theorem d_Mo_setClock_66 : decode b_Mo_setClock 66 = .ok (.iload_n 2, 1) := by decide +kernel
theorem d_Mo_setClock_67 : decode b_Mo_setClock 67 = .ok (.bipush 6, 2) := by decide +kernel
theorem d_Mo_setClock_69 : decode b_Mo_setClock 69 = .ok (.iadd, 1) := by decide +kernel
theorem d_Mo_setClock_70 : decode b_Mo_setClock 70 = .ok (.iaload, 1) := by decide +kernel
theorem d_Mo_setClock_71 : decode b_Mo_setClock 71 = .ok (.bipush 127, 2) := by decide +kernel
theorem d_Mo_setClock_73 : decode b_Mo_setClock 73 = .ok (.iand, 1) := by decide +kernel
theorem d_Mo_setClock_74 : decode b_Mo_setClock 74 = .ok (.iadd, 1) := by decide +kernel
theorem d_Mo_setClock_75 : decode b_Mo_setClock 75 = .ok (.istore 8, 2) := by decide +kernel
theorem d_Mo_setClock_77 : decode b_Mo_setClock 77 = .ok (.iload_n 3, 1) := by decide +kernel
theorem d_Mo_setClock_78 : decode b_Mo_setClock 78 = .ok (.ldc_w 474, 3) := by decide +kernel
theorem d_Mo_setClock_81 : decode b_Mo_setClock 81 = .ok (.if_icmp .ge 42, 3) := by decide +kernel
theorem d_Mo_setClock_84 : decode b_Mo_setClock 84 = .ok (.iload 4, 2) := by decide +kernel
theorem d_Mo_setClock_86 : decode b_Mo_setClock 86 = .ok (.bipush 60, 2) := by decide +kernel
theorem d_Mo_setClock_88 : decode b_Mo_setClock 88 = .ok (.if_icmp .ge 35, 3) := by decide +kernel
theorem d_Mo_setClock_91 : decode b_Mo_setClock 91 = .ok (.iload 5, 2) := by decide +kernel
theorem d_Mo_setClock_93 : decode b_Mo_setClock 93 = .ok (.bipush 24, 2) := by decide +kernel
theorem d_Mo_setClock_95 : decode b_Mo_setClock 95 = .ok (.if_icmp .ge 28, 3) := by decide +kernel
theorem d_Mo_setClock_98 : decode b_Mo_setClock 98 = .ok (.iload 8, 2) := by decide +kernel
theorem d_Mo_setClock_100 : decode b_Mo_setClock 100 = .ok (.sipush 2100, 3) := by decide +kernel
theorem d_Mo_setClock_103 : decode b_Mo_setClock 103 = .ok (.if_icmp .ge 20, 3) := by decide +kernel
theorem d_Mo_setClock_106 : decode b_Mo_setClock 106 = .ok (.iload 7, 2) := by decide +kernel
theorem d_Mo_setClock_108 : decode b_Mo_setClock 108 = .ok (.i2l, 1) := by decide +kernel
theorem d_Mo_setClock_109 : decode b_Mo_setClock 109 = .ok (.lconst 1, 1) := by decide +kernel
theorem d_Mo_setClock_110 : decode b_Mo_setClock 110 = .ok (.ldc2_w 475, 3) := by decide +kernel
theorem d_Mo_setClock_113 : decode b_Mo_setClock 113 = .ok (.invokestatic 187, 3) := by decide +kernel
theorem d_Mo_setClock_116 : decode b_Mo_setClock 116 = .ok (.ifCond .eq 7, 3) := by decide +kernel
theorem d_Mo_setClock_119 : decode b_Mo_setClock 119 = .ok (.iconst 1, 1) := by decide +kernel
theorem d_Mo_setClock_120 : decode b_Mo_setClock 120 = .ok (.goto 4, 3) := by decide +kernel
theorem d_Mo_setClock_123 : decode b_Mo_setClock 123 = .ok (.iconst 0, 1) := by decide +kernel
theorem d_Mo_setClock_124 : decode b_Mo_setClock 124 = .ok (.istore 9, 2) := by decide +kernel
theorem d_Mo_setClock_126 : decode b_Mo_setClock 126 = .ok (.iload 9, 2) := by decide +kernel
theorem d_Mo_setClock_128 : decode b_Mo_setClock 128 = .ok (.ifCond .eq 25, 3) := by decide +kernel
theorem d_Mo_setClock_131 : decode b_Mo_setClock 131 = .ok (.iload 6, 2) := by decide +kernel
theorem d_Mo_setClock_133 : decode b_Mo_setClock 133 = .ok (.i2l, 1) := by decide +kernel
theorem d_Mo_setClock_134 : decode b_Mo_setClock 134 = .ok (.lconst 1, 1) := by decide +kernel
theorem d_Mo_setClock_135 : decode b_Mo_setClock 135 = .ok (.iload 8, 2) := by decide +kernel
theorem d_Mo_setClock_137 : decode b_Mo_setClock 137 = .ok (.iload 7, 2) := by decide +kernel
theorem d_Mo_setClock_139 : decode b_Mo_setClock 139 = .ok (.invokestatic 226, 3) := by decide +kernel
theorem d_Mo_setClock_142 : decode b_Mo_setClock 142 = .ok (.i2l, 1) := by decide +kernel
theorem d_Mo_setClock_143 : decode b_Mo_setClock 143 = .ok (.invokestatic 187, 3) := by decide +kernel
theorem d_Mo_setClock_146 : decode b_Mo_setClock 146 = .ok (.ifCond .eq 7, 3) := by decide +kernel
theorem d_Mo_setClock_149 : decode b_Mo_setClock 149 = .ok (.iconst 1, 1) := by decide +kernel
theorem d_Mo_setClock_150 : decode b_Mo_setClock 150 = .ok (.goto 4, 3) := by decide +kernel
theorem d_Mo_setClock_153 : decode b_Mo_setClock 153 = .ok (.iconst 0, 1) := by decide +kernel
theorem d_Mo_setClock_154 : decode b_Mo_setClock 154 = .ok (.istore 9, 2) := by decide +kernel
theorem d_Mo_setClock_156 : decode b_Mo_setClock 156 = .ok (.iload 9, 2) := by decide +kernel
theorem d_Mo_setClock_158 : decode b_Mo_setClock 158 = .ok (.ifCond .eq 109, 3) := by decide +kernel
theorem d_Mo_setClock_161 : decode b_Mo_setClock 161 = .ok (.lconst 0, 1) := by decide +kernel
theorem d_Mo_setClock_162 : decode b_Mo_setClock 162 = .ok (.lstore 10, 2) := by decide +kernel
theorem d_Mo_setClock_164 : decode b_Mo_setClock 164 = .ok (.sipush 2000, 3) := by decide +kernel
theorem d_Mo_setClock_167 : decode b_Mo_setClock 167 = .ok (.istore 12, 2) := by decide +kernel
theorem d_Mo_setClock_169 : decode b_Mo_setClock 169 = .ok (.iload 12, 2) := by decide +kernel
theorem d_Mo_setClock_171 : decode b_Mo_setClock 171 = .ok (.iload 8, 2) := by decide +kernel
theorem d_Mo_setClock_173 : decode b_Mo_setClock 173 = .ok (.if_icmp .ge 25, 3) := by decide +kernel
theorem d_Mo_setClock_176 : decode b_Mo_setClock 176 = .ok (.lload 10, 2) := by decide +kernel
theorem d_Mo_setClock_178 : decode b_Mo_setClock 178 = .ok (.ldc2_w 477, 3) := by decide +kernel
theorem d_Mo_setClock_181 : decode b_Mo_setClock 181 = .ok (.ladd, 1) := by decide +kernel
theorem d_Mo_setClock_182 : decode b_Mo_setClock 182 = .ok (.iload 12, 2) := by decide +kernel
theorem d_Mo_setClock_184 : decode b_Mo_setClock 184 = .ok (.iconst 2, 1) := by decide +kernel
theorem d_Mo_setClock_185 : decode b_Mo_setClock 185 = .ok (.invokestatic 226, 3) := by decide +kernel
theorem d_Mo_setClock_188 : decode b_Mo_setClock 188 = .ok (.i2l, 1) := by decide +kernel
theorem d_Mo_setClock_189 : decode b_Mo_setClock 189 = .ok (.ladd, 1) := by decide +kernel
theorem d_Mo_setClock_190 : decode b_Mo_setClock 190 = .ok (.lstore 10, 2) := by decide +kernel
theorem d_Mo_setClock_192 : decode b_Mo_setClock 192 = .ok (.iinc 12 1, 3) := by decide +kernel
theorem d_Mo_setClock_195 : decode b_Mo_setClock 195 = .ok (.goto (-26), 3) := by decide +kernel
theorem d_Mo_setClock_198 : decode b_Mo_setClock 198 = .ok (.iconst 1, 1) := by decide +kernel
theorem d_Mo_setClock_199 : decode b_Mo_setClock 199 = .ok (.istore 12, 2) := by decide +kernel
theorem d_Mo_setClock_201 : decode b_Mo_setClock 201 = .ok (.iload 12, 2) := by decide +kernel
theorem d_Mo_setClock_203 : decode b_Mo_setClock 203 = .ok (.iload 7, 2) := by decide +kernel
theorem d_Mo_setClock_205 : decode b_Mo_setClock 205 = .ok (.if_icmp .ge 22, 3) := by decide +kernel
theorem d_Mo_setClock_208 : decode b_Mo_setClock 208 = .ok (.lload 10, 2) := by decide +kernel
theorem d_Mo_setClock_210 : decode b_Mo_setClock 210 = .ok (.iload 8, 2) := by decide +kernel
theorem d_Mo_setClock_212 : decode b_Mo_setClock 212 = .ok (.iload 12, 2) := by decide +kernel
theorem d_Mo_setClock_214 : decode b_Mo_setClock 214 = .ok (.invokestatic 226, 3) := by decide +kernel
theorem d_Mo_setClock_217 : decode b_Mo_setClock 217 = .ok (.i2l, 1) := by decide +kernel
theorem d_Mo_setClock_218 : decode b_Mo_setClock 218 = .ok (.ladd, 1) := by decide +kernel
theorem d_Mo_setClock_219 : decode b_Mo_setClock 219 = .ok (.lstore 10, 2) := by decide +kernel
theorem d_Mo_setClock_221 : decode b_Mo_setClock 221 = .ok (.iinc 12 1, 3) := by decide +kernel
theorem d_Mo_setClock_224 : decode b_Mo_setClock 224 = .ok (.goto (-23), 3) := by decide +kernel
theorem d_Mo_setClock_227 : decode b_Mo_setClock 227 = .ok (.aload_n 0, 1) := by decide +kernel
theorem d_Mo_setClock_228 : decode b_Mo_setClock 228 = .ok (.lload 10, 2) := by decide +kernel
theorem d_Mo_setClock_230 : decode b_Mo_setClock 230 = .ok (.iload 6, 2) := by decide +kernel
theorem d_Mo_setClock_232 : decode b_Mo_setClock 232 = .ok (.i2l, 1) := by decide +kernel
theorem d_Mo_setClock_233 : decode b_Mo_setClock 233 = .ok (.ladd, 1) := by decide +kernel
theorem d_Mo_setClock_234 : decode b_Mo_setClock 234 = .ok (.lconst 1, 1) := by decide +kernel
theorem d_Mo_setClock_235 : decode b_Mo_setClock 235 = .ok (.lsub, 1) := by decide +kernel
theorem d_Mo_setClock_236 : decode b_Mo_setClock 236 = .ok (.ldc2_w 224, 3) := by decide +kernel
theorem d_Mo_setClock_239 : decode b_Mo_setClock 239 = .ok (.lmul, 1) := by decide +kernel
theorem d_Mo_setClock_240 : decode b_Mo_setClock 240 = .ok (.ldc2_w 233, 3) := by decide +kernel
theorem d_Mo_setClock_243 : decode b_Mo_setClock 243 = .ok (.iload 5, 2) := by decide +kernel
theorem d_Mo_setClock_245 : decode b_Mo_setClock 245 = .ok (.i2l, 1) := by decide +kernel
theorem d_Mo_setClock_246 : decode b_Mo_setClock 246 = .ok (.lmul, 1) := by decide +kernel
theorem d_Mo_setClock_247 : decode b_Mo_setClock 247 = .ok (.ladd, 1) := by decide +kernel
theorem d_Mo_setClock_248 : decode b_Mo_setClock 248 = .ok (.iload 4, 2) := by decide +kernel
theorem d_Mo_setClock_250 : decode b_Mo_setClock 250 = .ok (.i2l, 1) := by decide +kernel
theorem d_Mo_setClock_251 : decode b_Mo_setClock 251 = .ok (.ladd, 1) := by decide +kernel
theorem d_Mo_setClock_252 : decode b_Mo_setClock 252 = .ok (.ldc2_w 222, 3) := by decide +kernel
theorem d_Mo_setClock_255 : decode b_Mo_setClock 255 = .ok (.lmul, 1) := by decide +kernel
theorem d_Mo_setClock_256 : decode b_Mo_setClock 256 = .ok (.iload_n 3, 1) := by decide +kernel
theorem d_Mo_setClock_257 : decode b_Mo_setClock 257 = .ok (.i2l, 1) := by decide +kernel
theorem d_Mo_setClock_258 : decode b_Mo_setClock 258 = .ok (.ladd, 1) := by decide +kernel
theorem d_Mo_setClock_259 : decode b_Mo_setClock 259 = .ok (.putfield 239, 3) := by decide +kernel
theorem d_Mo_setClock_262 : decode b_Mo_setClock 262 = .ok (.aload_n 0, 1) := by decide +kernel
theorem d_Mo_setClock_263 : decode b_Mo_setClock 263 = .ok (.iconst 1, 1) := by decide +kernel
theorem d_Mo_setClock_264 : decode b_Mo_setClock 264 = .ok (.putfield 243, 3) := by decide +kernel
theorem d_Mo_setClock_267 : decode b_Mo_setClock 267 = .ok (.aload_n 0, 1) := by decide +kernel
theorem d_Mo_setClock_268 : decode b_Mo_setClock 268 = .ok (.iload_n 1, 1) := by decide +kernel
theorem d_Mo_setClock_269 : decode b_Mo_setClock 269 = .ok (.bipush 7, 2) := by decide +kernel
theorem d_Mo_setClock_271 : decode b_Mo_setClock 271 = .ok (.iload 9, 2) := by decide +kernel
theorem d_Mo_setClock_273 : decode b_Mo_setClock 273 = .ok (.ifCond .ne 7, 3) := by decide +kernel
theorem d_Mo_setClock_276 : decode b_Mo_setClock 276 = .ok (.iconst 1, 1) := by decide +kernel
theorem d_Mo_setClock_277 : decode b_Mo_setClock 277 = .ok (.goto 4, 3) := by decide +kernel
theorem d_Mo_setClock_280 : decode b_Mo_setClock 280 = .ok (.iconst 0, 1) := by decide +kernel
theorem d_Mo_setClock_281 : decode b_Mo_setClock 281 = .ok (.invokevirtual 444, 3) := by decide +kernel
theorem d_Mo_setClock_284 : decode b_Mo_setClock 284 = .ok (.return_, 1) := by decide +kernel
set_option maxRecDepth 100000 in
set_option maxHeartbeats 4000000 in
theorem c_Mo_setClock (l : Launch) (D : va_G) (ca : Nat → ClassId) (ad : Nat → Nat) (L : List Nat) (f0 : Nat → va_E) (sz : Nat) (σ0 : mq_S) (hM : mq_B ca ad σ0 L f0) (j1 : Nat) (q1 : j1 ≤ 3) (j2 : Nat) (q2 : j2 ≤ 240) (u0 : IH σ0) :
    Met l y_Mo_setClock (Cond.code y_Mo_setClock b_Mo_setClock 13 none :: wg) { frames := 4, cells := 0, slots := 0, locals := 90 } (va_Pc [.ref (ad 71), .int (nI j1), .int (nI j2)] (sm_P D cl_all (ty_s ca) ek L f0 sz)) (sm_Qv D (ty_s ca) L f0 sz (fun u => mq_po ca ad L σ0 [10, 11, 13, 14, 16, 18, 24, 30, 31, 32, 33, 34, 42, 52, 65, 69] (fun σ => IH σ ∧ True) u)) 0 0 (va_A (va_pl L f0) sz) := by
  refine sm_start (by decide) (Nat.le_of_ble_eq_true rfl) ?_
  intro p e s m below meth c ls hx hb hml hr hlk hnm hts hown hsz hE hI hl
  have hl : lv_has ls 13 [(0, .ref (ad 71)), (1, .int (nI j1)), (2, .int (nI j2))] := hl
  have hF : mq_fr [10, 11, 13, 14, 16, 18, 24, 30, 31, 32, 33, 34, 42, 52, 65, 69] σ0 σ0 := mq_fr_rf
  have hJ_267 : ∀ (H : Heap) (locs : List Loc) (f : Nat → va_E) (σ : mq_S) (ls : Array Slot) (y3 : Int32) (y4 : Int32) (y5 : Int32) (y6 : Int32) (y7 : Int32) (y8 : Int32) (y9 : Int32), sw_I D cl_all (ty_s ca) (va_A (va_pl L f0) sz) s H locs L f → mq_B ca ad σ L f → mq_fr [10, 11, 13, 14, 16, 18, 24, 30, 31, 32, 33, 34, 42, 52, 65, 69] σ0 σ → lv_has ls 13 [(0, .ref (ad 71)), (1, .int (nI j1)), (2, .int (nI j2)), (3, .int (y3)), (4, .int (y4)), (5, .int (y5)), (6, .int (y6)), (7, .int (y7)), (8, .int (y8)), (9, .int (y9))] → (y9 = 0 ∨ y9 = 1) → (IH σ) → W p l e { frames := 4, cells := 0, slots := 0, locals := 90 } s m ([.ref (ad 71), .int (nI j1), .int (nI j2)] : List Value).toArray below meth c H locs 0 0 (MQ below (sm_Qv D (ty_s ca) L f0 sz (fun u => mq_po ca ad L σ0 [10, 11, 13, 14, 16, 18, 24, 30, 31, 32, 33, 34, 42, 52, 65, 69] (fun σ => IH σ ∧ True) u)) ([.ref (ad 71), .int (nI j1), .int (nI j2)] : List Value).toArray s 0 0 (va_A (va_pl L f0) sz)) (F0 m 267 ls []) := by
    intro H locs f σ ls y3 y4 y5 y6 y7 y8 y9 hI hM hF hl py9 u90
    refine lv_aload_n hx hb d_Mo_setClock_267 rfl (lv_at hl 0 rfl) ?_
    refine lv_iload_n hx hb d_Mo_setClock_268 rfl (lv_at hl 1 rfl) ?_
    refine lv_bipush (v := 7) hx hb d_Mo_setClock_269 (by decide) ?_
    refine lv_iload hx hb d_Mo_setClock_271 (lv_at hl 9 rfl) ?_
    refine lv_if_ne (tgt := 280) hx hb d_Mo_setClock_273 (by decide) (fun c_1 => ?_) (fun c_1 => ?_)
    · refine lv_iconst (v := 0) hx hb d_Mo_setClock_280 (by decide) ?_
      refine sm_vM hI (va_runV (As := [.int (nI j1), .int (7), .int (0)]) (rest := []) ⟨hx, hb, hml, hown, hts⟩ (c_Mo_comes l D ca ad L _ _ _ hM (j1) (by omega) 7 0 (by decide) u90) (kv_Mo_comes hts rfl rfl (hts _ tw_1611) ⟨Nat.le_of_ble_eq_true rfl, Nat.le_of_ble_eq_true rfl⟩) (pv_Mo hI hE hM) rfl rfl hl.1 rfl (lv_room (Nat.le_of_ble_eq_true rfl)) d_Mo_setClock_281 ⟨Nat.le_of_ble_eq_true rfl, Nat.le_of_ble_eq_true rfl⟩) (fun H locs f σ_3 hI hM hF_4 p_2 => ?_)
      have hF := mq_fr_tr hF hF_4 (by decide)
      obtain ⟨u_5, -⟩ := p_2
      exact sm_vret hx hb hr hlk hI ⟨σ_3, rfl, hM, hF, ⟨u_5, trivial⟩⟩ d_Mo_setClock_284
    · refine lv_iconst (v := 1) hx hb d_Mo_setClock_276 (by decide) ?_
      refine lv_goto (tgt := 281) hx hb d_Mo_setClock_277 (by decide) ?_
      refine sm_vM hI (va_runV (As := [.int (nI j1), .int (7), .int (1)]) (rest := []) ⟨hx, hb, hml, hown, hts⟩ (c_Mo_comes l D ca ad L _ _ _ hM (j1) (by omega) 7 1 (by decide) u90) (kv_Mo_comes hts rfl rfl (hts _ tw_1611) ⟨Nat.le_of_ble_eq_true rfl, Nat.le_of_ble_eq_true rfl⟩) (pv_Mo hI hE hM) rfl rfl hl.1 rfl (lv_room (Nat.le_of_ble_eq_true rfl)) d_Mo_setClock_281 ⟨Nat.le_of_ble_eq_true rfl, Nat.le_of_ble_eq_true rfl⟩) (fun H locs f σ_7 hI hM hF_8 p_6 => ?_)
      have hF := mq_fr_tr hF hF_8 (by decide)
      obtain ⟨u_9, -⟩ := p_6
      exact sm_vret hx hb hr hlk hI ⟨σ_7, rfl, hM, hF, ⟨u_9, trivial⟩⟩ d_Mo_setClock_284
  have hJ_201 : ∀ (N : Nat) (k : Int32) (H : Heap) (locs : List Loc) (f : Nat → va_E) (σ : mq_S) (ls : Array Slot) (y3 : Int32) (y4 : Int32) (y5 : Int32) (y6 : Int32) (y7 : Int32) (y8 : Int32) (y9 : Int32) (y10 : Int64), (y7.toInt - k.toInt).toNat + 1 ≤ N → sw_I D cl_all (ty_s ca) (va_A (va_pl L f0) sz) s H locs L f → mq_B ca ad σ L f → mq_fr [10, 11, 13, 14, 16, 18, 24, 30, 31, 32, 33, 34, 42, 52, 65, 69] σ0 σ → lv_has ls 13 [(0, .ref (ad 71)), (1, .int (nI j1)), (2, .int (nI j2)), (3, .int (y3)), (4, .int (y4)), (5, .int (y5)), (6, .int (y6)), (7, .int (y7)), (8, .int (y8)), (9, .int (y9)), (10, .long (y10)), (12, .int (k))] → (y9 = 0 ∨ y9 = 1) → (IH σ) → W p l e { frames := 4, cells := 0, slots := 0, locals := 90 } s m ([.ref (ad 71), .int (nI j1), .int (nI j2)] : List Value).toArray below meth c H locs 0 0 (MQ below (sm_Qv D (ty_s ca) L f0 sz (fun u => mq_po ca ad L σ0 [10, 11, 13, 14, 16, 18, 24, 30, 31, 32, 33, 34, 42, 52, 65, 69] (fun σ => IH σ ∧ True) u)) ([.ref (ad 71), .int (nI j1), .int (nI j2)] : List Value).toArray s 0 0 (va_A (va_pl L f0) sz)) (F0 m 201 ls []) := by
    intro N
    induction N with
    | zero => intros; omega
    | succ N ih =>
      intro k H locs f σ ls y3 y4 y5 y6 y7 y8 y9 y10 hN hI hM hF hl py9 u90
      refine lv_iload hx hb d_Mo_setClock_201 (lv_at hl 11 rfl) ?_
      refine lv_iload hx hb d_Mo_setClock_203 (lv_at hl 7 rfl) ?_
      refine lv_icmp_ge (tgt := 227) hx hb d_Mo_setClock_205 (by decide) (fun c_10 => ?_) (fun c_10 => ?_)
      · refine lv_aload_n hx hb d_Mo_setClock_227 rfl (lv_at hl 0 rfl) ?_
        refine lv_lload hx hb d_Mo_setClock_228 (lv_at hl 10 rfl) ?_
        refine lv_iload hx hb d_Mo_setClock_230 (lv_at hl 6 rfl) ?_
        refine lv_i2l hx hb d_Mo_setClock_232 rfl ?_
        refine lv_topl (fun x_11 e_12 => ?_)
        refine lv_ladd hx hb d_Mo_setClock_233 ?_
        refine lv_topl (fun x_13 e_14 => ?_)
        refine lv_lconst (v := 1) hx hb d_Mo_setClock_234 (by decide) ?_
        refine lv_lsub hx hb d_Mo_setClock_235 ?_
        refine lv_topl (fun x_15 e_16 => ?_)
        refine lv_ldc2 (v := 1440) hx hb hown (hts _ tw_1530) d_Mo_setClock_236 ?_
        refine lv_lmul hx hb d_Mo_setClock_239 ?_
        refine lv_topl (fun x_17 e_18 => ?_)
        refine lv_ldc2 (v := 60) hx hb hown (hts _ tw_1534) d_Mo_setClock_240 ?_
        refine lv_iload hx hb d_Mo_setClock_243 (lv_at hl 5 rfl) ?_
        refine lv_i2l hx hb d_Mo_setClock_245 rfl ?_
        refine lv_topl (fun x_19 e_20 => ?_)
        refine lv_lmul hx hb d_Mo_setClock_246 ?_
        refine lv_topl (fun x_21 e_22 => ?_)
        refine lv_ladd hx hb d_Mo_setClock_247 ?_
        refine lv_topl (fun x_23 e_24 => ?_)
        refine lv_iload hx hb d_Mo_setClock_248 (lv_at hl 4 rfl) ?_
        refine lv_i2l hx hb d_Mo_setClock_250 rfl ?_
        refine lv_topl (fun x_25 e_26 => ?_)
        refine lv_ladd hx hb d_Mo_setClock_251 ?_
        refine lv_topl (fun x_27 e_28 => ?_)
        refine lv_ldc2 (v := 60000) hx hb hown (hts _ tw_1529) d_Mo_setClock_252 ?_
        refine lv_lmul hx hb d_Mo_setClock_255 ?_
        refine lv_topl (fun x_29 e_30 => ?_)
        refine lv_iload_n hx hb d_Mo_setClock_256 rfl (lv_at hl 3 rfl) ?_
        refine lv_i2l hx hb d_Mo_setClock_257 rfl ?_
        refine lv_topl (fun x_31 e_32 => ?_)
        refine lv_ladd hx hb d_Mo_setClock_258 ?_
        refine lv_topl (fun x_33 e_34 => ?_)
        refine mq_putj (k := 10) hx hb hts hown hI hM (by decide) rfl rfl (hts _ tw_1179) rfl (by decide +kernel) d_Mo_setClock_259 (fun H locs f σ_35 e_36 hI hM => ?_)
        have hF := mq_fr_uj hF e_36 rfl
        have u_37 := IH_fr (mq_fr_uj (X := [10]) mq_fr_rf e_36 rfl) (by decide) u90
        refine lv_aload_n hx hb d_Mo_setClock_262 rfl (lv_at hl 0 rfl) ?_
        refine lv_iconst (v := 1) hx hb d_Mo_setClock_263 (by decide) ?_
        refine mq_puti (k := 11) (ty := .boolean) hx hb hts hown hI hM (by decide) rfl rfl (hts _ tw_1180) rfl (by decide +kernel) (nz_n (by decide)) (nz_f (by decide)) (mq_okz (by decide)) d_Mo_setClock_264 (fun H locs f σ_38 e_39 hI hM => ?_)
        have hF := mq_fr_ui hF e_39 rfl
        have u_40 := IH_fr (mq_fr_ui (X := [11]) mq_fr_rf e_39 rfl) (by decide) u_37
        exact hJ_267 _ _ _ _ _ y3 y4 y5 y6 y7 y8 y9 hI hM hF (lv_sub hl [0, 1, 2, 3, 4, 5, 6, 7, 8, 9] rfl) py9 u_40
      · refine lv_lload hx hb d_Mo_setClock_208 (lv_at hl 10 rfl) ?_
        refine lv_iload hx hb d_Mo_setClock_210 (lv_at hl 8 rfl) ?_
        refine lv_iload hx hb d_Mo_setClock_212 (lv_at hl 11 rfl) ?_
        refine sm_iP hI (va_runS (As := [.int (y8), .int (k)]) (rest := [.long (y10)]) ⟨hx, hb, hml, hown, hts⟩ (c_Mo_daysOf l D ca L _ _ y8 k) (ks_Mo_daysOf hts rfl rfl (hts _ tw_1531) ⟨Nat.le_of_ble_eq_true rfl, Nat.le_of_ble_eq_true rfl⟩) (sm_preS hI hE) rfl rfl hl.1 rfl (lv_room (Nat.le_of_ble_eq_true rfl)) d_Mo_setClock_214 ⟨Nat.le_of_ble_eq_true rfl, Nat.le_of_ble_eq_true rfl⟩) (fun x_42 H locs p_41 hI => ?_)
        obtain ⟨n_43, rfl, h_44, h_45⟩ := p_41
        refine lv_i2l hx hb d_Mo_setClock_217 rfl ?_
        refine lv_topl (fun x_46 e_47 => ?_)
        refine lv_ladd hx hb d_Mo_setClock_218 ?_
        refine lv_topl (fun x_48 e_49 => ?_)
        refine lv_lstore (lv' := [(10, .long (x_48)), (0, .ref (ad 71)), (1, .int (nI j1)), (2, .int (nI j2)), (3, .int (y3)), (4, .int (y4)), (5, .int (y5)), (6, .int (y6)), (7, .int (y7)), (8, .int (y8)), (9, .int (y9)), (12, .int (k))]) hx hb d_Mo_setClock_219 hl (by decide) rfl (fun ls hl => ?_)
        obtain ⟨x_50, hx_x_50⟩ : ∃ z, z = k + Int32.ofInt (1) := ⟨_, rfl⟩
        refine lv_iinc (v := x_50) (lv' := [(12, .int (x_50)), (10, .long (x_48)), (0, .ref (ad 71)), (1, .int (nI j1)), (2, .int (nI j2)), (3, .int (y3)), (4, .int (y4)), (5, .int (y5)), (6, .int (y6)), (7, .int (y7)), (8, .int (y8)), (9, .int (y9))]) hx hb d_Mo_setClock_221 hl (k := 11) rfl hx_x_50.symm (by decide) rfl (fun ls hl => ?_)
        refine lv_goto (tgt := 201) hx hb d_Mo_setClock_224 (by decide) ?_
        exact ih (x_50) _ _ _ _ _ y3 y4 y5 y6 y7 y8 y9 x_48 (Nat.le_trans (up_m c_10 hx_x_50) (Nat.le_of_succ_le_succ hN)) hI hM hF (lv_sub hl [2, 3, 4, 5, 6, 7, 8, 9, 10, 11, 1, 0] rfl) py9 u90
  have hJ_169 : ∀ (N : Nat) (k : Int32) (H : Heap) (locs : List Loc) (f : Nat → va_E) (σ : mq_S) (ls : Array Slot) (y3 : Int32) (y4 : Int32) (y5 : Int32) (y6 : Int32) (y7 : Int32) (y8 : Int32) (y9 : Int32) (y10 : Int64), (y8.toInt - k.toInt).toNat + 1 ≤ N → sw_I D cl_all (ty_s ca) (va_A (va_pl L f0) sz) s H locs L f → mq_B ca ad σ L f → mq_fr [10, 11, 13, 14, 16, 18, 24, 30, 31, 32, 33, 34, 42, 52, 65, 69] σ0 σ → lv_has ls 13 [(0, .ref (ad 71)), (1, .int (nI j1)), (2, .int (nI j2)), (3, .int (y3)), (4, .int (y4)), (5, .int (y5)), (6, .int (y6)), (7, .int (y7)), (8, .int (y8)), (9, .int (y9)), (10, .long (y10)), (12, .int (k))] → (y9 = 0 ∨ y9 = 1) → (IH σ) → W p l e { frames := 4, cells := 0, slots := 0, locals := 90 } s m ([.ref (ad 71), .int (nI j1), .int (nI j2)] : List Value).toArray below meth c H locs 0 0 (MQ below (sm_Qv D (ty_s ca) L f0 sz (fun u => mq_po ca ad L σ0 [10, 11, 13, 14, 16, 18, 24, 30, 31, 32, 33, 34, 42, 52, 65, 69] (fun σ => IH σ ∧ True) u)) ([.ref (ad 71), .int (nI j1), .int (nI j2)] : List Value).toArray s 0 0 (va_A (va_pl L f0) sz)) (F0 m 169 ls []) := by
    intro N
    induction N with
    | zero => intros; omega
    | succ N ih =>
      intro k H locs f σ ls y3 y4 y5 y6 y7 y8 y9 y10 hN hI hM hF hl py9 u90
      refine lv_iload hx hb d_Mo_setClock_169 (lv_at hl 11 rfl) ?_
      refine lv_iload hx hb d_Mo_setClock_171 (lv_at hl 8 rfl) ?_
      refine lv_icmp_ge (tgt := 198) hx hb d_Mo_setClock_173 (by decide) (fun c_51 => ?_) (fun c_51 => ?_)
      · refine lv_iconst (v := 1) hx hb d_Mo_setClock_198 (by decide) ?_
        refine lv_istore (lv' := [(12, .int (1)), (0, .ref (ad 71)), (1, .int (nI j1)), (2, .int (nI j2)), (3, .int (y3)), (4, .int (y4)), (5, .int (y5)), (6, .int (y6)), (7, .int (y7)), (8, .int (y8)), (9, .int (y9)), (10, .long (y10))]) hx hb d_Mo_setClock_199 hl (by decide) rfl (fun ls hl => ?_)
        exact hJ_201 _ (1) _ _ _ _ _ y3 y4 y5 y6 y7 y8 y9 y10 (Nat.le_refl _) hI hM hF (lv_sub hl [1, 2, 3, 4, 5, 6, 7, 8, 9, 10, 11, 0] rfl) py9 u90
      · refine lv_lload hx hb d_Mo_setClock_176 (lv_at hl 10 rfl) ?_
        refine lv_ldc2 (v := 337) hx hb hown (hts _ tw_1660) d_Mo_setClock_178 ?_
        refine lv_ladd hx hb d_Mo_setClock_181 ?_
        refine lv_topl (fun x_52 e_53 => ?_)
        refine lv_iload hx hb d_Mo_setClock_182 (lv_at hl 11 rfl) ?_
        refine lv_iconst (v := 2) hx hb d_Mo_setClock_184 (by decide) ?_
        refine sm_iP hI (va_runS (As := [.int (k), .int (2)]) (rest := [.long (x_52)]) ⟨hx, hb, hml, hown, hts⟩ (c_Mo_daysOf l D ca L _ _ k 2) (ks_Mo_daysOf hts rfl rfl (hts _ tw_1531) ⟨Nat.le_of_ble_eq_true rfl, Nat.le_of_ble_eq_true rfl⟩) (sm_preS hI hE) rfl rfl hl.1 rfl (lv_room (Nat.le_of_ble_eq_true rfl)) d_Mo_setClock_185 ⟨Nat.le_of_ble_eq_true rfl, Nat.le_of_ble_eq_true rfl⟩) (fun x_55 H locs p_54 hI => ?_)
        obtain ⟨n_56, rfl, h_57, h_58⟩ := p_54
        refine lv_i2l hx hb d_Mo_setClock_188 rfl ?_
        refine lv_topl (fun x_59 e_60 => ?_)
        refine lv_ladd hx hb d_Mo_setClock_189 ?_
        refine lv_topl (fun x_61 e_62 => ?_)
        refine lv_lstore (lv' := [(10, .long (x_61)), (0, .ref (ad 71)), (1, .int (nI j1)), (2, .int (nI j2)), (3, .int (y3)), (4, .int (y4)), (5, .int (y5)), (6, .int (y6)), (7, .int (y7)), (8, .int (y8)), (9, .int (y9)), (12, .int (k))]) hx hb d_Mo_setClock_190 hl (by decide) rfl (fun ls hl => ?_)
        obtain ⟨x_63, hx_x_63⟩ : ∃ z, z = k + Int32.ofInt (1) := ⟨_, rfl⟩
        refine lv_iinc (v := x_63) (lv' := [(12, .int (x_63)), (10, .long (x_61)), (0, .ref (ad 71)), (1, .int (nI j1)), (2, .int (nI j2)), (3, .int (y3)), (4, .int (y4)), (5, .int (y5)), (6, .int (y6)), (7, .int (y7)), (8, .int (y8)), (9, .int (y9))]) hx hb d_Mo_setClock_192 hl (k := 11) rfl hx_x_63.symm (by decide) rfl (fun ls hl => ?_)
        refine lv_goto (tgt := 169) hx hb d_Mo_setClock_195 (by decide) ?_
        exact ih (x_63) _ _ _ _ _ y3 y4 y5 y6 y7 y8 y9 x_61 (Nat.le_trans (up_m c_51 hx_x_63) (Nat.le_of_succ_le_succ hN)) hI hM hF (lv_sub hl [2, 3, 4, 5, 6, 7, 8, 9, 10, 11, 1, 0] rfl) py9 u90
  have hJ_154 : ∀ (H : Heap) (locs : List Loc) (f : Nat → va_E) (σ : mq_S) (ls : Array Slot) (y3 : Int32) (y4 : Int32) (y5 : Int32) (y6 : Int32) (y7 : Int32) (y8 : Int32) (y9 : Int32) (z0 : Int32), sw_I D cl_all (ty_s ca) (va_A (va_pl L f0) sz) s H locs L f → mq_B ca ad σ L f → mq_fr [10, 11, 13, 14, 16, 18, 24, 30, 31, 32, 33, 34, 42, 52, 65, 69] σ0 σ → lv_has ls 13 [(0, .ref (ad 71)), (1, .int (nI j1)), (2, .int (nI j2)), (3, .int (y3)), (4, .int (y4)), (5, .int (y5)), (6, .int (y6)), (7, .int (y7)), (8, .int (y8)), (9, .int (y9))] → (y9 = 0 ∨ y9 = 1) → (z0 = 0 ∨ z0 = 1) → (IH σ) → W p l e { frames := 4, cells := 0, slots := 0, locals := 90 } s m ([.ref (ad 71), .int (nI j1), .int (nI j2)] : List Value).toArray below meth c H locs 0 0 (MQ below (sm_Qv D (ty_s ca) L f0 sz (fun u => mq_po ca ad L σ0 [10, 11, 13, 14, 16, 18, 24, 30, 31, 32, 33, 34, 42, 52, 65, 69] (fun σ => IH σ ∧ True) u)) ([.ref (ad 71), .int (nI j1), .int (nI j2)] : List Value).toArray s 0 0 (va_A (va_pl L f0) sz)) (F0 m 154 ls [.int (z0)]) := by
    intro H locs f σ ls y3 y4 y5 y6 y7 y8 y9 z0 hI hM hF hl py9 pz0 u90
    refine lv_istore (lv' := [(9, .int (z0)), (0, .ref (ad 71)), (1, .int (nI j1)), (2, .int (nI j2)), (3, .int (y3)), (4, .int (y4)), (5, .int (y5)), (6, .int (y6)), (7, .int (y7)), (8, .int (y8))]) hx hb d_Mo_setClock_154 hl (by decide) rfl (fun ls hl => ?_)
    refine lv_iload hx hb d_Mo_setClock_156 (lv_at hl 0 rfl) ?_
    refine lv_if_eq (tgt := 267) hx hb d_Mo_setClock_158 (by decide) (fun c_64 => ?_) (fun c_64 => ?_)
    · exact hJ_267 _ _ _ _ _ y3 y4 y5 y6 y7 y8 z0 hI hM hF (lv_sub hl [1, 2, 3, 4, 5, 6, 7, 8, 9, 0] rfl) pz0 u90
    · refine lv_lconst (v := 0) hx hb d_Mo_setClock_161 (by decide) ?_
      refine lv_lstore (lv' := [(10, .long (0)), (9, .int (z0)), (0, .ref (ad 71)), (1, .int (nI j1)), (2, .int (nI j2)), (3, .int (y3)), (4, .int (y4)), (5, .int (y5)), (6, .int (y6)), (7, .int (y7)), (8, .int (y8))]) hx hb d_Mo_setClock_162 hl (by decide) rfl (fun ls hl => ?_)
      refine lv_sipush (v := 2000) hx hb d_Mo_setClock_164 (by decide) ?_
      refine lv_istore (lv' := [(12, .int (2000)), (10, .long (0)), (9, .int (z0)), (0, .ref (ad 71)), (1, .int (nI j1)), (2, .int (nI j2)), (3, .int (y3)), (4, .int (y4)), (5, .int (y5)), (6, .int (y6)), (7, .int (y7)), (8, .int (y8))]) hx hb d_Mo_setClock_167 hl (by decide) rfl (fun ls hl => ?_)
      exact hJ_169 _ (2000) _ _ _ _ _ y3 y4 y5 y6 y7 y8 z0 0 (Nat.le_refl _) hI hM hF (lv_sub hl [3, 4, 5, 6, 7, 8, 9, 10, 11, 2, 1, 0] rfl) pz0 u90
  have hJ_153 : ∀ (H : Heap) (locs : List Loc) (f : Nat → va_E) (σ : mq_S) (ls : Array Slot) (y3 : Int32) (y4 : Int32) (y5 : Int32) (y6 : Int32) (y7 : Int32) (y8 : Int32) (y9 : Int32), sw_I D cl_all (ty_s ca) (va_A (va_pl L f0) sz) s H locs L f → mq_B ca ad σ L f → mq_fr [10, 11, 13, 14, 16, 18, 24, 30, 31, 32, 33, 34, 42, 52, 65, 69] σ0 σ → lv_has ls 13 [(0, .ref (ad 71)), (1, .int (nI j1)), (2, .int (nI j2)), (3, .int (y3)), (4, .int (y4)), (5, .int (y5)), (6, .int (y6)), (7, .int (y7)), (8, .int (y8)), (9, .int (y9))] → (y9 = 0 ∨ y9 = 1) → (IH σ) → W p l e { frames := 4, cells := 0, slots := 0, locals := 90 } s m ([.ref (ad 71), .int (nI j1), .int (nI j2)] : List Value).toArray below meth c H locs 0 0 (MQ below (sm_Qv D (ty_s ca) L f0 sz (fun u => mq_po ca ad L σ0 [10, 11, 13, 14, 16, 18, 24, 30, 31, 32, 33, 34, 42, 52, 65, 69] (fun σ => IH σ ∧ True) u)) ([.ref (ad 71), .int (nI j1), .int (nI j2)] : List Value).toArray s 0 0 (va_A (va_pl L f0) sz)) (F0 m 153 ls []) := by
    intro H locs f σ ls y3 y4 y5 y6 y7 y8 y9 hI hM hF hl py9 u90
    refine lv_iconst (v := 0) hx hb d_Mo_setClock_153 (by decide) ?_
    exact hJ_154 _ _ _ _ _ y3 y4 y5 y6 y7 y8 y9 0 hI hM hF (lv_sub hl [0, 1, 2, 3, 4, 5, 6, 7, 8, 9] rfl) py9 (by decide) u90
  have hJ_124 : ∀ (H : Heap) (locs : List Loc) (f : Nat → va_E) (σ : mq_S) (ls : Array Slot) (y3 : Int32) (y4 : Int32) (y5 : Int32) (y6 : Int32) (y7 : Int32) (y8 : Int32) (z0 : Int32), sw_I D cl_all (ty_s ca) (va_A (va_pl L f0) sz) s H locs L f → mq_B ca ad σ L f → mq_fr [10, 11, 13, 14, 16, 18, 24, 30, 31, 32, 33, 34, 42, 52, 65, 69] σ0 σ → lv_has ls 13 [(0, .ref (ad 71)), (1, .int (nI j1)), (2, .int (nI j2)), (3, .int (y3)), (4, .int (y4)), (5, .int (y5)), (6, .int (y6)), (7, .int (y7)), (8, .int (y8))] → (z0 = 0 ∨ z0 = 1) → (IH σ) → W p l e { frames := 4, cells := 0, slots := 0, locals := 90 } s m ([.ref (ad 71), .int (nI j1), .int (nI j2)] : List Value).toArray below meth c H locs 0 0 (MQ below (sm_Qv D (ty_s ca) L f0 sz (fun u => mq_po ca ad L σ0 [10, 11, 13, 14, 16, 18, 24, 30, 31, 32, 33, 34, 42, 52, 65, 69] (fun σ => IH σ ∧ True) u)) ([.ref (ad 71), .int (nI j1), .int (nI j2)] : List Value).toArray s 0 0 (va_A (va_pl L f0) sz)) (F0 m 124 ls [.int (z0)]) := by
    intro H locs f σ ls y3 y4 y5 y6 y7 y8 z0 hI hM hF hl pz0 u90
    refine lv_istore (lv' := [(9, .int (z0)), (0, .ref (ad 71)), (1, .int (nI j1)), (2, .int (nI j2)), (3, .int (y3)), (4, .int (y4)), (5, .int (y5)), (6, .int (y6)), (7, .int (y7)), (8, .int (y8))]) hx hb d_Mo_setClock_124 hl (by decide) rfl (fun ls hl => ?_)
    refine lv_iload hx hb d_Mo_setClock_126 (lv_at hl 0 rfl) ?_
    refine lv_if_eq (tgt := 153) hx hb d_Mo_setClock_128 (by decide) (fun c_65 => ?_) (fun c_65 => ?_)
    · exact hJ_153 _ _ _ _ _ y3 y4 y5 y6 y7 y8 z0 hI hM hF (lv_sub hl [1, 2, 3, 4, 5, 6, 7, 8, 9, 0] rfl) pz0 u90
    · refine lv_iload hx hb d_Mo_setClock_131 (lv_at hl 7 rfl) ?_
      refine lv_i2l hx hb d_Mo_setClock_133 rfl ?_
      refine lv_topl (fun x_66 e_67 => ?_)
      refine lv_lconst (v := 1) hx hb d_Mo_setClock_134 (by decide) ?_
      refine lv_iload hx hb d_Mo_setClock_135 (lv_at hl 9 rfl) ?_
      refine lv_iload hx hb d_Mo_setClock_137 (lv_at hl 8 rfl) ?_
      refine sm_iP hI (va_runS (As := [.int (y8), .int (y7)]) (rest := [.long (1), .long (x_66)]) ⟨hx, hb, hml, hown, hts⟩ (c_Mo_daysOf l D ca L _ _ y8 y7) (ks_Mo_daysOf hts rfl rfl (hts _ tw_1531) ⟨Nat.le_of_ble_eq_true rfl, Nat.le_of_ble_eq_true rfl⟩) (sm_preS hI hE) rfl rfl hl.1 rfl (lv_room (Nat.le_of_ble_eq_true rfl)) d_Mo_setClock_139 ⟨Nat.le_of_ble_eq_true rfl, Nat.le_of_ble_eq_true rfl⟩) (fun x_69 H locs p_68 hI => ?_)
      obtain ⟨n_70, rfl, h_71, h_72⟩ := p_68
      refine lv_i2l hx hb d_Mo_setClock_142 rfl ?_
      refine lv_topl (fun x_73 e_74 => ?_)
      refine sm_iP hI (va_runS (As := [.long (x_66), .long (1), .long (x_73)]) (rest := []) ⟨hx, hb, hml, hown, hts⟩ (c_Mo_in l D ca L _ _ x_66 1 x_73) (ks_Mo_in hts rfl rfl (hts _ tw_1393) ⟨Nat.le_of_ble_eq_true rfl, Nat.le_of_ble_eq_true rfl⟩) (sm_preS hI hE) rfl rfl hl.1 rfl (lv_room (Nat.le_of_ble_eq_true rfl)) d_Mo_setClock_143 ⟨Nat.le_of_ble_eq_true rfl, Nat.le_of_ble_eq_true rfl⟩) (fun x_76 H locs p_75 hI => ?_)
      refine lv_if_eq (tgt := 153) hx hb d_Mo_setClock_146 (by decide) (fun c_77 => ?_) (fun c_77 => ?_)
      · exact hJ_153 _ _ _ _ _ y3 y4 y5 y6 y7 y8 z0 hI hM hF (lv_sub hl [1, 2, 3, 4, 5, 6, 7, 8, 9, 0] rfl) pz0 u90
      · refine lv_iconst (v := 1) hx hb d_Mo_setClock_149 (by decide) ?_
        refine lv_goto (tgt := 154) hx hb d_Mo_setClock_150 (by decide) ?_
        exact hJ_154 _ _ _ _ _ y3 y4 y5 y6 y7 y8 z0 1 hI hM hF (lv_sub hl [1, 2, 3, 4, 5, 6, 7, 8, 9, 0] rfl) pz0 (by decide) u90
  have hJ_123 : ∀ (H : Heap) (locs : List Loc) (f : Nat → va_E) (σ : mq_S) (ls : Array Slot) (y3 : Int32) (y4 : Int32) (y5 : Int32) (y6 : Int32) (y7 : Int32) (y8 : Int32), sw_I D cl_all (ty_s ca) (va_A (va_pl L f0) sz) s H locs L f → mq_B ca ad σ L f → mq_fr [10, 11, 13, 14, 16, 18, 24, 30, 31, 32, 33, 34, 42, 52, 65, 69] σ0 σ → lv_has ls 13 [(0, .ref (ad 71)), (1, .int (nI j1)), (2, .int (nI j2)), (3, .int (y3)), (4, .int (y4)), (5, .int (y5)), (6, .int (y6)), (7, .int (y7)), (8, .int (y8))] → (IH σ) → W p l e { frames := 4, cells := 0, slots := 0, locals := 90 } s m ([.ref (ad 71), .int (nI j1), .int (nI j2)] : List Value).toArray below meth c H locs 0 0 (MQ below (sm_Qv D (ty_s ca) L f0 sz (fun u => mq_po ca ad L σ0 [10, 11, 13, 14, 16, 18, 24, 30, 31, 32, 33, 34, 42, 52, 65, 69] (fun σ => IH σ ∧ True) u)) ([.ref (ad 71), .int (nI j1), .int (nI j2)] : List Value).toArray s 0 0 (va_A (va_pl L f0) sz)) (F0 m 123 ls []) := by
    intro H locs f σ ls y3 y4 y5 y6 y7 y8 hI hM hF hl u90
    refine lv_iconst (v := 0) hx hb d_Mo_setClock_123 (by decide) ?_
    exact hJ_124 _ _ _ _ _ y3 y4 y5 y6 y7 y8 0 hI hM hF (lv_sub hl [0, 1, 2, 3, 4, 5, 6, 7, 8] rfl) (by decide) u90
  refine lv_aload_n hx hb d_Mo_setClock_0 rfl (lv_at hl 0 rfl) ?_
  refine lv_iload_n hx hb d_Mo_setClock_1 rfl (lv_at hl 2 rfl) ?_
  refine lv_iconst (v := 2) hx hb d_Mo_setClock_2 (by decide) ?_
  refine sm_iP hI (va_runV (As := [.int (nI j2), .int (2)]) (rest := []) ⟨hx, hb, hml, hown, hts⟩ (c_Mo_numberAt l D ca ad L _ _ _ hM (j2) (by omega) (2) (by omega)) (kv_Mo_numberAt hts rfl rfl (hts _ tw_1622) ⟨Nat.le_of_ble_eq_true rfl, Nat.le_of_ble_eq_true rfl⟩) (pv_Mo hI hE hM) rfl rfl hl.1 rfl (lv_room (Nat.le_of_ble_eq_true rfl)) d_Mo_setClock_3 ⟨Nat.le_of_ble_eq_true rfl, Nat.le_of_ble_eq_true rfl⟩) (fun x_79 H locs p_78 hI => ?_)
  refine lv_istore_n (lv' := [(3, .int (x_79)), (0, .ref (ad 71)), (1, .int (nI j1)), (2, .int (nI j2))]) hx hb d_Mo_setClock_6 rfl hl (by decide) rfl (fun ls hl => ?_)
  refine lv_aload_n hx hb d_Mo_setClock_7 rfl (lv_at hl 1 rfl) ?_
  refine mq_get (k := 69) (v := .ref (ad 69)) hx hb hts hown hI hM (by decide) rfl rfl (hts _ tw_1238) d_Mo_setClock_8 ?_
  refine lv_iload_n hx hb d_Mo_setClock_11 rfl (lv_at hl 3 rfl) ?_
  refine lv_iconst (v := 2) hx hb d_Mo_setClock_12 (by decide) ?_
  refine lv_iadd hx hb d_Mo_setClock_13 ?_
  refine lv_topi (fun x_80 e_81 => ?_)
  obtain rfl : x_80 = nI (j2 + 2) := by rw [e_81]; exact nI_add _ _
  obtain ⟨x_82, e_83⟩ : ∃ z, σ0.2.2.1 69 ((j2 + 2)) = z := ⟨_, rfl⟩
  refine mq_iald (k := 69) (j := (j2 + 2)) (v := x_82) hx hb hI hM (by decide) rfl (by show (j2 + 2) < 260; omega) (by decide) e_83 d_Mo_setClock_14 ?_
  refine lv_bipush (v := 63) hx hb d_Mo_setClock_15 (by decide) ?_
  refine lv_iand hx hb d_Mo_setClock_17 ?_
  refine lv_topi (fun x_84 e_85 => ?_)
  refine lv_istore (lv' := [(4, .int (x_84)), (3, .int (x_79)), (0, .ref (ad 71)), (1, .int (nI j1)), (2, .int (nI j2))]) hx hb d_Mo_setClock_18 hl (by decide) rfl (fun ls hl => ?_)
  refine lv_aload_n hx hb d_Mo_setClock_20 rfl (lv_at hl 2 rfl) ?_
  refine mq_get (k := 69) (v := .ref (ad 69)) hx hb hts hown hI hM (by decide) rfl rfl (hts _ tw_1238) d_Mo_setClock_21 ?_
  refine lv_iload_n hx hb d_Mo_setClock_24 rfl (lv_at hl 4 rfl) ?_
  refine lv_iconst (v := 3) hx hb d_Mo_setClock_25 (by decide) ?_
  refine lv_iadd hx hb d_Mo_setClock_26 ?_
  refine lv_topi (fun x_86 e_87 => ?_)
  obtain rfl : x_86 = nI (j2 + 3) := by rw [e_87]; exact nI_add _ _
  obtain ⟨x_88, e_89⟩ : ∃ z, σ0.2.2.1 69 ((j2 + 3)) = z := ⟨_, rfl⟩
  refine mq_iald (k := 69) (j := (j2 + 3)) (v := x_88) hx hb hI hM (by decide) rfl (by show (j2 + 3) < 260; omega) (by decide) e_89 d_Mo_setClock_27 ?_
  refine lv_bipush (v := 31) hx hb d_Mo_setClock_28 (by decide) ?_
  refine lv_iand hx hb d_Mo_setClock_30 ?_
  refine lv_topi (fun x_90 e_91 => ?_)
  refine lv_istore (lv' := [(5, .int (x_90)), (4, .int (x_84)), (3, .int (x_79)), (0, .ref (ad 71)), (1, .int (nI j1)), (2, .int (nI j2))]) hx hb d_Mo_setClock_31 hl (by decide) rfl (fun ls hl => ?_)
  refine lv_aload_n hx hb d_Mo_setClock_33 rfl (lv_at hl 3 rfl) ?_
  refine mq_get (k := 69) (v := .ref (ad 69)) hx hb hts hown hI hM (by decide) rfl rfl (hts _ tw_1238) d_Mo_setClock_34 ?_
  refine lv_iload_n hx hb d_Mo_setClock_37 rfl (lv_at hl 5 rfl) ?_
  refine lv_iconst (v := 4) hx hb d_Mo_setClock_38 (by decide) ?_
  refine lv_iadd hx hb d_Mo_setClock_39 ?_
  refine lv_topi (fun x_92 e_93 => ?_)
  obtain rfl : x_92 = nI (j2 + 4) := by rw [e_93]; exact nI_add _ _
  obtain ⟨x_94, e_95⟩ : ∃ z, σ0.2.2.1 69 ((j2 + 4)) = z := ⟨_, rfl⟩
  refine mq_iald (k := 69) (j := (j2 + 4)) (v := x_94) hx hb hI hM (by decide) rfl (by show (j2 + 4) < 260; omega) (by decide) e_95 d_Mo_setClock_40 ?_
  refine lv_bipush (v := 31) hx hb d_Mo_setClock_41 (by decide) ?_
  refine lv_iand hx hb d_Mo_setClock_43 ?_
  refine lv_topi (fun x_96 e_97 => ?_)
  refine lv_istore (lv' := [(6, .int (x_96)), (5, .int (x_90)), (4, .int (x_84)), (3, .int (x_79)), (0, .ref (ad 71)), (1, .int (nI j1)), (2, .int (nI j2))]) hx hb d_Mo_setClock_44 hl (by decide) rfl (fun ls hl => ?_)
  refine lv_aload_n hx hb d_Mo_setClock_46 rfl (lv_at hl 4 rfl) ?_
  refine mq_get (k := 69) (v := .ref (ad 69)) hx hb hts hown hI hM (by decide) rfl rfl (hts _ tw_1238) d_Mo_setClock_47 ?_
  refine lv_iload_n hx hb d_Mo_setClock_50 rfl (lv_at hl 6 rfl) ?_
  refine lv_iconst (v := 5) hx hb d_Mo_setClock_51 (by decide) ?_
  refine lv_iadd hx hb d_Mo_setClock_52 ?_
  refine lv_topi (fun x_98 e_99 => ?_)
  obtain rfl : x_98 = nI (j2 + 5) := by rw [e_99]; exact nI_add _ _
  obtain ⟨x_100, e_101⟩ : ∃ z, σ0.2.2.1 69 ((j2 + 5)) = z := ⟨_, rfl⟩
  refine mq_iald (k := 69) (j := (j2 + 5)) (v := x_100) hx hb hI hM (by decide) rfl (by show (j2 + 5) < 260; omega) (by decide) e_101 d_Mo_setClock_53 ?_
  refine lv_bipush (v := 15) hx hb d_Mo_setClock_54 (by decide) ?_
  refine lv_iand hx hb d_Mo_setClock_56 ?_
  refine lv_topi (fun x_102 e_103 => ?_)
  refine lv_istore (lv' := [(7, .int (x_102)), (6, .int (x_96)), (5, .int (x_90)), (4, .int (x_84)), (3, .int (x_79)), (0, .ref (ad 71)), (1, .int (nI j1)), (2, .int (nI j2))]) hx hb d_Mo_setClock_57 hl (by decide) rfl (fun ls hl => ?_)
  refine lv_sipush (v := 2000) hx hb d_Mo_setClock_59 (by decide) ?_
  refine lv_aload_n hx hb d_Mo_setClock_62 rfl (lv_at hl 5 rfl) ?_
  refine mq_get (k := 69) (v := .ref (ad 69)) hx hb hts hown hI hM (by decide) rfl rfl (hts _ tw_1238) d_Mo_setClock_63 ?_
  refine lv_iload_n hx hb d_Mo_setClock_66 rfl (lv_at hl 7 rfl) ?_
  refine lv_bipush (v := 6) hx hb d_Mo_setClock_67 (by decide) ?_
  refine lv_iadd hx hb d_Mo_setClock_69 ?_
  refine lv_topi (fun x_104 e_105 => ?_)
  obtain rfl : x_104 = nI (j2 + 6) := by rw [e_105]; exact nI_add _ _
  obtain ⟨x_106, e_107⟩ : ∃ z, σ0.2.2.1 69 ((j2 + 6)) = z := ⟨_, rfl⟩
  refine mq_iald (k := 69) (j := (j2 + 6)) (v := x_106) hx hb hI hM (by decide) rfl (by show (j2 + 6) < 260; omega) (by decide) e_107 d_Mo_setClock_70 ?_
  refine lv_bipush (v := 127) hx hb d_Mo_setClock_71 (by decide) ?_
  refine lv_iand hx hb d_Mo_setClock_73 ?_
  refine lv_topi (fun x_108 e_109 => ?_)
  refine lv_iadd hx hb d_Mo_setClock_74 ?_
  refine lv_topi (fun x_110 e_111 => ?_)
  refine lv_istore (lv' := [(8, .int (x_110)), (7, .int (x_102)), (6, .int (x_96)), (5, .int (x_90)), (4, .int (x_84)), (3, .int (x_79)), (0, .ref (ad 71)), (1, .int (nI j1)), (2, .int (nI j2))]) hx hb d_Mo_setClock_75 hl (by decide) rfl (fun ls hl => ?_)
  refine lv_iload_n hx hb d_Mo_setClock_77 rfl (lv_at hl 5 rfl) ?_
  refine lv_ldcw (v := 60000) hx hb hown (hts _ tw_1658) d_Mo_setClock_78 ?_
  refine lv_icmp_ge (tgt := 123) hx hb d_Mo_setClock_81 (by decide) (fun c_112 => ?_) (fun c_112 => ?_)
  · exact hJ_123 _ _ _ _ _ x_79 x_84 x_90 x_96 x_102 x_110 hI hM hF (lv_sub hl [6, 7, 8, 5, 4, 3, 2, 1, 0] rfl) u0
  · refine lv_iload hx hb d_Mo_setClock_84 (lv_at hl 4 rfl) ?_
    refine lv_bipush (v := 60) hx hb d_Mo_setClock_86 (by decide) ?_
    refine lv_icmp_ge (tgt := 123) hx hb d_Mo_setClock_88 (by decide) (fun c_113 => ?_) (fun c_113 => ?_)
    · exact hJ_123 _ _ _ _ _ x_79 x_84 x_90 x_96 x_102 x_110 hI hM hF (lv_sub hl [6, 7, 8, 5, 4, 3, 2, 1, 0] rfl) u0
    · refine lv_iload hx hb d_Mo_setClock_91 (lv_at hl 3 rfl) ?_
      refine lv_bipush (v := 24) hx hb d_Mo_setClock_93 (by decide) ?_
      refine lv_icmp_ge (tgt := 123) hx hb d_Mo_setClock_95 (by decide) (fun c_114 => ?_) (fun c_114 => ?_)
      · exact hJ_123 _ _ _ _ _ x_79 x_84 x_90 x_96 x_102 x_110 hI hM hF (lv_sub hl [6, 7, 8, 5, 4, 3, 2, 1, 0] rfl) u0
      · refine lv_iload hx hb d_Mo_setClock_98 (lv_at hl 0 rfl) ?_
        refine lv_sipush (v := 2100) hx hb d_Mo_setClock_100 (by decide) ?_
        refine lv_icmp_ge (tgt := 123) hx hb d_Mo_setClock_103 (by decide) (fun c_115 => ?_) (fun c_115 => ?_)
        · exact hJ_123 _ _ _ _ _ x_79 x_84 x_90 x_96 x_102 x_110 hI hM hF (lv_sub hl [6, 7, 8, 5, 4, 3, 2, 1, 0] rfl) u0
        · refine lv_iload hx hb d_Mo_setClock_106 (lv_at hl 1 rfl) ?_
          refine lv_i2l hx hb d_Mo_setClock_108 rfl ?_
          refine lv_topl (fun x_116 e_117 => ?_)
          refine lv_lconst (v := 1) hx hb d_Mo_setClock_109 (by decide) ?_
          refine lv_ldc2 (v := 12) hx hb hown (hts _ tw_1659) d_Mo_setClock_110 ?_
          refine sm_iP hI (va_runS (As := [.long (x_116), .long (1), .long (12)]) (rest := []) ⟨hx, hb, hml, hown, hts⟩ (c_Mo_in l D ca L _ _ x_116 1 12) (ks_Mo_in hts rfl rfl (hts _ tw_1393) ⟨Nat.le_of_ble_eq_true rfl, Nat.le_of_ble_eq_true rfl⟩) (sm_preS hI hE) rfl rfl hl.1 rfl (lv_room (Nat.le_of_ble_eq_true rfl)) d_Mo_setClock_113 ⟨Nat.le_of_ble_eq_true rfl, Nat.le_of_ble_eq_true rfl⟩) (fun x_119 H locs p_118 hI => ?_)
          refine lv_if_eq (tgt := 123) hx hb d_Mo_setClock_116 (by decide) (fun c_120 => ?_) (fun c_120 => ?_)
          · exact hJ_123 _ _ _ _ _ x_79 x_84 x_90 x_96 x_102 x_110 hI hM hF (lv_sub hl [6, 7, 8, 5, 4, 3, 2, 1, 0] rfl) u0
          · refine lv_iconst (v := 1) hx hb d_Mo_setClock_119 (by decide) ?_
            refine lv_goto (tgt := 124) hx hb d_Mo_setClock_120 (by decide) ?_
            exact hJ_124 _ _ _ _ _ x_79 x_84 x_90 x_96 x_102 x_110 1 hI hM hF (lv_sub hl [6, 7, 8, 5, 4, 3, 2, 1, 0] rfl) (by decide) u0
