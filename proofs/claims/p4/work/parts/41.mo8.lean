/-! the reference: what is heard (written by wip/tools) -/
theorem d_Mo_data_0 : decode b_Mo_data 0 = .ok (.aload_n 0, 1) := by decide +kernel
theorem d_Mo_data_1 : decode b_Mo_data 1 = .ok (.iload_n 1, 1) := by decide +kernel
theorem d_Mo_data_2 : decode b_Mo_data 2 = .ok (.putfield 219, 3) := by decide +kernel
theorem d_Mo_data_5 : decode b_Mo_data 5 = .ok (.iconst 0, 1) := by decide +kernel
theorem d_Mo_data_6 : decode b_Mo_data 6 = .ok (.istore_n 2, 1) := by decide +kernel
theorem d_Mo_data_7 : decode b_Mo_data 7 = .ok (.iload_n 2, 1) := by decide +kernel
theorem d_Mo_data_8 : decode b_Mo_data 8 = .ok (.iload_n 1, 1) := by decide +kernel
theorem d_Mo_data_9 : decode b_Mo_data 9 = .ok (.if_icmp .ge 25, 3) := by decide +kernel
theorem d_Mo_data_12 : decode b_Mo_data 12 = .ok (.aload_n 0, 1) := by decide +kernel
theorem d_Mo_data_13 : decode b_Mo_data 13 = .ok (.getfield 172, 3) := by decide +kernel
theorem d_Mo_data_16 : decode b_Mo_data 16 = .ok (.iload_n 2, 1) := by decide +kernel
theorem d_Mo_data_17 : decode b_Mo_data 17 = .ok (.aload_n 0, 1) := by decide +kernel
theorem d_Mo_data_18 : decode b_Mo_data 18 = .ok (.getfield 41, 3) := by decide +kernel
theorem d_Mo_data_21 : decode b_Mo_data 21 = .ok (.sipush 816, 3) := by decide +kernel
theorem d_Mo_data_24 : decode b_Mo_data 24 = .ok (.iload_n 2, 1) := by decide +kernel
theorem d_Mo_data_25 : decode b_Mo_data 25 = .ok (.iadd, 1) := by decide +kernel
theorem d_Mo_data_26 : decode b_Mo_data 26 = .ok (.iaload, 1) := by decide +kernel
theorem d_Mo_data_27 : decode b_Mo_data 27 = .ok (.iastore, 1) := by decide +kernel
theorem d_Mo_data_28 : decode b_Mo_data 28 = .ok (.iinc 2 1, 3) := by decide +kernel
theorem d_Mo_data_31 : decode b_Mo_data 31 = .ok (.goto (-24), 3) := by decide +kernel
theorem d_Mo_data_34 : decode b_Mo_data 34 = .ok (.aload_n 0, 1) := by decide +kernel
theorem d_Mo_data_35 : decode b_Mo_data 35 = .ok (.iconst 3, 1) := by decide +kernel
theorem d_Mo_data_36 : decode b_Mo_data 36 = .ok (.invokevirtual 381, 3) := by decide +kernel
theorem d_Mo_data_39 : decode b_Mo_data 39 = .ok (.istore_n 2, 1) := by decide +kernel
theorem d_Mo_data_40 : decode b_Mo_data 40 = .ok (.aload_n 0, 1) := by decide +kernel
theorem d_Mo_data_41 : decode b_Mo_data 41 = .ok (.invokevirtual 216, 3) := by decide +kernel
theorem d_Mo_data_44 : decode b_Mo_data 44 = .ok (.return_, 1) := by decide +kernel
set_option maxRecDepth 100000 in
set_option maxHeartbeats 4000000 in
theorem c_Mo_data (l : Launch) (D : va_G) (ca : Nat → ClassId) (ad : Nat → Nat) (L : List Nat) (f0 : Nat → va_E) (sz : Nat) (σ0 : mq_S) (hM : mq_B ca ad σ0 L f0) (j1 : Nat) (q1 : j1 ≤ 255) (z1 : Nat) (o0 : σ0.1 56 = nI z1) (hz : z1 ≤ 599) (u0 : IH σ0) :
    Met l y_Mo_data (Cond.code y_Mo_data b_Mo_data 3 none :: wg) { frames := 7, cells := 0, slots := 0, locals := 181 } (va_Pc [.ref (ad 71), .int (nI j1)] (sm_P D cl_all (ty_s ca) ek L f0 sz)) (sm_Qv D (ty_s ca) L f0 sz (fun u => mq_po ca ad L σ0 [9, 10, 11, 13, 14, 15, 16, 18, 19, 22, 23, 24, 25, 30, 31, 32, 33, 34, 42, 52, 54, 55, 56, 57, 58, 59, 60, 61, 62, 63, 64, 65, 66, 67, 68, 69, 70] (fun σ => (∃ n : Nat, z1 ≤ n ∧ n ≤ z1 + 1 ∧ (n = z1 ∨ 5 ≤ j1) ∧ σ.1 56 = nI n) ∧ IH σ ∧ True) u)) 0 0 (va_A (va_pl L f0) sz) := by
  refine sm_start (by decide) (Nat.le_of_ble_eq_true rfl) ?_
  intro p e s m below meth c ls hx hb hml hr hlk hnm hts hown hsz hE hI hl
  have hl : lv_has ls 3 [(0, .ref (ad 71)), (1, .int (nI j1))] := hl
  have hF : mq_fr [9, 10, 11, 13, 14, 15, 16, 18, 19, 22, 23, 24, 25, 30, 31, 32, 33, 34, 42, 52, 54, 55, 56, 57, 58, 59, 60, 61, 62, 63, 64, 65, 66, 67, 68, 69, 70] σ0 σ0 := mq_fr_rf
  have hJ_7 : ∀ (N k : Nat) (H : Heap) (locs : List Loc) (f : Nat → va_E) (σ : mq_S) (ls : Array Slot) , 255 + 1 - k ≤ N → k ≤ 255 → sw_I D cl_all (ty_s ca) (va_A (va_pl L f0) sz) s H locs L f → mq_B ca ad σ L f → mq_fr [9, 10, 11, 13, 14, 15, 16, 18, 19, 22, 23, 24, 25, 30, 31, 32, 33, 34, 42, 52, 54, 55, 56, 57, 58, 59, 60, 61, 62, 63, 64, 65, 66, 67, 68, 69, 70] σ0 σ → lv_has ls 3 [(0, .ref (ad 71)), (1, .int (nI j1)), (2, .int (nI k))] → (σ.1 56 = nI (z1)) → (σ.1 70 = nI (j1)) → (IH σ) → W p l e { frames := 7, cells := 0, slots := 0, locals := 181 } s m ([.ref (ad 71), .int (nI j1)] : List Value).toArray below meth c H locs 0 0 (MQ below (sm_Qv D (ty_s ca) L f0 sz (fun u => mq_po ca ad L σ0 [9, 10, 11, 13, 14, 15, 16, 18, 19, 22, 23, 24, 25, 30, 31, 32, 33, 34, 42, 52, 54, 55, 56, 57, 58, 59, 60, 61, 62, 63, 64, 65, 66, 67, 68, 69, 70] (fun σ => (∃ n : Nat, z1 ≤ n ∧ n ≤ z1 + 1 ∧ (n = z1 ∨ 5 ≤ j1) ∧ σ.1 56 = nI n) ∧ IH σ ∧ True) u)) ([.ref (ad 71), .int (nI j1)] : List Value).toArray s 0 0 (va_A (va_pl L f0) sz)) (F0 m 7 ls []) := by
    intro N
    induction N with
    | zero => intros; omega
    | succ N ih =>
      intro k H locs f σ ls  hN hk hI hM hF hl o90 o91 u90
      refine lv_iload_n hx hb d_Mo_data_7 rfl (lv_at hl 2 rfl) ?_
      refine lv_iload_n hx hb d_Mo_data_8 rfl (lv_at hl 1 rfl) ?_
      refine lv_icmp_ge (tgt := 34) hx hb d_Mo_data_9 (by decide) (fun c_1 => ?_) (fun c_1 => ?_)
      · have k_2 : j1 ≤ k := (nI_leI (a := j1) (b := k) (by omega) (by omega)).mp c_1
        refine lv_aload_n hx hb d_Mo_data_34 rfl (lv_at hl 0 rfl) ?_
        refine lv_iconst (v := 3) hx hb d_Mo_data_35 (by decide) ?_
        refine sm_iM hI (va_runV (As := [.int (3)]) (rest := []) ⟨hx, hb, hml, hown, hts⟩ (c_Mo_asks l D ca ad L _ _ _ hM (3) (by omega) ((z1)) o90 ((j1)) o91 (by omega) (by omega) u90) (kv_Mo_asks hts rfl rfl (hts _ tw_1605) ⟨Nat.le_of_ble_eq_true rfl, Nat.le_of_ble_eq_true rfl⟩) (pv_Mo hI hE hM) rfl rfl hl.1 rfl (lv_room (Nat.le_of_ble_eq_true rfl)) d_Mo_data_36 ⟨Nat.le_of_ble_eq_true rfl, Nat.le_of_ble_eq_true rfl⟩) (fun x_6 H locs f σ_4 hI hM hF_5 p_3 => ?_)
        have hF := mq_fr_tr hF hF_5 (by decide)
        obtain ⟨p_13, ⟨n_8, h_9, h_10, h_11, o_7⟩, u_12, -⟩ := p_3
        refine lv_istore_n (lv' := [(2, .int (x_6)), (0, .ref (ad 71)), (1, .int (nI j1))]) hx hb d_Mo_data_39 rfl hl (by decide) rfl (fun ls hl => ?_)
        refine lv_aload_n hx hb d_Mo_data_40 rfl (lv_at hl 1 rfl) ?_
        refine sm_vM hI (va_runV (As := []) (rest := []) ⟨hx, hb, hml, hown, hts⟩ (c_Mo_sendAll l D ca ad L _ _ _ hM u_12) (kv_Mo_sendAll hts rfl rfl (hts _ tw_1422) ⟨Nat.le_of_ble_eq_true rfl, Nat.le_of_ble_eq_true rfl⟩) (pv_Mo hI hE hM) rfl rfl hl.1 rfl (lv_room (Nat.le_of_ble_eq_true rfl)) d_Mo_data_41 ⟨Nat.le_of_ble_eq_true rfl, Nat.le_of_ble_eq_true rfl⟩) (fun H locs f σ_15 hI hM hF_16 p_14 => ?_)
        have hF := mq_fr_tr hF hF_16 (by decide)
        have o_17 : σ_15.1 56 = nI n_8 := mq_fi hF_16 (by decide) o_7
        obtain ⟨u_18, -⟩ := p_14
        exact sm_vret hx hb hr hlk hI ⟨σ_15, rfl, hM, hF, ⟨⟨n_8, by omega, by omega, by omega, o_17⟩, u_18, trivial⟩⟩ d_Mo_data_44
      · have k_19 : k < j1 := Nat.lt_of_not_le (fun q => c_1 ((nI_leI (a := j1) (b := k) (by omega) (by omega)).mpr q))
        refine lv_aload_n hx hb d_Mo_data_12 rfl (lv_at hl 0 rfl) ?_
        refine mq_get (k := 69) (v := .ref (ad 69)) hx hb hts hown hI hM (by decide) rfl rfl (hts _ tw_1238) d_Mo_data_13 ?_
        refine lv_iload_n hx hb d_Mo_data_16 rfl (lv_at hl 2 rfl) ?_
        refine lv_aload_n hx hb d_Mo_data_17 rfl (lv_at hl 0 rfl) ?_
        refine mq_get (k := 17) (v := .ref (ad 17)) hx hb hts hown hI hM (by decide) rfl rfl (hts _ tw_1186) d_Mo_data_18 ?_
        refine lv_sipush (v := 816) hx hb d_Mo_data_21 (by decide) ?_
        refine lv_iload_n hx hb d_Mo_data_24 rfl (lv_at hl 2 rfl) ?_
        refine lv_iadd hx hb d_Mo_data_25 ?_
        refine lv_topi (fun x_20 e_21 => ?_)
        obtain rfl : x_20 = nI (816 + k) := by rw [e_21]; exact nI_add _ _
        obtain ⟨n_22, h_23, h_24, e_25⟩ := hM.2.2.2.2.2 17 ((816 + k))
        refine mq_iald (k := 17) (j := (816 + k)) (v := nI n_22) hx hb hI hM (by decide) rfl (by show (816 + k) < 1080; omega) (by decide) e_25 d_Mo_data_26 ?_
        refine mq_iast (k := 69) (j := k) (x := nI n_22) hx hb hI hM (by decide) rfl (by show k < 260; omega) (by decide) trivial d_Mo_data_27 (fun H locs f σ_26 e_27 hI hM => ?_)
        have hF := mq_fr_ug hF e_27 rfl (Or.inl rfl)
        have o_28 : σ_26.1 56 = nI (z1) := by rw [e_27]; exact o90
        have o_29 : σ_26.1 70 = nI (j1) := by rw [e_27]; exact o91
        have u_30 := IH_fr (mq_fr_ug (X := [69]) mq_fr_rf e_27 rfl (Or.inl rfl)) (by decide) u90
        refine lv_iinc (v := nI (k + 1)) (lv' := [(2, .int (nI (k + 1))), (0, .ref (ad 71)), (1, .int (nI j1))]) hx hb d_Mo_data_28 hl (k := 2) rfl (nI_1 _) (by decide) rfl (fun ls hl => ?_)
        refine lv_goto (tgt := 7) hx hb d_Mo_data_31 (by decide) ?_
        exact ih ((k + 1)) _ _ _ _ _  (by omega) (by omega) hI hM hF (lv_sub hl [1, 2, 0] rfl) (Eq.trans o_28 (congrArg nI (show ((z1) : Nat) = _ by omega))) (Eq.trans o_29 (congrArg nI (show ((j1) : Nat) = _ by omega))) u_30
  refine lv_aload_n hx hb d_Mo_data_0 rfl (lv_at hl 0 rfl) ?_
  refine lv_iload_n hx hb d_Mo_data_1 rfl (lv_at hl 1 rfl) ?_
  refine mq_puti (k := 70) (ty := .int) hx hb hts hown hI hM (by decide) rfl rfl (hts _ tw_1239) rfl (by decide +kernel) rfl rfl ⟨j1, by omega, by omega, rfl⟩ d_Mo_data_2 (fun H locs f σ_31 e_32 hI hM => ?_)
  have hF := mq_fr_ui hF e_32 rfl
  have o_33 : σ_31.1 56 = nI z1 := by rw [e_32]; exact o0
  have u_34 := IH_fr (mq_fr_ui (X := [70]) mq_fr_rf e_32 rfl) (by decide) u0
  have o_35 := mq_uik e_32
  refine lv_iconst (v := 0) hx hb d_Mo_data_5 (by decide) ?_
  refine lv_istore_n (lv' := [(2, .int (0)), (0, .ref (ad 71)), (1, .int (nI j1))]) hx hb d_Mo_data_6 rfl hl (by decide) rfl (fun ls hl => ?_)
  exact hJ_7 _ (0) _ _ _ _ _  (Nat.le_refl _) (by omega) hI hM hF (lv_sub hl [1, 2, 0] rfl) (Eq.trans o_33 (congrArg nI (show (z1 : Nat) = _ by omega))) (Eq.trans o_35 (congrArg nI (show (j1 : Nat) = _ by omega))) u_34
theorem d_Mo_asked_0 : decode b_Mo_asked 0 = .ok (.aload_n 0, 1) := by decide +kernel
theorem d_Mo_asked_1 : decode b_Mo_asked 1 = .ok (.bipush 32, 2) := by decide +kernel
theorem d_Mo_asked_3 : decode b_Mo_asked 3 = .ok (.aload_n 0, 1) := by decide +kernel
theorem d_Mo_asked_4 : decode b_Mo_asked 4 = .ok (.getfield 421, 3) := by decide +kernel
theorem d_Mo_asked_7 : decode b_Mo_asked 7 = .ok (.isub, 1) := by decide +kernel
theorem d_Mo_asked_8 : decode b_Mo_asked 8 = .ok (.putfield 421, 3) := by decide +kernel
theorem d_Mo_asked_11 : decode b_Mo_asked 11 = .ok (.aload_n 0, 1) := by decide +kernel
theorem d_Mo_asked_12 : decode b_Mo_asked 12 = .ok (.getfield 109, 3) := by decide +kernel
theorem d_Mo_asked_15 : decode b_Mo_asked 15 = .ok (.ifCond .lt 12, 3) := by decide +kernel
theorem d_Mo_asked_18 : decode b_Mo_asked 18 = .ok (.aload_n 0, 1) := by decide +kernel
theorem d_Mo_asked_19 : decode b_Mo_asked 19 = .ok (.aload_n 0, 1) := by decide +kernel
theorem d_Mo_asked_20 : decode b_Mo_asked 20 = .ok (.getfield 109, 3) := by decide +kernel
theorem d_Mo_asked_23 : decode b_Mo_asked 23 = .ok (.iconst 3, 1) := by decide +kernel
theorem d_Mo_asked_24 : decode b_Mo_asked 24 = .ok (.invokevirtual 366, 3) := by decide +kernel
theorem d_Mo_asked_27 : decode b_Mo_asked 27 = .ok (.aload_n 0, 1) := by decide +kernel
theorem d_Mo_asked_28 : decode b_Mo_asked 28 = .ok (.iconst (-1), 1) := by decide +kernel
theorem d_Mo_asked_29 : decode b_Mo_asked 29 = .ok (.putfield 109, 3) := by decide +kernel
theorem d_Mo_asked_32 : decode b_Mo_asked 32 = .ok (.aload_n 0, 1) := by decide +kernel
theorem d_Mo_asked_33 : decode b_Mo_asked 33 = .ok (.iconst 3, 1) := by decide +kernel
theorem d_Mo_asked_34 : decode b_Mo_asked 34 = .ok (.iconst 0, 1) := by decide +kernel
theorem d_Mo_asked_35 : decode b_Mo_asked 35 = .ok (.invokevirtual 290, 3) := by decide +kernel
theorem d_Mo_asked_38 : decode b_Mo_asked 38 = .ok (.istore_n 3, 1) := by decide +kernel
theorem d_Mo_asked_39 : decode b_Mo_asked 39 = .ok (.iload_n 1, 1) := by decide +kernel
theorem d_Mo_asked_40 : decode b_Mo_asked 40 = .ok (.iconst 3, 1) := by decide +kernel
theorem d_Mo_asked_41 : decode b_Mo_asked 41 = .ok (.if_icmp .ne 16, 3) := by decide +kernel
theorem d_Mo_asked_44 : decode b_Mo_asked 44 = .ok (.aload_n 0, 1) := by decide +kernel
theorem d_Mo_asked_45 : decode b_Mo_asked 45 = .ok (.iload_n 2, 1) := by decide +kernel
theorem d_Mo_asked_46 : decode b_Mo_asked 46 = .ok (.invokevirtual 428, 3) := by decide +kernel
theorem d_Mo_asked_49 : decode b_Mo_asked 49 = .ok (.aload_n 0, 1) := by decide +kernel
theorem d_Mo_asked_50 : decode b_Mo_asked 50 = .ok (.iconst 0, 1) := by decide +kernel
theorem d_Mo_asked_51 : decode b_Mo_asked 51 = .ok (.iconst 0, 1) := by decide +kernel
theorem d_Mo_asked_52 : decode b_Mo_asked 52 = .ok (.iconst 1, 1) := by decide +kernel
theorem d_Mo_asked_53 : decode b_Mo_asked 53 = .ok (.invokevirtual 424, 3) := by decide +kernel
theorem d_Mo_asked_56 : decode b_Mo_asked 56 = .ok (.return_, 1) := by decide +kernel
theorem d_Mo_asked_57 : decode b_Mo_asked 57 = .ok (.aload_n 0, 1) := by decide +kernel
theorem d_Mo_asked_58 : decode b_Mo_asked 58 = .ok (.getfield 136, 3) := by decide +kernel
theorem d_Mo_asked_61 : decode b_Mo_asked 61 = .ok (.iconst 3, 1) := by decide +kernel
theorem d_Mo_asked_62 : decode b_Mo_asked 62 = .ok (.if_icmp .ne 10, 3) := by decide +kernel
theorem d_Mo_asked_65 : decode b_Mo_asked 65 = .ok (.aload_n 0, 1) := by decide +kernel
theorem d_Mo_asked_66 : decode b_Mo_asked 66 = .ok (.invokevirtual 326, 3) := by decide +kernel
theorem d_Mo_asked_69 : decode b_Mo_asked 69 = .ok (.goto 4, 3) := by decide +kernel
theorem d_Mo_asked_72 : decode b_Mo_asked 72 = .ok (.iconst (-1), 1) := by decide +kernel
theorem d_Mo_asked_73 : decode b_Mo_asked 73 = .ok (.istore 4, 2) := by decide +kernel
theorem d_Mo_asked_75 : decode b_Mo_asked 75 = .ok (.iconst 1, 1) := by decide +kernel
theorem d_Mo_asked_76 : decode b_Mo_asked 76 = .ok (.istore 5, 2) := by decide +kernel
theorem d_Mo_asked_78 : decode b_Mo_asked 78 = .ok (.iload_n 1, 1) := by decide +kernel
theorem d_Mo_asked_79 : decode b_Mo_asked 79 = .ok (.bipush 11, 2) := by decide +kernel
theorem d_Mo_asked_81 : decode b_Mo_asked 81 = .ok (.if_icmp .ne 42, 3) := by decide +kernel
theorem d_Mo_asked_84 : decode b_Mo_asked 84 = .ok (.aload_n 0, 1) := by decide +kernel
theorem d_Mo_asked_85 : decode b_Mo_asked 85 = .ok (.getfield 81, 3) := by decide +kernel
theorem d_Mo_asked_88 : decode b_Mo_asked 88 = .ok (.iconst 3, 1) := by decide +kernel
theorem d_Mo_asked_89 : decode b_Mo_asked 89 = .ok (.iaload, 1) := by decide +kernel
theorem d_Mo_asked_90 : decode b_Mo_asked 90 = .ok (.ifCond .le 17, 3) := by decide +kernel
theorem d_Mo_asked_93 : decode b_Mo_asked 93 = .ok (.aload_n 0, 1) := by decide +kernel
theorem d_Mo_asked_94 : decode b_Mo_asked 94 = .ok (.getfield 90, 3) := by decide +kernel
theorem d_Mo_asked_97 : decode b_Mo_asked 97 = .ok (.iload_n 3, 1) := by decide +kernel
theorem d_Mo_asked_98 : decode b_Mo_asked 98 = .ok (.iaload, 1) := by decide +kernel
theorem d_Mo_asked_99 : decode b_Mo_asked 99 = .ok (.iconst 2, 1) := by decide +kernel
theorem d_Mo_asked_100 : decode b_Mo_asked 100 = .ok (.if_icmp .ne 7, 3) := by decide +kernel
theorem d_Mo_asked_103 : decode b_Mo_asked 103 = .ok (.iconst 1, 1) := by decide +kernel
theorem d_Mo_asked_104 : decode b_Mo_asked 104 = .ok (.goto 4, 3) := by decide +kernel
theorem d_Mo_asked_107 : decode b_Mo_asked 107 = .ok (.iconst 0, 1) := by decide +kernel
theorem d_Mo_asked_108 : decode b_Mo_asked 108 = .ok (.istore 5, 2) := by decide +kernel
theorem d_Mo_asked_110 : decode b_Mo_asked 110 = .ok (.iload 5, 2) := by decide +kernel
theorem d_Mo_asked_112 : decode b_Mo_asked 112 = .ok (.ifCond .eq 75, 3) := by decide +kernel
theorem d_Mo_asked_115 : decode b_Mo_asked 115 = .ok (.aload_n 0, 1) := by decide +kernel
theorem d_Mo_asked_116 : decode b_Mo_asked 116 = .ok (.iconst 3, 1) := by decide +kernel
theorem d_Mo_asked_117 : decode b_Mo_asked 117 = .ok (.invokevirtual 330, 3) := by decide +kernel
theorem d_Mo_asked_120 : decode b_Mo_asked 120 = .ok (.goto 67, 3) := by decide +kernel
theorem d_Mo_asked_123 : decode b_Mo_asked 123 = .ok (.aload_n 0, 1) := by decide +kernel
theorem d_Mo_asked_124 : decode b_Mo_asked 124 = .ok (.getfield 81, 3) := by decide +kernel
theorem d_Mo_asked_127 : decode b_Mo_asked 127 = .ok (.iconst 3, 1) := by decide +kernel
theorem d_Mo_asked_128 : decode b_Mo_asked 128 = .ok (.iaload, 1) := by decide +kernel
theorem d_Mo_asked_129 : decode b_Mo_asked 129 = .ok (.ifCond .le 21, 3) := by decide +kernel
theorem d_Mo_asked_132 : decode b_Mo_asked 132 = .ok (.aload_n 0, 1) := by decide +kernel
theorem d_Mo_asked_133 : decode b_Mo_asked 133 = .ok (.getfield 90, 3) := by decide +kernel
theorem d_Mo_asked_136 : decode b_Mo_asked 136 = .ok (.iload_n 3, 1) := by decide +kernel
theorem d_Mo_asked_137 : decode b_Mo_asked 137 = .ok (.iaload, 1) := by decide +kernel
theorem d_Mo_asked_138 : decode b_Mo_asked 138 = .ok (.iconst 2, 1) := by decide +kernel
theorem d_Mo_asked_139 : decode b_Mo_asked 139 = .ok (.if_icmp .eq 11, 3) := by decide +kernel
theorem d_Mo_asked_142 : decode b_Mo_asked 142 = .ok (.aload_n 0, 1) := by decide +kernel
theorem d_Mo_asked_143 : decode b_Mo_asked 143 = .ok (.iconst 3, 1) := by decide +kernel
theorem d_Mo_asked_144 : decode b_Mo_asked 144 = .ok (.invokevirtual 333, 3) := by decide +kernel
theorem d_Mo_asked_147 : decode b_Mo_asked 147 = .ok (.goto 40, 3) := by decide +kernel
theorem d_Mo_asked_150 : decode b_Mo_asked 150 = .ok (.iload 4, 2) := by decide +kernel
theorem d_Mo_asked_152 : decode b_Mo_asked 152 = .ok (.ifCond .lt 32, 3) := by decide +kernel
theorem d_Mo_asked_155 : decode b_Mo_asked 155 = .ok (.aload_n 0, 1) := by decide +kernel
theorem d_Mo_asked_156 : decode b_Mo_asked 156 = .ok (.iconst 3, 1) := by decide +kernel
theorem d_Mo_asked_157 : decode b_Mo_asked 157 = .ok (.iload 4, 2) := by decide +kernel
theorem d_Mo_asked_159 : decode b_Mo_asked 159 = .ok (.invokevirtual 338, 3) := by decide +kernel
theorem d_Mo_asked_162 : decode b_Mo_asked 162 = .ok (.aload_n 0, 1) := by decide +kernel
theorem d_Mo_asked_163 : decode b_Mo_asked 163 = .ok (.getfield 133, 3) := by decide +kernel
theorem d_Mo_asked_166 : decode b_Mo_asked 166 = .ok (.iload 4, 2) := by decide +kernel
theorem d_Mo_asked_168 : decode b_Mo_asked 168 = .ok (.iconst 3, 1) := by decide +kernel
theorem d_Mo_asked_169 : decode b_Mo_asked 169 = .ok (.iastore, 1) := by decide +kernel
theorem d_Mo_asked_170 : decode b_Mo_asked 170 = .ok (.aload_n 0, 1) := by decide +kernel
theorem d_Mo_asked_171 : decode b_Mo_asked 171 = .ok (.aload_n 0, 1) := by decide +kernel
theorem d_Mo_asked_172 : decode b_Mo_asked 172 = .ok (.getfield 112, 3) := by decide +kernel
theorem d_Mo_asked_175 : decode b_Mo_asked 175 = .ok (.iload 4, 2) := by decide +kernel
theorem d_Mo_asked_177 : decode b_Mo_asked 177 = .ok (.iaload, 1) := by decide +kernel
theorem d_Mo_asked_178 : decode b_Mo_asked 178 = .ok (.putfield 109, 3) := by decide +kernel
theorem d_Mo_asked_181 : decode b_Mo_asked 181 = .ok (.goto 6, 3) := by decide +kernel
theorem d_Mo_asked_184 : decode b_Mo_asked 184 = .ok (.iconst 0, 1) := by decide +kernel
theorem d_Mo_asked_185 : decode b_Mo_asked 185 = .ok (.istore 5, 2) := by decide +kernel
theorem d_Mo_asked_187 : decode b_Mo_asked 187 = .ok (.aload_n 0, 1) := by decide +kernel
theorem d_Mo_asked_188 : decode b_Mo_asked 188 = .ok (.iload 5, 2) := by decide +kernel
theorem d_Mo_asked_190 : decode b_Mo_asked 190 = .ok (.ifCond .eq 8, 3) := by decide +kernel
theorem d_Mo_asked_193 : decode b_Mo_asked 193 = .ok (.bipush 8, 2) := by decide +kernel
theorem d_Mo_asked_195 : decode b_Mo_asked 195 = .ok (.goto 5, 3) := by decide +kernel
theorem d_Mo_asked_198 : decode b_Mo_asked 198 = .ok (.bipush 9, 2) := by decide +kernel
theorem d_Mo_asked_200 : decode b_Mo_asked 200 = .ok (.iload 5, 2) := by decide +kernel
theorem d_Mo_asked_202 : decode b_Mo_asked 202 = .ok (.iconst 1, 1) := by decide +kernel
theorem d_Mo_asked_203 : decode b_Mo_asked 203 = .ok (.invokevirtual 424, 3) := by decide +kernel
theorem d_Mo_asked_206 : decode b_Mo_asked 206 = .ok (.return_, 1) := by decide +kernel
set_option maxRecDepth 100000 in
set_option maxHeartbeats 4000000 in
theorem c_Mo_asked (l : Launch) (D : va_G) (ca : Nat → ClassId) (ad : Nat → Nat) (L : List Nat) (f0 : Nat → va_E) (sz : Nat) (σ0 : mq_S) (hM : mq_B ca ad σ0 L f0) (x1 : Int32) (j2 : Nat) (q2 : j2 ≤ 255) (z1 : Nat) (o0 : σ0.1 56 = nI z1) (hz : z1 ≤ 599) (u0 : IH σ0) :
    Met l y_Mo_asked (Cond.code y_Mo_asked b_Mo_asked 6 none :: wg) { frames := 8, cells := 0, slots := 0, locals := 203 } (va_Pc [.ref (ad 71), .int (x1), .int (nI j2)] (sm_P D cl_all (ty_s ca) ek L f0 sz)) (sm_Qv D (ty_s ca) L f0 sz (fun u => mq_po ca ad L σ0 [9, 10, 11, 13, 14, 15, 16, 18, 19, 22, 23, 24, 25, 30, 31, 32, 33, 34, 39, 40, 41, 42, 43, 45, 46, 47, 48, 49, 50, 51, 52, 54, 55, 56, 57, 58, 59, 60, 61, 62, 63, 64, 65, 66, 67, 68, 69, 70] (fun σ => (∃ n : Nat, z1 ≤ n ∧ n ≤ z1 + 1 ∧ (n = z1 ∨ 5 ≤ j2) ∧ σ.1 56 = nI n) ∧ IH σ ∧ True) u)) 0 0 (va_A (va_pl L f0) sz) := by
  refine sm_start (by decide) (Nat.le_of_ble_eq_true rfl) ?_
  intro p e s m below meth c ls hx hb hml hr hlk hnm hts hown hsz hE hI hl
  have hl : lv_has ls 6 [(0, .ref (ad 71)), (1, .int (x1)), (2, .int (nI j2))] := hl
  have hF : mq_fr [9, 10, 11, 13, 14, 15, 16, 18, 19, 22, 23, 24, 25, 30, 31, 32, 33, 34, 39, 40, 41, 42, 43, 45, 46, 47, 48, 49, 50, 51, 52, 54, 55, 56, 57, 58, 59, 60, 61, 62, 63, 64, 65, 66, 67, 68, 69, 70] σ0 σ0 := mq_fr_rf
  have hJ_187 : ∀ (H : Heap) (locs : List Loc) (f : Nat → va_E) (σ : mq_S) (ls : Array Slot) (y3 : Int32) (y4 : Int32) (y5 : Int32), sw_I D cl_all (ty_s ca) (va_A (va_pl L f0) sz) s H locs L f → mq_B ca ad σ L f → mq_fr [9, 10, 11, 13, 14, 15, 16, 18, 19, 22, 23, 24, 25, 30, 31, 32, 33, 34, 39, 40, 41, 42, 43, 45, 46, 47, 48, 49, 50, 51, 52, 54, 55, 56, 57, 58, 59, 60, 61, 62, 63, 64, 65, 66, 67, 68, 69, 70] σ0 σ → lv_has ls 6 [(0, .ref (ad 71)), (1, .int (x1)), (2, .int (nI j2)), (3, .int (y3)), (4, .int (y4)), (5, .int (y5))] → (y5 = 0 ∨ y5 = 1) → (σ.1 56 = nI (z1)) → (IH σ) → W p l e { frames := 8, cells := 0, slots := 0, locals := 203 } s m ([.ref (ad 71), .int (x1), .int (nI j2)] : List Value).toArray below meth c H locs 0 0 (MQ below (sm_Qv D (ty_s ca) L f0 sz (fun u => mq_po ca ad L σ0 [9, 10, 11, 13, 14, 15, 16, 18, 19, 22, 23, 24, 25, 30, 31, 32, 33, 34, 39, 40, 41, 42, 43, 45, 46, 47, 48, 49, 50, 51, 52, 54, 55, 56, 57, 58, 59, 60, 61, 62, 63, 64, 65, 66, 67, 68, 69, 70] (fun σ => (∃ n : Nat, z1 ≤ n ∧ n ≤ z1 + 1 ∧ (n = z1 ∨ 5 ≤ j2) ∧ σ.1 56 = nI n) ∧ IH σ ∧ True) u)) ([.ref (ad 71), .int (x1), .int (nI j2)] : List Value).toArray s 0 0 (va_A (va_pl L f0) sz)) (F0 m 187 ls []) := by
    intro H locs f σ ls y3 y4 y5 hI hM hF hl py5 o90 u90
    refine lv_aload_n hx hb d_Mo_asked_187 rfl (lv_at hl 0 rfl) ?_
    refine lv_iload hx hb d_Mo_asked_188 (lv_at hl 5 rfl) ?_
    refine lv_if_eq (tgt := 198) hx hb d_Mo_asked_190 (by decide) (fun c_1 => ?_) (fun c_1 => ?_)
    · refine lv_bipush (v := 9) hx hb d_Mo_asked_198 (by decide) ?_
      refine lv_iload hx hb d_Mo_asked_200 (lv_at hl 5 rfl) ?_
      refine lv_iconst (v := 1) hx hb d_Mo_asked_202 (by decide) ?_
      refine sm_vM hI (va_runV (As := [.int (9), .int (y5), .int (1)]) (rest := []) ⟨hx, hb, hml, hown, hts⟩ (c_Mo_reply l D ca ad L _ _ _ hM 9 y5 py5 1 (by decide)) (kv_Mo_reply hts rfl rfl (hts _ tw_1593) ⟨Nat.le_of_ble_eq_true rfl, Nat.le_of_ble_eq_true rfl⟩) (pv_Mo hI hE hM) rfl rfl hl.1 rfl (lv_room (Nat.le_of_ble_eq_true rfl)) d_Mo_asked_203 ⟨Nat.le_of_ble_eq_true rfl, Nat.le_of_ble_eq_true rfl⟩) (fun H locs f σ_3 hI hM hF_4 p_2 => ?_)
      have hF := mq_fr_tr hF hF_4 (by decide)
      have o_5 : σ_3.1 56 = nI (z1) := mq_fi hF_4 (by decide) o90
      have u_6 := IH_fr hF_4 (by decide) u90
      exact sm_vret hx hb hr hlk hI ⟨σ_3, rfl, hM, hF, ⟨⟨(z1), by omega, by omega, by omega, o_5⟩, u_6, trivial⟩⟩ d_Mo_asked_206
    · refine lv_bipush (v := 8) hx hb d_Mo_asked_193 (by decide) ?_
      refine lv_goto (tgt := 200) hx hb d_Mo_asked_195 (by decide) ?_
      refine lv_iload hx hb d_Mo_asked_200 (lv_at hl 5 rfl) ?_
      refine lv_iconst (v := 1) hx hb d_Mo_asked_202 (by decide) ?_
      refine sm_vM hI (va_runV (As := [.int (8), .int (y5), .int (1)]) (rest := []) ⟨hx, hb, hml, hown, hts⟩ (c_Mo_reply l D ca ad L _ _ _ hM 8 y5 py5 1 (by decide)) (kv_Mo_reply hts rfl rfl (hts _ tw_1593) ⟨Nat.le_of_ble_eq_true rfl, Nat.le_of_ble_eq_true rfl⟩) (pv_Mo hI hE hM) rfl rfl hl.1 rfl (lv_room (Nat.le_of_ble_eq_true rfl)) d_Mo_asked_203 ⟨Nat.le_of_ble_eq_true rfl, Nat.le_of_ble_eq_true rfl⟩) (fun H locs f σ_8 hI hM hF_9 p_7 => ?_)
      have hF := mq_fr_tr hF hF_9 (by decide)
      have o_10 : σ_8.1 56 = nI (z1) := mq_fi hF_9 (by decide) o90
      have u_11 := IH_fr hF_9 (by decide) u90
      exact sm_vret hx hb hr hlk hI ⟨σ_8, rfl, hM, hF, ⟨⟨(z1), by omega, by omega, by omega, o_10⟩, u_11, trivial⟩⟩ d_Mo_asked_206
  have hJ_27 : ∀ (H : Heap) (locs : List Loc) (f : Nat → va_E) (σ : mq_S) (ls : Array Slot) , sw_I D cl_all (ty_s ca) (va_A (va_pl L f0) sz) s H locs L f → mq_B ca ad σ L f → mq_fr [9, 10, 11, 13, 14, 15, 16, 18, 19, 22, 23, 24, 25, 30, 31, 32, 33, 34, 39, 40, 41, 42, 43, 45, 46, 47, 48, 49, 50, 51, 52, 54, 55, 56, 57, 58, 59, 60, 61, 62, 63, 64, 65, 66, 67, 68, 69, 70] σ0 σ → lv_has ls 6 [(0, .ref (ad 71)), (1, .int (x1)), (2, .int (nI j2))] → (σ.1 56 = nI (z1)) → (IH σ) → W p l e { frames := 8, cells := 0, slots := 0, locals := 203 } s m ([.ref (ad 71), .int (x1), .int (nI j2)] : List Value).toArray below meth c H locs 0 0 (MQ below (sm_Qv D (ty_s ca) L f0 sz (fun u => mq_po ca ad L σ0 [9, 10, 11, 13, 14, 15, 16, 18, 19, 22, 23, 24, 25, 30, 31, 32, 33, 34, 39, 40, 41, 42, 43, 45, 46, 47, 48, 49, 50, 51, 52, 54, 55, 56, 57, 58, 59, 60, 61, 62, 63, 64, 65, 66, 67, 68, 69, 70] (fun σ => (∃ n : Nat, z1 ≤ n ∧ n ≤ z1 + 1 ∧ (n = z1 ∨ 5 ≤ j2) ∧ σ.1 56 = nI n) ∧ IH σ ∧ True) u)) ([.ref (ad 71), .int (x1), .int (nI j2)] : List Value).toArray s 0 0 (va_A (va_pl L f0) sz)) (F0 m 27 ls []) := by
    intro H locs f σ ls  hI hM hF hl o90 u90
    refine lv_aload_n hx hb d_Mo_asked_27 rfl (lv_at hl 0 rfl) ?_
    refine lv_iconst (v := -1) hx hb d_Mo_asked_28 (by decide) ?_
    refine mq_puti (k := 42) (ty := .int) hx hb hts hown hI hM (by decide) rfl rfl (hts _ tw_1211) rfl (by decide +kernel) rfl rfl trivial d_Mo_asked_29 (fun H locs f σ_12 e_13 hI hM => ?_)
    have hF := mq_fr_ui hF e_13 rfl
    have o_14 : σ_12.1 56 = nI (z1) := by rw [e_13]; exact o90
    have u_15 := IH_fr (mq_fr_ui (X := [42]) mq_fr_rf e_13 rfl) (by decide) u90
    refine lv_aload_n hx hb d_Mo_asked_32 rfl (lv_at hl 0 rfl) ?_
    refine lv_iconst (v := 3) hx hb d_Mo_asked_33 (by decide) ?_
    refine lv_iconst (v := 0) hx hb d_Mo_asked_34 (by decide) ?_
    refine sm_iP hI (va_runV (As := [.int (3), .int (0)]) (rest := []) ⟨hx, hb, hml, hown, hts⟩ (c_Mo_slot l D ca ad L _ _ _ hM (3) (by omega) (0) (by omega)) (kv_Mo_slot hts rfl rfl (hts _ tw_1442) ⟨Nat.le_of_ble_eq_true rfl, Nat.le_of_ble_eq_true rfl⟩) (pv_Mo hI hE hM) rfl rfl hl.1 rfl (lv_room (Nat.le_of_ble_eq_true rfl)) d_Mo_asked_35 ⟨Nat.le_of_ble_eq_true rfl, Nat.le_of_ble_eq_true rfl⟩) (fun x_17 H locs p_16 hI => ?_)
    subst p_16
    refine lv_istore_n (lv' := [(3, .int (nI (3 * 16 + 0))), (0, .ref (ad 71)), (1, .int (x1)), (2, .int (nI j2))]) hx hb d_Mo_asked_38 rfl hl (by decide) rfl (fun ls hl => ?_)
    refine lv_iload_n hx hb d_Mo_asked_39 rfl (lv_at hl 2 rfl) ?_
    refine lv_iconst (v := 3) hx hb d_Mo_asked_40 (by decide) ?_
    refine lv_icmp_ne (tgt := 57) hx hb d_Mo_asked_41 (by decide) (fun c_18 => ?_) (fun c_18 => ?_)
    · refine lv_aload_n hx hb d_Mo_asked_57 rfl (lv_at hl 1 rfl) ?_
      obtain ⟨x_19, e_20⟩ : ∃ z, σ_12.1 54 = z := ⟨_, rfl⟩
      refine mq_get (k := 54) (v := .int (x_19)) hx hb hts hown hI hM (by decide) (congrArg (fun z => some (Value.int z)) e_20) rfl (hts _ tw_1223) d_Mo_asked_58 ?_
      refine lv_iconst (v := 3) hx hb d_Mo_asked_61 (by decide) ?_
      refine lv_icmp_ne (tgt := 72) hx hb d_Mo_asked_62 (by decide) (fun c_21 => ?_) (fun c_21 => ?_)
      · refine lv_iconst (v := -1) hx hb d_Mo_asked_72 (by decide) ?_
        refine lv_istore (lv' := [(4, .int (-1)), (3, .int (nI (3 * 16 + 0))), (0, .ref (ad 71)), (1, .int (x1)), (2, .int (nI j2))]) hx hb d_Mo_asked_73 hl (by decide) rfl (fun ls hl => ?_)
        refine lv_iconst (v := 1) hx hb d_Mo_asked_75 (by decide) ?_
        refine lv_istore (lv' := [(5, .int (1)), (4, .int (-1)), (3, .int (nI (3 * 16 + 0))), (0, .ref (ad 71)), (1, .int (x1)), (2, .int (nI j2))]) hx hb d_Mo_asked_76 hl (by decide) rfl (fun ls hl => ?_)
        refine lv_iload_n hx hb d_Mo_asked_78 rfl (lv_at hl 4 rfl) ?_
        refine lv_bipush (v := 11) hx hb d_Mo_asked_79 (by decide) ?_
        refine lv_icmp_ne (tgt := 123) hx hb d_Mo_asked_81 (by decide) (fun c_22 => ?_) (fun c_22 => ?_)
        · refine lv_aload_n hx hb d_Mo_asked_123 rfl (lv_at hl 3 rfl) ?_
          refine mq_get (k := 30) (v := .ref (ad 30)) hx hb hts hown hI hM (by decide) rfl rfl (hts _ tw_1199) d_Mo_asked_124 ?_
          refine lv_iconst (v := 3) hx hb d_Mo_asked_127 (by decide) ?_
          obtain ⟨n_23, h_24, h_25, e_26⟩ := hM.2.2.2.2.2 30 (3)
          refine mq_iald (k := 30) (j := 3) (v := nI n_23) hx hb hI hM (by decide) rfl (by show 3 < 4; omega) (by decide) e_26 d_Mo_asked_128 ?_
          refine lv_if_le (tgt := 150) hx hb d_Mo_asked_129 (by decide) (fun c_27 => ?_) (fun c_27 => ?_)
          · have k_29 : n_23 = 0 := nz_le c_27 (by omega)
            refine lv_iload hx hb d_Mo_asked_150 (lv_at hl 1 rfl) ?_
            refine lv_if_lt (tgt := 184) hx hb d_Mo_asked_152 (by decide) (fun c_30 => ?_) (fun c_30 => ?_)
            · refine lv_iconst (v := 0) hx hb d_Mo_asked_184 (by decide) ?_
              refine lv_istore (lv' := [(5, .int (0)), (4, .int (-1)), (3, .int (nI (3 * 16 + 0))), (0, .ref (ad 71)), (1, .int (x1)), (2, .int (nI j2))]) hx hb d_Mo_asked_185 hl (by decide) rfl (fun ls hl => ?_)
              exact hJ_187 _ _ _ _ _ (nI (3 * 16 + 0)) (-1) 0 hI hM hF (lv_sub hl [3, 4, 5, 2, 1, 0] rfl) (by decide) (Eq.trans o_14 (congrArg nI (show ((z1) : Nat) = _ by omega))) u_15
            · exact absurd c_30 (by decide)
          · have k_31 : 0 < n_23 := Nat.pos_of_ne_zero (fun q => c_27 (by rw [q]; decide))
            refine lv_aload_n hx hb d_Mo_asked_132 rfl (lv_at hl 3 rfl) ?_
            refine mq_get (k := 33) (v := .ref (ad 33)) hx hb hts hown hI hM (by decide) rfl rfl (hts _ tw_1202) d_Mo_asked_133 ?_
            refine lv_iload_n hx hb d_Mo_asked_136 rfl (lv_at hl 2 rfl) ?_
            obtain ⟨x_32, e_33⟩ : ∃ z, σ_12.2.2.1 33 ((3 * 16 + 0)) = z := ⟨_, rfl⟩
            refine mq_iald (k := 33) (j := (3 * 16 + 0)) (v := x_32) hx hb hI hM (by decide) rfl (by show (3 * 16 + 0) < 64; omega) (by decide) e_33 d_Mo_asked_137 ?_
            refine lv_iconst (v := 2) hx hb d_Mo_asked_138 (by decide) ?_
            refine lv_icmp_eq (tgt := 150) hx hb d_Mo_asked_139 (by decide) (fun c_34 => ?_) (fun c_34 => ?_)
            · refine lv_iload hx hb d_Mo_asked_150 (lv_at hl 1 rfl) ?_
              refine lv_if_lt (tgt := 184) hx hb d_Mo_asked_152 (by decide) (fun c_35 => ?_) (fun c_35 => ?_)
              · refine lv_iconst (v := 0) hx hb d_Mo_asked_184 (by decide) ?_
                refine lv_istore (lv' := [(5, .int (0)), (4, .int (-1)), (3, .int (nI (3 * 16 + 0))), (0, .ref (ad 71)), (1, .int (x1)), (2, .int (nI j2))]) hx hb d_Mo_asked_185 hl (by decide) rfl (fun ls hl => ?_)
                exact hJ_187 _ _ _ _ _ (nI (3 * 16 + 0)) (-1) 0 hI hM hF (lv_sub hl [3, 4, 5, 2, 1, 0] rfl) (by decide) (Eq.trans o_14 (congrArg nI (show ((z1) : Nat) = _ by omega))) u_15
              · exact absurd c_35 (by decide)
            · refine lv_aload_n hx hb d_Mo_asked_142 rfl (lv_at hl 3 rfl) ?_
              refine lv_iconst (v := 3) hx hb d_Mo_asked_143 (by decide) ?_
              refine sm_vM hI (va_runV (As := [.int (3)]) (rest := []) ⟨hx, hb, hml, hown, hts⟩ (c_Mo_answers l D ca ad L _ _ _ hM (3) (by omega) (n_23) e_26 (by omega) (by omega) u_15) (kv_Mo_answers hts rfl rfl (hts _ tw_1496) ⟨Nat.le_of_ble_eq_true rfl, Nat.le_of_ble_eq_true rfl⟩) (pv_Mo hI hE hM) rfl rfl hl.1 rfl (lv_room (Nat.le_of_ble_eq_true rfl)) d_Mo_asked_144 ⟨Nat.le_of_ble_eq_true rfl, Nat.le_of_ble_eq_true rfl⟩) (fun H locs f σ_37 hI hM hF_38 p_36 => ?_)
              have hF := mq_fr_tr hF hF_38 (by decide)
              have o_39 : σ_37.1 56 = nI (z1) := mq_fi hF_38 (by decide) o_14
              obtain ⟨u_40, -⟩ := p_36
              refine lv_goto (tgt := 187) hx hb d_Mo_asked_147 (by decide) ?_
              exact hJ_187 _ _ _ _ _ (nI (3 * 16 + 0)) (-1) 1 hI hM hF (lv_sub hl [3, 4, 5, 2, 1, 0] rfl) (by decide) (Eq.trans o_39 (congrArg nI (show ((z1) : Nat) = _ by omega))) u_40
        · refine lv_aload_n hx hb d_Mo_asked_84 rfl (lv_at hl 3 rfl) ?_
          refine mq_get (k := 30) (v := .ref (ad 30)) hx hb hts hown hI hM (by decide) rfl rfl (hts _ tw_1199) d_Mo_asked_85 ?_
          refine lv_iconst (v := 3) hx hb d_Mo_asked_88 (by decide) ?_
          obtain ⟨n_41, h_42, h_43, e_44⟩ := hM.2.2.2.2.2 30 (3)
          refine mq_iald (k := 30) (j := 3) (v := nI n_41) hx hb hI hM (by decide) rfl (by show 3 < 4; omega) (by decide) e_44 d_Mo_asked_89 ?_
          refine lv_if_le (tgt := 107) hx hb d_Mo_asked_90 (by decide) (fun c_45 => ?_) (fun c_45 => ?_)
          · have k_47 : n_41 = 0 := nz_le c_45 (by omega)
            refine lv_iconst (v := 0) hx hb d_Mo_asked_107 (by decide) ?_
            refine lv_istore (lv' := [(5, .int (0)), (4, .int (-1)), (3, .int (nI (3 * 16 + 0))), (0, .ref (ad 71)), (1, .int (x1)), (2, .int (nI j2))]) hx hb d_Mo_asked_108 hl (by decide) rfl (fun ls hl => ?_)
            refine lv_iload hx hb d_Mo_asked_110 (lv_at hl 0 rfl) ?_
            refine lv_if_eq (tgt := 187) hx hb d_Mo_asked_112 (by decide) (fun c_48 => ?_) (fun c_48 => ?_)
            · exact hJ_187 _ _ _ _ _ (nI (3 * 16 + 0)) (-1) 0 hI hM hF (lv_sub hl [3, 4, 5, 2, 1, 0] rfl) (by decide) (Eq.trans o_14 (congrArg nI (show ((z1) : Nat) = _ by omega))) u_15
            · exact absurd c_48 (by decide)
          · have k_49 : 0 < n_41 := Nat.pos_of_ne_zero (fun q => c_45 (by rw [q]; decide))
            refine lv_aload_n hx hb d_Mo_asked_93 rfl (lv_at hl 3 rfl) ?_
            refine mq_get (k := 33) (v := .ref (ad 33)) hx hb hts hown hI hM (by decide) rfl rfl (hts _ tw_1202) d_Mo_asked_94 ?_
            refine lv_iload_n hx hb d_Mo_asked_97 rfl (lv_at hl 2 rfl) ?_
            obtain ⟨x_50, e_51⟩ : ∃ z, σ_12.2.2.1 33 ((3 * 16 + 0)) = z := ⟨_, rfl⟩
            refine mq_iald (k := 33) (j := (3 * 16 + 0)) (v := x_50) hx hb hI hM (by decide) rfl (by show (3 * 16 + 0) < 64; omega) (by decide) e_51 d_Mo_asked_98 ?_
            refine lv_iconst (v := 2) hx hb d_Mo_asked_99 (by decide) ?_
            refine lv_icmp_ne (tgt := 107) hx hb d_Mo_asked_100 (by decide) (fun c_52 => ?_) (fun c_52 => ?_)
            · refine lv_iconst (v := 0) hx hb d_Mo_asked_107 (by decide) ?_
              refine lv_istore (lv' := [(5, .int (0)), (4, .int (-1)), (3, .int (nI (3 * 16 + 0))), (0, .ref (ad 71)), (1, .int (x1)), (2, .int (nI j2))]) hx hb d_Mo_asked_108 hl (by decide) rfl (fun ls hl => ?_)
              refine lv_iload hx hb d_Mo_asked_110 (lv_at hl 0 rfl) ?_
              refine lv_if_eq (tgt := 187) hx hb d_Mo_asked_112 (by decide) (fun c_53 => ?_) (fun c_53 => ?_)
              · exact hJ_187 _ _ _ _ _ (nI (3 * 16 + 0)) (-1) 0 hI hM hF (lv_sub hl [3, 4, 5, 2, 1, 0] rfl) (by decide) (Eq.trans o_14 (congrArg nI (show ((z1) : Nat) = _ by omega))) u_15
              · exact absurd c_53 (by decide)
            · refine lv_iconst (v := 1) hx hb d_Mo_asked_103 (by decide) ?_
              refine lv_goto (tgt := 108) hx hb d_Mo_asked_104 (by decide) ?_
              refine lv_istore (lv' := [(5, .int (1)), (4, .int (-1)), (3, .int (nI (3 * 16 + 0))), (0, .ref (ad 71)), (1, .int (x1)), (2, .int (nI j2))]) hx hb d_Mo_asked_108 hl (by decide) rfl (fun ls hl => ?_)
              refine lv_iload hx hb d_Mo_asked_110 (lv_at hl 0 rfl) ?_
              refine lv_if_eq (tgt := 187) hx hb d_Mo_asked_112 (by decide) (fun c_54 => ?_) (fun c_54 => ?_)
              · exact absurd c_54 (by decide)
              · refine lv_aload_n hx hb d_Mo_asked_115 rfl (lv_at hl 3 rfl) ?_
                refine lv_iconst (v := 3) hx hb d_Mo_asked_116 (by decide) ?_
                refine sm_vM hI (va_runV (As := [.int (3)]) (rest := []) ⟨hx, hb, hml, hown, hts⟩ (c_Mo_tells l D ca ad L _ _ _ hM (3) (by omega) (n_41) e_44 (by omega) (by omega) (Eq.trans e_51 c_52) u_15) (kv_Mo_tells hts rfl rfl (hts _ tw_1446) ⟨Nat.le_of_ble_eq_true rfl, Nat.le_of_ble_eq_true rfl⟩) (pv_Mo hI hE hM) rfl rfl hl.1 rfl (lv_room (Nat.le_of_ble_eq_true rfl)) d_Mo_asked_117 ⟨Nat.le_of_ble_eq_true rfl, Nat.le_of_ble_eq_true rfl⟩) (fun H locs f σ_56 hI hM hF_57 p_55 => ?_)
                have hF := mq_fr_tr hF hF_57 (by decide)
                have o_58 : σ_56.1 56 = nI (z1) := mq_fi hF_57 (by decide) o_14
                have o_59 : σ_56.2.2.1 30 (3) = nI n_41 := mq_fg hF_57 (by decide) e_44
                obtain ⟨u_60, -⟩ := p_55
                refine lv_goto (tgt := 187) hx hb d_Mo_asked_120 (by decide) ?_
                exact hJ_187 _ _ _ _ _ (nI (3 * 16 + 0)) (-1) 1 hI hM hF (lv_sub hl [3, 4, 5, 2, 1, 0] rfl) (by decide) (Eq.trans o_58 (congrArg nI (show ((z1) : Nat) = _ by omega))) u_60
      · refine lv_aload_n hx hb d_Mo_asked_65 rfl (lv_at hl 1 rfl) ?_
        refine sm_iP hI (va_runV (As := []) (rest := []) ⟨hx, hb, hml, hown, hts⟩ (c_Mo_unsent l D ca ad L _ _ _ hM ) (kv_Mo_unsent hts rfl rfl (hts _ tw_1438) ⟨Nat.le_of_ble_eq_true rfl, Nat.le_of_ble_eq_true rfl⟩) (pv_Mo hI hE hM) rfl rfl hl.1 rfl (lv_room (Nat.le_of_ble_eq_true rfl)) d_Mo_asked_66 ⟨Nat.le_of_ble_eq_true rfl, Nat.le_of_ble_eq_true rfl⟩) (fun x_62 H locs p_61 hI => ?_)
        rcases p_61 with rfl | ⟨n_63, rfl, h_64⟩
        · refine lv_goto (tgt := 73) hx hb d_Mo_asked_69 (by decide) ?_
          refine lv_istore (lv' := [(4, .int (-1)), (3, .int (nI (3 * 16 + 0))), (0, .ref (ad 71)), (1, .int (x1)), (2, .int (nI j2))]) hx hb d_Mo_asked_73 hl (by decide) rfl (fun ls hl => ?_)
          refine lv_iconst (v := 1) hx hb d_Mo_asked_75 (by decide) ?_
          refine lv_istore (lv' := [(5, .int (1)), (4, .int (-1)), (3, .int (nI (3 * 16 + 0))), (0, .ref (ad 71)), (1, .int (x1)), (2, .int (nI j2))]) hx hb d_Mo_asked_76 hl (by decide) rfl (fun ls hl => ?_)
          refine lv_iload_n hx hb d_Mo_asked_78 rfl (lv_at hl 4 rfl) ?_
          refine lv_bipush (v := 11) hx hb d_Mo_asked_79 (by decide) ?_
          refine lv_icmp_ne (tgt := 123) hx hb d_Mo_asked_81 (by decide) (fun c_65 => ?_) (fun c_65 => ?_)
          · refine lv_aload_n hx hb d_Mo_asked_123 rfl (lv_at hl 3 rfl) ?_
            refine mq_get (k := 30) (v := .ref (ad 30)) hx hb hts hown hI hM (by decide) rfl rfl (hts _ tw_1199) d_Mo_asked_124 ?_
            refine lv_iconst (v := 3) hx hb d_Mo_asked_127 (by decide) ?_
            obtain ⟨n_66, h_67, h_68, e_69⟩ := hM.2.2.2.2.2 30 (3)
            refine mq_iald (k := 30) (j := 3) (v := nI n_66) hx hb hI hM (by decide) rfl (by show 3 < 4; omega) (by decide) e_69 d_Mo_asked_128 ?_
            refine lv_if_le (tgt := 150) hx hb d_Mo_asked_129 (by decide) (fun c_70 => ?_) (fun c_70 => ?_)
            · have k_72 : n_66 = 0 := nz_le c_70 (by omega)
              refine lv_iload hx hb d_Mo_asked_150 (lv_at hl 1 rfl) ?_
              refine lv_if_lt (tgt := 184) hx hb d_Mo_asked_152 (by decide) (fun c_73 => ?_) (fun c_73 => ?_)
              · refine lv_iconst (v := 0) hx hb d_Mo_asked_184 (by decide) ?_
                refine lv_istore (lv' := [(5, .int (0)), (4, .int (-1)), (3, .int (nI (3 * 16 + 0))), (0, .ref (ad 71)), (1, .int (x1)), (2, .int (nI j2))]) hx hb d_Mo_asked_185 hl (by decide) rfl (fun ls hl => ?_)
                exact hJ_187 _ _ _ _ _ (nI (3 * 16 + 0)) (-1) 0 hI hM hF (lv_sub hl [3, 4, 5, 2, 1, 0] rfl) (by decide) (Eq.trans o_14 (congrArg nI (show ((z1) : Nat) = _ by omega))) u_15
              · exact absurd c_73 (by decide)
            · have k_74 : 0 < n_66 := Nat.pos_of_ne_zero (fun q => c_70 (by rw [q]; decide))
              refine lv_aload_n hx hb d_Mo_asked_132 rfl (lv_at hl 3 rfl) ?_
              refine mq_get (k := 33) (v := .ref (ad 33)) hx hb hts hown hI hM (by decide) rfl rfl (hts _ tw_1202) d_Mo_asked_133 ?_
              refine lv_iload_n hx hb d_Mo_asked_136 rfl (lv_at hl 2 rfl) ?_
              obtain ⟨x_75, e_76⟩ : ∃ z, σ_12.2.2.1 33 ((3 * 16 + 0)) = z := ⟨_, rfl⟩
              refine mq_iald (k := 33) (j := (3 * 16 + 0)) (v := x_75) hx hb hI hM (by decide) rfl (by show (3 * 16 + 0) < 64; omega) (by decide) e_76 d_Mo_asked_137 ?_
              refine lv_iconst (v := 2) hx hb d_Mo_asked_138 (by decide) ?_
              refine lv_icmp_eq (tgt := 150) hx hb d_Mo_asked_139 (by decide) (fun c_77 => ?_) (fun c_77 => ?_)
              · refine lv_iload hx hb d_Mo_asked_150 (lv_at hl 1 rfl) ?_
                refine lv_if_lt (tgt := 184) hx hb d_Mo_asked_152 (by decide) (fun c_78 => ?_) (fun c_78 => ?_)
                · refine lv_iconst (v := 0) hx hb d_Mo_asked_184 (by decide) ?_
                  refine lv_istore (lv' := [(5, .int (0)), (4, .int (-1)), (3, .int (nI (3 * 16 + 0))), (0, .ref (ad 71)), (1, .int (x1)), (2, .int (nI j2))]) hx hb d_Mo_asked_185 hl (by decide) rfl (fun ls hl => ?_)
                  exact hJ_187 _ _ _ _ _ (nI (3 * 16 + 0)) (-1) 0 hI hM hF (lv_sub hl [3, 4, 5, 2, 1, 0] rfl) (by decide) (Eq.trans o_14 (congrArg nI (show ((z1) : Nat) = _ by omega))) u_15
                · exact absurd c_78 (by decide)
              · refine lv_aload_n hx hb d_Mo_asked_142 rfl (lv_at hl 3 rfl) ?_
                refine lv_iconst (v := 3) hx hb d_Mo_asked_143 (by decide) ?_
                refine sm_vM hI (va_runV (As := [.int (3)]) (rest := []) ⟨hx, hb, hml, hown, hts⟩ (c_Mo_answers l D ca ad L _ _ _ hM (3) (by omega) (n_66) e_69 (by omega) (by omega) u_15) (kv_Mo_answers hts rfl rfl (hts _ tw_1496) ⟨Nat.le_of_ble_eq_true rfl, Nat.le_of_ble_eq_true rfl⟩) (pv_Mo hI hE hM) rfl rfl hl.1 rfl (lv_room (Nat.le_of_ble_eq_true rfl)) d_Mo_asked_144 ⟨Nat.le_of_ble_eq_true rfl, Nat.le_of_ble_eq_true rfl⟩) (fun H locs f σ_80 hI hM hF_81 p_79 => ?_)
                have hF := mq_fr_tr hF hF_81 (by decide)
                have o_82 : σ_80.1 56 = nI (z1) := mq_fi hF_81 (by decide) o_14
                obtain ⟨u_83, -⟩ := p_79
                refine lv_goto (tgt := 187) hx hb d_Mo_asked_147 (by decide) ?_
                exact hJ_187 _ _ _ _ _ (nI (3 * 16 + 0)) (-1) 1 hI hM hF (lv_sub hl [3, 4, 5, 2, 1, 0] rfl) (by decide) (Eq.trans o_82 (congrArg nI (show ((z1) : Nat) = _ by omega))) u_83
          · refine lv_aload_n hx hb d_Mo_asked_84 rfl (lv_at hl 3 rfl) ?_
            refine mq_get (k := 30) (v := .ref (ad 30)) hx hb hts hown hI hM (by decide) rfl rfl (hts _ tw_1199) d_Mo_asked_85 ?_
            refine lv_iconst (v := 3) hx hb d_Mo_asked_88 (by decide) ?_
            obtain ⟨n_84, h_85, h_86, e_87⟩ := hM.2.2.2.2.2 30 (3)
            refine mq_iald (k := 30) (j := 3) (v := nI n_84) hx hb hI hM (by decide) rfl (by show 3 < 4; omega) (by decide) e_87 d_Mo_asked_89 ?_
            refine lv_if_le (tgt := 107) hx hb d_Mo_asked_90 (by decide) (fun c_88 => ?_) (fun c_88 => ?_)
            · have k_90 : n_84 = 0 := nz_le c_88 (by omega)
              refine lv_iconst (v := 0) hx hb d_Mo_asked_107 (by decide) ?_
              refine lv_istore (lv' := [(5, .int (0)), (4, .int (-1)), (3, .int (nI (3 * 16 + 0))), (0, .ref (ad 71)), (1, .int (x1)), (2, .int (nI j2))]) hx hb d_Mo_asked_108 hl (by decide) rfl (fun ls hl => ?_)
              refine lv_iload hx hb d_Mo_asked_110 (lv_at hl 0 rfl) ?_
              refine lv_if_eq (tgt := 187) hx hb d_Mo_asked_112 (by decide) (fun c_91 => ?_) (fun c_91 => ?_)
              · exact hJ_187 _ _ _ _ _ (nI (3 * 16 + 0)) (-1) 0 hI hM hF (lv_sub hl [3, 4, 5, 2, 1, 0] rfl) (by decide) (Eq.trans o_14 (congrArg nI (show ((z1) : Nat) = _ by omega))) u_15
              · exact absurd c_91 (by decide)
            · have k_92 : 0 < n_84 := Nat.pos_of_ne_zero (fun q => c_88 (by rw [q]; decide))
              refine lv_aload_n hx hb d_Mo_asked_93 rfl (lv_at hl 3 rfl) ?_
              refine mq_get (k := 33) (v := .ref (ad 33)) hx hb hts hown hI hM (by decide) rfl rfl (hts _ tw_1202) d_Mo_asked_94 ?_
              refine lv_iload_n hx hb d_Mo_asked_97 rfl (lv_at hl 2 rfl) ?_
              obtain ⟨x_93, e_94⟩ : ∃ z, σ_12.2.2.1 33 ((3 * 16 + 0)) = z := ⟨_, rfl⟩
              refine mq_iald (k := 33) (j := (3 * 16 + 0)) (v := x_93) hx hb hI hM (by decide) rfl (by show (3 * 16 + 0) < 64; omega) (by decide) e_94 d_Mo_asked_98 ?_
              refine lv_iconst (v := 2) hx hb d_Mo_asked_99 (by decide) ?_
              refine lv_icmp_ne (tgt := 107) hx hb d_Mo_asked_100 (by decide) (fun c_95 => ?_) (fun c_95 => ?_)
              · refine lv_iconst (v := 0) hx hb d_Mo_asked_107 (by decide) ?_
                refine lv_istore (lv' := [(5, .int (0)), (4, .int (-1)), (3, .int (nI (3 * 16 + 0))), (0, .ref (ad 71)), (1, .int (x1)), (2, .int (nI j2))]) hx hb d_Mo_asked_108 hl (by decide) rfl (fun ls hl => ?_)
                refine lv_iload hx hb d_Mo_asked_110 (lv_at hl 0 rfl) ?_
                refine lv_if_eq (tgt := 187) hx hb d_Mo_asked_112 (by decide) (fun c_96 => ?_) (fun c_96 => ?_)
                · exact hJ_187 _ _ _ _ _ (nI (3 * 16 + 0)) (-1) 0 hI hM hF (lv_sub hl [3, 4, 5, 2, 1, 0] rfl) (by decide) (Eq.trans o_14 (congrArg nI (show ((z1) : Nat) = _ by omega))) u_15
                · exact absurd c_96 (by decide)
              · refine lv_iconst (v := 1) hx hb d_Mo_asked_103 (by decide) ?_
                refine lv_goto (tgt := 108) hx hb d_Mo_asked_104 (by decide) ?_
                refine lv_istore (lv' := [(5, .int (1)), (4, .int (-1)), (3, .int (nI (3 * 16 + 0))), (0, .ref (ad 71)), (1, .int (x1)), (2, .int (nI j2))]) hx hb d_Mo_asked_108 hl (by decide) rfl (fun ls hl => ?_)
                refine lv_iload hx hb d_Mo_asked_110 (lv_at hl 0 rfl) ?_
                refine lv_if_eq (tgt := 187) hx hb d_Mo_asked_112 (by decide) (fun c_97 => ?_) (fun c_97 => ?_)
                · exact absurd c_97 (by decide)
                · refine lv_aload_n hx hb d_Mo_asked_115 rfl (lv_at hl 3 rfl) ?_
                  refine lv_iconst (v := 3) hx hb d_Mo_asked_116 (by decide) ?_
                  refine sm_vM hI (va_runV (As := [.int (3)]) (rest := []) ⟨hx, hb, hml, hown, hts⟩ (c_Mo_tells l D ca ad L _ _ _ hM (3) (by omega) (n_84) e_87 (by omega) (by omega) (Eq.trans e_94 c_95) u_15) (kv_Mo_tells hts rfl rfl (hts _ tw_1446) ⟨Nat.le_of_ble_eq_true rfl, Nat.le_of_ble_eq_true rfl⟩) (pv_Mo hI hE hM) rfl rfl hl.1 rfl (lv_room (Nat.le_of_ble_eq_true rfl)) d_Mo_asked_117 ⟨Nat.le_of_ble_eq_true rfl, Nat.le_of_ble_eq_true rfl⟩) (fun H locs f σ_99 hI hM hF_100 p_98 => ?_)
                  have hF := mq_fr_tr hF hF_100 (by decide)
                  have o_101 : σ_99.1 56 = nI (z1) := mq_fi hF_100 (by decide) o_14
                  have o_102 : σ_99.2.2.1 30 (3) = nI n_84 := mq_fg hF_100 (by decide) e_87
                  obtain ⟨u_103, -⟩ := p_98
                  refine lv_goto (tgt := 187) hx hb d_Mo_asked_120 (by decide) ?_
                  exact hJ_187 _ _ _ _ _ (nI (3 * 16 + 0)) (-1) 1 hI hM hF (lv_sub hl [3, 4, 5, 2, 1, 0] rfl) (by decide) (Eq.trans o_101 (congrArg nI (show ((z1) : Nat) = _ by omega))) u_103
        · refine lv_goto (tgt := 73) hx hb d_Mo_asked_69 (by decide) ?_
          refine lv_istore (lv' := [(4, .int (nI n_63)), (3, .int (nI (3 * 16 + 0))), (0, .ref (ad 71)), (1, .int (x1)), (2, .int (nI j2))]) hx hb d_Mo_asked_73 hl (by decide) rfl (fun ls hl => ?_)
          refine lv_iconst (v := 1) hx hb d_Mo_asked_75 (by decide) ?_
          refine lv_istore (lv' := [(5, .int (1)), (4, .int (nI n_63)), (3, .int (nI (3 * 16 + 0))), (0, .ref (ad 71)), (1, .int (x1)), (2, .int (nI j2))]) hx hb d_Mo_asked_76 hl (by decide) rfl (fun ls hl => ?_)
          refine lv_iload_n hx hb d_Mo_asked_78 rfl (lv_at hl 4 rfl) ?_
          refine lv_bipush (v := 11) hx hb d_Mo_asked_79 (by decide) ?_
          refine lv_icmp_ne (tgt := 123) hx hb d_Mo_asked_81 (by decide) (fun c_104 => ?_) (fun c_104 => ?_)
          · refine lv_aload_n hx hb d_Mo_asked_123 rfl (lv_at hl 3 rfl) ?_
            refine mq_get (k := 30) (v := .ref (ad 30)) hx hb hts hown hI hM (by decide) rfl rfl (hts _ tw_1199) d_Mo_asked_124 ?_
            refine lv_iconst (v := 3) hx hb d_Mo_asked_127 (by decide) ?_
            obtain ⟨n_105, h_106, h_107, e_108⟩ := hM.2.2.2.2.2 30 (3)
            refine mq_iald (k := 30) (j := 3) (v := nI n_105) hx hb hI hM (by decide) rfl (by show 3 < 4; omega) (by decide) e_108 d_Mo_asked_128 ?_
            refine lv_if_le (tgt := 150) hx hb d_Mo_asked_129 (by decide) (fun c_109 => ?_) (fun c_109 => ?_)
            · have k_111 : n_105 = 0 := nz_le c_109 (by omega)
              refine lv_iload hx hb d_Mo_asked_150 (lv_at hl 1 rfl) ?_
              refine lv_if_lt (tgt := 184) hx hb d_Mo_asked_152 (by decide) (fun c_112 => ?_) (fun c_112 => ?_)
              · exact absurd c_112 (nI_pos (by omega))
              · refine lv_aload_n hx hb d_Mo_asked_155 rfl (lv_at hl 3 rfl) ?_
                refine lv_iconst (v := 3) hx hb d_Mo_asked_156 (by decide) ?_
                refine lv_iload hx hb d_Mo_asked_157 (lv_at hl 1 rfl) ?_
                refine sm_vM hI (va_runV (As := [.int (3), .int (nI n_63)]) (rest := []) ⟨hx, hb, hml, hown, hts⟩ (c_Mo_eventAsdu l D ca ad L _ _ _ hM (3) (by omega) (n_63) (by omega)) (kv_Mo_eventAsdu hts rfl rfl (hts _ tw_1521) ⟨Nat.le_of_ble_eq_true rfl, Nat.le_of_ble_eq_true rfl⟩) (pv_Mo hI hE hM) rfl rfl hl.1 rfl (lv_room (Nat.le_of_ble_eq_true rfl)) d_Mo_asked_159 ⟨Nat.le_of_ble_eq_true rfl, Nat.le_of_ble_eq_true rfl⟩) (fun H locs f σ_115 hI hM hF_116 p_114 => ?_)
                have hF := mq_fr_tr hF hF_116 (by decide)
                have o_117 : σ_115.1 56 = nI (z1) := mq_fi hF_116 (by decide) o_14
                have o_118 : σ_115.2.2.1 30 (3) = nI n_105 := mq_fg hF_116 (by decide) e_108
                have u_119 := IH_fr hF_116 (by decide) u_15
                obtain ⟨⟨n_121, h_122, h_123, o_120⟩, -⟩ := p_114
                refine lv_aload_n hx hb d_Mo_asked_162 rfl (lv_at hl 3 rfl) ?_
                refine mq_get (k := 52) (v := .ref (ad 52)) hx hb hts hown hI hM (by decide) rfl rfl (hts _ tw_1221) d_Mo_asked_163 ?_
                refine lv_iload hx hb d_Mo_asked_166 (lv_at hl 1 rfl) ?_
                refine lv_iconst (v := 3) hx hb d_Mo_asked_168 (by decide) ?_
                refine mq_iast (k := 52) (j := n_63) (x := 3) hx hb hI hM (by decide) rfl (by show n_63 < 48; omega) (by decide) trivial d_Mo_asked_169 (fun H locs f σ_124 e_125 hI hM => ?_)
                have hF := mq_fr_ug hF e_125 rfl (Or.inl rfl)
                have o_126 : σ_124.1 56 = nI (z1) := by rw [e_125]; exact o_117
                have o_127 : σ_124.2.2.1 30 (3) = nI n_105 := by rw [e_125]; exact o_118
                have o_128 : σ_124.1 70 = nI n_121 := by rw [e_125]; exact o_120
                have u_129 := IH_fr (mq_fr_ug (X := [52]) mq_fr_rf e_125 rfl (Or.inl rfl)) (by decide) u_119
                refine lv_aload_n hx hb d_Mo_asked_170 rfl (lv_at hl 3 rfl) ?_
                refine lv_aload_n hx hb d_Mo_asked_171 rfl (lv_at hl 3 rfl) ?_
                refine mq_get (k := 45) (v := .ref (ad 45)) hx hb hts hown hI hM (by decide) rfl rfl (hts _ tw_1214) d_Mo_asked_172 ?_
                refine lv_iload hx hb d_Mo_asked_175 (lv_at hl 1 rfl) ?_
                obtain ⟨x_130, e_131⟩ : ∃ z, σ_124.2.2.1 45 (n_63) = z := ⟨_, rfl⟩
                refine mq_iald (k := 45) (j := n_63) (v := x_130) hx hb hI hM (by decide) rfl (by show n_63 < 48; omega) (by decide) e_131 d_Mo_asked_177 ?_
                refine mq_puti (k := 42) (ty := .int) hx hb hts hown hI hM (by decide) rfl rfl (hts _ tw_1211) rfl (by decide +kernel) rfl rfl trivial d_Mo_asked_178 (fun H locs f σ_132 e_133 hI hM => ?_)
                have hF := mq_fr_ui hF e_133 rfl
                have o_134 : σ_132.1 56 = nI (z1) := by rw [e_133]; exact o_126
                have o_135 : σ_132.2.2.1 30 (3) = nI n_105 := by rw [e_133]; exact o_127
                have o_136 : σ_132.1 70 = nI n_121 := by rw [e_133]; exact o_128
                have u_137 := IH_fr (mq_fr_ui (X := [42]) mq_fr_rf e_133 rfl) (by decide) u_129
                refine lv_goto (tgt := 187) hx hb d_Mo_asked_181 (by decide) ?_
                exact hJ_187 _ _ _ _ _ (nI (3 * 16 + 0)) (nI n_63) 1 hI hM hF (lv_sub hl [3, 4, 5, 2, 1, 0] rfl) (by decide) (Eq.trans o_134 (congrArg nI (show ((z1) : Nat) = _ by omega))) u_137
            · have k_138 : 0 < n_105 := Nat.pos_of_ne_zero (fun q => c_109 (by rw [q]; decide))
              refine lv_aload_n hx hb d_Mo_asked_132 rfl (lv_at hl 3 rfl) ?_
              refine mq_get (k := 33) (v := .ref (ad 33)) hx hb hts hown hI hM (by decide) rfl rfl (hts _ tw_1202) d_Mo_asked_133 ?_
              refine lv_iload_n hx hb d_Mo_asked_136 rfl (lv_at hl 2 rfl) ?_
              obtain ⟨x_139, e_140⟩ : ∃ z, σ_12.2.2.1 33 ((3 * 16 + 0)) = z := ⟨_, rfl⟩
              refine mq_iald (k := 33) (j := (3 * 16 + 0)) (v := x_139) hx hb hI hM (by decide) rfl (by show (3 * 16 + 0) < 64; omega) (by decide) e_140 d_Mo_asked_137 ?_
              refine lv_iconst (v := 2) hx hb d_Mo_asked_138 (by decide) ?_
              refine lv_icmp_eq (tgt := 150) hx hb d_Mo_asked_139 (by decide) (fun c_141 => ?_) (fun c_141 => ?_)
              · refine lv_iload hx hb d_Mo_asked_150 (lv_at hl 1 rfl) ?_
                refine lv_if_lt (tgt := 184) hx hb d_Mo_asked_152 (by decide) (fun c_142 => ?_) (fun c_142 => ?_)
                · exact absurd c_142 (nI_pos (by omega))
                · refine lv_aload_n hx hb d_Mo_asked_155 rfl (lv_at hl 3 rfl) ?_
                  refine lv_iconst (v := 3) hx hb d_Mo_asked_156 (by decide) ?_
                  refine lv_iload hx hb d_Mo_asked_157 (lv_at hl 1 rfl) ?_
                  refine sm_vM hI (va_runV (As := [.int (3), .int (nI n_63)]) (rest := []) ⟨hx, hb, hml, hown, hts⟩ (c_Mo_eventAsdu l D ca ad L _ _ _ hM (3) (by omega) (n_63) (by omega)) (kv_Mo_eventAsdu hts rfl rfl (hts _ tw_1521) ⟨Nat.le_of_ble_eq_true rfl, Nat.le_of_ble_eq_true rfl⟩) (pv_Mo hI hE hM) rfl rfl hl.1 rfl (lv_room (Nat.le_of_ble_eq_true rfl)) d_Mo_asked_159 ⟨Nat.le_of_ble_eq_true rfl, Nat.le_of_ble_eq_true rfl⟩) (fun H locs f σ_145 hI hM hF_146 p_144 => ?_)
                  have hF := mq_fr_tr hF hF_146 (by decide)
                  have o_147 : σ_145.1 56 = nI (z1) := mq_fi hF_146 (by decide) o_14
                  have o_148 : σ_145.2.2.1 30 (3) = nI n_105 := mq_fg hF_146 (by decide) e_108
                  have u_149 := IH_fr hF_146 (by decide) u_15
                  obtain ⟨⟨n_151, h_152, h_153, o_150⟩, -⟩ := p_144
                  refine lv_aload_n hx hb d_Mo_asked_162 rfl (lv_at hl 3 rfl) ?_
                  refine mq_get (k := 52) (v := .ref (ad 52)) hx hb hts hown hI hM (by decide) rfl rfl (hts _ tw_1221) d_Mo_asked_163 ?_
                  refine lv_iload hx hb d_Mo_asked_166 (lv_at hl 1 rfl) ?_
                  refine lv_iconst (v := 3) hx hb d_Mo_asked_168 (by decide) ?_
                  refine mq_iast (k := 52) (j := n_63) (x := 3) hx hb hI hM (by decide) rfl (by show n_63 < 48; omega) (by decide) trivial d_Mo_asked_169 (fun H locs f σ_154 e_155 hI hM => ?_)
                  have hF := mq_fr_ug hF e_155 rfl (Or.inl rfl)
                  have o_156 : σ_154.1 56 = nI (z1) := by rw [e_155]; exact o_147
                  have o_157 : σ_154.2.2.1 30 (3) = nI n_105 := by rw [e_155]; exact o_148
                  have o_158 : σ_154.1 70 = nI n_151 := by rw [e_155]; exact o_150
                  have u_159 := IH_fr (mq_fr_ug (X := [52]) mq_fr_rf e_155 rfl (Or.inl rfl)) (by decide) u_149
                  refine lv_aload_n hx hb d_Mo_asked_170 rfl (lv_at hl 3 rfl) ?_
                  refine lv_aload_n hx hb d_Mo_asked_171 rfl (lv_at hl 3 rfl) ?_
                  refine mq_get (k := 45) (v := .ref (ad 45)) hx hb hts hown hI hM (by decide) rfl rfl (hts _ tw_1214) d_Mo_asked_172 ?_
                  refine lv_iload hx hb d_Mo_asked_175 (lv_at hl 1 rfl) ?_
                  obtain ⟨x_160, e_161⟩ : ∃ z, σ_154.2.2.1 45 (n_63) = z := ⟨_, rfl⟩
                  refine mq_iald (k := 45) (j := n_63) (v := x_160) hx hb hI hM (by decide) rfl (by show n_63 < 48; omega) (by decide) e_161 d_Mo_asked_177 ?_
                  refine mq_puti (k := 42) (ty := .int) hx hb hts hown hI hM (by decide) rfl rfl (hts _ tw_1211) rfl (by decide +kernel) rfl rfl trivial d_Mo_asked_178 (fun H locs f σ_162 e_163 hI hM => ?_)
                  have hF := mq_fr_ui hF e_163 rfl
                  have o_164 : σ_162.1 56 = nI (z1) := by rw [e_163]; exact o_156
                  have o_165 : σ_162.2.2.1 30 (3) = nI n_105 := by rw [e_163]; exact o_157
                  have o_166 : σ_162.1 70 = nI n_151 := by rw [e_163]; exact o_158
                  have u_167 := IH_fr (mq_fr_ui (X := [42]) mq_fr_rf e_163 rfl) (by decide) u_159
                  refine lv_goto (tgt := 187) hx hb d_Mo_asked_181 (by decide) ?_
                  exact hJ_187 _ _ _ _ _ (nI (3 * 16 + 0)) (nI n_63) 1 hI hM hF (lv_sub hl [3, 4, 5, 2, 1, 0] rfl) (by decide) (Eq.trans o_164 (congrArg nI (show ((z1) : Nat) = _ by omega))) u_167
              · refine lv_aload_n hx hb d_Mo_asked_142 rfl (lv_at hl 3 rfl) ?_
                refine lv_iconst (v := 3) hx hb d_Mo_asked_143 (by decide) ?_
                refine sm_vM hI (va_runV (As := [.int (3)]) (rest := []) ⟨hx, hb, hml, hown, hts⟩ (c_Mo_answers l D ca ad L _ _ _ hM (3) (by omega) (n_105) e_108 (by omega) (by omega) u_15) (kv_Mo_answers hts rfl rfl (hts _ tw_1496) ⟨Nat.le_of_ble_eq_true rfl, Nat.le_of_ble_eq_true rfl⟩) (pv_Mo hI hE hM) rfl rfl hl.1 rfl (lv_room (Nat.le_of_ble_eq_true rfl)) d_Mo_asked_144 ⟨Nat.le_of_ble_eq_true rfl, Nat.le_of_ble_eq_true rfl⟩) (fun H locs f σ_169 hI hM hF_170 p_168 => ?_)
                have hF := mq_fr_tr hF hF_170 (by decide)
                have o_171 : σ_169.1 56 = nI (z1) := mq_fi hF_170 (by decide) o_14
                obtain ⟨u_172, -⟩ := p_168
                refine lv_goto (tgt := 187) hx hb d_Mo_asked_147 (by decide) ?_
                exact hJ_187 _ _ _ _ _ (nI (3 * 16 + 0)) (nI n_63) 1 hI hM hF (lv_sub hl [3, 4, 5, 2, 1, 0] rfl) (by decide) (Eq.trans o_171 (congrArg nI (show ((z1) : Nat) = _ by omega))) u_172
          · refine lv_aload_n hx hb d_Mo_asked_84 rfl (lv_at hl 3 rfl) ?_
            refine mq_get (k := 30) (v := .ref (ad 30)) hx hb hts hown hI hM (by decide) rfl rfl (hts _ tw_1199) d_Mo_asked_85 ?_
            refine lv_iconst (v := 3) hx hb d_Mo_asked_88 (by decide) ?_
            obtain ⟨n_173, h_174, h_175, e_176⟩ := hM.2.2.2.2.2 30 (3)
            refine mq_iald (k := 30) (j := 3) (v := nI n_173) hx hb hI hM (by decide) rfl (by show 3 < 4; omega) (by decide) e_176 d_Mo_asked_89 ?_
            refine lv_if_le (tgt := 107) hx hb d_Mo_asked_90 (by decide) (fun c_177 => ?_) (fun c_177 => ?_)
            · have k_179 : n_173 = 0 := nz_le c_177 (by omega)
              refine lv_iconst (v := 0) hx hb d_Mo_asked_107 (by decide) ?_
              refine lv_istore (lv' := [(5, .int (0)), (4, .int (nI n_63)), (3, .int (nI (3 * 16 + 0))), (0, .ref (ad 71)), (1, .int (x1)), (2, .int (nI j2))]) hx hb d_Mo_asked_108 hl (by decide) rfl (fun ls hl => ?_)
              refine lv_iload hx hb d_Mo_asked_110 (lv_at hl 0 rfl) ?_
              refine lv_if_eq (tgt := 187) hx hb d_Mo_asked_112 (by decide) (fun c_180 => ?_) (fun c_180 => ?_)
              · exact hJ_187 _ _ _ _ _ (nI (3 * 16 + 0)) (nI n_63) 0 hI hM hF (lv_sub hl [3, 4, 5, 2, 1, 0] rfl) (by decide) (Eq.trans o_14 (congrArg nI (show ((z1) : Nat) = _ by omega))) u_15
              · exact absurd c_180 (by decide)
            · have k_181 : 0 < n_173 := Nat.pos_of_ne_zero (fun q => c_177 (by rw [q]; decide))
              refine lv_aload_n hx hb d_Mo_asked_93 rfl (lv_at hl 3 rfl) ?_
              refine mq_get (k := 33) (v := .ref (ad 33)) hx hb hts hown hI hM (by decide) rfl rfl (hts _ tw_1202) d_Mo_asked_94 ?_
              refine lv_iload_n hx hb d_Mo_asked_97 rfl (lv_at hl 2 rfl) ?_
              obtain ⟨x_182, e_183⟩ : ∃ z, σ_12.2.2.1 33 ((3 * 16 + 0)) = z := ⟨_, rfl⟩
              refine mq_iald (k := 33) (j := (3 * 16 + 0)) (v := x_182) hx hb hI hM (by decide) rfl (by show (3 * 16 + 0) < 64; omega) (by decide) e_183 d_Mo_asked_98 ?_
              refine lv_iconst (v := 2) hx hb d_Mo_asked_99 (by decide) ?_
              refine lv_icmp_ne (tgt := 107) hx hb d_Mo_asked_100 (by decide) (fun c_184 => ?_) (fun c_184 => ?_)
              · refine lv_iconst (v := 0) hx hb d_Mo_asked_107 (by decide) ?_
                refine lv_istore (lv' := [(5, .int (0)), (4, .int (nI n_63)), (3, .int (nI (3 * 16 + 0))), (0, .ref (ad 71)), (1, .int (x1)), (2, .int (nI j2))]) hx hb d_Mo_asked_108 hl (by decide) rfl (fun ls hl => ?_)
                refine lv_iload hx hb d_Mo_asked_110 (lv_at hl 0 rfl) ?_
                refine lv_if_eq (tgt := 187) hx hb d_Mo_asked_112 (by decide) (fun c_185 => ?_) (fun c_185 => ?_)
                · exact hJ_187 _ _ _ _ _ (nI (3 * 16 + 0)) (nI n_63) 0 hI hM hF (lv_sub hl [3, 4, 5, 2, 1, 0] rfl) (by decide) (Eq.trans o_14 (congrArg nI (show ((z1) : Nat) = _ by omega))) u_15
                · exact absurd c_185 (by decide)
              · refine lv_iconst (v := 1) hx hb d_Mo_asked_103 (by decide) ?_
                refine lv_goto (tgt := 108) hx hb d_Mo_asked_104 (by decide) ?_
                refine lv_istore (lv' := [(5, .int (1)), (4, .int (nI n_63)), (3, .int (nI (3 * 16 + 0))), (0, .ref (ad 71)), (1, .int (x1)), (2, .int (nI j2))]) hx hb d_Mo_asked_108 hl (by decide) rfl (fun ls hl => ?_)
                refine lv_iload hx hb d_Mo_asked_110 (lv_at hl 0 rfl) ?_
                refine lv_if_eq (tgt := 187) hx hb d_Mo_asked_112 (by decide) (fun c_186 => ?_) (fun c_186 => ?_)
                · exact absurd c_186 (by decide)
                · refine lv_aload_n hx hb d_Mo_asked_115 rfl (lv_at hl 3 rfl) ?_
                  refine lv_iconst (v := 3) hx hb d_Mo_asked_116 (by decide) ?_
                  refine sm_vM hI (va_runV (As := [.int (3)]) (rest := []) ⟨hx, hb, hml, hown, hts⟩ (c_Mo_tells l D ca ad L _ _ _ hM (3) (by omega) (n_173) e_176 (by omega) (by omega) (Eq.trans e_183 c_184) u_15) (kv_Mo_tells hts rfl rfl (hts _ tw_1446) ⟨Nat.le_of_ble_eq_true rfl, Nat.le_of_ble_eq_true rfl⟩) (pv_Mo hI hE hM) rfl rfl hl.1 rfl (lv_room (Nat.le_of_ble_eq_true rfl)) d_Mo_asked_117 ⟨Nat.le_of_ble_eq_true rfl, Nat.le_of_ble_eq_true rfl⟩) (fun H locs f σ_188 hI hM hF_189 p_187 => ?_)
                  have hF := mq_fr_tr hF hF_189 (by decide)
                  have o_190 : σ_188.1 56 = nI (z1) := mq_fi hF_189 (by decide) o_14
                  have o_191 : σ_188.2.2.1 30 (3) = nI n_173 := mq_fg hF_189 (by decide) e_176
                  obtain ⟨u_192, -⟩ := p_187
                  refine lv_goto (tgt := 187) hx hb d_Mo_asked_120 (by decide) ?_
                  exact hJ_187 _ _ _ _ _ (nI (3 * 16 + 0)) (nI n_63) 1 hI hM hF (lv_sub hl [3, 4, 5, 2, 1, 0] rfl) (by decide) (Eq.trans o_190 (congrArg nI (show ((z1) : Nat) = _ by omega))) u_192
    · refine lv_aload_n hx hb d_Mo_asked_44 rfl (lv_at hl 1 rfl) ?_
      refine lv_iload_n hx hb d_Mo_asked_45 rfl (lv_at hl 3 rfl) ?_
      refine sm_vM hI (va_runV (As := [.int (nI j2)]) (rest := []) ⟨hx, hb, hml, hown, hts⟩ (c_Mo_data l D ca ad L _ _ _ hM (j2) (by omega) ((z1)) o_14 (by omega) u_15) (kv_Mo_data hts rfl rfl (hts _ tw_1601) ⟨Nat.le_of_ble_eq_true rfl, Nat.le_of_ble_eq_true rfl⟩) (pv_Mo hI hE hM) rfl rfl hl.1 rfl (lv_room (Nat.le_of_ble_eq_true rfl)) d_Mo_asked_46 ⟨Nat.le_of_ble_eq_true rfl, Nat.le_of_ble_eq_true rfl⟩) (fun H locs f σ_194 hI hM hF_195 p_193 => ?_)
      have hF := mq_fr_tr hF hF_195 (by decide)
      obtain ⟨⟨n_197, h_198, h_199, h_200, o_196⟩, u_201, -⟩ := p_193
      refine lv_aload_n hx hb d_Mo_asked_49 rfl (lv_at hl 1 rfl) ?_
      refine lv_iconst (v := 0) hx hb d_Mo_asked_50 (by decide) ?_
      refine lv_iconst (v := 0) hx hb d_Mo_asked_51 (by decide) ?_
      refine lv_iconst (v := 1) hx hb d_Mo_asked_52 (by decide) ?_
      refine sm_vM hI (va_runV (As := [.int (0), .int (0), .int (1)]) (rest := []) ⟨hx, hb, hml, hown, hts⟩ (c_Mo_reply l D ca ad L _ _ _ hM 0 0 (by decide) 1 (by decide)) (kv_Mo_reply hts rfl rfl (hts _ tw_1593) ⟨Nat.le_of_ble_eq_true rfl, Nat.le_of_ble_eq_true rfl⟩) (pv_Mo hI hE hM) rfl rfl hl.1 rfl (lv_room (Nat.le_of_ble_eq_true rfl)) d_Mo_asked_53 ⟨Nat.le_of_ble_eq_true rfl, Nat.le_of_ble_eq_true rfl⟩) (fun H locs f σ_203 hI hM hF_204 p_202 => ?_)
      have hF := mq_fr_tr hF hF_204 (by decide)
      have o_205 : σ_203.1 56 = nI n_197 := mq_fi hF_204 (by decide) o_196
      have u_206 := IH_fr hF_204 (by decide) u_201
      exact sm_vret hx hb hr hlk hI ⟨σ_203, rfl, hM, hF, ⟨⟨n_197, by omega, by omega, by omega, o_205⟩, u_206, trivial⟩⟩ d_Mo_asked_56
  refine lv_aload_n hx hb d_Mo_asked_0 rfl (lv_at hl 0 rfl) ?_
  refine lv_bipush (v := 32) hx hb d_Mo_asked_1 (by decide) ?_
  refine lv_aload_n hx hb d_Mo_asked_3 rfl (lv_at hl 0 rfl) ?_
  obtain ⟨x_207, e_208⟩ : ∃ z, σ0.1 39 = z := ⟨_, rfl⟩
  refine mq_get (k := 39) (v := .int (x_207)) hx hb hts hown hI hM (by decide) (congrArg (fun z => some (Value.int z)) e_208) rfl (hts _ tw_1208) d_Mo_asked_4 ?_
  refine lv_isub hx hb d_Mo_asked_7 ?_
  refine lv_topi (fun x_209 e_210 => ?_)
  refine mq_puti (k := 39) (ty := .int) hx hb hts hown hI hM (by decide) rfl rfl (hts _ tw_1208) rfl (by decide +kernel) rfl rfl trivial d_Mo_asked_8 (fun H locs f σ_211 e_212 hI hM => ?_)
  have hF := mq_fr_ui hF e_212 rfl
  have o_213 : σ_211.1 56 = nI z1 := by rw [e_212]; exact o0
  have u_214 := IH_fr (mq_fr_ui (X := [39]) mq_fr_rf e_212 rfl) (by decide) u0
  refine lv_aload_n hx hb d_Mo_asked_11 rfl (lv_at hl 0 rfl) ?_
  obtain ⟨x_215, e_216⟩ : ∃ z, σ_211.1 42 = z := ⟨_, rfl⟩
  refine mq_get (k := 42) (v := .int (x_215)) hx hb hts hown hI hM (by decide) (congrArg (fun z => some (Value.int z)) e_216) rfl (hts _ tw_1211) d_Mo_asked_12 ?_
  refine lv_if_lt (tgt := 27) hx hb d_Mo_asked_15 (by decide) (fun c_217 => ?_) (fun c_217 => ?_)
  · exact hJ_27 _ _ _ _ _  hI hM hF (lv_sub hl [0, 1, 2] rfl) (Eq.trans o_213 (congrArg nI (show (z1 : Nat) = _ by omega))) u_214
  · refine lv_aload_n hx hb d_Mo_asked_18 rfl (lv_at hl 0 rfl) ?_
    refine lv_aload_n hx hb d_Mo_asked_19 rfl (lv_at hl 0 rfl) ?_
    obtain ⟨x_218, e_219⟩ : ∃ z, σ_211.1 42 = z := ⟨_, rfl⟩
    refine mq_get (k := 42) (v := .int (x_218)) hx hb hts hown hI hM (by decide) (congrArg (fun z => some (Value.int z)) e_219) rfl (hts _ tw_1211) d_Mo_asked_20 ?_
    refine lv_iconst (v := 3) hx hb d_Mo_asked_23 (by decide) ?_
    refine sm_vM hI (va_runV (As := [.int (x_218), .int (3)]) (rest := []) ⟨hx, hb, hml, hown, hts⟩ (c_Mo_confirmEvent l D ca ad L _ _ _ hM x_218 3) (kv_Mo_confirmEvent hts rfl rfl (hts _ tw_1669) ⟨Nat.le_of_ble_eq_true rfl, Nat.le_of_ble_eq_true rfl⟩) (pv_Mo hI hE hM) rfl rfl hl.1 rfl (lv_room (Nat.le_of_ble_eq_true rfl)) d_Mo_asked_24 ⟨Nat.le_of_ble_eq_true rfl, Nat.le_of_ble_eq_true rfl⟩) (fun H locs f σ_221 hI hM hF_222 p_220 => ?_)
    have hF := mq_fr_tr hF hF_222 (by decide)
    have o_223 : σ_221.1 56 = nI z1 := mq_fi hF_222 (by decide) o_213
    have u_224 := IH_fr hF_222 (by decide) u_214
    exact hJ_27 _ _ _ _ _  hI hM hF (lv_sub hl [0, 1, 2] rfl) (Eq.trans o_223 (congrArg nI (show (z1 : Nat) = _ by omega))) u_224
theorem d_Mo_heard_0 : decode b_Mo_heard 0 = .ok (.iload_n 3, 1) := by decide +kernel
theorem d_Mo_heard_1 : decode b_Mo_heard 1 = .ok (.bipush 15, 2) := by decide +kernel
theorem d_Mo_heard_3 : decode b_Mo_heard 3 = .ok (.iand, 1) := by decide +kernel
theorem d_Mo_heard_4 : decode b_Mo_heard 4 = .ok (.istore 5, 2) := by decide +kernel
theorem d_Mo_heard_6 : decode b_Mo_heard 6 = .ok (.iload_n 3, 1) := by decide +kernel
theorem d_Mo_heard_7 : decode b_Mo_heard 7 = .ok (.bipush 16, 2) := by decide +kernel
theorem d_Mo_heard_9 : decode b_Mo_heard 9 = .ok (.iand, 1) := by decide +kernel
theorem d_Mo_heard_10 : decode b_Mo_heard 10 = .ok (.ifCond .eq 7, 3) := by decide +kernel
theorem d_Mo_heard_13 : decode b_Mo_heard 13 = .ok (.iconst 1, 1) := by decide +kernel
theorem d_Mo_heard_14 : decode b_Mo_heard 14 = .ok (.goto 4, 3) := by decide +kernel
theorem d_Mo_heard_17 : decode b_Mo_heard 17 = .ok (.iconst 0, 1) := by decide +kernel
theorem d_Mo_heard_18 : decode b_Mo_heard 18 = .ok (.istore 6, 2) := by decide +kernel
theorem d_Mo_heard_20 : decode b_Mo_heard 20 = .ok (.iload 4, 2) := by decide +kernel
theorem d_Mo_heard_22 : decode b_Mo_heard 22 = .ok (.aload_n 0, 1) := by decide +kernel
theorem d_Mo_heard_23 : decode b_Mo_heard 23 = .ok (.getfield 404, 3) := by decide +kernel
theorem d_Mo_heard_26 : decode b_Mo_heard 26 = .ok (.if_icmp .ne 31, 3) := by decide +kernel
theorem d_Mo_heard_29 : decode b_Mo_heard 29 = .ok (.iload_n 3, 1) := by decide +kernel
theorem d_Mo_heard_30 : decode b_Mo_heard 30 = .ok (.bipush 64, 2) := by decide +kernel
theorem d_Mo_heard_32 : decode b_Mo_heard 32 = .ok (.iand, 1) := by decide +kernel
theorem d_Mo_heard_33 : decode b_Mo_heard 33 = .ok (.ifCond .eq 24, 3) := by decide +kernel
theorem d_Mo_heard_36 : decode b_Mo_heard 36 = .ok (.iload_n 1, 1) := by decide +kernel
theorem d_Mo_heard_37 : decode b_Mo_heard 37 = .ok (.iload 5, 2) := by decide +kernel
theorem d_Mo_heard_39 : decode b_Mo_heard 39 = .ok (.iconst 3, 1) := by decide +kernel
theorem d_Mo_heard_40 : decode b_Mo_heard 40 = .ok (.if_icmp .eq 9, 3) := by decide +kernel
theorem d_Mo_heard_43 : decode b_Mo_heard 43 = .ok (.iload 5, 2) := by decide +kernel
theorem d_Mo_heard_45 : decode b_Mo_heard 45 = .ok (.iconst 4, 1) := by decide +kernel
theorem d_Mo_heard_46 : decode b_Mo_heard 46 = .ok (.if_icmp .ne 7, 3) := by decide +kernel
theorem d_Mo_heard_49 : decode b_Mo_heard 49 = .ok (.iconst 1, 1) := by decide +kernel
theorem d_Mo_heard_50 : decode b_Mo_heard 50 = .ok (.goto 4, 3) := by decide +kernel
theorem d_Mo_heard_53 : decode b_Mo_heard 53 = .ok (.iconst 0, 1) := by decide +kernel
theorem d_Mo_heard_54 : decode b_Mo_heard 54 = .ok (.if_icmp .eq 4, 3) := by decide +kernel
theorem d_Mo_heard_57 : decode b_Mo_heard 57 = .ok (.return_, 1) := by decide +kernel
theorem d_Mo_heard_58 : decode b_Mo_heard 58 = .ok (.iload 5, 2) := by decide +kernel
theorem d_Mo_heard_60 : decode b_Mo_heard 60 = .ok (.ifCond .ne 40, 3) := by decide +kernel
theorem d_Mo_heard_63 : decode b_Mo_heard 63 = .ok (.aload_n 0, 1) := by decide +kernel
theorem d_Mo_heard_64 : decode b_Mo_heard 64 = .ok (.iconst 3, 1) := by decide +kernel
theorem d_Mo_heard_65 : decode b_Mo_heard 65 = .ok (.invokevirtual 262, 3) := by decide +kernel
theorem d_Mo_heard_68 : decode b_Mo_heard 68 = .ok (.aload_n 0, 1) := by decide +kernel
theorem d_Mo_heard_69 : decode b_Mo_heard 69 = .ok (.getfield 29, 3) := by decide +kernel
theorem d_Mo_heard_72 : decode b_Mo_heard 72 = .ok (.iconst 3, 1) := by decide +kernel
theorem d_Mo_heard_73 : decode b_Mo_heard 73 = .ok (.iconst 2, 1) := by decide +kernel
theorem d_Mo_heard_74 : decode b_Mo_heard 74 = .ok (.iastore, 1) := by decide +kernel
theorem d_Mo_heard_75 : decode b_Mo_heard 75 = .ok (.aload_n 0, 1) := by decide +kernel
theorem d_Mo_heard_76 : decode b_Mo_heard 76 = .ok (.bipush 32, 2) := by decide +kernel
theorem d_Mo_heard_78 : decode b_Mo_heard 78 = .ok (.putfield 421, 3) := by decide +kernel
theorem d_Mo_heard_81 : decode b_Mo_heard 81 = .ok (.aload_n 0, 1) := by decide +kernel
theorem d_Mo_heard_82 : decode b_Mo_heard 82 = .ok (.iconst 0, 1) := by decide +kernel
theorem d_Mo_heard_83 : decode b_Mo_heard 83 = .ok (.putfield 407, 3) := by decide +kernel
theorem d_Mo_heard_86 : decode b_Mo_heard 86 = .ok (.aload_n 0, 1) := by decide +kernel
theorem d_Mo_heard_87 : decode b_Mo_heard 87 = .ok (.invokevirtual 341, 3) := by decide +kernel
theorem d_Mo_heard_90 : decode b_Mo_heard 90 = .ok (.aload_n 0, 1) := by decide +kernel
theorem d_Mo_heard_91 : decode b_Mo_heard 91 = .ok (.iconst 0, 1) := by decide +kernel
theorem d_Mo_heard_92 : decode b_Mo_heard 92 = .ok (.iconst 0, 1) := by decide +kernel
theorem d_Mo_heard_93 : decode b_Mo_heard 93 = .ok (.iconst 0, 1) := by decide +kernel
theorem d_Mo_heard_94 : decode b_Mo_heard 94 = .ok (.invokevirtual 424, 3) := by decide +kernel
theorem d_Mo_heard_97 : decode b_Mo_heard 97 = .ok (.goto 105, 3) := by decide +kernel
theorem d_Mo_heard_100 : decode b_Mo_heard 100 = .ok (.iload 5, 2) := by decide +kernel
theorem d_Mo_heard_102 : decode b_Mo_heard 102 = .ok (.bipush 9, 2) := by decide +kernel
theorem d_Mo_heard_104 : decode b_Mo_heard 104 = .ok (.if_icmp .ne 14, 3) := by decide +kernel
theorem d_Mo_heard_107 : decode b_Mo_heard 107 = .ok (.aload_n 0, 1) := by decide +kernel
theorem d_Mo_heard_108 : decode b_Mo_heard 108 = .ok (.bipush 11, 2) := by decide +kernel
theorem d_Mo_heard_110 : decode b_Mo_heard 110 = .ok (.iconst 0, 1) := by decide +kernel
theorem d_Mo_heard_111 : decode b_Mo_heard 111 = .ok (.iconst 0, 1) := by decide +kernel
theorem d_Mo_heard_112 : decode b_Mo_heard 112 = .ok (.invokevirtual 424, 3) := by decide +kernel
theorem d_Mo_heard_115 : decode b_Mo_heard 115 = .ok (.goto 87, 3) := by decide +kernel
theorem d_Mo_heard_118 : decode b_Mo_heard 118 = .ok (.aload_n 0, 1) := by decide +kernel
theorem d_Mo_heard_119 : decode b_Mo_heard 119 = .ok (.getfield 29, 3) := by decide +kernel
theorem d_Mo_heard_122 : decode b_Mo_heard 122 = .ok (.iconst 3, 1) := by decide +kernel
theorem d_Mo_heard_123 : decode b_Mo_heard 123 = .ok (.iaload, 1) := by decide +kernel
theorem d_Mo_heard_124 : decode b_Mo_heard 124 = .ok (.iconst 2, 1) := by decide +kernel
theorem d_Mo_heard_125 : decode b_Mo_heard 125 = .ok (.if_icmp .ne 17, 3) := by decide +kernel
theorem d_Mo_heard_128 : decode b_Mo_heard 128 = .ok (.iload 5, 2) := by decide +kernel
theorem d_Mo_heard_130 : decode b_Mo_heard 130 = .ok (.iconst 4, 1) := by decide +kernel
theorem d_Mo_heard_131 : decode b_Mo_heard 131 = .ok (.if_icmp .ne 11, 3) := by decide +kernel
theorem d_Mo_heard_134 : decode b_Mo_heard 134 = .ok (.aload_n 0, 1) := by decide +kernel
theorem d_Mo_heard_135 : decode b_Mo_heard 135 = .ok (.iload_n 2, 1) := by decide +kernel
theorem d_Mo_heard_136 : decode b_Mo_heard 136 = .ok (.invokevirtual 428, 3) := by decide +kernel
theorem d_Mo_heard_139 : decode b_Mo_heard 139 = .ok (.goto 63, 3) := by decide +kernel
theorem d_Mo_heard_142 : decode b_Mo_heard 142 = .ok (.aload_n 0, 1) := by decide +kernel
theorem d_Mo_heard_143 : decode b_Mo_heard 143 = .ok (.getfield 29, 3) := by decide +kernel
theorem d_Mo_heard_146 : decode b_Mo_heard 146 = .ok (.iconst 3, 1) := by decide +kernel
theorem d_Mo_heard_147 : decode b_Mo_heard 147 = .ok (.iaload, 1) := by decide +kernel
theorem d_Mo_heard_148 : decode b_Mo_heard 148 = .ok (.iconst 2, 1) := by decide +kernel
theorem d_Mo_heard_149 : decode b_Mo_heard 149 = .ok (.if_icmp .ne 53, 3) := by decide +kernel
theorem d_Mo_heard_152 : decode b_Mo_heard 152 = .ok (.iload 6, 2) := by decide +kernel
theorem d_Mo_heard_154 : decode b_Mo_heard 154 = .ok (.ifCond .eq 48, 3) := by decide +kernel
theorem d_Mo_heard_157 : decode b_Mo_heard 157 = .ok (.iload 5, 2) := by decide +kernel
theorem d_Mo_heard_159 : decode b_Mo_heard 159 = .ok (.iconst 3, 1) := by decide +kernel
theorem d_Mo_heard_160 : decode b_Mo_heard 160 = .ok (.if_icmp .eq 17, 3) := by decide +kernel
theorem d_Mo_heard_163 : decode b_Mo_heard 163 = .ok (.iload 5, 2) := by decide +kernel
theorem d_Mo_heard_165 : decode b_Mo_heard 165 = .ok (.bipush 10, 2) := by decide +kernel
theorem d_Mo_heard_167 : decode b_Mo_heard 167 = .ok (.if_icmp .eq 10, 3) := by decide +kernel
theorem d_Mo_heard_170 : decode b_Mo_heard 170 = .ok (.iload 5, 2) := by decide +kernel
theorem d_Mo_heard_172 : decode b_Mo_heard 172 = .ok (.bipush 11, 2) := by decide +kernel
theorem d_Mo_heard_174 : decode b_Mo_heard 174 = .ok (.if_icmp .ne 28, 3) := by decide +kernel
theorem d_Mo_heard_177 : decode b_Mo_heard 177 = .ok (.iload_n 3, 1) := by decide +kernel
theorem d_Mo_heard_178 : decode b_Mo_heard 178 = .ok (.bipush 32, 2) := by decide +kernel
theorem d_Mo_heard_180 : decode b_Mo_heard 180 = .ok (.iand, 1) := by decide +kernel
theorem d_Mo_heard_181 : decode b_Mo_heard 181 = .ok (.aload_n 0, 1) := by decide +kernel
theorem d_Mo_heard_182 : decode b_Mo_heard 182 = .ok (.getfield 421, 3) := by decide +kernel
theorem d_Mo_heard_185 : decode b_Mo_heard 185 = .ok (.if_icmp .eq 10, 3) := by decide +kernel
theorem d_Mo_heard_188 : decode b_Mo_heard 188 = .ok (.aload_n 0, 1) := by decide +kernel
theorem d_Mo_heard_189 : decode b_Mo_heard 189 = .ok (.invokevirtual 431, 3) := by decide +kernel
theorem d_Mo_heard_192 : decode b_Mo_heard 192 = .ok (.goto 10, 3) := by decide +kernel
theorem d_Mo_heard_195 : decode b_Mo_heard 195 = .ok (.aload_n 0, 1) := by decide +kernel
theorem d_Mo_heard_196 : decode b_Mo_heard 196 = .ok (.iload 5, 2) := by decide +kernel
theorem d_Mo_heard_198 : decode b_Mo_heard 198 = .ok (.iload_n 2, 1) := by decide +kernel
theorem d_Mo_heard_199 : decode b_Mo_heard 199 = .ok (.invokevirtual 434, 3) := by decide +kernel
theorem d_Mo_heard_202 : decode b_Mo_heard 202 = .ok (.return_, 1) := by decide +kernel
set_option maxRecDepth 100000 in
set_option maxHeartbeats 4000000 in
theorem c_Mo_heard (l : Launch) (D : va_G) (ca : Nat → ClassId) (ad : Nat → Nat) (L : List Nat) (f0 : Nat → va_E) (sz : Nat) (σ0 : mq_S) (hM : mq_B ca ad σ0 L f0) (x1 : Int32) (p1 : x1 = 0 ∨ x1 = 1) (j2 : Nat) (q2 : j2 ≤ 255) (x3 : Int32) (x4 : Int32) (z1 : Nat) (o0 : σ0.1 56 = nI z1) (hz : z1 ≤ 599) (u0 : IH σ0) :
    Met l y_Mo_heard (Cond.code y_Mo_heard b_Mo_heard 7 none :: wg) { frames := 9, cells := 0, slots := 0, locals := 228 } (va_Pc [.ref (ad 71), .int (x1), .int (nI j2), .int (x3), .int (x4)] (sm_P D cl_all (ty_s ca) ek L f0 sz)) (sm_Qv D (ty_s ca) L f0 sz (fun u => mq_po ca ad L σ0 [9, 10, 11, 13, 14, 15, 16, 18, 19, 22, 23, 24, 25, 30, 31, 32, 33, 34, 39, 40, 41, 42, 43, 45, 46, 47, 48, 49, 50, 51, 52, 54, 55, 56, 57, 58, 59, 60, 61, 62, 63, 64, 65, 66, 67, 68, 69, 70] (fun σ => (∃ n : Nat, z1 ≤ n ∧ n ≤ z1 + 1 ∧ (n = z1 ∨ 5 ≤ j2) ∧ σ.1 56 = nI n) ∧ IH σ ∧ True) u)) 0 0 (va_A (va_pl L f0) sz) := by
  refine sm_start (by decide) (Nat.le_of_ble_eq_true rfl) ?_
  intro p e s m below meth c ls hx hb hml hr hlk hnm hts hown hsz hE hI hl
  have hl : lv_has ls 7 [(0, .ref (ad 71)), (1, .int (x1)), (2, .int (nI j2)), (3, .int (x3)), (4, .int (x4))] := hl
  have hF : mq_fr [9, 10, 11, 13, 14, 15, 16, 18, 19, 22, 23, 24, 25, 30, 31, 32, 33, 34, 39, 40, 41, 42, 43, 45, 46, 47, 48, 49, 50, 51, 52, 54, 55, 56, 57, 58, 59, 60, 61, 62, 63, 64, 65, 66, 67, 68, 69, 70] σ0 σ0 := mq_fr_rf
  have hJ_177 : ∀ (H : Heap) (locs : List Loc) (f : Nat → va_E) (σ : mq_S) (ls : Array Slot) (y5 : Int32) (y6 : Int32), sw_I D cl_all (ty_s ca) (va_A (va_pl L f0) sz) s H locs L f → mq_B ca ad σ L f → mq_fr [9, 10, 11, 13, 14, 15, 16, 18, 19, 22, 23, 24, 25, 30, 31, 32, 33, 34, 39, 40, 41, 42, 43, 45, 46, 47, 48, 49, 50, 51, 52, 54, 55, 56, 57, 58, 59, 60, 61, 62, 63, 64, 65, 66, 67, 68, 69, 70] σ0 σ → lv_has ls 7 [(0, .ref (ad 71)), (1, .int (x1)), (2, .int (nI j2)), (3, .int (x3)), (4, .int (x4)), (5, .int (y5)), (6, .int (y6))] → (y6 = 0 ∨ y6 = 1) → (σ.1 56 = nI (z1)) → (IH σ) → W p l e { frames := 9, cells := 0, slots := 0, locals := 228 } s m ([.ref (ad 71), .int (x1), .int (nI j2), .int (x3), .int (x4)] : List Value).toArray below meth c H locs 0 0 (MQ below (sm_Qv D (ty_s ca) L f0 sz (fun u => mq_po ca ad L σ0 [9, 10, 11, 13, 14, 15, 16, 18, 19, 22, 23, 24, 25, 30, 31, 32, 33, 34, 39, 40, 41, 42, 43, 45, 46, 47, 48, 49, 50, 51, 52, 54, 55, 56, 57, 58, 59, 60, 61, 62, 63, 64, 65, 66, 67, 68, 69, 70] (fun σ => (∃ n : Nat, z1 ≤ n ∧ n ≤ z1 + 1 ∧ (n = z1 ∨ 5 ≤ j2) ∧ σ.1 56 = nI n) ∧ IH σ ∧ True) u)) ([.ref (ad 71), .int (x1), .int (nI j2), .int (x3), .int (x4)] : List Value).toArray s 0 0 (va_A (va_pl L f0) sz)) (F0 m 177 ls []) := by
    intro H locs f σ ls y5 y6 hI hM hF hl py6 o90 u90
    refine lv_iload_n hx hb d_Mo_heard_177 rfl (lv_at hl 3 rfl) ?_
    refine lv_bipush (v := 32) hx hb d_Mo_heard_178 (by decide) ?_
    refine lv_iand hx hb d_Mo_heard_180 ?_
    refine lv_topi (fun x_1 e_2 => ?_)
    refine lv_aload_n hx hb d_Mo_heard_181 rfl (lv_at hl 0 rfl) ?_
    obtain ⟨x_3, e_4⟩ : ∃ z, σ.1 39 = z := ⟨_, rfl⟩
    refine mq_get (k := 39) (v := .int (x_3)) hx hb hts hown hI hM (by decide) (congrArg (fun z => some (Value.int z)) e_4) rfl (hts _ tw_1208) d_Mo_heard_182 ?_
    refine lv_icmp_eq (tgt := 195) hx hb d_Mo_heard_185 (by decide) (fun c_5 => ?_) (fun c_5 => ?_)
    · refine lv_aload_n hx hb d_Mo_heard_195 rfl (lv_at hl 0 rfl) ?_
      refine lv_iload hx hb d_Mo_heard_196 (lv_at hl 5 rfl) ?_
      refine lv_iload_n hx hb d_Mo_heard_198 rfl (lv_at hl 2 rfl) ?_
      refine sm_vM hI (va_runV (As := [.int (y5), .int (nI j2)]) (rest := []) ⟨hx, hb, hml, hown, hts⟩ (c_Mo_asked l D ca ad L _ _ _ hM y5 (j2) (by omega) ((z1)) o90 (by omega) u90) (kv_Mo_asked hts rfl rfl (hts _ tw_1665) ⟨Nat.le_of_ble_eq_true rfl, Nat.le_of_ble_eq_true rfl⟩) (pv_Mo hI hE hM) rfl rfl hl.1 rfl (lv_room (Nat.le_of_ble_eq_true rfl)) d_Mo_heard_199 ⟨Nat.le_of_ble_eq_true rfl, Nat.le_of_ble_eq_true rfl⟩) (fun H locs f σ_7 hI hM hF_8 p_6 => ?_)
      have hF := mq_fr_tr hF hF_8 (by decide)
      obtain ⟨⟨n_10, h_11, h_12, h_13, o_9⟩, u_14, -⟩ := p_6
      exact sm_vret hx hb hr hlk hI ⟨σ_7, rfl, hM, hF, ⟨⟨n_10, by omega, by omega, by omega, o_9⟩, u_14, trivial⟩⟩ d_Mo_heard_202
    · refine lv_aload_n hx hb d_Mo_heard_188 rfl (lv_at hl 0 rfl) ?_
      refine sm_vM hI (va_runV (As := []) (rest := []) ⟨hx, hb, hml, hown, hts⟩ (c_Mo_again l D ca ad L _ _ _ hM ) (kv_Mo_again hts rfl rfl (hts _ tw_1661) ⟨Nat.le_of_ble_eq_true rfl, Nat.le_of_ble_eq_true rfl⟩) (pv_Mo hI hE hM) rfl rfl hl.1 rfl (lv_room (Nat.le_of_ble_eq_true rfl)) d_Mo_heard_189 ⟨Nat.le_of_ble_eq_true rfl, Nat.le_of_ble_eq_true rfl⟩) (fun H locs f σ_16 hI hM hF_17 p_15 => ?_)
      have hF := mq_fr_tr hF hF_17 (by decide)
      have o_18 : σ_16.1 56 = nI (z1) := mq_fi hF_17 (by decide) o90
      have u_19 := IH_fr hF_17 (by decide) u90
      refine lv_goto (tgt := 202) hx hb d_Mo_heard_192 (by decide) ?_
      exact sm_vret hx hb hr hlk hI ⟨σ_16, rfl, hM, hF, ⟨⟨(z1), by omega, by omega, by omega, o_18⟩, u_19, trivial⟩⟩ d_Mo_heard_202
  have hJ_142 : ∀ (H : Heap) (locs : List Loc) (f : Nat → va_E) (σ : mq_S) (ls : Array Slot) (y5 : Int32) (y6 : Int32), sw_I D cl_all (ty_s ca) (va_A (va_pl L f0) sz) s H locs L f → mq_B ca ad σ L f → mq_fr [9, 10, 11, 13, 14, 15, 16, 18, 19, 22, 23, 24, 25, 30, 31, 32, 33, 34, 39, 40, 41, 42, 43, 45, 46, 47, 48, 49, 50, 51, 52, 54, 55, 56, 57, 58, 59, 60, 61, 62, 63, 64, 65, 66, 67, 68, 69, 70] σ0 σ → lv_has ls 7 [(0, .ref (ad 71)), (1, .int (x1)), (2, .int (nI j2)), (3, .int (x3)), (4, .int (x4)), (5, .int (y5)), (6, .int (y6))] → (y6 = 0 ∨ y6 = 1) → (σ.1 56 = nI (z1)) → (IH σ) → W p l e { frames := 9, cells := 0, slots := 0, locals := 228 } s m ([.ref (ad 71), .int (x1), .int (nI j2), .int (x3), .int (x4)] : List Value).toArray below meth c H locs 0 0 (MQ below (sm_Qv D (ty_s ca) L f0 sz (fun u => mq_po ca ad L σ0 [9, 10, 11, 13, 14, 15, 16, 18, 19, 22, 23, 24, 25, 30, 31, 32, 33, 34, 39, 40, 41, 42, 43, 45, 46, 47, 48, 49, 50, 51, 52, 54, 55, 56, 57, 58, 59, 60, 61, 62, 63, 64, 65, 66, 67, 68, 69, 70] (fun σ => (∃ n : Nat, z1 ≤ n ∧ n ≤ z1 + 1 ∧ (n = z1 ∨ 5 ≤ j2) ∧ σ.1 56 = nI n) ∧ IH σ ∧ True) u)) ([.ref (ad 71), .int (x1), .int (nI j2), .int (x3), .int (x4)] : List Value).toArray s 0 0 (va_A (va_pl L f0) sz)) (F0 m 142 ls []) := by
    intro H locs f σ ls y5 y6 hI hM hF hl py6 o90 u90
    refine lv_aload_n hx hb d_Mo_heard_142 rfl (lv_at hl 0 rfl) ?_
    refine mq_get (k := 13) (v := .ref (ad 13)) hx hb hts hown hI hM (by decide) rfl rfl (hts _ tw_1182) d_Mo_heard_143 ?_
    refine lv_iconst (v := 3) hx hb d_Mo_heard_146 (by decide) ?_
    obtain ⟨x_20, e_21⟩ : ∃ z, σ.2.2.1 13 (3) = z := ⟨_, rfl⟩
    refine mq_iald (k := 13) (j := 3) (v := x_20) hx hb hI hM (by decide) rfl (by show 3 < 4; omega) (by decide) e_21 d_Mo_heard_147 ?_
    refine lv_iconst (v := 2) hx hb d_Mo_heard_148 (by decide) ?_
    refine lv_icmp_ne (tgt := 202) hx hb d_Mo_heard_149 (by decide) (fun c_22 => ?_) (fun c_22 => ?_)
    · exact sm_vret hx hb hr hlk hI ⟨σ, rfl, hM, hF, ⟨⟨(z1), by omega, by omega, by omega, o90⟩, u90, trivial⟩⟩ d_Mo_heard_202
    · refine lv_iload hx hb d_Mo_heard_152 (lv_at hl 6 rfl) ?_
      refine lv_if_eq (tgt := 202) hx hb d_Mo_heard_154 (by decide) (fun c_23 => ?_) (fun c_23 => ?_)
      · exact sm_vret hx hb hr hlk hI ⟨σ, rfl, hM, hF, ⟨⟨(z1), by omega, by omega, by omega, o90⟩, u90, trivial⟩⟩ d_Mo_heard_202
      · refine lv_iload hx hb d_Mo_heard_157 (lv_at hl 5 rfl) ?_
        refine lv_iconst (v := 3) hx hb d_Mo_heard_159 (by decide) ?_
        refine lv_icmp_eq (tgt := 177) hx hb d_Mo_heard_160 (by decide) (fun c_24 => ?_) (fun c_24 => ?_)
        · exact hJ_177 _ _ _ _ _ y5 y6 hI hM hF (lv_sub hl [0, 1, 2, 3, 4, 5, 6] rfl) py6 (Eq.trans o90 (congrArg nI (show ((z1) : Nat) = _ by omega))) u90
        · refine lv_iload hx hb d_Mo_heard_163 (lv_at hl 5 rfl) ?_
          refine lv_bipush (v := 10) hx hb d_Mo_heard_165 (by decide) ?_
          refine lv_icmp_eq (tgt := 177) hx hb d_Mo_heard_167 (by decide) (fun c_25 => ?_) (fun c_25 => ?_)
          · exact hJ_177 _ _ _ _ _ y5 y6 hI hM hF (lv_sub hl [0, 1, 2, 3, 4, 5, 6] rfl) py6 (Eq.trans o90 (congrArg nI (show ((z1) : Nat) = _ by omega))) u90
          · refine lv_iload hx hb d_Mo_heard_170 (lv_at hl 5 rfl) ?_
            refine lv_bipush (v := 11) hx hb d_Mo_heard_172 (by decide) ?_
            refine lv_icmp_ne (tgt := 202) hx hb d_Mo_heard_174 (by decide) (fun c_26 => ?_) (fun c_26 => ?_)
            · exact sm_vret hx hb hr hlk hI ⟨σ, rfl, hM, hF, ⟨⟨(z1), by omega, by omega, by omega, o90⟩, u90, trivial⟩⟩ d_Mo_heard_202
            · exact hJ_177 _ _ _ _ _ y5 y6 hI hM hF (lv_sub hl [0, 1, 2, 3, 4, 5, 6] rfl) py6 (Eq.trans o90 (congrArg nI (show ((z1) : Nat) = _ by omega))) u90
  have hJ_118 : ∀ (H : Heap) (locs : List Loc) (f : Nat → va_E) (σ : mq_S) (ls : Array Slot) (y5 : Int32) (y6 : Int32), sw_I D cl_all (ty_s ca) (va_A (va_pl L f0) sz) s H locs L f → mq_B ca ad σ L f → mq_fr [9, 10, 11, 13, 14, 15, 16, 18, 19, 22, 23, 24, 25, 30, 31, 32, 33, 34, 39, 40, 41, 42, 43, 45, 46, 47, 48, 49, 50, 51, 52, 54, 55, 56, 57, 58, 59, 60, 61, 62, 63, 64, 65, 66, 67, 68, 69, 70] σ0 σ → lv_has ls 7 [(0, .ref (ad 71)), (1, .int (x1)), (2, .int (nI j2)), (3, .int (x3)), (4, .int (x4)), (5, .int (y5)), (6, .int (y6))] → (y6 = 0 ∨ y6 = 1) → (σ.1 56 = nI (z1)) → (IH σ) → W p l e { frames := 9, cells := 0, slots := 0, locals := 228 } s m ([.ref (ad 71), .int (x1), .int (nI j2), .int (x3), .int (x4)] : List Value).toArray below meth c H locs 0 0 (MQ below (sm_Qv D (ty_s ca) L f0 sz (fun u => mq_po ca ad L σ0 [9, 10, 11, 13, 14, 15, 16, 18, 19, 22, 23, 24, 25, 30, 31, 32, 33, 34, 39, 40, 41, 42, 43, 45, 46, 47, 48, 49, 50, 51, 52, 54, 55, 56, 57, 58, 59, 60, 61, 62, 63, 64, 65, 66, 67, 68, 69, 70] (fun σ => (∃ n : Nat, z1 ≤ n ∧ n ≤ z1 + 1 ∧ (n = z1 ∨ 5 ≤ j2) ∧ σ.1 56 = nI n) ∧ IH σ ∧ True) u)) ([.ref (ad 71), .int (x1), .int (nI j2), .int (x3), .int (x4)] : List Value).toArray s 0 0 (va_A (va_pl L f0) sz)) (F0 m 118 ls []) := by
    intro H locs f σ ls y5 y6 hI hM hF hl py6 o90 u90
    refine lv_aload_n hx hb d_Mo_heard_118 rfl (lv_at hl 0 rfl) ?_
    refine mq_get (k := 13) (v := .ref (ad 13)) hx hb hts hown hI hM (by decide) rfl rfl (hts _ tw_1182) d_Mo_heard_119 ?_
    refine lv_iconst (v := 3) hx hb d_Mo_heard_122 (by decide) ?_
    obtain ⟨x_27, e_28⟩ : ∃ z, σ.2.2.1 13 (3) = z := ⟨_, rfl⟩
    refine mq_iald (k := 13) (j := 3) (v := x_27) hx hb hI hM (by decide) rfl (by show 3 < 4; omega) (by decide) e_28 d_Mo_heard_123 ?_
    refine lv_iconst (v := 2) hx hb d_Mo_heard_124 (by decide) ?_
    refine lv_icmp_ne (tgt := 142) hx hb d_Mo_heard_125 (by decide) (fun c_29 => ?_) (fun c_29 => ?_)
    · exact hJ_142 _ _ _ _ _ y5 y6 hI hM hF (lv_sub hl [0, 1, 2, 3, 4, 5, 6] rfl) py6 (Eq.trans o90 (congrArg nI (show ((z1) : Nat) = _ by omega))) u90
    · refine lv_iload hx hb d_Mo_heard_128 (lv_at hl 5 rfl) ?_
      refine lv_iconst (v := 4) hx hb d_Mo_heard_130 (by decide) ?_
      refine lv_icmp_ne (tgt := 142) hx hb d_Mo_heard_131 (by decide) (fun c_30 => ?_) (fun c_30 => ?_)
      · exact hJ_142 _ _ _ _ _ y5 y6 hI hM hF (lv_sub hl [0, 1, 2, 3, 4, 5, 6] rfl) py6 (Eq.trans o90 (congrArg nI (show ((z1) : Nat) = _ by omega))) u90
      · refine lv_aload_n hx hb d_Mo_heard_134 rfl (lv_at hl 0 rfl) ?_
        refine lv_iload_n hx hb d_Mo_heard_135 rfl (lv_at hl 2 rfl) ?_
        refine sm_vM hI (va_runV (As := [.int (nI j2)]) (rest := []) ⟨hx, hb, hml, hown, hts⟩ (c_Mo_data l D ca ad L _ _ _ hM (j2) (by omega) ((z1)) o90 (by omega) u90) (kv_Mo_data hts rfl rfl (hts _ tw_1601) ⟨Nat.le_of_ble_eq_true rfl, Nat.le_of_ble_eq_true rfl⟩) (pv_Mo hI hE hM) rfl rfl hl.1 rfl (lv_room (Nat.le_of_ble_eq_true rfl)) d_Mo_heard_136 ⟨Nat.le_of_ble_eq_true rfl, Nat.le_of_ble_eq_true rfl⟩) (fun H locs f σ_32 hI hM hF_33 p_31 => ?_)
        have hF := mq_fr_tr hF hF_33 (by decide)
        obtain ⟨⟨n_35, h_36, h_37, h_38, o_34⟩, u_39, -⟩ := p_31
        refine lv_goto (tgt := 202) hx hb d_Mo_heard_139 (by decide) ?_
        exact sm_vret hx hb hr hlk hI ⟨σ_32, rfl, hM, hF, ⟨⟨n_35, by omega, by omega, by omega, o_34⟩, u_39, trivial⟩⟩ d_Mo_heard_202
  have hJ_100 : ∀ (H : Heap) (locs : List Loc) (f : Nat → va_E) (σ : mq_S) (ls : Array Slot) (y5 : Int32) (y6 : Int32), sw_I D cl_all (ty_s ca) (va_A (va_pl L f0) sz) s H locs L f → mq_B ca ad σ L f → mq_fr [9, 10, 11, 13, 14, 15, 16, 18, 19, 22, 23, 24, 25, 30, 31, 32, 33, 34, 39, 40, 41, 42, 43, 45, 46, 47, 48, 49, 50, 51, 52, 54, 55, 56, 57, 58, 59, 60, 61, 62, 63, 64, 65, 66, 67, 68, 69, 70] σ0 σ → lv_has ls 7 [(0, .ref (ad 71)), (1, .int (x1)), (2, .int (nI j2)), (3, .int (x3)), (4, .int (x4)), (5, .int (y5)), (6, .int (y6))] → (y6 = 0 ∨ y6 = 1) → (σ.1 56 = nI (z1)) → (IH σ) → W p l e { frames := 9, cells := 0, slots := 0, locals := 228 } s m ([.ref (ad 71), .int (x1), .int (nI j2), .int (x3), .int (x4)] : List Value).toArray below meth c H locs 0 0 (MQ below (sm_Qv D (ty_s ca) L f0 sz (fun u => mq_po ca ad L σ0 [9, 10, 11, 13, 14, 15, 16, 18, 19, 22, 23, 24, 25, 30, 31, 32, 33, 34, 39, 40, 41, 42, 43, 45, 46, 47, 48, 49, 50, 51, 52, 54, 55, 56, 57, 58, 59, 60, 61, 62, 63, 64, 65, 66, 67, 68, 69, 70] (fun σ => (∃ n : Nat, z1 ≤ n ∧ n ≤ z1 + 1 ∧ (n = z1 ∨ 5 ≤ j2) ∧ σ.1 56 = nI n) ∧ IH σ ∧ True) u)) ([.ref (ad 71), .int (x1), .int (nI j2), .int (x3), .int (x4)] : List Value).toArray s 0 0 (va_A (va_pl L f0) sz)) (F0 m 100 ls []) := by
    intro H locs f σ ls y5 y6 hI hM hF hl py6 o90 u90
    refine lv_iload hx hb d_Mo_heard_100 (lv_at hl 5 rfl) ?_
    refine lv_bipush (v := 9) hx hb d_Mo_heard_102 (by decide) ?_
    refine lv_icmp_ne (tgt := 118) hx hb d_Mo_heard_104 (by decide) (fun c_40 => ?_) (fun c_40 => ?_)
    · exact hJ_118 _ _ _ _ _ y5 y6 hI hM hF (lv_sub hl [0, 1, 2, 3, 4, 5, 6] rfl) py6 (Eq.trans o90 (congrArg nI (show ((z1) : Nat) = _ by omega))) u90
    · refine lv_aload_n hx hb d_Mo_heard_107 rfl (lv_at hl 0 rfl) ?_
      refine lv_bipush (v := 11) hx hb d_Mo_heard_108 (by decide) ?_
      refine lv_iconst (v := 0) hx hb d_Mo_heard_110 (by decide) ?_
      refine lv_iconst (v := 0) hx hb d_Mo_heard_111 (by decide) ?_
      refine sm_vM hI (va_runV (As := [.int (11), .int (0), .int (0)]) (rest := []) ⟨hx, hb, hml, hown, hts⟩ (c_Mo_reply l D ca ad L _ _ _ hM 11 0 (by decide) 0 (by decide)) (kv_Mo_reply hts rfl rfl (hts _ tw_1593) ⟨Nat.le_of_ble_eq_true rfl, Nat.le_of_ble_eq_true rfl⟩) (pv_Mo hI hE hM) rfl rfl hl.1 rfl (lv_room (Nat.le_of_ble_eq_true rfl)) d_Mo_heard_112 ⟨Nat.le_of_ble_eq_true rfl, Nat.le_of_ble_eq_true rfl⟩) (fun H locs f σ_42 hI hM hF_43 p_41 => ?_)
      have hF := mq_fr_tr hF hF_43 (by decide)
      have o_44 : σ_42.1 56 = nI (z1) := mq_fi hF_43 (by decide) o90
      have u_45 := IH_fr hF_43 (by decide) u90
      refine lv_goto (tgt := 202) hx hb d_Mo_heard_115 (by decide) ?_
      exact sm_vret hx hb hr hlk hI ⟨σ_42, rfl, hM, hF, ⟨⟨(z1), by omega, by omega, by omega, o_44⟩, u_45, trivial⟩⟩ d_Mo_heard_202
  have hJ_58 : ∀ (H : Heap) (locs : List Loc) (f : Nat → va_E) (σ : mq_S) (ls : Array Slot) (y5 : Int32) (y6 : Int32), sw_I D cl_all (ty_s ca) (va_A (va_pl L f0) sz) s H locs L f → mq_B ca ad σ L f → mq_fr [9, 10, 11, 13, 14, 15, 16, 18, 19, 22, 23, 24, 25, 30, 31, 32, 33, 34, 39, 40, 41, 42, 43, 45, 46, 47, 48, 49, 50, 51, 52, 54, 55, 56, 57, 58, 59, 60, 61, 62, 63, 64, 65, 66, 67, 68, 69, 70] σ0 σ → lv_has ls 7 [(0, .ref (ad 71)), (1, .int (x1)), (2, .int (nI j2)), (3, .int (x3)), (4, .int (x4)), (5, .int (y5)), (6, .int (y6))] → (y6 = 0 ∨ y6 = 1) → (σ.1 56 = nI (z1)) → (IH σ) → W p l e { frames := 9, cells := 0, slots := 0, locals := 228 } s m ([.ref (ad 71), .int (x1), .int (nI j2), .int (x3), .int (x4)] : List Value).toArray below meth c H locs 0 0 (MQ below (sm_Qv D (ty_s ca) L f0 sz (fun u => mq_po ca ad L σ0 [9, 10, 11, 13, 14, 15, 16, 18, 19, 22, 23, 24, 25, 30, 31, 32, 33, 34, 39, 40, 41, 42, 43, 45, 46, 47, 48, 49, 50, 51, 52, 54, 55, 56, 57, 58, 59, 60, 61, 62, 63, 64, 65, 66, 67, 68, 69, 70] (fun σ => (∃ n : Nat, z1 ≤ n ∧ n ≤ z1 + 1 ∧ (n = z1 ∨ 5 ≤ j2) ∧ σ.1 56 = nI n) ∧ IH σ ∧ True) u)) ([.ref (ad 71), .int (x1), .int (nI j2), .int (x3), .int (x4)] : List Value).toArray s 0 0 (va_A (va_pl L f0) sz)) (F0 m 58 ls []) := by
    intro H locs f σ ls y5 y6 hI hM hF hl py6 o90 u90
    refine lv_iload hx hb d_Mo_heard_58 (lv_at hl 5 rfl) ?_
    refine lv_if_ne (tgt := 100) hx hb d_Mo_heard_60 (by decide) (fun c_46 => ?_) (fun c_46 => ?_)
    · exact hJ_100 _ _ _ _ _ y5 y6 hI hM hF (lv_sub hl [0, 1, 2, 3, 4, 5, 6] rfl) py6 (Eq.trans o90 (congrArg nI (show ((z1) : Nat) = _ by omega))) u90
    · refine lv_aload_n hx hb d_Mo_heard_63 rfl (lv_at hl 0 rfl) ?_
      refine lv_iconst (v := 3) hx hb d_Mo_heard_64 (by decide) ?_
      refine sm_vM hI (va_runV (As := [.int (3)]) (rest := []) ⟨hx, hb, hml, hown, hts⟩ (c_Mo_unsend l D ca ad L _ _ _ hM (3) (by omega)) (kv_Mo_unsend hts rfl rfl (hts _ tw_1430) ⟨Nat.le_of_ble_eq_true rfl, Nat.le_of_ble_eq_true rfl⟩) (pv_Mo hI hE hM) rfl rfl hl.1 rfl (lv_room (Nat.le_of_ble_eq_true rfl)) d_Mo_heard_65 ⟨Nat.le_of_ble_eq_true rfl, Nat.le_of_ble_eq_true rfl⟩) (fun H locs f σ_48 hI hM hF_49 p_47 => ?_)
      have hF := mq_fr_tr hF hF_49 (by decide)
      have o_50 : σ_48.1 56 = nI (z1) := mq_fi hF_49 (by decide) o90
      have u_51 := IH_fr hF_49 (by decide) u90
      refine lv_aload_n hx hb d_Mo_heard_68 rfl (lv_at hl 0 rfl) ?_
      refine mq_get (k := 13) (v := .ref (ad 13)) hx hb hts hown hI hM (by decide) rfl rfl (hts _ tw_1182) d_Mo_heard_69 ?_
      refine lv_iconst (v := 3) hx hb d_Mo_heard_72 (by decide) ?_
      refine lv_iconst (v := 2) hx hb d_Mo_heard_73 (by decide) ?_
      refine mq_iast (k := 13) (j := 3) (x := 2) hx hb hI hM (by decide) rfl (by show 3 < 4; omega) (by decide) trivial d_Mo_heard_74 (fun H locs f σ_52 e_53 hI hM => ?_)
      have hF := mq_fr_ug hF e_53 rfl (Or.inl rfl)
      have o_54 : σ_52.1 56 = nI (z1) := by rw [e_53]; exact o_50
      have u_55 := IH_fr (mq_fr_ug (X := [13]) mq_fr_rf e_53 rfl (Or.inl rfl)) (by decide) u_51
      refine lv_aload_n hx hb d_Mo_heard_75 rfl (lv_at hl 0 rfl) ?_
      refine lv_bipush (v := 32) hx hb d_Mo_heard_76 (by decide) ?_
      refine mq_puti (k := 39) (ty := .int) hx hb hts hown hI hM (by decide) rfl rfl (hts _ tw_1208) rfl (by decide +kernel) rfl rfl trivial d_Mo_heard_78 (fun H locs f σ_56 e_57 hI hM => ?_)
      have hF := mq_fr_ui hF e_57 rfl
      have o_58 : σ_56.1 56 = nI (z1) := by rw [e_57]; exact o_54
      have u_59 := IH_fr (mq_fr_ui (X := [39]) mq_fr_rf e_57 rfl) (by decide) u_55
      refine lv_aload_n hx hb d_Mo_heard_81 rfl (lv_at hl 0 rfl) ?_
      refine lv_iconst (v := 0) hx hb d_Mo_heard_82 (by decide) ?_
      refine mq_puti (k := 40) (ty := .int) hx hb hts hown hI hM (by decide) rfl rfl (hts _ tw_1209) rfl (by decide +kernel) rfl rfl ⟨0, by decide, by decide, rfl⟩ d_Mo_heard_83 (fun H locs f σ_60 e_61 hI hM => ?_)
      have hF := mq_fr_ui hF e_61 rfl
      have o_62 : σ_60.1 56 = nI (z1) := by rw [e_61]; exact o_58
      have u_63 := IH_fr (mq_fr_ui (X := [40]) mq_fr_rf e_61 rfl) (by decide) u_59
      refine lv_aload_n hx hb d_Mo_heard_86 rfl (lv_at hl 0 rfl) ?_
      refine sm_vM hI (va_runV (As := []) (rest := []) ⟨hx, hb, hml, hown, hts⟩ (c_Mo_choose l D ca ad L _ _ _ hM ) (kv_Mo_choose hts rfl rfl (hts _ tw_1426) ⟨Nat.le_of_ble_eq_true rfl, Nat.le_of_ble_eq_true rfl⟩) (pv_Mo hI hE hM) rfl rfl hl.1 rfl (lv_room (Nat.le_of_ble_eq_true rfl)) d_Mo_heard_87 ⟨Nat.le_of_ble_eq_true rfl, Nat.le_of_ble_eq_true rfl⟩) (fun H locs f σ_65 hI hM hF_66 p_64 => ?_)
      have hF := mq_fr_tr hF hF_66 (by decide)
      have o_67 : σ_65.1 56 = nI (z1) := mq_fi hF_66 (by decide) o_62
      have u_68 := IH_fr hF_66 (by decide) u_63
      refine lv_aload_n hx hb d_Mo_heard_90 rfl (lv_at hl 0 rfl) ?_
      refine lv_iconst (v := 0) hx hb d_Mo_heard_91 (by decide) ?_
      refine lv_iconst (v := 0) hx hb d_Mo_heard_92 (by decide) ?_
      refine lv_iconst (v := 0) hx hb d_Mo_heard_93 (by decide) ?_
      refine sm_vM hI (va_runV (As := [.int (0), .int (0), .int (0)]) (rest := []) ⟨hx, hb, hml, hown, hts⟩ (c_Mo_reply l D ca ad L _ _ _ hM 0 0 (by decide) 0 (by decide)) (kv_Mo_reply hts rfl rfl (hts _ tw_1593) ⟨Nat.le_of_ble_eq_true rfl, Nat.le_of_ble_eq_true rfl⟩) (pv_Mo hI hE hM) rfl rfl hl.1 rfl (lv_room (Nat.le_of_ble_eq_true rfl)) d_Mo_heard_94 ⟨Nat.le_of_ble_eq_true rfl, Nat.le_of_ble_eq_true rfl⟩) (fun H locs f σ_70 hI hM hF_71 p_69 => ?_)
      have hF := mq_fr_tr hF hF_71 (by decide)
      have o_72 : σ_70.1 56 = nI (z1) := mq_fi hF_71 (by decide) o_67
      have u_73 := IH_fr hF_71 (by decide) u_68
      refine lv_goto (tgt := 202) hx hb d_Mo_heard_97 (by decide) ?_
      exact sm_vret hx hb hr hlk hI ⟨σ_70, rfl, hM, hF, ⟨⟨(z1), by omega, by omega, by omega, o_72⟩, u_73, trivial⟩⟩ d_Mo_heard_202
  have hJ_54 : ∀ (H : Heap) (locs : List Loc) (f : Nat → va_E) (σ : mq_S) (ls : Array Slot) (y5 : Int32) (y6 : Int32) (zs1 : Int32), sw_I D cl_all (ty_s ca) (va_A (va_pl L f0) sz) s H locs L f → mq_B ca ad σ L f → mq_fr [9, 10, 11, 13, 14, 15, 16, 18, 19, 22, 23, 24, 25, 30, 31, 32, 33, 34, 39, 40, 41, 42, 43, 45, 46, 47, 48, 49, 50, 51, 52, 54, 55, 56, 57, 58, 59, 60, 61, 62, 63, 64, 65, 66, 67, 68, 69, 70] σ0 σ → lv_has ls 7 [(0, .ref (ad 71)), (1, .int (x1)), (2, .int (nI j2)), (3, .int (x3)), (4, .int (x4)), (5, .int (y5)), (6, .int (y6))] → (y6 = 0 ∨ y6 = 1) → (zs1 = 0 ∨ zs1 = 1) → (σ.1 56 = nI (z1)) → (IH σ) → W p l e { frames := 9, cells := 0, slots := 0, locals := 228 } s m ([.ref (ad 71), .int (x1), .int (nI j2), .int (x3), .int (x4)] : List Value).toArray below meth c H locs 0 0 (MQ below (sm_Qv D (ty_s ca) L f0 sz (fun u => mq_po ca ad L σ0 [9, 10, 11, 13, 14, 15, 16, 18, 19, 22, 23, 24, 25, 30, 31, 32, 33, 34, 39, 40, 41, 42, 43, 45, 46, 47, 48, 49, 50, 51, 52, 54, 55, 56, 57, 58, 59, 60, 61, 62, 63, 64, 65, 66, 67, 68, 69, 70] (fun σ => (∃ n : Nat, z1 ≤ n ∧ n ≤ z1 + 1 ∧ (n = z1 ∨ 5 ≤ j2) ∧ σ.1 56 = nI n) ∧ IH σ ∧ True) u)) ([.ref (ad 71), .int (x1), .int (nI j2), .int (x3), .int (x4)] : List Value).toArray s 0 0 (va_A (va_pl L f0) sz)) (F0 m 54 ls [.int (zs1), .int (x1)]) := by
    intro H locs f σ ls y5 y6 zs1 hI hM hF hl py6 pzs1 o90 u90
    refine lv_icmp_eq (tgt := 58) hx hb d_Mo_heard_54 (by decide) (fun c_74 => ?_) (fun c_74 => ?_)
    · exact hJ_58 _ _ _ _ _ y5 y6 hI hM hF (lv_sub hl [0, 1, 2, 3, 4, 5, 6] rfl) py6 (Eq.trans o90 (congrArg nI (show ((z1) : Nat) = _ by omega))) u90
    · exact sm_vret hx hb hr hlk hI ⟨σ, rfl, hM, hF, ⟨⟨(z1), by omega, by omega, by omega, o90⟩, u90, trivial⟩⟩ d_Mo_heard_57
  have hJ_18 : ∀ (H : Heap) (locs : List Loc) (f : Nat → va_E) (σ : mq_S) (ls : Array Slot) (y5 : Int32) (zs0 : Int32), sw_I D cl_all (ty_s ca) (va_A (va_pl L f0) sz) s H locs L f → mq_B ca ad σ L f → mq_fr [9, 10, 11, 13, 14, 15, 16, 18, 19, 22, 23, 24, 25, 30, 31, 32, 33, 34, 39, 40, 41, 42, 43, 45, 46, 47, 48, 49, 50, 51, 52, 54, 55, 56, 57, 58, 59, 60, 61, 62, 63, 64, 65, 66, 67, 68, 69, 70] σ0 σ → lv_has ls 7 [(0, .ref (ad 71)), (1, .int (x1)), (2, .int (nI j2)), (3, .int (x3)), (4, .int (x4)), (5, .int (y5))] → (zs0 = 0 ∨ zs0 = 1) → (σ.1 56 = nI (z1)) → (IH σ) → W p l e { frames := 9, cells := 0, slots := 0, locals := 228 } s m ([.ref (ad 71), .int (x1), .int (nI j2), .int (x3), .int (x4)] : List Value).toArray below meth c H locs 0 0 (MQ below (sm_Qv D (ty_s ca) L f0 sz (fun u => mq_po ca ad L σ0 [9, 10, 11, 13, 14, 15, 16, 18, 19, 22, 23, 24, 25, 30, 31, 32, 33, 34, 39, 40, 41, 42, 43, 45, 46, 47, 48, 49, 50, 51, 52, 54, 55, 56, 57, 58, 59, 60, 61, 62, 63, 64, 65, 66, 67, 68, 69, 70] (fun σ => (∃ n : Nat, z1 ≤ n ∧ n ≤ z1 + 1 ∧ (n = z1 ∨ 5 ≤ j2) ∧ σ.1 56 = nI n) ∧ IH σ ∧ True) u)) ([.ref (ad 71), .int (x1), .int (nI j2), .int (x3), .int (x4)] : List Value).toArray s 0 0 (va_A (va_pl L f0) sz)) (F0 m 18 ls [.int (zs0)]) := by
    intro H locs f σ ls y5 zs0 hI hM hF hl pzs0 o90 u90
    refine lv_istore (lv' := [(6, .int (zs0)), (0, .ref (ad 71)), (1, .int (x1)), (2, .int (nI j2)), (3, .int (x3)), (4, .int (x4)), (5, .int (y5))]) hx hb d_Mo_heard_18 hl (by decide) rfl (fun ls hl => ?_)
    refine lv_iload hx hb d_Mo_heard_20 (lv_at hl 5 rfl) ?_
    refine lv_aload_n hx hb d_Mo_heard_22 rfl (lv_at hl 1 rfl) ?_
    obtain ⟨x_75, e_76⟩ : ∃ z, σ.1 35 = z := ⟨_, rfl⟩
    refine mq_get (k := 35) (v := .int (x_75)) hx hb hts hown hI hM (by decide) (congrArg (fun z => some (Value.int z)) e_76) rfl (hts _ tw_1204) d_Mo_heard_23 ?_
    refine lv_icmp_ne (tgt := 57) hx hb d_Mo_heard_26 (by decide) (fun c_77 => ?_) (fun c_77 => ?_)
    · exact sm_vret hx hb hr hlk hI ⟨σ, rfl, hM, hF, ⟨⟨(z1), by omega, by omega, by omega, o90⟩, u90, trivial⟩⟩ d_Mo_heard_57
    · refine lv_iload_n hx hb d_Mo_heard_29 rfl (lv_at hl 4 rfl) ?_
      refine lv_bipush (v := 64) hx hb d_Mo_heard_30 (by decide) ?_
      refine lv_iand hx hb d_Mo_heard_32 ?_
      refine lv_topi (fun x_78 e_79 => ?_)
      refine lv_if_eq (tgt := 57) hx hb d_Mo_heard_33 (by decide) (fun c_80 => ?_) (fun c_80 => ?_)
      · exact sm_vret hx hb hr hlk hI ⟨σ, rfl, hM, hF, ⟨⟨(z1), by omega, by omega, by omega, o90⟩, u90, trivial⟩⟩ d_Mo_heard_57
      · refine lv_iload_n hx hb d_Mo_heard_36 rfl (lv_at hl 2 rfl) ?_
        refine lv_iload hx hb d_Mo_heard_37 (lv_at hl 6 rfl) ?_
        refine lv_iconst (v := 3) hx hb d_Mo_heard_39 (by decide) ?_
        refine lv_icmp_eq (tgt := 49) hx hb d_Mo_heard_40 (by decide) (fun c_81 => ?_) (fun c_81 => ?_)
        · refine lv_iconst (v := 1) hx hb d_Mo_heard_49 (by decide) ?_
          refine lv_goto (tgt := 54) hx hb d_Mo_heard_50 (by decide) ?_
          exact hJ_54 _ _ _ _ _ y5 zs0 1 hI hM hF (lv_sub hl [1, 2, 3, 4, 5, 6, 0] rfl) pzs0 (by decide) (Eq.trans o90 (congrArg nI (show ((z1) : Nat) = _ by omega))) u90
        · refine lv_iload hx hb d_Mo_heard_43 (lv_at hl 6 rfl) ?_
          refine lv_iconst (v := 4) hx hb d_Mo_heard_45 (by decide) ?_
          refine lv_icmp_ne (tgt := 53) hx hb d_Mo_heard_46 (by decide) (fun c_82 => ?_) (fun c_82 => ?_)
          · refine lv_iconst (v := 0) hx hb d_Mo_heard_53 (by decide) ?_
            exact hJ_54 _ _ _ _ _ y5 zs0 0 hI hM hF (lv_sub hl [1, 2, 3, 4, 5, 6, 0] rfl) pzs0 (by decide) (Eq.trans o90 (congrArg nI (show ((z1) : Nat) = _ by omega))) u90
          · refine lv_iconst (v := 1) hx hb d_Mo_heard_49 (by decide) ?_
            refine lv_goto (tgt := 54) hx hb d_Mo_heard_50 (by decide) ?_
            exact hJ_54 _ _ _ _ _ y5 zs0 1 hI hM hF (lv_sub hl [1, 2, 3, 4, 5, 6, 0] rfl) pzs0 (by decide) (Eq.trans o90 (congrArg nI (show ((z1) : Nat) = _ by omega))) u90
  refine lv_iload_n hx hb d_Mo_heard_0 rfl (lv_at hl 3 rfl) ?_
  refine lv_bipush (v := 15) hx hb d_Mo_heard_1 (by decide) ?_
  refine lv_iand hx hb d_Mo_heard_3 ?_
  refine lv_topi (fun x_83 e_84 => ?_)
  refine lv_istore (lv' := [(5, .int (x_83)), (0, .ref (ad 71)), (1, .int (x1)), (2, .int (nI j2)), (3, .int (x3)), (4, .int (x4))]) hx hb d_Mo_heard_4 hl (by decide) rfl (fun ls hl => ?_)
  refine lv_iload_n hx hb d_Mo_heard_6 rfl (lv_at hl 4 rfl) ?_
  refine lv_bipush (v := 16) hx hb d_Mo_heard_7 (by decide) ?_
  refine lv_iand hx hb d_Mo_heard_9 ?_
  refine lv_topi (fun x_85 e_86 => ?_)
  refine lv_if_eq (tgt := 17) hx hb d_Mo_heard_10 (by decide) (fun c_87 => ?_) (fun c_87 => ?_)
  · refine lv_iconst (v := 0) hx hb d_Mo_heard_17 (by decide) ?_
    exact hJ_18 _ _ _ _ _ x_83 0 hI hM hF (lv_sub hl [1, 2, 3, 4, 5, 0] rfl) (by decide) (Eq.trans o0 (congrArg nI (show (z1 : Nat) = _ by omega))) u0
  · refine lv_iconst (v := 1) hx hb d_Mo_heard_13 (by decide) ?_
    refine lv_goto (tgt := 18) hx hb d_Mo_heard_14 (by decide) ?_
    exact hJ_18 _ _ _ _ _ x_83 1 hI hM hF (lv_sub hl [1, 2, 3, 4, 5, 0] rfl) (by decide) (Eq.trans o0 (congrArg nI (show (z1 : Nat) = _ by omega))) u0
theorem d_Mo_frameI_0 : decode b_Mo_frameI 0 = .ok (.aload_n 0, 1) := by decide +kernel
theorem d_Mo_frameI_1 : decode b_Mo_frameI 1 = .ok (.getfield 29, 3) := by decide +kernel
theorem d_Mo_frameI_4 : decode b_Mo_frameI 4 = .ok (.iload_n 1, 1) := by decide +kernel
theorem d_Mo_frameI_5 : decode b_Mo_frameI 5 = .ok (.iaload, 1) := by decide +kernel
theorem d_Mo_frameI_6 : decode b_Mo_frameI 6 = .ok (.iconst 2, 1) := by decide +kernel
theorem d_Mo_frameI_7 : decode b_Mo_frameI 7 = .ok (.if_icmp .ne 22, 3) := by decide +kernel
theorem d_Mo_frameI_10 : decode b_Mo_frameI 10 = .ok (.iload_n 2, 1) := by decide +kernel
theorem d_Mo_frameI_11 : decode b_Mo_frameI 11 = .ok (.aload_n 0, 1) := by decide +kernel
theorem d_Mo_frameI_12 : decode b_Mo_frameI 12 = .ok (.getfield 50, 3) := by decide +kernel
theorem d_Mo_frameI_15 : decode b_Mo_frameI 15 = .ok (.iload_n 1, 1) := by decide +kernel
theorem d_Mo_frameI_16 : decode b_Mo_frameI 16 = .ok (.iaload, 1) := by decide +kernel
theorem d_Mo_frameI_17 : decode b_Mo_frameI 17 = .ok (.if_icmp .ne 12, 3) := by decide +kernel
theorem d_Mo_frameI_20 : decode b_Mo_frameI 20 = .ok (.aload_n 0, 1) := by decide +kernel
theorem d_Mo_frameI_21 : decode b_Mo_frameI 21 = .ok (.iload_n 1, 1) := by decide +kernel
theorem d_Mo_frameI_22 : decode b_Mo_frameI 22 = .ok (.iload_n 3, 1) := by decide +kernel
theorem d_Mo_frameI_23 : decode b_Mo_frameI 23 = .ok (.invokevirtual 375, 3) := by decide +kernel
theorem d_Mo_frameI_26 : decode b_Mo_frameI 26 = .ok (.ifCond .ne 9, 3) := by decide +kernel
theorem d_Mo_frameI_29 : decode b_Mo_frameI 29 = .ok (.aload_n 0, 1) := by decide +kernel
theorem d_Mo_frameI_30 : decode b_Mo_frameI 30 = .ok (.iload_n 1, 1) := by decide +kernel
theorem d_Mo_frameI_31 : decode b_Mo_frameI 31 = .ok (.invokevirtual 276, 3) := by decide +kernel
theorem d_Mo_frameI_34 : decode b_Mo_frameI 34 = .ok (.return_, 1) := by decide +kernel
theorem d_Mo_frameI_35 : decode b_Mo_frameI 35 = .ok (.aload_n 0, 1) := by decide +kernel
theorem d_Mo_frameI_36 : decode b_Mo_frameI 36 = .ok (.getfield 50, 3) := by decide +kernel
theorem d_Mo_frameI_39 : decode b_Mo_frameI 39 = .ok (.iload_n 1, 1) := by decide +kernel
theorem d_Mo_frameI_40 : decode b_Mo_frameI 40 = .ok (.aload_n 0, 1) := by decide +kernel
theorem d_Mo_frameI_41 : decode b_Mo_frameI 41 = .ok (.getfield 50, 3) := by decide +kernel
theorem d_Mo_frameI_44 : decode b_Mo_frameI 44 = .ok (.iload_n 1, 1) := by decide +kernel
theorem d_Mo_frameI_45 : decode b_Mo_frameI 45 = .ok (.iaload, 1) := by decide +kernel
theorem d_Mo_frameI_46 : decode b_Mo_frameI 46 = .ok (.iconst 1, 1) := by decide +kernel
theorem d_Mo_frameI_47 : decode b_Mo_frameI 47 = .ok (.iadd, 1) := by decide +kernel
theorem d_Mo_frameI_48 : decode b_Mo_frameI 48 = .ok (.ldc_w 285, 3) := by decide +kernel
theorem d_Mo_frameI_51 : decode b_Mo_frameI 51 = .ok (.irem, 1) := by decide +kernel
theorem d_Mo_frameI_52 : decode b_Mo_frameI 52 = .ok (.iastore, 1) := by decide +kernel
theorem d_Mo_frameI_53 : decode b_Mo_frameI 53 = .ok (.aload_n 0, 1) := by decide +kernel
theorem d_Mo_frameI_54 : decode b_Mo_frameI 54 = .ok (.getfield 66, 3) := by decide +kernel
theorem d_Mo_frameI_57 : decode b_Mo_frameI 57 = .ok (.iload_n 1, 1) := by decide +kernel
theorem d_Mo_frameI_58 : decode b_Mo_frameI 58 = .ok (.iaload, 1) := by decide +kernel
theorem d_Mo_frameI_59 : decode b_Mo_frameI 59 = .ok (.ifCond .ne 13, 3) := by decide +kernel
theorem d_Mo_frameI_62 : decode b_Mo_frameI 62 = .ok (.aload_n 0, 1) := by decide +kernel
theorem d_Mo_frameI_63 : decode b_Mo_frameI 63 = .ok (.getfield 69, 3) := by decide +kernel
theorem d_Mo_frameI_66 : decode b_Mo_frameI 66 = .ok (.iload_n 1, 1) := by decide +kernel
theorem d_Mo_frameI_67 : decode b_Mo_frameI 67 = .ok (.aload_n 0, 1) := by decide +kernel
theorem d_Mo_frameI_68 : decode b_Mo_frameI 68 = .ok (.getfield 282, 3) := by decide +kernel
theorem d_Mo_frameI_71 : decode b_Mo_frameI 71 = .ok (.lastore, 1) := by decide +kernel
theorem d_Mo_frameI_72 : decode b_Mo_frameI 72 = .ok (.aload_n 0, 1) := by decide +kernel
theorem d_Mo_frameI_73 : decode b_Mo_frameI 73 = .ok (.getfield 66, 3) := by decide +kernel
theorem d_Mo_frameI_76 : decode b_Mo_frameI 76 = .ok (.iload_n 1, 1) := by decide +kernel
theorem d_Mo_frameI_77 : decode b_Mo_frameI 77 = .ok (.dup2, 1) := by decide +kernel
theorem d_Mo_frameI_78 : decode b_Mo_frameI 78 = .ok (.iaload, 1) := by decide +kernel
theorem d_Mo_frameI_79 : decode b_Mo_frameI 79 = .ok (.iconst 1, 1) := by decide +kernel
theorem d_Mo_frameI_80 : decode b_Mo_frameI 80 = .ok (.iadd, 1) := by decide +kernel
theorem d_Mo_frameI_81 : decode b_Mo_frameI 81 = .ok (.iastore, 1) := by decide +kernel
theorem d_Mo_frameI_82 : decode b_Mo_frameI 82 = .ok (.aload_n 0, 1) := by decide +kernel
theorem d_Mo_frameI_83 : decode b_Mo_frameI 83 = .ok (.iload 4, 2) := by decide +kernel
theorem d_Mo_frameI_85 : decode b_Mo_frameI 85 = .ok (.putfield 219, 3) := by decide +kernel
theorem d_Mo_frameI_88 : decode b_Mo_frameI 88 = .ok (.iconst 0, 1) := by decide +kernel
theorem d_Mo_frameI_89 : decode b_Mo_frameI 89 = .ok (.istore 5, 2) := by decide +kernel
theorem d_Mo_frameI_91 : decode b_Mo_frameI 91 = .ok (.iload 5, 2) := by decide +kernel
theorem d_Mo_frameI_93 : decode b_Mo_frameI 93 = .ok (.iload 4, 2) := by decide +kernel
theorem d_Mo_frameI_95 : decode b_Mo_frameI 95 = .ok (.if_icmp .ge 32, 3) := by decide +kernel
theorem d_Mo_frameI_98 : decode b_Mo_frameI 98 = .ok (.aload_n 0, 1) := by decide +kernel
theorem d_Mo_frameI_99 : decode b_Mo_frameI 99 = .ok (.getfield 172, 3) := by decide +kernel
theorem d_Mo_frameI_102 : decode b_Mo_frameI 102 = .ok (.iload 5, 2) := by decide +kernel
theorem d_Mo_frameI_104 : decode b_Mo_frameI 104 = .ok (.aload_n 0, 1) := by decide +kernel
theorem d_Mo_frameI_105 : decode b_Mo_frameI 105 = .ok (.getfield 41, 3) := by decide +kernel
theorem d_Mo_frameI_108 : decode b_Mo_frameI 108 = .ok (.iload_n 1, 1) := by decide +kernel
theorem d_Mo_frameI_109 : decode b_Mo_frameI 109 = .ok (.sipush 270, 3) := by decide +kernel
theorem d_Mo_frameI_112 : decode b_Mo_frameI 112 = .ok (.imul, 1) := by decide +kernel
theorem d_Mo_frameI_113 : decode b_Mo_frameI 113 = .ok (.bipush 6, 2) := by decide +kernel
theorem d_Mo_frameI_115 : decode b_Mo_frameI 115 = .ok (.iadd, 1) := by decide +kernel
theorem d_Mo_frameI_116 : decode b_Mo_frameI 116 = .ok (.iload 5, 2) := by decide +kernel
theorem d_Mo_frameI_118 : decode b_Mo_frameI 118 = .ok (.iadd, 1) := by decide +kernel
theorem d_Mo_frameI_119 : decode b_Mo_frameI 119 = .ok (.iaload, 1) := by decide +kernel
theorem d_Mo_frameI_120 : decode b_Mo_frameI 120 = .ok (.iastore, 1) := by decide +kernel
theorem d_Mo_frameI_121 : decode b_Mo_frameI 121 = .ok (.iinc 5 1, 3) := by decide +kernel
theorem d_Mo_frameI_124 : decode b_Mo_frameI 124 = .ok (.goto (-33), 3) := by decide +kernel
theorem d_Mo_frameI_127 : decode b_Mo_frameI 127 = .ok (.aload_n 0, 1) := by decide +kernel
theorem d_Mo_frameI_128 : decode b_Mo_frameI 128 = .ok (.iload_n 1, 1) := by decide +kernel
theorem d_Mo_frameI_129 : decode b_Mo_frameI 129 = .ok (.invokevirtual 381, 3) := by decide +kernel
theorem d_Mo_frameI_132 : decode b_Mo_frameI 132 = .ok (.ifCond .ne 8, 3) := by decide +kernel
theorem d_Mo_frameI_135 : decode b_Mo_frameI 135 = .ok (.aload_n 0, 1) := by decide +kernel
theorem d_Mo_frameI_136 : decode b_Mo_frameI 136 = .ok (.iload_n 1, 1) := by decide +kernel
theorem d_Mo_frameI_137 : decode b_Mo_frameI 137 = .ok (.invokevirtual 276, 3) := by decide +kernel
theorem d_Mo_frameI_140 : decode b_Mo_frameI 140 = .ok (.aload_n 0, 1) := by decide +kernel
theorem d_Mo_frameI_141 : decode b_Mo_frameI 141 = .ok (.invokevirtual 216, 3) := by decide +kernel
theorem d_Mo_frameI_144 : decode b_Mo_frameI 144 = .ok (.aload_n 0, 1) := by decide +kernel
theorem d_Mo_frameI_145 : decode b_Mo_frameI 145 = .ok (.getfield 29, 3) := by decide +kernel
theorem d_Mo_frameI_148 : decode b_Mo_frameI 148 = .ok (.iload_n 1, 1) := by decide +kernel
theorem d_Mo_frameI_149 : decode b_Mo_frameI 149 = .ok (.iaload, 1) := by decide +kernel
theorem d_Mo_frameI_150 : decode b_Mo_frameI 150 = .ok (.ifCond .le 19, 3) := by decide +kernel
theorem d_Mo_frameI_153 : decode b_Mo_frameI 153 = .ok (.aload_n 0, 1) := by decide +kernel
theorem d_Mo_frameI_154 : decode b_Mo_frameI 154 = .ok (.getfield 66, 3) := by decide +kernel
theorem d_Mo_frameI_157 : decode b_Mo_frameI 157 = .ok (.iload_n 1, 1) := by decide +kernel
theorem d_Mo_frameI_158 : decode b_Mo_frameI 158 = .ok (.iaload, 1) := by decide +kernel
theorem d_Mo_frameI_159 : decode b_Mo_frameI 159 = .ok (.bipush 8, 2) := by decide +kernel
theorem d_Mo_frameI_161 : decode b_Mo_frameI 161 = .ok (.if_icmp .lt 8, 3) := by decide +kernel
theorem d_Mo_frameI_164 : decode b_Mo_frameI 164 = .ok (.aload_n 0, 1) := by decide +kernel
theorem d_Mo_frameI_165 : decode b_Mo_frameI 165 = .ok (.iload_n 1, 1) := by decide +kernel
theorem d_Mo_frameI_166 : decode b_Mo_frameI 166 = .ok (.invokevirtual 358, 3) := by decide +kernel
theorem d_Mo_frameI_169 : decode b_Mo_frameI 169 = .ok (.return_, 1) := by decide +kernel
set_option maxRecDepth 100000 in
set_option maxHeartbeats 4000000 in
theorem c_Mo_frameI (l : Launch) (D : va_G) (ca : Nat → ClassId) (ad : Nat → Nat) (L : List Nat) (f0 : Nat → va_E) (sz : Nat) (σ0 : mq_S) (hM : mq_B ca ad σ0 L f0) (j1 : Nat) (q1 : j1 ≤ 2) (x2 : Int32) (j3 : Nat) (q3 : j3 ≤ 32767) (j4 : Nat) (q4 : j4 ≤ 253) (z1 : Nat) (o0 : σ0.1 56 = nI z1) (hz : z1 ≤ 599) (u0 : IH σ0) :
    Met l y_Mo_frameI (Cond.code y_Mo_frameI b_Mo_frameI 6 none :: wg) { frames := 7, cells := 0, slots := 0, locals := 181 } (va_Pc [.ref (ad 71), .int (nI j1), .int (x2), .int (nI j3), .int (nI j4)] (sm_P D cl_all (ty_s ca) ek L f0 sz)) (sm_Qv D (ty_s ca) L f0 sz (fun u => mq_po ca ad L σ0 [9, 10, 11, 13, 14, 15, 16, 18, 19, 20, 21, 22, 23, 24, 25, 26, 30, 31, 32, 33, 34, 42, 43, 45, 46, 47, 48, 49, 50, 51, 52, 54, 55, 56, 57, 58, 59, 60, 61, 62, 63, 64, 65, 66, 67, 68, 69, 70] (fun σ => (∃ n : Nat, z1 ≤ n ∧ n ≤ z1 + 1 ∧ (n = z1 ∨ 5 ≤ j4) ∧ σ.1 56 = nI n) ∧ IH σ ∧ True) u)) 0 0 (va_A (va_pl L f0) sz) := by
  refine sm_start (by decide) (Nat.le_of_ble_eq_true rfl) ?_
  intro p e s m below meth c ls hx hb hml hr hlk hnm hts hown hsz hE hI hl
  have hl : lv_has ls 6 [(0, .ref (ad 71)), (1, .int (nI j1)), (2, .int (x2)), (3, .int (nI j3)), (4, .int (nI j4))] := hl
  have hF : mq_fr [9, 10, 11, 13, 14, 15, 16, 18, 19, 20, 21, 22, 23, 24, 25, 26, 30, 31, 32, 33, 34, 42, 43, 45, 46, 47, 48, 49, 50, 51, 52, 54, 55, 56, 57, 58, 59, 60, 61, 62, 63, 64, 65, 66, 67, 68, 69, 70] σ0 σ0 := mq_fr_rf
  have hJ_140 : ∀ (H : Heap) (locs : List Loc) (f : Nat → va_E) (σ : mq_S) (ls : Array Slot) (y5 : Int32) (w : Nat), sw_I D cl_all (ty_s ca) (va_A (va_pl L f0) sz) s H locs L f → mq_B ca ad σ L f → mq_fr [9, 10, 11, 13, 14, 15, 16, 18, 19, 20, 21, 22, 23, 24, 25, 26, 30, 31, 32, 33, 34, 42, 43, 45, 46, 47, 48, 49, 50, 51, 52, 54, 55, 56, 57, 58, 59, 60, 61, 62, 63, 64, 65, 66, 67, 68, 69, 70] σ0 σ → lv_has ls 6 [(0, .ref (ad 71)), (1, .int (nI j1)), (2, .int (x2)), (3, .int (nI j3)), (4, .int (nI j4)), (5, .int (y5))] → (z1 ≤ w) → (w ≤ z1 + 1) → (σ.1 56 = nI w) → (IH σ) → (w = z1 ∨ 5 ≤ j4) → W p l e { frames := 7, cells := 0, slots := 0, locals := 181 } s m ([.ref (ad 71), .int (nI j1), .int (x2), .int (nI j3), .int (nI j4)] : List Value).toArray below meth c H locs 0 0 (MQ below (sm_Qv D (ty_s ca) L f0 sz (fun u => mq_po ca ad L σ0 [9, 10, 11, 13, 14, 15, 16, 18, 19, 20, 21, 22, 23, 24, 25, 26, 30, 31, 32, 33, 34, 42, 43, 45, 46, 47, 48, 49, 50, 51, 52, 54, 55, 56, 57, 58, 59, 60, 61, 62, 63, 64, 65, 66, 67, 68, 69, 70] (fun σ => (∃ n : Nat, z1 ≤ n ∧ n ≤ z1 + 1 ∧ (n = z1 ∨ 5 ≤ j4) ∧ σ.1 56 = nI n) ∧ IH σ ∧ True) u)) ([.ref (ad 71), .int (nI j1), .int (x2), .int (nI j3), .int (nI j4)] : List Value).toArray s 0 0 (va_A (va_pl L f0) sz)) (F0 m 140 ls []) := by
    intro H locs f σ ls y5 w hI hM hF hl h90a h90b o90 u90 hw
    refine lv_aload_n hx hb d_Mo_frameI_140 rfl (lv_at hl 0 rfl) ?_
    refine sm_vM hI (va_runV (As := []) (rest := []) ⟨hx, hb, hml, hown, hts⟩ (c_Mo_sendAll l D ca ad L _ _ _ hM u90) (kv_Mo_sendAll hts rfl rfl (hts _ tw_1422) ⟨Nat.le_of_ble_eq_true rfl, Nat.le_of_ble_eq_true rfl⟩) (pv_Mo hI hE hM) rfl rfl hl.1 rfl (lv_room (Nat.le_of_ble_eq_true rfl)) d_Mo_frameI_141 ⟨Nat.le_of_ble_eq_true rfl, Nat.le_of_ble_eq_true rfl⟩) (fun H locs f σ_2 hI hM hF_3 p_1 => ?_)
    have hF := mq_fr_tr hF hF_3 (by decide)
    have o_4 : σ_2.1 56 = nI w := mq_fi hF_3 (by decide) o90
    obtain ⟨u_5, -⟩ := p_1
    refine lv_aload_n hx hb d_Mo_frameI_144 rfl (lv_at hl 0 rfl) ?_
    refine mq_get (k := 13) (v := .ref (ad 13)) hx hb hts hown hI hM (by decide) rfl rfl (hts _ tw_1182) d_Mo_frameI_145 ?_
    refine lv_iload_n hx hb d_Mo_frameI_148 rfl (lv_at hl 1 rfl) ?_
    obtain ⟨x_6, e_7⟩ : ∃ z, σ_2.2.2.1 13 (j1) = z := ⟨_, rfl⟩
    refine mq_iald (k := 13) (j := j1) (v := x_6) hx hb hI hM (by decide) rfl (by show j1 < 4; omega) (by decide) e_7 d_Mo_frameI_149 ?_
    refine lv_if_le (tgt := 169) hx hb d_Mo_frameI_150 (by decide) (fun c_8 => ?_) (fun c_8 => ?_)
    · exact sm_vret hx hb hr hlk hI ⟨σ_2, rfl, hM, hF, ⟨⟨w, by omega, by omega, by omega, o_4⟩, u_5, trivial⟩⟩ d_Mo_frameI_169
    · refine lv_aload_n hx hb d_Mo_frameI_153 rfl (lv_at hl 0 rfl) ?_
      refine mq_get (k := 25) (v := .ref (ad 25)) hx hb hts hown hI hM (by decide) rfl rfl (hts _ tw_1194) d_Mo_frameI_154 ?_
      refine lv_iload_n hx hb d_Mo_frameI_157 rfl (lv_at hl 1 rfl) ?_
      obtain ⟨x_9, e_10⟩ : ∃ z, σ_2.2.2.1 25 (j1) = z := ⟨_, rfl⟩
      refine mq_iald (k := 25) (j := j1) (v := x_9) hx hb hI hM (by decide) rfl (by show j1 < 3; omega) (by decide) e_10 d_Mo_frameI_158 ?_
      refine lv_bipush (v := 8) hx hb d_Mo_frameI_159 (by decide) ?_
      refine lv_icmp_lt (tgt := 169) hx hb d_Mo_frameI_161 (by decide) (fun c_11 => ?_) (fun c_11 => ?_)
      · exact sm_vret hx hb hr hlk hI ⟨σ_2, rfl, hM, hF, ⟨⟨w, by omega, by omega, by omega, o_4⟩, u_5, trivial⟩⟩ d_Mo_frameI_169
      · refine lv_aload_n hx hb d_Mo_frameI_164 rfl (lv_at hl 0 rfl) ?_
        refine lv_iload_n hx hb d_Mo_frameI_165 rfl (lv_at hl 1 rfl) ?_
        refine sm_vM hI (va_runV (As := [.int (nI j1)]) (rest := []) ⟨hx, hb, hml, hown, hts⟩ (c_Mo_confirms l D ca ad L _ _ _ hM (j1) (by omega) u_5) (kv_Mo_confirms hts rfl rfl (hts _ tw_1561) ⟨Nat.le_of_ble_eq_true rfl, Nat.le_of_ble_eq_true rfl⟩) (pv_Mo hI hE hM) rfl rfl hl.1 rfl (lv_room (Nat.le_of_ble_eq_true rfl)) d_Mo_frameI_166 ⟨Nat.le_of_ble_eq_true rfl, Nat.le_of_ble_eq_true rfl⟩) (fun H locs f σ_13 hI hM hF_14 p_12 => ?_)
        have hF := mq_fr_tr hF hF_14 (by decide)
        have o_15 : σ_13.1 56 = nI w := mq_fi hF_14 (by decide) o_4
        obtain ⟨u_16, -⟩ := p_12
        exact sm_vret hx hb hr hlk hI ⟨σ_13, rfl, hM, hF, ⟨⟨w, by omega, by omega, by omega, o_15⟩, u_16, trivial⟩⟩ d_Mo_frameI_169
  have hJ_91 : ∀ (N k : Nat) (H : Heap) (locs : List Loc) (f : Nat → va_E) (σ : mq_S) (ls : Array Slot) , 253 + 1 - k ≤ N → k ≤ 253 → sw_I D cl_all (ty_s ca) (va_A (va_pl L f0) sz) s H locs L f → mq_B ca ad σ L f → mq_fr [9, 10, 11, 13, 14, 15, 16, 18, 19, 20, 21, 22, 23, 24, 25, 26, 30, 31, 32, 33, 34, 42, 43, 45, 46, 47, 48, 49, 50, 51, 52, 54, 55, 56, 57, 58, 59, 60, 61, 62, 63, 64, 65, 66, 67, 68, 69, 70] σ0 σ → lv_has ls 6 [(0, .ref (ad 71)), (1, .int (nI j1)), (2, .int (x2)), (3, .int (nI j3)), (4, .int (nI j4)), (5, .int (nI k))] → (σ.1 56 = nI (z1)) → (σ.1 70 = nI (j4)) → (IH σ) → W p l e { frames := 7, cells := 0, slots := 0, locals := 181 } s m ([.ref (ad 71), .int (nI j1), .int (x2), .int (nI j3), .int (nI j4)] : List Value).toArray below meth c H locs 0 0 (MQ below (sm_Qv D (ty_s ca) L f0 sz (fun u => mq_po ca ad L σ0 [9, 10, 11, 13, 14, 15, 16, 18, 19, 20, 21, 22, 23, 24, 25, 26, 30, 31, 32, 33, 34, 42, 43, 45, 46, 47, 48, 49, 50, 51, 52, 54, 55, 56, 57, 58, 59, 60, 61, 62, 63, 64, 65, 66, 67, 68, 69, 70] (fun σ => (∃ n : Nat, z1 ≤ n ∧ n ≤ z1 + 1 ∧ (n = z1 ∨ 5 ≤ j4) ∧ σ.1 56 = nI n) ∧ IH σ ∧ True) u)) ([.ref (ad 71), .int (nI j1), .int (x2), .int (nI j3), .int (nI j4)] : List Value).toArray s 0 0 (va_A (va_pl L f0) sz)) (F0 m 91 ls []) := by
    intro N
    induction N with
    | zero => intros; omega
    | succ N ih =>
      intro k H locs f σ ls  hN hk hI hM hF hl o90 o91 u90
      refine lv_iload hx hb d_Mo_frameI_91 (lv_at hl 5 rfl) ?_
      refine lv_iload hx hb d_Mo_frameI_93 (lv_at hl 4 rfl) ?_
      refine lv_icmp_ge (tgt := 127) hx hb d_Mo_frameI_95 (by decide) (fun c_17 => ?_) (fun c_17 => ?_)
      · have k_18 : j4 ≤ k := (nI_leI (a := j4) (b := k) (by omega) (by omega)).mp c_17
        refine lv_aload_n hx hb d_Mo_frameI_127 rfl (lv_at hl 0 rfl) ?_
        refine lv_iload_n hx hb d_Mo_frameI_128 rfl (lv_at hl 1 rfl) ?_
        refine sm_iM hI (va_runV (As := [.int (nI j1)]) (rest := []) ⟨hx, hb, hml, hown, hts⟩ (c_Mo_asks l D ca ad L _ _ _ hM (j1) (by omega) ((z1)) o90 ((j4)) o91 (by omega) (by omega) u90) (kv_Mo_asks hts rfl rfl (hts _ tw_1605) ⟨Nat.le_of_ble_eq_true rfl, Nat.le_of_ble_eq_true rfl⟩) (pv_Mo hI hE hM) rfl rfl hl.1 rfl (lv_room (Nat.le_of_ble_eq_true rfl)) d_Mo_frameI_129 ⟨Nat.le_of_ble_eq_true rfl, Nat.le_of_ble_eq_true rfl⟩) (fun x_22 H locs f σ_20 hI hM hF_21 p_19 => ?_)
        have hF := mq_fr_tr hF hF_21 (by decide)
        obtain ⟨p_29, ⟨n_24, h_25, h_26, h_27, o_23⟩, u_28, -⟩ := p_19
        refine lv_if_ne (tgt := 140) hx hb d_Mo_frameI_132 (by decide) (fun c_30 => ?_) (fun c_30 => ?_)
        · exact hJ_140 _ _ _ _ _ (nI k) (n_24) hI hM hF (lv_sub hl [0, 1, 2, 3, 4, 5] rfl) (by omega) (by omega) o_23 u_28 (by omega)
        · refine lv_aload_n hx hb d_Mo_frameI_135 rfl (lv_at hl 0 rfl) ?_
          refine lv_iload_n hx hb d_Mo_frameI_136 rfl (lv_at hl 1 rfl) ?_
          refine sm_vM hI (va_runV (As := [.int (nI j1)]) (rest := []) ⟨hx, hb, hml, hown, hts⟩ (c_Mo_shut l D ca ad L _ _ _ hM (j1) (by omega) u_28) (kv_Mo_shut hts rfl rfl (hts _ tw_1513) ⟨Nat.le_of_ble_eq_true rfl, Nat.le_of_ble_eq_true rfl⟩) (pv_Mo hI hE hM) rfl rfl hl.1 rfl (lv_room (Nat.le_of_ble_eq_true rfl)) d_Mo_frameI_137 ⟨Nat.le_of_ble_eq_true rfl, Nat.le_of_ble_eq_true rfl⟩) (fun H locs f σ_32 hI hM hF_33 p_31 => ?_)
          have hF := mq_fr_tr hF hF_33 (by decide)
          have o_34 : σ_32.1 56 = nI n_24 := mq_fi hF_33 (by decide) o_23
          obtain ⟨o_35, o_36, u_37, -⟩ := p_31
          exact hJ_140 _ _ _ _ _ (nI k) (n_24) hI hM hF (lv_sub hl [0, 1, 2, 3, 4, 5] rfl) (by omega) (by omega) o_34 u_37 (by omega)
      · have k_38 : k < j4 := Nat.lt_of_not_le (fun q => c_17 ((nI_leI (a := j4) (b := k) (by omega) (by omega)).mpr q))
        refine lv_aload_n hx hb d_Mo_frameI_98 rfl (lv_at hl 0 rfl) ?_
        refine mq_get (k := 69) (v := .ref (ad 69)) hx hb hts hown hI hM (by decide) rfl rfl (hts _ tw_1238) d_Mo_frameI_99 ?_
        refine lv_iload hx hb d_Mo_frameI_102 (lv_at hl 5 rfl) ?_
        refine lv_aload_n hx hb d_Mo_frameI_104 rfl (lv_at hl 0 rfl) ?_
        refine mq_get (k := 17) (v := .ref (ad 17)) hx hb hts hown hI hM (by decide) rfl rfl (hts _ tw_1186) d_Mo_frameI_105 ?_
        refine lv_iload_n hx hb d_Mo_frameI_108 rfl (lv_at hl 1 rfl) ?_
        refine lv_sipush (v := 270) hx hb d_Mo_frameI_109 (by decide) ?_
        refine lv_imul hx hb d_Mo_frameI_112 ?_
        refine lv_topi (fun x_39 e_40 => ?_)
        obtain rfl : x_39 = nI (j1 * 270) := by rw [e_40]; exact pk_mul _ _
        refine lv_bipush (v := 6) hx hb d_Mo_frameI_113 (by decide) ?_
        refine lv_iadd hx hb d_Mo_frameI_115 ?_
        refine lv_topi (fun x_41 e_42 => ?_)
        obtain rfl : x_41 = nI ((j1 * 270) + 6) := by rw [e_42]; exact nI_add _ _
        refine lv_iload hx hb d_Mo_frameI_116 (lv_at hl 5 rfl) ?_
        refine lv_iadd hx hb d_Mo_frameI_118 ?_
        refine lv_topi (fun x_43 e_44 => ?_)
        obtain rfl : x_43 = nI (((j1 * 270) + 6) + k) := by rw [e_44]; exact nI_add _ _
        obtain ⟨n_45, h_46, h_47, e_48⟩ := hM.2.2.2.2.2 17 ((((j1 * 270) + 6) + k))
        refine mq_iald (k := 17) (j := (((j1 * 270) + 6) + k)) (v := nI n_45) hx hb hI hM (by decide) rfl (by show (((j1 * 270) + 6) + k) < 1080; omega) (by decide) e_48 d_Mo_frameI_119 ?_
        refine mq_iast (k := 69) (j := k) (x := nI n_45) hx hb hI hM (by decide) rfl (by show k < 260; omega) (by decide) trivial d_Mo_frameI_120 (fun H locs f σ_49 e_50 hI hM => ?_)
        have hF := mq_fr_ug hF e_50 rfl (Or.inl rfl)
        have o_51 : σ_49.1 56 = nI (z1) := by rw [e_50]; exact o90
        have o_52 : σ_49.1 70 = nI (j4) := by rw [e_50]; exact o91
        have u_53 := IH_fr (mq_fr_ug (X := [69]) mq_fr_rf e_50 rfl (Or.inl rfl)) (by decide) u90
        refine lv_iinc (v := nI (k + 1)) (lv' := [(5, .int (nI (k + 1))), (0, .ref (ad 71)), (1, .int (nI j1)), (2, .int (x2)), (3, .int (nI j3)), (4, .int (nI j4))]) hx hb d_Mo_frameI_121 hl (k := 5) rfl (nI_1 _) (by decide) rfl (fun ls hl => ?_)
        refine lv_goto (tgt := 91) hx hb d_Mo_frameI_124 (by decide) ?_
        exact ih ((k + 1)) _ _ _ _ _  (by omega) (by omega) hI hM hF (lv_sub hl [1, 2, 3, 4, 5, 0] rfl) (Eq.trans o_51 (congrArg nI (show ((z1) : Nat) = _ by omega))) (Eq.trans o_52 (congrArg nI (show ((j4) : Nat) = _ by omega))) u_53
  have hJ_72 : ∀ (H : Heap) (locs : List Loc) (f : Nat → va_E) (σ : mq_S) (ls : Array Slot) , sw_I D cl_all (ty_s ca) (va_A (va_pl L f0) sz) s H locs L f → mq_B ca ad σ L f → mq_fr [9, 10, 11, 13, 14, 15, 16, 18, 19, 20, 21, 22, 23, 24, 25, 26, 30, 31, 32, 33, 34, 42, 43, 45, 46, 47, 48, 49, 50, 51, 52, 54, 55, 56, 57, 58, 59, 60, 61, 62, 63, 64, 65, 66, 67, 68, 69, 70] σ0 σ → lv_has ls 6 [(0, .ref (ad 71)), (1, .int (nI j1)), (2, .int (x2)), (3, .int (nI j3)), (4, .int (nI j4))] → (σ.1 56 = nI (z1)) → (IH σ) → W p l e { frames := 7, cells := 0, slots := 0, locals := 181 } s m ([.ref (ad 71), .int (nI j1), .int (x2), .int (nI j3), .int (nI j4)] : List Value).toArray below meth c H locs 0 0 (MQ below (sm_Qv D (ty_s ca) L f0 sz (fun u => mq_po ca ad L σ0 [9, 10, 11, 13, 14, 15, 16, 18, 19, 20, 21, 22, 23, 24, 25, 26, 30, 31, 32, 33, 34, 42, 43, 45, 46, 47, 48, 49, 50, 51, 52, 54, 55, 56, 57, 58, 59, 60, 61, 62, 63, 64, 65, 66, 67, 68, 69, 70] (fun σ => (∃ n : Nat, z1 ≤ n ∧ n ≤ z1 + 1 ∧ (n = z1 ∨ 5 ≤ j4) ∧ σ.1 56 = nI n) ∧ IH σ ∧ True) u)) ([.ref (ad 71), .int (nI j1), .int (x2), .int (nI j3), .int (nI j4)] : List Value).toArray s 0 0 (va_A (va_pl L f0) sz)) (F0 m 72 ls []) := by
    intro H locs f σ ls  hI hM hF hl o90 u90
    refine lv_aload_n hx hb d_Mo_frameI_72 rfl (lv_at hl 0 rfl) ?_
    refine mq_get (k := 25) (v := .ref (ad 25)) hx hb hts hown hI hM (by decide) rfl rfl (hts _ tw_1194) d_Mo_frameI_73 ?_
    refine lv_iload_n hx hb d_Mo_frameI_76 rfl (lv_at hl 1 rfl) ?_
    refine lv_dup2_11 hx hb d_Mo_frameI_77 rfl rfl ?_
    obtain ⟨x_54, e_55⟩ : ∃ z, σ.2.2.1 25 (j1) = z := ⟨_, rfl⟩
    refine mq_iald (k := 25) (j := j1) (v := x_54) hx hb hI hM (by decide) rfl (by show j1 < 3; omega) (by decide) e_55 d_Mo_frameI_78 ?_
    refine lv_iconst (v := 1) hx hb d_Mo_frameI_79 (by decide) ?_
    refine lv_iadd hx hb d_Mo_frameI_80 ?_
    refine lv_topi (fun x_56 e_57 => ?_)
    refine mq_iast (k := 25) (j := j1) (x := x_56) hx hb hI hM (by decide) rfl (by show j1 < 3; omega) (by decide) trivial d_Mo_frameI_81 (fun H locs f σ_58 e_59 hI hM => ?_)
    have hF := mq_fr_ug hF e_59 rfl (Or.inl rfl)
    have o_60 : σ_58.1 56 = nI (z1) := by rw [e_59]; exact o90
    have u_61 := IH_fr (mq_fr_ug (X := [25]) mq_fr_rf e_59 rfl (Or.inl rfl)) (by decide) u90
    refine lv_aload_n hx hb d_Mo_frameI_82 rfl (lv_at hl 0 rfl) ?_
    refine lv_iload hx hb d_Mo_frameI_83 (lv_at hl 4 rfl) ?_
    refine mq_puti (k := 70) (ty := .int) hx hb hts hown hI hM (by decide) rfl rfl (hts _ tw_1239) rfl (by decide +kernel) rfl rfl ⟨j4, by omega, by omega, rfl⟩ d_Mo_frameI_85 (fun H locs f σ_62 e_63 hI hM => ?_)
    have hF := mq_fr_ui hF e_63 rfl
    have o_64 : σ_62.1 56 = nI (z1) := by rw [e_63]; exact o_60
    have u_65 := IH_fr (mq_fr_ui (X := [70]) mq_fr_rf e_63 rfl) (by decide) u_61
    have o_66 := mq_uik e_63
    refine lv_iconst (v := 0) hx hb d_Mo_frameI_88 (by decide) ?_
    refine lv_istore (lv' := [(5, .int (0)), (0, .ref (ad 71)), (1, .int (nI j1)), (2, .int (x2)), (3, .int (nI j3)), (4, .int (nI j4))]) hx hb d_Mo_frameI_89 hl (by decide) rfl (fun ls hl => ?_)
    exact hJ_91 _ (0) _ _ _ _ _  (Nat.le_refl _) (by omega) hI hM hF (lv_sub hl [1, 2, 3, 4, 5, 0] rfl) (Eq.trans o_64 (congrArg nI (show ((z1) : Nat) = _ by omega))) (Eq.trans o_66 (congrArg nI (show (j4 : Nat) = _ by omega))) u_65
  refine lv_aload_n hx hb d_Mo_frameI_0 rfl (lv_at hl 0 rfl) ?_
  refine mq_get (k := 13) (v := .ref (ad 13)) hx hb hts hown hI hM (by decide) rfl rfl (hts _ tw_1182) d_Mo_frameI_1 ?_
  refine lv_iload_n hx hb d_Mo_frameI_4 rfl (lv_at hl 1 rfl) ?_
  obtain ⟨x_67, e_68⟩ : ∃ z, σ0.2.2.1 13 (j1) = z := ⟨_, rfl⟩
  refine mq_iald (k := 13) (j := j1) (v := x_67) hx hb hI hM (by decide) rfl (by show j1 < 4; omega) (by decide) e_68 d_Mo_frameI_5 ?_
  refine lv_iconst (v := 2) hx hb d_Mo_frameI_6 (by decide) ?_
  refine lv_icmp_ne (tgt := 29) hx hb d_Mo_frameI_7 (by decide) (fun c_69 => ?_) (fun c_69 => ?_)
  · refine lv_aload_n hx hb d_Mo_frameI_29 rfl (lv_at hl 0 rfl) ?_
    refine lv_iload_n hx hb d_Mo_frameI_30 rfl (lv_at hl 1 rfl) ?_
    refine sm_vM hI (va_runV (As := [.int (nI j1)]) (rest := []) ⟨hx, hb, hml, hown, hts⟩ (c_Mo_shut l D ca ad L _ _ _ hM (j1) (by omega) u0) (kv_Mo_shut hts rfl rfl (hts _ tw_1513) ⟨Nat.le_of_ble_eq_true rfl, Nat.le_of_ble_eq_true rfl⟩) (pv_Mo hI hE hM) rfl rfl hl.1 rfl (lv_room (Nat.le_of_ble_eq_true rfl)) d_Mo_frameI_31 ⟨Nat.le_of_ble_eq_true rfl, Nat.le_of_ble_eq_true rfl⟩) (fun H locs f σ_71 hI hM hF_72 p_70 => ?_)
    have hF := mq_fr_tr hF hF_72 (by decide)
    have o_73 : σ_71.1 56 = nI z1 := mq_fi hF_72 (by decide) o0
    obtain ⟨o_74, o_75, u_76, -⟩ := p_70
    exact sm_vret hx hb hr hlk hI ⟨σ_71, rfl, hM, hF, ⟨⟨z1, by omega, by omega, by omega, o_73⟩, u_76, trivial⟩⟩ d_Mo_frameI_34
  · refine lv_iload_n hx hb d_Mo_frameI_10 rfl (lv_at hl 2 rfl) ?_
    refine lv_aload_n hx hb d_Mo_frameI_11 rfl (lv_at hl 0 rfl) ?_
    refine mq_get (k := 20) (v := .ref (ad 20)) hx hb hts hown hI hM (by decide) rfl rfl (hts _ tw_1189) d_Mo_frameI_12 ?_
    refine lv_iload_n hx hb d_Mo_frameI_15 rfl (lv_at hl 1 rfl) ?_
    obtain ⟨x_77, e_78⟩ : ∃ z, σ0.2.2.1 20 (j1) = z := ⟨_, rfl⟩
    refine mq_iald (k := 20) (j := j1) (v := x_77) hx hb hI hM (by decide) rfl (by show j1 < 3; omega) (by decide) e_78 d_Mo_frameI_16 ?_
    refine lv_icmp_ne (tgt := 29) hx hb d_Mo_frameI_17 (by decide) (fun c_79 => ?_) (fun c_79 => ?_)
    · refine lv_aload_n hx hb d_Mo_frameI_29 rfl (lv_at hl 0 rfl) ?_
      refine lv_iload_n hx hb d_Mo_frameI_30 rfl (lv_at hl 1 rfl) ?_
      refine sm_vM hI (va_runV (As := [.int (nI j1)]) (rest := []) ⟨hx, hb, hml, hown, hts⟩ (c_Mo_shut l D ca ad L _ _ _ hM (j1) (by omega) u0) (kv_Mo_shut hts rfl rfl (hts _ tw_1513) ⟨Nat.le_of_ble_eq_true rfl, Nat.le_of_ble_eq_true rfl⟩) (pv_Mo hI hE hM) rfl rfl hl.1 rfl (lv_room (Nat.le_of_ble_eq_true rfl)) d_Mo_frameI_31 ⟨Nat.le_of_ble_eq_true rfl, Nat.le_of_ble_eq_true rfl⟩) (fun H locs f σ_81 hI hM hF_82 p_80 => ?_)
      have hF := mq_fr_tr hF hF_82 (by decide)
      have o_83 : σ_81.1 56 = nI z1 := mq_fi hF_82 (by decide) o0
      obtain ⟨o_84, o_85, u_86, -⟩ := p_80
      exact sm_vret hx hb hr hlk hI ⟨σ_81, rfl, hM, hF, ⟨⟨z1, by omega, by omega, by omega, o_83⟩, u_86, trivial⟩⟩ d_Mo_frameI_34
    · refine lv_aload_n hx hb d_Mo_frameI_20 rfl (lv_at hl 0 rfl) ?_
      refine lv_iload_n hx hb d_Mo_frameI_21 rfl (lv_at hl 1 rfl) ?_
      refine lv_iload_n hx hb d_Mo_frameI_22 rfl (lv_at hl 3 rfl) ?_
      refine sm_iM hI (va_runV (As := [.int (nI j1), .int (nI j3)]) (rest := []) ⟨hx, hb, hml, hown, hts⟩ (c_Mo_confirmed l D ca ad L _ _ _ hM (j1) (by omega) (j3) (by omega) u0) (kv_Mo_confirmed hts rfl rfl (hts _ tw_1685) ⟨Nat.le_of_ble_eq_true rfl, Nat.le_of_ble_eq_true rfl⟩) (pv_Mo hI hE hM) rfl rfl hl.1 rfl (lv_room (Nat.le_of_ble_eq_true rfl)) d_Mo_frameI_23 ⟨Nat.le_of_ble_eq_true rfl, Nat.le_of_ble_eq_true rfl⟩) (fun x_90 H locs f σ_88 hI hM hF_89 p_87 => ?_)
      have hF := mq_fr_tr hF hF_89 (by decide)
      have o_91 : σ_88.1 56 = nI z1 := mq_fi hF_89 (by decide) o0
      obtain ⟨p_93, u_92, -⟩ := p_87
      refine lv_if_ne (tgt := 35) hx hb d_Mo_frameI_26 (by decide) (fun c_94 => ?_) (fun c_94 => ?_)
      · refine lv_aload_n hx hb d_Mo_frameI_35 rfl (lv_at hl 0 rfl) ?_
        refine mq_get (k := 20) (v := .ref (ad 20)) hx hb hts hown hI hM (by decide) rfl rfl (hts _ tw_1189) d_Mo_frameI_36 ?_
        refine lv_iload_n hx hb d_Mo_frameI_39 rfl (lv_at hl 1 rfl) ?_
        refine lv_aload_n hx hb d_Mo_frameI_40 rfl (lv_at hl 0 rfl) ?_
        refine mq_get (k := 20) (v := .ref (ad 20)) hx hb hts hown hI hM (by decide) rfl rfl (hts _ tw_1189) d_Mo_frameI_41 ?_
        refine lv_iload_n hx hb d_Mo_frameI_44 rfl (lv_at hl 1 rfl) ?_
        obtain ⟨x_95, e_96⟩ : ∃ z, σ_88.2.2.1 20 (j1) = z := ⟨_, rfl⟩
        refine mq_iald (k := 20) (j := j1) (v := x_95) hx hb hI hM (by decide) rfl (by show j1 < 3; omega) (by decide) e_96 d_Mo_frameI_45 ?_
        refine lv_iconst (v := 1) hx hb d_Mo_frameI_46 (by decide) ?_
        refine lv_iadd hx hb d_Mo_frameI_47 ?_
        refine lv_topi (fun x_97 e_98 => ?_)
        refine lv_ldcw (v := 32768) hx hb hown (hts _ tw_1508) d_Mo_frameI_48 ?_
        refine lv_irem hx hb d_Mo_frameI_51 (by decide) ?_
        refine lv_topi (fun x_99 e_100 => ?_)
        refine mq_iast (k := 20) (j := j1) (x := x_99) hx hb hI hM (by decide) rfl (by show j1 < 3; omega) (by decide) trivial d_Mo_frameI_52 (fun H locs f σ_101 e_102 hI hM => ?_)
        have hF := mq_fr_ug hF e_102 rfl (Or.inl rfl)
        have o_103 : σ_101.1 56 = nI z1 := by rw [e_102]; exact o_91
        have u_104 := IH_fr (mq_fr_ug (X := [20]) mq_fr_rf e_102 rfl (Or.inl rfl)) (by decide) u_92
        refine lv_aload_n hx hb d_Mo_frameI_53 rfl (lv_at hl 0 rfl) ?_
        refine mq_get (k := 25) (v := .ref (ad 25)) hx hb hts hown hI hM (by decide) rfl rfl (hts _ tw_1194) d_Mo_frameI_54 ?_
        refine lv_iload_n hx hb d_Mo_frameI_57 rfl (lv_at hl 1 rfl) ?_
        obtain ⟨x_105, e_106⟩ : ∃ z, σ_101.2.2.1 25 (j1) = z := ⟨_, rfl⟩
        refine mq_iald (k := 25) (j := j1) (v := x_105) hx hb hI hM (by decide) rfl (by show j1 < 3; omega) (by decide) e_106 d_Mo_frameI_58 ?_
        refine lv_if_ne (tgt := 72) hx hb d_Mo_frameI_59 (by decide) (fun c_107 => ?_) (fun c_107 => ?_)
        · exact hJ_72 _ _ _ _ _  hI hM hF (lv_sub hl [0, 1, 2, 3, 4] rfl) (Eq.trans o_103 (congrArg nI (show (z1 : Nat) = _ by omega))) u_104
        · refine lv_aload_n hx hb d_Mo_frameI_62 rfl (lv_at hl 0 rfl) ?_
          refine mq_get (k := 26) (v := .ref (ad 26)) hx hb hts hown hI hM (by decide) rfl rfl (hts _ tw_1195) d_Mo_frameI_63 ?_
          refine lv_iload_n hx hb d_Mo_frameI_66 rfl (lv_at hl 1 rfl) ?_
          refine lv_aload_n hx hb d_Mo_frameI_67 rfl (lv_at hl 0 rfl) ?_
          refine mq_get (k := 12) (v := .long (σ_101.2.1 12)) hx hb hts hown hI hM (by decide) rfl rfl (hts _ tw_1181) d_Mo_frameI_68 ?_
          refine lv_topl (fun x_108 e_109 => ?_)
          refine mq_last (k := 26) (j := j1) hx hb hI hM (by decide) rfl (by show j1 < 3; omega) (by decide) d_Mo_frameI_71 (fun H locs f σ_110 e_111 hI hM => ?_)
          have hF := mq_fr_uh hF e_111 rfl
          have o_112 : σ_110.1 56 = nI z1 := by rw [e_111]; exact o_103
          have u_113 := IH_fr (mq_fr_uh (X := [26]) mq_fr_rf e_111 rfl) (by decide) u_104
          exact hJ_72 _ _ _ _ _  hI hM hF (lv_sub hl [0, 1, 2, 3, 4] rfl) (Eq.trans o_112 (congrArg nI (show (z1 : Nat) = _ by omega))) u_113
      · refine lv_aload_n hx hb d_Mo_frameI_29 rfl (lv_at hl 0 rfl) ?_
        refine lv_iload_n hx hb d_Mo_frameI_30 rfl (lv_at hl 1 rfl) ?_
        refine sm_vM hI (va_runV (As := [.int (nI j1)]) (rest := []) ⟨hx, hb, hml, hown, hts⟩ (c_Mo_shut l D ca ad L _ _ _ hM (j1) (by omega) u_92) (kv_Mo_shut hts rfl rfl (hts _ tw_1513) ⟨Nat.le_of_ble_eq_true rfl, Nat.le_of_ble_eq_true rfl⟩) (pv_Mo hI hE hM) rfl rfl hl.1 rfl (lv_room (Nat.le_of_ble_eq_true rfl)) d_Mo_frameI_31 ⟨Nat.le_of_ble_eq_true rfl, Nat.le_of_ble_eq_true rfl⟩) (fun H locs f σ_115 hI hM hF_116 p_114 => ?_)
        have hF := mq_fr_tr hF hF_116 (by decide)
        have o_117 : σ_115.1 56 = nI z1 := mq_fi hF_116 (by decide) o_91
        obtain ⟨o_118, o_119, u_120, -⟩ := p_114
        exact sm_vret hx hb hr hlk hI ⟨σ_115, rfl, hM, hF, ⟨⟨z1, by omega, by omega, by omega, o_117⟩, u_120, trivial⟩⟩ d_Mo_frameI_34
theorem d_Mo_control_0 : decode b_Mo_control 0 = .ok (.iload_n 2, 1) := by decide +kernel
theorem d_Mo_control_1 : decode b_Mo_control 1 = .ok (.bipush 7, 2) := by decide +kernel
theorem d_Mo_control_3 : decode b_Mo_control 3 = .ok (.if_icmp .ne 66, 3) := by decide +kernel
theorem d_Mo_control_6 : decode b_Mo_control 6 = .ok (.iconst 0, 1) := by decide +kernel
theorem d_Mo_control_7 : decode b_Mo_control 7 = .ok (.istore_n 3, 1) := by decide +kernel
theorem d_Mo_control_8 : decode b_Mo_control 8 = .ok (.iload_n 3, 1) := by decide +kernel
theorem d_Mo_control_9 : decode b_Mo_control 9 = .ok (.iconst 3, 1) := by decide +kernel
theorem d_Mo_control_10 : decode b_Mo_control 10 = .ok (.if_icmp .ge 40, 3) := by decide +kernel
theorem d_Mo_control_13 : decode b_Mo_control 13 = .ok (.aload_n 0, 1) := by decide +kernel
theorem d_Mo_control_14 : decode b_Mo_control 14 = .ok (.getfield 29, 3) := by decide +kernel
theorem d_Mo_control_17 : decode b_Mo_control 17 = .ok (.iload_n 3, 1) := by decide +kernel
theorem d_Mo_control_18 : decode b_Mo_control 18 = .ok (.aload_n 0, 1) := by decide +kernel
theorem d_Mo_control_19 : decode b_Mo_control 19 = .ok (.getfield 29, 3) := by decide +kernel
theorem d_Mo_control_22 : decode b_Mo_control 22 = .ok (.iload_n 3, 1) := by decide +kernel
theorem d_Mo_control_23 : decode b_Mo_control 23 = .ok (.iaload, 1) := by decide +kernel
theorem d_Mo_control_24 : decode b_Mo_control 24 = .ok (.iconst 2, 1) := by decide +kernel
theorem d_Mo_control_25 : decode b_Mo_control 25 = .ok (.if_icmp .ne 12, 3) := by decide +kernel
theorem d_Mo_control_28 : decode b_Mo_control 28 = .ok (.iload_n 3, 1) := by decide +kernel
theorem d_Mo_control_29 : decode b_Mo_control 29 = .ok (.iload_n 1, 1) := by decide +kernel
theorem d_Mo_control_30 : decode b_Mo_control 30 = .ok (.if_icmp .eq 7, 3) := by decide +kernel
theorem d_Mo_control_33 : decode b_Mo_control 33 = .ok (.iconst 1, 1) := by decide +kernel
theorem d_Mo_control_34 : decode b_Mo_control 34 = .ok (.goto 9, 3) := by decide +kernel
theorem d_Mo_control_37 : decode b_Mo_control 37 = .ok (.aload_n 0, 1) := by decide +kernel
theorem d_Mo_control_38 : decode b_Mo_control 38 = .ok (.getfield 29, 3) := by decide +kernel
theorem d_Mo_control_41 : decode b_Mo_control 41 = .ok (.iload_n 3, 1) := by decide +kernel
theorem d_Mo_control_42 : decode b_Mo_control 42 = .ok (.iaload, 1) := by decide +kernel
theorem d_Mo_control_43 : decode b_Mo_control 43 = .ok (.iastore, 1) := by decide +kernel
theorem d_Mo_control_44 : decode b_Mo_control 44 = .ok (.iinc 3 1, 3) := by decide +kernel
theorem d_Mo_control_47 : decode b_Mo_control 47 = .ok (.goto (-39), 3) := by decide +kernel
theorem d_Mo_control_50 : decode b_Mo_control 50 = .ok (.aload_n 0, 1) := by decide +kernel
theorem d_Mo_control_51 : decode b_Mo_control 51 = .ok (.getfield 29, 3) := by decide +kernel
theorem d_Mo_control_54 : decode b_Mo_control 54 = .ok (.iload_n 1, 1) := by decide +kernel
theorem d_Mo_control_55 : decode b_Mo_control 55 = .ok (.iconst 2, 1) := by decide +kernel
theorem d_Mo_control_56 : decode b_Mo_control 56 = .ok (.iastore, 1) := by decide +kernel
theorem d_Mo_control_57 : decode b_Mo_control 57 = .ok (.aload_n 0, 1) := by decide +kernel
theorem d_Mo_control_58 : decode b_Mo_control 58 = .ok (.iload_n 1, 1) := by decide +kernel
theorem d_Mo_control_59 : decode b_Mo_control 59 = .ok (.bipush 11, 2) := by decide +kernel
theorem d_Mo_control_61 : decode b_Mo_control 61 = .ok (.iconst 0, 1) := by decide +kernel
theorem d_Mo_control_62 : decode b_Mo_control 62 = .ok (.iconst 0, 1) := by decide +kernel
theorem d_Mo_control_63 : decode b_Mo_control 63 = .ok (.invokevirtual 286, 3) := by decide +kernel
theorem d_Mo_control_66 : decode b_Mo_control 66 = .ok (.goto 108, 3) := by decide +kernel
theorem d_Mo_control_69 : decode b_Mo_control 69 = .ok (.iload_n 2, 1) := by decide +kernel
theorem d_Mo_control_70 : decode b_Mo_control 70 = .ok (.bipush 19, 2) := by decide +kernel
theorem d_Mo_control_72 : decode b_Mo_control 72 = .ok (.if_icmp .ne 69, 3) := by decide +kernel
theorem d_Mo_control_75 : decode b_Mo_control 75 = .ok (.aload_n 0, 1) := by decide +kernel
theorem d_Mo_control_76 : decode b_Mo_control 76 = .ok (.getfield 29, 3) := by decide +kernel
theorem d_Mo_control_79 : decode b_Mo_control 79 = .ok (.iload_n 1, 1) := by decide +kernel
theorem d_Mo_control_80 : decode b_Mo_control 80 = .ok (.iaload, 1) := by decide +kernel
theorem d_Mo_control_81 : decode b_Mo_control 81 = .ok (.iconst 3, 1) := by decide +kernel
theorem d_Mo_control_82 : decode b_Mo_control 82 = .ok (.if_icmp .eq 59, 3) := by decide +kernel
theorem d_Mo_control_85 : decode b_Mo_control 85 = .ok (.aload_n 0, 1) := by decide +kernel
theorem d_Mo_control_86 : decode b_Mo_control 86 = .ok (.getfield 29, 3) := by decide +kernel
theorem d_Mo_control_89 : decode b_Mo_control 89 = .ok (.iload_n 1, 1) := by decide +kernel
theorem d_Mo_control_90 : decode b_Mo_control 90 = .ok (.iaload, 1) := by decide +kernel
theorem d_Mo_control_91 : decode b_Mo_control 91 = .ok (.iconst 2, 1) := by decide +kernel
theorem d_Mo_control_92 : decode b_Mo_control 92 = .ok (.if_icmp .ne 16, 3) := by decide +kernel
theorem d_Mo_control_95 : decode b_Mo_control 95 = .ok (.aload_n 0, 1) := by decide +kernel
theorem d_Mo_control_96 : decode b_Mo_control 96 = .ok (.getfield 56, 3) := by decide +kernel
theorem d_Mo_control_99 : decode b_Mo_control 99 = .ok (.iload_n 1, 1) := by decide +kernel
theorem d_Mo_control_100 : decode b_Mo_control 100 = .ok (.iaload, 1) := by decide +kernel
theorem d_Mo_control_101 : decode b_Mo_control 101 = .ok (.ifCond .le 7, 3) := by decide +kernel
theorem d_Mo_control_104 : decode b_Mo_control 104 = .ok (.iconst 1, 1) := by decide +kernel
theorem d_Mo_control_105 : decode b_Mo_control 105 = .ok (.goto 4, 3) := by decide +kernel
theorem d_Mo_control_108 : decode b_Mo_control 108 = .ok (.iconst 0, 1) := by decide +kernel
theorem d_Mo_control_109 : decode b_Mo_control 109 = .ok (.istore_n 3, 1) := by decide +kernel
theorem d_Mo_control_110 : decode b_Mo_control 110 = .ok (.aload_n 0, 1) := by decide +kernel
theorem d_Mo_control_111 : decode b_Mo_control 111 = .ok (.getfield 29, 3) := by decide +kernel
theorem d_Mo_control_114 : decode b_Mo_control 114 = .ok (.iload_n 1, 1) := by decide +kernel
theorem d_Mo_control_115 : decode b_Mo_control 115 = .ok (.iload_n 3, 1) := by decide +kernel
theorem d_Mo_control_116 : decode b_Mo_control 116 = .ok (.ifCond .eq 7, 3) := by decide +kernel
theorem d_Mo_control_119 : decode b_Mo_control 119 = .ok (.iconst 3, 1) := by decide +kernel
theorem d_Mo_control_120 : decode b_Mo_control 120 = .ok (.goto 4, 3) := by decide +kernel
theorem d_Mo_control_123 : decode b_Mo_control 123 = .ok (.iconst 1, 1) := by decide +kernel
theorem d_Mo_control_124 : decode b_Mo_control 124 = .ok (.iastore, 1) := by decide +kernel
theorem d_Mo_control_125 : decode b_Mo_control 125 = .ok (.iload_n 3, 1) := by decide +kernel
theorem d_Mo_control_126 : decode b_Mo_control 126 = .ok (.ifCond .ne 12, 3) := by decide +kernel
theorem d_Mo_control_129 : decode b_Mo_control 129 = .ok (.aload_n 0, 1) := by decide +kernel
theorem d_Mo_control_130 : decode b_Mo_control 130 = .ok (.iload_n 1, 1) := by decide +kernel
theorem d_Mo_control_131 : decode b_Mo_control 131 = .ok (.bipush 35, 2) := by decide +kernel
theorem d_Mo_control_133 : decode b_Mo_control 133 = .ok (.iconst 0, 1) := by decide +kernel
theorem d_Mo_control_134 : decode b_Mo_control 134 = .ok (.iconst 0, 1) := by decide +kernel
theorem d_Mo_control_135 : decode b_Mo_control 135 = .ok (.invokevirtual 286, 3) := by decide +kernel
theorem d_Mo_control_138 : decode b_Mo_control 138 = .ok (.goto 36, 3) := by decide +kernel
theorem d_Mo_control_141 : decode b_Mo_control 141 = .ok (.iload_n 2, 1) := by decide +kernel
theorem d_Mo_control_142 : decode b_Mo_control 142 = .ok (.bipush 67, 2) := by decide +kernel
theorem d_Mo_control_144 : decode b_Mo_control 144 = .ok (.if_icmp .ne 16, 3) := by decide +kernel
theorem d_Mo_control_147 : decode b_Mo_control 147 = .ok (.aload_n 0, 1) := by decide +kernel
theorem d_Mo_control_148 : decode b_Mo_control 148 = .ok (.iload_n 1, 1) := by decide +kernel
theorem d_Mo_control_149 : decode b_Mo_control 149 = .ok (.sipush 131, 3) := by decide +kernel
theorem d_Mo_control_152 : decode b_Mo_control 152 = .ok (.iconst 0, 1) := by decide +kernel
theorem d_Mo_control_153 : decode b_Mo_control 153 = .ok (.iconst 0, 1) := by decide +kernel
theorem d_Mo_control_154 : decode b_Mo_control 154 = .ok (.invokevirtual 286, 3) := by decide +kernel
theorem d_Mo_control_157 : decode b_Mo_control 157 = .ok (.goto 17, 3) := by decide +kernel
theorem d_Mo_control_160 : decode b_Mo_control 160 = .ok (.iload_n 2, 1) := by decide +kernel
theorem d_Mo_control_161 : decode b_Mo_control 161 = .ok (.sipush 131, 3) := by decide +kernel
theorem d_Mo_control_164 : decode b_Mo_control 164 = .ok (.if_icmp .ne 10, 3) := by decide +kernel
theorem d_Mo_control_167 : decode b_Mo_control 167 = .ok (.aload_n 0, 1) := by decide +kernel
theorem d_Mo_control_168 : decode b_Mo_control 168 = .ok (.getfield 75, 3) := by decide +kernel
theorem d_Mo_control_171 : decode b_Mo_control 171 = .ok (.iload_n 1, 1) := by decide +kernel
theorem d_Mo_control_172 : decode b_Mo_control 172 = .ok (.iconst 0, 1) := by decide +kernel
theorem d_Mo_control_173 : decode b_Mo_control 173 = .ok (.bastore, 1) := by decide +kernel
theorem d_Mo_control_174 : decode b_Mo_control 174 = .ok (.return_, 1) := by decide +kernel
set_option maxRecDepth 100000 in
set_option maxHeartbeats 4000000 in
theorem c_Mo_control (l : Launch) (D : va_G) (ca : Nat → ClassId) (ad : Nat → Nat) (L : List Nat) (f0 : Nat → va_E) (sz : Nat) (σ0 : mq_S) (hM : mq_B ca ad σ0 L f0) (j1 : Nat) (q1 : j1 ≤ 2) (x2 : Int32) (u0 : IH σ0) :
    Met l y_Mo_control (Cond.code y_Mo_control b_Mo_control 4 none :: wg) { frames := 3, cells := 0, slots := 0, locals := 69 } (va_Pc [.ref (ad 71), .int (nI j1), .int (x2)] (sm_P D cl_all (ty_s ca) ek L f0 sz)) (sm_Qv D (ty_s ca) L f0 sz (fun u => mq_po ca ad L σ0 [13, 14, 15, 16, 18, 24, 28, 30, 42, 52, 65] (fun σ => IH σ ∧ True) u)) 0 0 (va_A (va_pl L f0) sz) := by
  refine sm_start (by decide) (Nat.le_of_ble_eq_true rfl) ?_
  intro p e s m below meth c ls hx hb hml hr hlk hnm hts hown hsz hE hI hl
  have hl : lv_has ls 4 [(0, .ref (ad 71)), (1, .int (nI j1)), (2, .int (x2))] := hl
  have hF : mq_fr [13, 14, 15, 16, 18, 24, 28, 30, 42, 52, 65] σ0 σ0 := mq_fr_rf
  have hJ_141 : ∀ (H : Heap) (locs : List Loc) (f : Nat → va_E) (σ : mq_S) (ls : Array Slot) , sw_I D cl_all (ty_s ca) (va_A (va_pl L f0) sz) s H locs L f → mq_B ca ad σ L f → mq_fr [13, 14, 15, 16, 18, 24, 28, 30, 42, 52, 65] σ0 σ → lv_has ls 4 [(0, .ref (ad 71)), (1, .int (nI j1)), (2, .int (x2))] → (IH σ) → W p l e { frames := 3, cells := 0, slots := 0, locals := 69 } s m ([.ref (ad 71), .int (nI j1), .int (x2)] : List Value).toArray below meth c H locs 0 0 (MQ below (sm_Qv D (ty_s ca) L f0 sz (fun u => mq_po ca ad L σ0 [13, 14, 15, 16, 18, 24, 28, 30, 42, 52, 65] (fun σ => IH σ ∧ True) u)) ([.ref (ad 71), .int (nI j1), .int (x2)] : List Value).toArray s 0 0 (va_A (va_pl L f0) sz)) (F0 m 141 ls []) := by
    intro H locs f σ ls  hI hM hF hl u90
    refine lv_iload_n hx hb d_Mo_control_141 rfl (lv_at hl 2 rfl) ?_
    refine lv_bipush (v := 67) hx hb d_Mo_control_142 (by decide) ?_
    refine lv_icmp_ne (tgt := 160) hx hb d_Mo_control_144 (by decide) (fun c_1 => ?_) (fun c_1 => ?_)
    · refine lv_iload_n hx hb d_Mo_control_160 rfl (lv_at hl 2 rfl) ?_
      refine lv_sipush (v := 131) hx hb d_Mo_control_161 (by decide) ?_
      refine lv_icmp_ne (tgt := 174) hx hb d_Mo_control_164 (by decide) (fun c_2 => ?_) (fun c_2 => ?_)
      · exact sm_vret hx hb hr hlk hI ⟨σ, rfl, hM, hF, ⟨u90, trivial⟩⟩ d_Mo_control_174
      · refine lv_aload_n hx hb d_Mo_control_167 rfl (lv_at hl 0 rfl) ?_
        refine mq_get (k := 28) (v := .ref (ad 28)) hx hb hts hown hI hM (by decide) rfl rfl (hts _ tw_1197) d_Mo_control_168 ?_
        refine lv_iload_n hx hb d_Mo_control_171 rfl (lv_at hl 1 rfl) ?_
        refine lv_iconst (v := 0) hx hb d_Mo_control_172 (by decide) ?_
        refine mq_zast (k := 28) (j := j1) hx hb hI hM (by decide) rfl (by show j1 < 3; omega) (by decide) rfl (by decide) d_Mo_control_173 (fun H locs f σ_3 e_4 hI hM => ?_)
        have hF := mq_fr_ug hF e_4 rfl (Or.inl rfl)
        have u_5 := IH_fr (mq_fr_ug (X := [28]) mq_fr_rf e_4 rfl (Or.inl rfl)) (by decide) u90
        exact sm_vret hx hb hr hlk hI ⟨σ_3, rfl, hM, hF, ⟨u_5, trivial⟩⟩ d_Mo_control_174
    · refine lv_aload_n hx hb d_Mo_control_147 rfl (lv_at hl 0 rfl) ?_
      refine lv_iload_n hx hb d_Mo_control_148 rfl (lv_at hl 1 rfl) ?_
      refine lv_sipush (v := 131) hx hb d_Mo_control_149 (by decide) ?_
      refine lv_iconst (v := 0) hx hb d_Mo_control_152 (by decide) ?_
      refine lv_iconst (v := 0) hx hb d_Mo_control_153 (by decide) ?_
      refine sm_vM hI (va_runV (As := [.int (nI j1), .int (131), .int (0), .int (0)]) (rest := []) ⟨hx, hb, hml, hown, hts⟩ (c_Mo_frame l D ca ad L _ _ _ hM (j1) (by omega) 131 0 0 (by decide) u90) (kv_Mo_frame hts rfl rfl (hts _ tw_1509) ⟨Nat.le_of_ble_eq_true rfl, Nat.le_of_ble_eq_true rfl⟩) (pv_Mo hI hE hM) rfl rfl hl.1 rfl (lv_room (Nat.le_of_ble_eq_true rfl)) d_Mo_control_154 ⟨Nat.le_of_ble_eq_true rfl, Nat.le_of_ble_eq_true rfl⟩) (fun H locs f σ_7 hI hM hF_8 p_6 => ?_)
      have hF := mq_fr_tr hF hF_8 (by decide)
      obtain ⟨u_9, -⟩ := p_6
      refine lv_goto (tgt := 174) hx hb d_Mo_control_157 (by decide) ?_
      exact sm_vret hx hb hr hlk hI ⟨σ_7, rfl, hM, hF, ⟨u_9, trivial⟩⟩ d_Mo_control_174
  have hJ_124 : ∀ (H : Heap) (locs : List Loc) (f : Nat → va_E) (σ : mq_S) (ls : Array Slot) (y3 : Int32) (z2 : Int32), sw_I D cl_all (ty_s ca) (va_A (va_pl L f0) sz) s H locs L f → mq_B ca ad σ L f → mq_fr [13, 14, 15, 16, 18, 24, 28, 30, 42, 52, 65] σ0 σ → lv_has ls 4 [(0, .ref (ad 71)), (1, .int (nI j1)), (2, .int (x2)), (3, .int (y3))] → (y3 = 0 ∨ y3 = 1) → (IH σ) → W p l e { frames := 3, cells := 0, slots := 0, locals := 69 } s m ([.ref (ad 71), .int (nI j1), .int (x2)] : List Value).toArray below meth c H locs 0 0 (MQ below (sm_Qv D (ty_s ca) L f0 sz (fun u => mq_po ca ad L σ0 [13, 14, 15, 16, 18, 24, 28, 30, 42, 52, 65] (fun σ => IH σ ∧ True) u)) ([.ref (ad 71), .int (nI j1), .int (x2)] : List Value).toArray s 0 0 (va_A (va_pl L f0) sz)) (F0 m 124 ls [.int (z2), .int (nI j1), .ref (ad 13)]) := by
    intro H locs f σ ls y3 z2 hI hM hF hl py3 u90
    refine mq_iast (k := 13) (j := j1) (x := z2) hx hb hI hM (by decide) rfl (by show j1 < 4; omega) (by decide) trivial d_Mo_control_124 (fun H locs f σ_10 e_11 hI hM => ?_)
    have hF := mq_fr_ug hF e_11 rfl (Or.inl rfl)
    have u_12 := IH_fr (mq_fr_ug (X := [13]) mq_fr_rf e_11 rfl (Or.inl rfl)) (by decide) u90
    refine lv_iload_n hx hb d_Mo_control_125 rfl (lv_at hl 3 rfl) ?_
    refine lv_if_ne (tgt := 138) hx hb d_Mo_control_126 (by decide) (fun c_13 => ?_) (fun c_13 => ?_)
    · refine lv_goto (tgt := 174) hx hb d_Mo_control_138 (by decide) ?_
      exact sm_vret hx hb hr hlk hI ⟨σ_10, rfl, hM, hF, ⟨u_12, trivial⟩⟩ d_Mo_control_174
    · refine lv_aload_n hx hb d_Mo_control_129 rfl (lv_at hl 0 rfl) ?_
      refine lv_iload_n hx hb d_Mo_control_130 rfl (lv_at hl 1 rfl) ?_
      refine lv_bipush (v := 35) hx hb d_Mo_control_131 (by decide) ?_
      refine lv_iconst (v := 0) hx hb d_Mo_control_133 (by decide) ?_
      refine lv_iconst (v := 0) hx hb d_Mo_control_134 (by decide) ?_
      refine sm_vM hI (va_runV (As := [.int (nI j1), .int (35), .int (0), .int (0)]) (rest := []) ⟨hx, hb, hml, hown, hts⟩ (c_Mo_frame l D ca ad L _ _ _ hM (j1) (by omega) 35 0 0 (by decide) u_12) (kv_Mo_frame hts rfl rfl (hts _ tw_1509) ⟨Nat.le_of_ble_eq_true rfl, Nat.le_of_ble_eq_true rfl⟩) (pv_Mo hI hE hM) rfl rfl hl.1 rfl (lv_room (Nat.le_of_ble_eq_true rfl)) d_Mo_control_135 ⟨Nat.le_of_ble_eq_true rfl, Nat.le_of_ble_eq_true rfl⟩) (fun H locs f σ_15 hI hM hF_16 p_14 => ?_)
      have hF := mq_fr_tr hF hF_16 (by decide)
      obtain ⟨u_17, -⟩ := p_14
      refine lv_goto (tgt := 174) hx hb d_Mo_control_138 (by decide) ?_
      exact sm_vret hx hb hr hlk hI ⟨σ_15, rfl, hM, hF, ⟨u_17, trivial⟩⟩ d_Mo_control_174
  have hJ_109 : ∀ (H : Heap) (locs : List Loc) (f : Nat → va_E) (σ : mq_S) (ls : Array Slot) (z0 : Int32), sw_I D cl_all (ty_s ca) (va_A (va_pl L f0) sz) s H locs L f → mq_B ca ad σ L f → mq_fr [13, 14, 15, 16, 18, 24, 28, 30, 42, 52, 65] σ0 σ → lv_has ls 4 [(0, .ref (ad 71)), (1, .int (nI j1)), (2, .int (x2))] → (z0 = 0 ∨ z0 = 1) → (IH σ) → W p l e { frames := 3, cells := 0, slots := 0, locals := 69 } s m ([.ref (ad 71), .int (nI j1), .int (x2)] : List Value).toArray below meth c H locs 0 0 (MQ below (sm_Qv D (ty_s ca) L f0 sz (fun u => mq_po ca ad L σ0 [13, 14, 15, 16, 18, 24, 28, 30, 42, 52, 65] (fun σ => IH σ ∧ True) u)) ([.ref (ad 71), .int (nI j1), .int (x2)] : List Value).toArray s 0 0 (va_A (va_pl L f0) sz)) (F0 m 109 ls [.int (z0)]) := by
    intro H locs f σ ls z0 hI hM hF hl pz0 u90
    refine lv_istore_n (lv' := [(3, .int (z0)), (0, .ref (ad 71)), (1, .int (nI j1)), (2, .int (x2))]) hx hb d_Mo_control_109 rfl hl (by decide) rfl (fun ls hl => ?_)
    refine lv_aload_n hx hb d_Mo_control_110 rfl (lv_at hl 1 rfl) ?_
    refine mq_get (k := 13) (v := .ref (ad 13)) hx hb hts hown hI hM (by decide) rfl rfl (hts _ tw_1182) d_Mo_control_111 ?_
    refine lv_iload_n hx hb d_Mo_control_114 rfl (lv_at hl 2 rfl) ?_
    refine lv_iload_n hx hb d_Mo_control_115 rfl (lv_at hl 0 rfl) ?_
    refine lv_if_eq (tgt := 123) hx hb d_Mo_control_116 (by decide) (fun c_18 => ?_) (fun c_18 => ?_)
    · refine lv_iconst (v := 1) hx hb d_Mo_control_123 (by decide) ?_
      exact hJ_124 _ _ _ _ _ z0 1 hI hM hF (lv_sub hl [1, 2, 3, 0] rfl) pz0 u90
    · refine lv_iconst (v := 3) hx hb d_Mo_control_119 (by decide) ?_
      refine lv_goto (tgt := 124) hx hb d_Mo_control_120 (by decide) ?_
      exact hJ_124 _ _ _ _ _ z0 3 hI hM hF (lv_sub hl [1, 2, 3, 0] rfl) pz0 u90
  have hJ_108 : ∀ (H : Heap) (locs : List Loc) (f : Nat → va_E) (σ : mq_S) (ls : Array Slot) , sw_I D cl_all (ty_s ca) (va_A (va_pl L f0) sz) s H locs L f → mq_B ca ad σ L f → mq_fr [13, 14, 15, 16, 18, 24, 28, 30, 42, 52, 65] σ0 σ → lv_has ls 4 [(0, .ref (ad 71)), (1, .int (nI j1)), (2, .int (x2))] → (IH σ) → W p l e { frames := 3, cells := 0, slots := 0, locals := 69 } s m ([.ref (ad 71), .int (nI j1), .int (x2)] : List Value).toArray below meth c H locs 0 0 (MQ below (sm_Qv D (ty_s ca) L f0 sz (fun u => mq_po ca ad L σ0 [13, 14, 15, 16, 18, 24, 28, 30, 42, 52, 65] (fun σ => IH σ ∧ True) u)) ([.ref (ad 71), .int (nI j1), .int (x2)] : List Value).toArray s 0 0 (va_A (va_pl L f0) sz)) (F0 m 108 ls []) := by
    intro H locs f σ ls  hI hM hF hl u90
    refine lv_iconst (v := 0) hx hb d_Mo_control_108 (by decide) ?_
    exact hJ_109 _ _ _ _ _ 0 hI hM hF (lv_sub hl [0, 1, 2] rfl) (by decide) u90
  have hJ_8 : ∀ (N k : Nat) (H : Heap) (locs : List Loc) (f : Nat → va_E) (σ : mq_S) (ls : Array Slot) , 3 + 1 - k ≤ N → k ≤ 3 → sw_I D cl_all (ty_s ca) (va_A (va_pl L f0) sz) s H locs L f → mq_B ca ad σ L f → mq_fr [13, 14, 15, 16, 18, 24, 28, 30, 42, 52, 65] σ0 σ → lv_has ls 4 [(0, .ref (ad 71)), (1, .int (nI j1)), (2, .int (x2)), (3, .int (nI k))] → (IH σ) → W p l e { frames := 3, cells := 0, slots := 0, locals := 69 } s m ([.ref (ad 71), .int (nI j1), .int (x2)] : List Value).toArray below meth c H locs 0 0 (MQ below (sm_Qv D (ty_s ca) L f0 sz (fun u => mq_po ca ad L σ0 [13, 14, 15, 16, 18, 24, 28, 30, 42, 52, 65] (fun σ => IH σ ∧ True) u)) ([.ref (ad 71), .int (nI j1), .int (x2)] : List Value).toArray s 0 0 (va_A (va_pl L f0) sz)) (F0 m 8 ls []) := by
    intro N
    induction N with
    | zero => intros; omega
    | succ N ih =>
      intro k H locs f σ ls  hN hk hI hM hF hl u90
      refine lv_iload_n hx hb d_Mo_control_8 rfl (lv_at hl 3 rfl) ?_
      refine lv_iconst (v := 3) hx hb d_Mo_control_9 (by decide) ?_
      refine lv_icmp_ge (tgt := 50) hx hb d_Mo_control_10 (by decide) (fun c_19 => ?_) (fun c_19 => ?_)
      · have k_20 : 3 ≤ k := (nI_leI (a := 3) (b := k) (by omega) (by omega)).mp c_19
        refine lv_aload_n hx hb d_Mo_control_50 rfl (lv_at hl 0 rfl) ?_
        refine mq_get (k := 13) (v := .ref (ad 13)) hx hb hts hown hI hM (by decide) rfl rfl (hts _ tw_1182) d_Mo_control_51 ?_
        refine lv_iload_n hx hb d_Mo_control_54 rfl (lv_at hl 1 rfl) ?_
        refine lv_iconst (v := 2) hx hb d_Mo_control_55 (by decide) ?_
        refine mq_iast (k := 13) (j := j1) (x := 2) hx hb hI hM (by decide) rfl (by show j1 < 4; omega) (by decide) trivial d_Mo_control_56 (fun H locs f σ_21 e_22 hI hM => ?_)
        have hF := mq_fr_ug hF e_22 rfl (Or.inl rfl)
        have u_23 := IH_fr (mq_fr_ug (X := [13]) mq_fr_rf e_22 rfl (Or.inl rfl)) (by decide) u90
        refine lv_aload_n hx hb d_Mo_control_57 rfl (lv_at hl 0 rfl) ?_
        refine lv_iload_n hx hb d_Mo_control_58 rfl (lv_at hl 1 rfl) ?_
        refine lv_bipush (v := 11) hx hb d_Mo_control_59 (by decide) ?_
        refine lv_iconst (v := 0) hx hb d_Mo_control_61 (by decide) ?_
        refine lv_iconst (v := 0) hx hb d_Mo_control_62 (by decide) ?_
        refine sm_vM hI (va_runV (As := [.int (nI j1), .int (11), .int (0), .int (0)]) (rest := []) ⟨hx, hb, hml, hown, hts⟩ (c_Mo_frame l D ca ad L _ _ _ hM (j1) (by omega) 11 0 0 (by decide) u_23) (kv_Mo_frame hts rfl rfl (hts _ tw_1509) ⟨Nat.le_of_ble_eq_true rfl, Nat.le_of_ble_eq_true rfl⟩) (pv_Mo hI hE hM) rfl rfl hl.1 rfl (lv_room (Nat.le_of_ble_eq_true rfl)) d_Mo_control_63 ⟨Nat.le_of_ble_eq_true rfl, Nat.le_of_ble_eq_true rfl⟩) (fun H locs f σ_25 hI hM hF_26 p_24 => ?_)
        have hF := mq_fr_tr hF hF_26 (by decide)
        obtain ⟨u_27, -⟩ := p_24
        refine lv_goto (tgt := 174) hx hb d_Mo_control_66 (by decide) ?_
        exact sm_vret hx hb hr hlk hI ⟨σ_25, rfl, hM, hF, ⟨u_27, trivial⟩⟩ d_Mo_control_174
      · have k_28 : k < 3 := Nat.lt_of_not_le (fun q => c_19 ((nI_leI (a := 3) (b := k) (by omega) (by omega)).mpr q))
        refine lv_aload_n hx hb d_Mo_control_13 rfl (lv_at hl 0 rfl) ?_
        refine mq_get (k := 13) (v := .ref (ad 13)) hx hb hts hown hI hM (by decide) rfl rfl (hts _ tw_1182) d_Mo_control_14 ?_
        refine lv_iload_n hx hb d_Mo_control_17 rfl (lv_at hl 3 rfl) ?_
        refine lv_aload_n hx hb d_Mo_control_18 rfl (lv_at hl 0 rfl) ?_
        refine mq_get (k := 13) (v := .ref (ad 13)) hx hb hts hown hI hM (by decide) rfl rfl (hts _ tw_1182) d_Mo_control_19 ?_
        refine lv_iload_n hx hb d_Mo_control_22 rfl (lv_at hl 3 rfl) ?_
        obtain ⟨x_29, e_30⟩ : ∃ z, σ.2.2.1 13 (k) = z := ⟨_, rfl⟩
        refine mq_iald (k := 13) (j := k) (v := x_29) hx hb hI hM (by decide) rfl (by show k < 4; omega) (by decide) e_30 d_Mo_control_23 ?_
        refine lv_iconst (v := 2) hx hb d_Mo_control_24 (by decide) ?_
        refine lv_icmp_ne (tgt := 37) hx hb d_Mo_control_25 (by decide) (fun c_31 => ?_) (fun c_31 => ?_)
        · refine lv_aload_n hx hb d_Mo_control_37 rfl (lv_at hl 0 rfl) ?_
          refine mq_get (k := 13) (v := .ref (ad 13)) hx hb hts hown hI hM (by decide) rfl rfl (hts _ tw_1182) d_Mo_control_38 ?_
          refine lv_iload_n hx hb d_Mo_control_41 rfl (lv_at hl 3 rfl) ?_
          obtain ⟨x_32, e_33⟩ : ∃ z, σ.2.2.1 13 (k) = z := ⟨_, rfl⟩
          refine mq_iald (k := 13) (j := k) (v := x_32) hx hb hI hM (by decide) rfl (by show k < 4; omega) (by decide) e_33 d_Mo_control_42 ?_
          refine mq_iast (k := 13) (j := k) (x := x_32) hx hb hI hM (by decide) rfl (by show k < 4; omega) (by decide) trivial d_Mo_control_43 (fun H locs f σ_34 e_35 hI hM => ?_)
          have hF := mq_fr_ug hF e_35 rfl (Or.inl rfl)
          have u_36 := IH_fr (mq_fr_ug (X := [13]) mq_fr_rf e_35 rfl (Or.inl rfl)) (by decide) u90
          refine lv_iinc (v := nI (k + 1)) (lv' := [(3, .int (nI (k + 1))), (0, .ref (ad 71)), (1, .int (nI j1)), (2, .int (x2))]) hx hb d_Mo_control_44 hl (k := 3) rfl (nI_1 _) (by decide) rfl (fun ls hl => ?_)
          refine lv_goto (tgt := 8) hx hb d_Mo_control_47 (by decide) ?_
          exact ih ((k + 1)) _ _ _ _ _  (by omega) (by omega) hI hM hF (lv_sub hl [1, 2, 3, 0] rfl) u_36
        · refine lv_iload_n hx hb d_Mo_control_28 rfl (lv_at hl 3 rfl) ?_
          refine lv_iload_n hx hb d_Mo_control_29 rfl (lv_at hl 1 rfl) ?_
          refine lv_icmp_eq (tgt := 37) hx hb d_Mo_control_30 (by decide) (fun c_37 => ?_) (fun c_37 => ?_)
          · have k_38 : k = j1 := (nI_eq (a := k) (b := j1) (by omega) (by omega)).mp c_37
            refine lv_aload_n hx hb d_Mo_control_37 rfl (lv_at hl 0 rfl) ?_
            refine mq_get (k := 13) (v := .ref (ad 13)) hx hb hts hown hI hM (by decide) rfl rfl (hts _ tw_1182) d_Mo_control_38 ?_
            refine lv_iload_n hx hb d_Mo_control_41 rfl (lv_at hl 3 rfl) ?_
            obtain ⟨x_39, e_40⟩ : ∃ z, σ.2.2.1 13 (k) = z := ⟨_, rfl⟩
            refine mq_iald (k := 13) (j := k) (v := x_39) hx hb hI hM (by decide) rfl (by show k < 4; omega) (by decide) e_40 d_Mo_control_42 ?_
            refine mq_iast (k := 13) (j := k) (x := x_39) hx hb hI hM (by decide) rfl (by show k < 4; omega) (by decide) trivial d_Mo_control_43 (fun H locs f σ_41 e_42 hI hM => ?_)
            have hF := mq_fr_ug hF e_42 rfl (Or.inl rfl)
            have u_43 := IH_fr (mq_fr_ug (X := [13]) mq_fr_rf e_42 rfl (Or.inl rfl)) (by decide) u90
            refine lv_iinc (v := nI (k + 1)) (lv' := [(3, .int (nI (k + 1))), (0, .ref (ad 71)), (1, .int (nI j1)), (2, .int (x2))]) hx hb d_Mo_control_44 hl (k := 3) rfl (nI_1 _) (by decide) rfl (fun ls hl => ?_)
            refine lv_goto (tgt := 8) hx hb d_Mo_control_47 (by decide) ?_
            exact ih ((k + 1)) _ _ _ _ _  (by omega) (by omega) hI hM hF (lv_sub hl [1, 2, 3, 0] rfl) u_43
          · have k_44 : ¬ k = j1 := (fun q => c_37 ((nI_eq (a := k) (b := j1) (by omega) (by omega)).mpr q))
            refine lv_iconst (v := 1) hx hb d_Mo_control_33 (by decide) ?_
            refine lv_goto (tgt := 43) hx hb d_Mo_control_34 (by decide) ?_
            refine mq_iast (k := 13) (j := k) (x := 1) hx hb hI hM (by decide) rfl (by show k < 4; omega) (by decide) trivial d_Mo_control_43 (fun H locs f σ_45 e_46 hI hM => ?_)
            have hF := mq_fr_ug hF e_46 rfl (Or.inl rfl)
            have u_47 := IH_fr (mq_fr_ug (X := [13]) mq_fr_rf e_46 rfl (Or.inl rfl)) (by decide) u90
            refine lv_iinc (v := nI (k + 1)) (lv' := [(3, .int (nI (k + 1))), (0, .ref (ad 71)), (1, .int (nI j1)), (2, .int (x2))]) hx hb d_Mo_control_44 hl (k := 3) rfl (nI_1 _) (by decide) rfl (fun ls hl => ?_)
            refine lv_goto (tgt := 8) hx hb d_Mo_control_47 (by decide) ?_
            exact ih ((k + 1)) _ _ _ _ _  (by omega) (by omega) hI hM hF (lv_sub hl [1, 2, 3, 0] rfl) u_47
  refine lv_iload_n hx hb d_Mo_control_0 rfl (lv_at hl 2 rfl) ?_
  refine lv_bipush (v := 7) hx hb d_Mo_control_1 (by decide) ?_
  refine lv_icmp_ne (tgt := 69) hx hb d_Mo_control_3 (by decide) (fun c_48 => ?_) (fun c_48 => ?_)
  · refine lv_iload_n hx hb d_Mo_control_69 rfl (lv_at hl 2 rfl) ?_
    refine lv_bipush (v := 19) hx hb d_Mo_control_70 (by decide) ?_
    refine lv_icmp_ne (tgt := 141) hx hb d_Mo_control_72 (by decide) (fun c_49 => ?_) (fun c_49 => ?_)
    · exact hJ_141 _ _ _ _ _  hI hM hF (lv_sub hl [0, 1, 2] rfl) u0
    · refine lv_aload_n hx hb d_Mo_control_75 rfl (lv_at hl 0 rfl) ?_
      refine mq_get (k := 13) (v := .ref (ad 13)) hx hb hts hown hI hM (by decide) rfl rfl (hts _ tw_1182) d_Mo_control_76 ?_
      refine lv_iload_n hx hb d_Mo_control_79 rfl (lv_at hl 1 rfl) ?_
      obtain ⟨x_50, e_51⟩ : ∃ z, σ0.2.2.1 13 (j1) = z := ⟨_, rfl⟩
      refine mq_iald (k := 13) (j := j1) (v := x_50) hx hb hI hM (by decide) rfl (by show j1 < 4; omega) (by decide) e_51 d_Mo_control_80 ?_
      refine lv_iconst (v := 3) hx hb d_Mo_control_81 (by decide) ?_
      refine lv_icmp_eq (tgt := 141) hx hb d_Mo_control_82 (by decide) (fun c_52 => ?_) (fun c_52 => ?_)
      · exact hJ_141 _ _ _ _ _  hI hM hF (lv_sub hl [0, 1, 2] rfl) u0
      · refine lv_aload_n hx hb d_Mo_control_85 rfl (lv_at hl 0 rfl) ?_
        refine mq_get (k := 13) (v := .ref (ad 13)) hx hb hts hown hI hM (by decide) rfl rfl (hts _ tw_1182) d_Mo_control_86 ?_
        refine lv_iload_n hx hb d_Mo_control_89 rfl (lv_at hl 1 rfl) ?_
        obtain ⟨x_53, e_54⟩ : ∃ z, σ0.2.2.1 13 (j1) = z := ⟨_, rfl⟩
        refine mq_iald (k := 13) (j := j1) (v := x_53) hx hb hI hM (by decide) rfl (by show j1 < 4; omega) (by decide) e_54 d_Mo_control_90 ?_
        refine lv_iconst (v := 2) hx hb d_Mo_control_91 (by decide) ?_
        refine lv_icmp_ne (tgt := 108) hx hb d_Mo_control_92 (by decide) (fun c_55 => ?_) (fun c_55 => ?_)
        · exact hJ_108 _ _ _ _ _  hI hM hF (lv_sub hl [0, 1, 2] rfl) u0
        · refine lv_aload_n hx hb d_Mo_control_95 rfl (lv_at hl 0 rfl) ?_
          refine mq_get (k := 22) (v := .ref (ad 22)) hx hb hts hown hI hM (by decide) rfl rfl (hts _ tw_1191) d_Mo_control_96 ?_
          refine lv_iload_n hx hb d_Mo_control_99 rfl (lv_at hl 1 rfl) ?_
          obtain ⟨n_56, h_57, h_58, e_59⟩ := hM.2.2.2.2.2 22 (j1)
          refine mq_iald (k := 22) (j := j1) (v := nI n_56) hx hb hI hM (by decide) rfl (by show j1 < 3; omega) (by decide) e_59 d_Mo_control_100 ?_
          refine lv_if_le (tgt := 108) hx hb d_Mo_control_101 (by decide) (fun c_60 => ?_) (fun c_60 => ?_)
          · have k_62 : n_56 = 0 := nz_le c_60 (by omega)
            exact hJ_108 _ _ _ _ _  hI hM hF (lv_sub hl [0, 1, 2] rfl) u0
          · have k_63 : 0 < n_56 := Nat.pos_of_ne_zero (fun q => c_60 (by rw [q]; decide))
            refine lv_iconst (v := 1) hx hb d_Mo_control_104 (by decide) ?_
            refine lv_goto (tgt := 109) hx hb d_Mo_control_105 (by decide) ?_
            exact hJ_109 _ _ _ _ _ 1 hI hM hF (lv_sub hl [0, 1, 2] rfl) (by decide) u0
  · refine lv_iconst (v := 0) hx hb d_Mo_control_6 (by decide) ?_
    refine lv_istore_n (lv' := [(3, .int (0)), (0, .ref (ad 71)), (1, .int (nI j1)), (2, .int (x2))]) hx hb d_Mo_control_7 rfl hl (by decide) rfl (fun ls hl => ?_)
    exact hJ_8 _ (0) _ _ _ _ _  (Nat.le_refl _) (by omega) hI hM hF (lv_sub hl [1, 2, 3, 0] rfl) u0
theorem d_Mo_whole_0 : decode b_Mo_whole 0 = .ok (.aload_n 0, 1) := by decide +kernel
theorem d_Mo_whole_1 : decode b_Mo_whole 1 = .ok (.getfield 44, 3) := by decide +kernel
theorem d_Mo_whole_4 : decode b_Mo_whole 4 = .ok (.iload_n 1, 1) := by decide +kernel
theorem d_Mo_whole_5 : decode b_Mo_whole 5 = .ok (.iaload, 1) := by decide +kernel
theorem d_Mo_whole_6 : decode b_Mo_whole 6 = .ok (.bipush 6, 2) := by decide +kernel
theorem d_Mo_whole_8 : decode b_Mo_whole 8 = .ok (.isub, 1) := by decide +kernel
theorem d_Mo_whole_9 : decode b_Mo_whole 9 = .ok (.istore_n 2, 1) := by decide +kernel
theorem d_Mo_whole_10 : decode b_Mo_whole 10 = .ok (.aload_n 0, 1) := by decide +kernel
theorem d_Mo_whole_11 : decode b_Mo_whole 11 = .ok (.iload_n 1, 1) := by decide +kernel
theorem d_Mo_whole_12 : decode b_Mo_whole 12 = .ok (.iconst 2, 1) := by decide +kernel
theorem d_Mo_whole_13 : decode b_Mo_whole 13 = .ok (.invokevirtual 369, 3) := by decide +kernel
theorem d_Mo_whole_16 : decode b_Mo_whole 16 = .ok (.aload_n 0, 1) := by decide +kernel
theorem d_Mo_whole_17 : decode b_Mo_whole 17 = .ok (.iload_n 1, 1) := by decide +kernel
theorem d_Mo_whole_18 : decode b_Mo_whole 18 = .ok (.iconst 3, 1) := by decide +kernel
theorem d_Mo_whole_19 : decode b_Mo_whole 19 = .ok (.invokevirtual 369, 3) := by decide +kernel
theorem d_Mo_whole_22 : decode b_Mo_whole 22 = .ok (.bipush 8, 2) := by decide +kernel
theorem d_Mo_whole_24 : decode b_Mo_whole 24 = .ok (.ishl, 1) := by decide +kernel
theorem d_Mo_whole_25 : decode b_Mo_whole 25 = .ok (.ior, 1) := by decide +kernel
theorem d_Mo_whole_26 : decode b_Mo_whole 26 = .ok (.istore_n 3, 1) := by decide +kernel
theorem d_Mo_whole_27 : decode b_Mo_whole 27 = .ok (.aload_n 0, 1) := by decide +kernel
theorem d_Mo_whole_28 : decode b_Mo_whole 28 = .ok (.iload_n 1, 1) := by decide +kernel
theorem d_Mo_whole_29 : decode b_Mo_whole 29 = .ok (.iconst 4, 1) := by decide +kernel
theorem d_Mo_whole_30 : decode b_Mo_whole 30 = .ok (.invokevirtual 369, 3) := by decide +kernel
theorem d_Mo_whole_33 : decode b_Mo_whole 33 = .ok (.aload_n 0, 1) := by decide +kernel
theorem d_Mo_whole_34 : decode b_Mo_whole 34 = .ok (.iload_n 1, 1) := by decide +kernel
theorem d_Mo_whole_35 : decode b_Mo_whole 35 = .ok (.iconst 5, 1) := by decide +kernel
theorem d_Mo_whole_36 : decode b_Mo_whole 36 = .ok (.invokevirtual 369, 3) := by decide +kernel
theorem d_Mo_whole_39 : decode b_Mo_whole 39 = .ok (.bipush 8, 2) := by decide +kernel
theorem d_Mo_whole_41 : decode b_Mo_whole 41 = .ok (.ishl, 1) := by decide +kernel
theorem d_Mo_whole_42 : decode b_Mo_whole 42 = .ok (.ior, 1) := by decide +kernel
theorem d_Mo_whole_43 : decode b_Mo_whole 43 = .ok (.istore 4, 2) := by decide +kernel
theorem d_Mo_whole_45 : decode b_Mo_whole 45 = .ok (.aload_n 0, 1) := by decide +kernel
theorem d_Mo_whole_46 : decode b_Mo_whole 46 = .ok (.getfield 44, 3) := by decide +kernel
theorem d_Mo_whole_49 : decode b_Mo_whole 49 = .ok (.iload_n 1, 1) := by decide +kernel
theorem d_Mo_whole_50 : decode b_Mo_whole 50 = .ok (.iconst 0, 1) := by decide +kernel
theorem d_Mo_whole_51 : decode b_Mo_whole 51 = .ok (.iastore, 1) := by decide +kernel
theorem d_Mo_whole_52 : decode b_Mo_whole 52 = .ok (.iload_n 3, 1) := by decide +kernel
theorem d_Mo_whole_53 : decode b_Mo_whole 53 = .ok (.iconst 1, 1) := by decide +kernel
theorem d_Mo_whole_54 : decode b_Mo_whole 54 = .ok (.iand, 1) := by decide +kernel
theorem d_Mo_whole_55 : decode b_Mo_whole 55 = .ok (.ifCond .ne 26, 3) := by decide +kernel
theorem d_Mo_whole_58 : decode b_Mo_whole 58 = .ok (.iload 4, 2) := by decide +kernel
theorem d_Mo_whole_60 : decode b_Mo_whole 60 = .ok (.iconst 1, 1) := by decide +kernel
theorem d_Mo_whole_61 : decode b_Mo_whole 61 = .ok (.iand, 1) := by decide +kernel
theorem d_Mo_whole_62 : decode b_Mo_whole 62 = .ok (.ifCond .ne 19, 3) := by decide +kernel
theorem d_Mo_whole_65 : decode b_Mo_whole 65 = .ok (.aload_n 0, 1) := by decide +kernel
theorem d_Mo_whole_66 : decode b_Mo_whole 66 = .ok (.iload_n 1, 1) := by decide +kernel
theorem d_Mo_whole_67 : decode b_Mo_whole 67 = .ok (.iload_n 3, 1) := by decide +kernel
theorem d_Mo_whole_68 : decode b_Mo_whole 68 = .ok (.iconst 2, 1) := by decide +kernel
theorem d_Mo_whole_69 : decode b_Mo_whole 69 = .ok (.idiv, 1) := by decide +kernel
theorem d_Mo_whole_70 : decode b_Mo_whole 70 = .ok (.iload 4, 2) := by decide +kernel
theorem d_Mo_whole_72 : decode b_Mo_whole 72 = .ok (.iconst 2, 1) := by decide +kernel
theorem d_Mo_whole_73 : decode b_Mo_whole 73 = .ok (.idiv, 1) := by decide +kernel
theorem d_Mo_whole_74 : decode b_Mo_whole 74 = .ok (.iload_n 2, 1) := by decide +kernel
theorem d_Mo_whole_75 : decode b_Mo_whole 75 = .ok (.invokevirtual 372, 3) := by decide +kernel
theorem d_Mo_whole_78 : decode b_Mo_whole 78 = .ok (.goto 87, 3) := by decide +kernel
theorem d_Mo_whole_81 : decode b_Mo_whole 81 = .ok (.iload_n 3, 1) := by decide +kernel
theorem d_Mo_whole_82 : decode b_Mo_whole 82 = .ok (.iconst 1, 1) := by decide +kernel
theorem d_Mo_whole_83 : decode b_Mo_whole 83 = .ok (.if_icmp .ne 34, 3) := by decide +kernel
theorem d_Mo_whole_86 : decode b_Mo_whole 86 = .ok (.iload 4, 2) := by decide +kernel
theorem d_Mo_whole_88 : decode b_Mo_whole 88 = .ok (.iconst 1, 1) := by decide +kernel
theorem d_Mo_whole_89 : decode b_Mo_whole 89 = .ok (.iand, 1) := by decide +kernel
theorem d_Mo_whole_90 : decode b_Mo_whole 90 = .ok (.ifCond .ne 27, 3) := by decide +kernel
theorem d_Mo_whole_93 : decode b_Mo_whole 93 = .ok (.iload_n 2, 1) := by decide +kernel
theorem d_Mo_whole_94 : decode b_Mo_whole 94 = .ok (.ifCond .ne 23, 3) := by decide +kernel
theorem d_Mo_whole_97 : decode b_Mo_whole 97 = .ok (.aload_n 0, 1) := by decide +kernel
theorem d_Mo_whole_98 : decode b_Mo_whole 98 = .ok (.iload_n 1, 1) := by decide +kernel
theorem d_Mo_whole_99 : decode b_Mo_whole 99 = .ok (.iload 4, 2) := by decide +kernel
theorem d_Mo_whole_101 : decode b_Mo_whole 101 = .ok (.iconst 2, 1) := by decide +kernel
theorem d_Mo_whole_102 : decode b_Mo_whole 102 = .ok (.idiv, 1) := by decide +kernel
theorem d_Mo_whole_103 : decode b_Mo_whole 103 = .ok (.invokevirtual 375, 3) := by decide +kernel
theorem d_Mo_whole_106 : decode b_Mo_whole 106 = .ok (.ifCond .ne 59, 3) := by decide +kernel
theorem d_Mo_whole_109 : decode b_Mo_whole 109 = .ok (.aload_n 0, 1) := by decide +kernel
theorem d_Mo_whole_110 : decode b_Mo_whole 110 = .ok (.iload_n 1, 1) := by decide +kernel
theorem d_Mo_whole_111 : decode b_Mo_whole 111 = .ok (.invokevirtual 276, 3) := by decide +kernel
theorem d_Mo_whole_114 : decode b_Mo_whole 114 = .ok (.goto 51, 3) := by decide +kernel
theorem d_Mo_whole_117 : decode b_Mo_whole 117 = .ok (.iload 4, 2) := by decide +kernel
theorem d_Mo_whole_119 : decode b_Mo_whole 119 = .ok (.ifCond .ne 41, 3) := by decide +kernel
theorem d_Mo_whole_122 : decode b_Mo_whole 122 = .ok (.iload_n 2, 1) := by decide +kernel
theorem d_Mo_whole_123 : decode b_Mo_whole 123 = .ok (.ifCond .ne 37, 3) := by decide +kernel
theorem d_Mo_whole_126 : decode b_Mo_whole 126 = .ok (.iload_n 3, 1) := by decide +kernel
theorem d_Mo_whole_127 : decode b_Mo_whole 127 = .ok (.bipush 7, 2) := by decide +kernel
theorem d_Mo_whole_129 : decode b_Mo_whole 129 = .ok (.if_icmp .eq 22, 3) := by decide +kernel
theorem d_Mo_whole_132 : decode b_Mo_whole 132 = .ok (.iload_n 3, 1) := by decide +kernel
theorem d_Mo_whole_133 : decode b_Mo_whole 133 = .ok (.bipush 19, 2) := by decide +kernel
theorem d_Mo_whole_135 : decode b_Mo_whole 135 = .ok (.if_icmp .eq 16, 3) := by decide +kernel
theorem d_Mo_whole_138 : decode b_Mo_whole 138 = .ok (.iload_n 3, 1) := by decide +kernel
theorem d_Mo_whole_139 : decode b_Mo_whole 139 = .ok (.bipush 67, 2) := by decide +kernel
theorem d_Mo_whole_141 : decode b_Mo_whole 141 = .ok (.if_icmp .eq 10, 3) := by decide +kernel
theorem d_Mo_whole_144 : decode b_Mo_whole 144 = .ok (.iload_n 3, 1) := by decide +kernel
theorem d_Mo_whole_145 : decode b_Mo_whole 145 = .ok (.sipush 131, 3) := by decide +kernel
theorem d_Mo_whole_148 : decode b_Mo_whole 148 = .ok (.if_icmp .ne 12, 3) := by decide +kernel
theorem d_Mo_whole_151 : decode b_Mo_whole 151 = .ok (.aload_n 0, 1) := by decide +kernel
theorem d_Mo_whole_152 : decode b_Mo_whole 152 = .ok (.iload_n 1, 1) := by decide +kernel
theorem d_Mo_whole_153 : decode b_Mo_whole 153 = .ok (.iload_n 3, 1) := by decide +kernel
theorem d_Mo_whole_154 : decode b_Mo_whole 154 = .ok (.invokevirtual 378, 3) := by decide +kernel
theorem d_Mo_whole_157 : decode b_Mo_whole 157 = .ok (.goto 8, 3) := by decide +kernel
theorem d_Mo_whole_160 : decode b_Mo_whole 160 = .ok (.aload_n 0, 1) := by decide +kernel
theorem d_Mo_whole_161 : decode b_Mo_whole 161 = .ok (.iload_n 1, 1) := by decide +kernel
theorem d_Mo_whole_162 : decode b_Mo_whole 162 = .ok (.invokevirtual 276, 3) := by decide +kernel
theorem d_Mo_whole_165 : decode b_Mo_whole 165 = .ok (.return_, 1) := by decide +kernel
set_option maxRecDepth 100000 in
set_option maxHeartbeats 4000000 in
theorem c_Mo_whole (l : Launch) (D : va_G) (ca : Nat → ClassId) (ad : Nat → Nat) (L : List Nat) (f0 : Nat → va_E) (sz : Nat) (σ0 : mq_S) (hM : mq_B ca ad σ0 L f0) (j1 : Nat) (q1 : j1 ≤ 2) (z1 : Nat) (o0 : σ0.1 56 = nI z1) (z2 : Nat) (o1 : σ0.2.2.1 18 (j1) = nI z2) (hz : z1 ≤ 599) (h6 : 6 ≤ z2) (hy : z2 ≤ 255) (u0 : IH σ0) (u1 : BIe σ0 j1) :
    Met l y_Mo_whole (Cond.code y_Mo_whole b_Mo_whole 5 none :: wg) { frames := 8, cells := 0, slots := 0, locals := 206 } (va_Pc [.ref (ad 71), .int (nI j1)] (sm_P D cl_all (ty_s ca) ek L f0 sz)) (sm_Qv D (ty_s ca) L f0 sz (fun u => mq_po ca ad L σ0 [9, 10, 11, 13, 14, 15, 16, 18, 19, 20, 21, 22, 23, 24, 25, 26, 28, 30, 31, 32, 33, 34, 42, 43, 45, 46, 47, 48, 49, 50, 51, 52, 54, 55, 56, 57, 58, 59, 60, 61, 62, 63, 64, 65, 66, 67, 68, 69, 70] (fun σ => (∃ n : Nat, z1 ≤ n ∧ n ≤ z1 + 1 ∧ (n = z1 ∨ 11 ≤ z2) ∧ σ.1 56 = nI n) ∧ σ.2.2.1 18 (j1) = nI (0) ∧ IH σ ∧ BIa σ ∧ True) u)) 0 0 (va_A (va_pl L f0) sz) := by
  refine sm_start (by decide) (Nat.le_of_ble_eq_true rfl) ?_
  intro p e s m below meth c ls hx hb hml hr hlk hnm hts hown hsz hE hI hl
  have hl : lv_has ls 5 [(0, .ref (ad 71)), (1, .int (nI j1))] := hl
  have hF : mq_fr [9, 10, 11, 13, 14, 15, 16, 18, 19, 20, 21, 22, 23, 24, 25, 26, 28, 30, 31, 32, 33, 34, 42, 43, 45, 46, 47, 48, 49, 50, 51, 52, 54, 55, 56, 57, 58, 59, 60, 61, 62, 63, 64, 65, 66, 67, 68, 69, 70] σ0 σ0 := mq_fr_rf
  refine lv_aload_n hx hb d_Mo_whole_0 rfl (lv_at hl 0 rfl) ?_
  refine mq_get (k := 18) (v := .ref (ad 18)) hx hb hts hown hI hM (by decide) rfl rfl (hts _ tw_1187) d_Mo_whole_1 ?_
  refine lv_iload_n hx hb d_Mo_whole_4 rfl (lv_at hl 1 rfl) ?_
  refine mq_iald (k := 18) (j := j1) (v := nI z2) hx hb hI hM (by decide) rfl (by show j1 < 4; omega) (by decide) o1 d_Mo_whole_5 ?_
  refine lv_bipush (v := 6) hx hb d_Mo_whole_6 (by decide) ?_
  refine lv_isub hx hb d_Mo_whole_8 ?_
  refine lv_topi (fun x_1 e_2 => ?_)
  obtain rfl : x_1 = nI (z2 - 6) := by rw [e_2]; exact pk_sub (a := z2) (b := 6) (by omega)
  refine lv_istore_n (lv' := [(2, .int (nI (z2 - 6))), (0, .ref (ad 71)), (1, .int (nI j1))]) hx hb d_Mo_whole_9 rfl hl (by decide) rfl (fun ls hl => ?_)
  refine lv_aload_n hx hb d_Mo_whole_10 rfl (lv_at hl 1 rfl) ?_
  refine lv_iload_n hx hb d_Mo_whole_11 rfl (lv_at hl 2 rfl) ?_
  refine lv_iconst (v := 2) hx hb d_Mo_whole_12 (by decide) ?_
  refine sm_iP hI (va_runV (As := [.int (nI j1), .int (2)]) (rest := []) ⟨hx, hb, hml, hown, hts⟩ (c_Mo_byteIn l D ca ad L _ _ _ hM (j1) (by omega) (2) (by omega)) (kv_Mo_byteIn hts rfl rfl (hts _ tw_1580) ⟨Nat.le_of_ble_eq_true rfl, Nat.le_of_ble_eq_true rfl⟩) (pv_Mo hI hE hM) rfl rfl hl.1 rfl (lv_room (Nat.le_of_ble_eq_true rfl)) d_Mo_whole_13 ⟨Nat.le_of_ble_eq_true rfl, Nat.le_of_ble_eq_true rfl⟩) (fun x_4 H locs p_3 hI => ?_)
  obtain ⟨n_5, rfl, h_6, h_7, h_8⟩ := p_3
  refine lv_aload_n hx hb d_Mo_whole_16 rfl (lv_at hl 1 rfl) ?_
  refine lv_iload_n hx hb d_Mo_whole_17 rfl (lv_at hl 2 rfl) ?_
  refine lv_iconst (v := 3) hx hb d_Mo_whole_18 (by decide) ?_
  refine sm_iP hI (va_runV (As := [.int (nI j1), .int (3)]) (rest := [.int (nI n_5)]) ⟨hx, hb, hml, hown, hts⟩ (c_Mo_byteIn l D ca ad L _ _ _ hM (j1) (by omega) (3) (by omega)) (kv_Mo_byteIn hts rfl rfl (hts _ tw_1580) ⟨Nat.le_of_ble_eq_true rfl, Nat.le_of_ble_eq_true rfl⟩) (pv_Mo hI hE hM) rfl rfl hl.1 rfl (lv_room (Nat.le_of_ble_eq_true rfl)) d_Mo_whole_19 ⟨Nat.le_of_ble_eq_true rfl, Nat.le_of_ble_eq_true rfl⟩) (fun x_10 H locs p_9 hI => ?_)
  obtain ⟨n_11, rfl, h_12, h_13, h_14⟩ := p_9
  refine lv_bipush (v := 8) hx hb d_Mo_whole_22 (by decide) ?_
  refine lv_ishl hx hb d_Mo_whole_24 ?_
  refine lv_topi (fun x_15 e_16 => ?_)
  refine lv_ior hx hb d_Mo_whole_25 ?_
  refine lv_topi (fun x_17 e_18 => ?_)
  obtain ⟨n_19, h_20, rfl⟩ : ∃ n : Nat, n ≤ 65535 ∧ x_17 = nI n := or_b e_16 e_18 (by omega) (by omega)
  refine lv_istore_n (lv' := [(3, .int (nI n_19)), (2, .int (nI (z2 - 6))), (0, .ref (ad 71)), (1, .int (nI j1))]) hx hb d_Mo_whole_26 rfl hl (by decide) rfl (fun ls hl => ?_)
  refine lv_aload_n hx hb d_Mo_whole_27 rfl (lv_at hl 2 rfl) ?_
  refine lv_iload_n hx hb d_Mo_whole_28 rfl (lv_at hl 3 rfl) ?_
  refine lv_iconst (v := 4) hx hb d_Mo_whole_29 (by decide) ?_
  refine sm_iP hI (va_runV (As := [.int (nI j1), .int (4)]) (rest := []) ⟨hx, hb, hml, hown, hts⟩ (c_Mo_byteIn l D ca ad L _ _ _ hM (j1) (by omega) (4) (by omega)) (kv_Mo_byteIn hts rfl rfl (hts _ tw_1580) ⟨Nat.le_of_ble_eq_true rfl, Nat.le_of_ble_eq_true rfl⟩) (pv_Mo hI hE hM) rfl rfl hl.1 rfl (lv_room (Nat.le_of_ble_eq_true rfl)) d_Mo_whole_30 ⟨Nat.le_of_ble_eq_true rfl, Nat.le_of_ble_eq_true rfl⟩) (fun x_22 H locs p_21 hI => ?_)
  obtain ⟨n_23, rfl, h_24, h_25, h_26⟩ := p_21
  refine lv_aload_n hx hb d_Mo_whole_33 rfl (lv_at hl 2 rfl) ?_
  refine lv_iload_n hx hb d_Mo_whole_34 rfl (lv_at hl 3 rfl) ?_
  refine lv_iconst (v := 5) hx hb d_Mo_whole_35 (by decide) ?_
  refine sm_iP hI (va_runV (As := [.int (nI j1), .int (5)]) (rest := [.int (nI n_23)]) ⟨hx, hb, hml, hown, hts⟩ (c_Mo_byteIn l D ca ad L _ _ _ hM (j1) (by omega) (5) (by omega)) (kv_Mo_byteIn hts rfl rfl (hts _ tw_1580) ⟨Nat.le_of_ble_eq_true rfl, Nat.le_of_ble_eq_true rfl⟩) (pv_Mo hI hE hM) rfl rfl hl.1 rfl (lv_room (Nat.le_of_ble_eq_true rfl)) d_Mo_whole_36 ⟨Nat.le_of_ble_eq_true rfl, Nat.le_of_ble_eq_true rfl⟩) (fun x_28 H locs p_27 hI => ?_)
  obtain ⟨n_29, rfl, h_30, h_31, h_32⟩ := p_27
  refine lv_bipush (v := 8) hx hb d_Mo_whole_39 (by decide) ?_
  refine lv_ishl hx hb d_Mo_whole_41 ?_
  refine lv_topi (fun x_33 e_34 => ?_)
  refine lv_ior hx hb d_Mo_whole_42 ?_
  refine lv_topi (fun x_35 e_36 => ?_)
  obtain ⟨n_37, h_38, rfl⟩ : ∃ n : Nat, n ≤ 65535 ∧ x_35 = nI n := or_b e_34 e_36 (by omega) (by omega)
  refine lv_istore (lv' := [(4, .int (nI n_37)), (3, .int (nI n_19)), (2, .int (nI (z2 - 6))), (0, .ref (ad 71)), (1, .int (nI j1))]) hx hb d_Mo_whole_43 hl (by decide) rfl (fun ls hl => ?_)
  refine lv_aload_n hx hb d_Mo_whole_45 rfl (lv_at hl 3 rfl) ?_
  refine mq_get (k := 18) (v := .ref (ad 18)) hx hb hts hown hI hM (by decide) rfl rfl (hts _ tw_1187) d_Mo_whole_46 ?_
  refine lv_iload_n hx hb d_Mo_whole_49 rfl (lv_at hl 4 rfl) ?_
  refine lv_iconst (v := 0) hx hb d_Mo_whole_50 (by decide) ?_
  refine mq_iast (k := 18) (j := j1) (x := 0) hx hb hI hM (by decide) rfl (by show j1 < 4; omega) (by decide) ⟨0, by decide, by decide, rfl⟩ d_Mo_whole_51 (fun H locs f σ_39 e_40 hI hM => ?_)
  have hF := mq_fr_ug hF e_40 rfl (Or.inr (Or.inr rfl))
  have o_41 : σ_39.1 56 = nI z1 := by rw [e_40]; exact o0
  have u_42 := IH_fr (mq_fr_ug (X := [18]) mq_fr_rf e_40 rfl (Or.inr (Or.inr rfl))) (by decide) u0
  have u_43 := BIe_fr (mq_fr_ug (X := [18]) mq_fr_rf e_40 rfl (Or.inr (Or.inr rfl))) (by decide) u1
  have u_44 : BIa σ_39 := BI_fin (n := 0) (BIe_n e_40 u1) (mq_ugj e_40) (by decide) (Or.inl (by decide))
  have o_45 := mq_ugj e_40
  refine lv_iload_n hx hb d_Mo_whole_52 rfl (lv_at hl 1 rfl) ?_
  refine lv_iconst (v := 1) hx hb d_Mo_whole_53 (by decide) ?_
  refine lv_iand hx hb d_Mo_whole_54 ?_
  refine lv_topi (fun x_46 e_47 => ?_)
  refine lv_if_ne (tgt := 81) hx hb d_Mo_whole_55 (by decide) (fun c_48 => ?_) (fun c_48 => ?_)
  · refine lv_iload_n hx hb d_Mo_whole_81 rfl (lv_at hl 1 rfl) ?_
    refine lv_iconst (v := 1) hx hb d_Mo_whole_82 (by decide) ?_
    refine lv_icmp_ne (tgt := 117) hx hb d_Mo_whole_83 (by decide) (fun c_49 => ?_) (fun c_49 => ?_)
    · have k_50 : ¬ n_19 = 1 := (fun q => c_49 ((nI_eq (a := n_19) (b := 1) (by omega) (by omega)).mpr q))
      refine lv_iload hx hb d_Mo_whole_117 (lv_at hl 0 rfl) ?_
      refine lv_if_ne (tgt := 160) hx hb d_Mo_whole_119 (by decide) (fun c_51 => ?_) (fun c_51 => ?_)
      · have k_52 : 0 < n_37 := Nat.pos_of_ne_zero (fun q => c_51 (by rw [q]; decide))
        refine lv_aload_n hx hb d_Mo_whole_160 rfl (lv_at hl 3 rfl) ?_
        refine lv_iload_n hx hb d_Mo_whole_161 rfl (lv_at hl 4 rfl) ?_
        refine sm_vM hI (va_runV (As := [.int (nI j1)]) (rest := []) ⟨hx, hb, hml, hown, hts⟩ (c_Mo_shut l D ca ad L _ _ _ hM (j1) (by omega) u_42) (kv_Mo_shut hts rfl rfl (hts _ tw_1513) ⟨Nat.le_of_ble_eq_true rfl, Nat.le_of_ble_eq_true rfl⟩) (pv_Mo hI hE hM) rfl rfl hl.1 rfl (lv_room (Nat.le_of_ble_eq_true rfl)) d_Mo_whole_162 ⟨Nat.le_of_ble_eq_true rfl, Nat.le_of_ble_eq_true rfl⟩) (fun H locs f σ_54 hI hM hF_55 p_53 => ?_)
        have hF := mq_fr_tr hF hF_55 (by decide)
        have o_56 : σ_54.1 56 = nI z1 := mq_fi hF_55 (by decide) o_41
        obtain ⟨n_57, h_58, o_59⟩ := mq_ri (n := 0) hF_55 (by decide) o_45
        have u_60 := BIe_fr hF_55 (by decide) u_43
        have u_61 := BIa_fr hF_55 (by decide) u_44
        obtain ⟨o_62, o_63, u_64, -⟩ := p_53
        exact sm_vret hx hb hr hlk hI ⟨σ_54, rfl, hM, hF, ⟨⟨z1, by omega, by omega, by omega, o_56⟩, (Eq.trans o_63 (congrArg nI (show ((0) : Nat) = 0 by omega))), u_64, u_61, trivial⟩⟩ d_Mo_whole_165
      · have k_66 : n_37 = 0 := nz_eq c_51 (by omega)
        refine lv_iload_n hx hb d_Mo_whole_122 rfl (lv_at hl 2 rfl) ?_
        refine lv_if_ne (tgt := 160) hx hb d_Mo_whole_123 (by decide) (fun c_67 => ?_) (fun c_67 => ?_)
        · have k_68 : 0 < (z2 - 6) := Nat.pos_of_ne_zero (fun q => c_67 (by rw [q]; decide))
          refine lv_aload_n hx hb d_Mo_whole_160 rfl (lv_at hl 3 rfl) ?_
          refine lv_iload_n hx hb d_Mo_whole_161 rfl (lv_at hl 4 rfl) ?_
          refine sm_vM hI (va_runV (As := [.int (nI j1)]) (rest := []) ⟨hx, hb, hml, hown, hts⟩ (c_Mo_shut l D ca ad L _ _ _ hM (j1) (by omega) u_42) (kv_Mo_shut hts rfl rfl (hts _ tw_1513) ⟨Nat.le_of_ble_eq_true rfl, Nat.le_of_ble_eq_true rfl⟩) (pv_Mo hI hE hM) rfl rfl hl.1 rfl (lv_room (Nat.le_of_ble_eq_true rfl)) d_Mo_whole_162 ⟨Nat.le_of_ble_eq_true rfl, Nat.le_of_ble_eq_true rfl⟩) (fun H locs f σ_70 hI hM hF_71 p_69 => ?_)
          have hF := mq_fr_tr hF hF_71 (by decide)
          have o_72 : σ_70.1 56 = nI z1 := mq_fi hF_71 (by decide) o_41
          obtain ⟨n_73, h_74, o_75⟩ := mq_ri (n := 0) hF_71 (by decide) o_45
          have u_76 := BIe_fr hF_71 (by decide) u_43
          have u_77 := BIa_fr hF_71 (by decide) u_44
          obtain ⟨o_78, o_79, u_80, -⟩ := p_69
          exact sm_vret hx hb hr hlk hI ⟨σ_70, rfl, hM, hF, ⟨⟨z1, by omega, by omega, by omega, o_72⟩, (Eq.trans o_79 (congrArg nI (show ((0) : Nat) = 0 by omega))), u_80, u_77, trivial⟩⟩ d_Mo_whole_165
        · have k_82 : (z2 - 6) = 0 := nz_eq c_67 (by omega)
          refine lv_iload_n hx hb d_Mo_whole_126 rfl (lv_at hl 1 rfl) ?_
          refine lv_bipush (v := 7) hx hb d_Mo_whole_127 (by decide) ?_
          refine lv_icmp_eq (tgt := 151) hx hb d_Mo_whole_129 (by decide) (fun c_83 => ?_) (fun c_83 => ?_)
          · have k_84 : n_19 = 7 := (nI_eq (a := n_19) (b := 7) (by omega) (by omega)).mp c_83
            refine lv_aload_n hx hb d_Mo_whole_151 rfl (lv_at hl 3 rfl) ?_
            refine lv_iload_n hx hb d_Mo_whole_152 rfl (lv_at hl 4 rfl) ?_
            refine lv_iload_n hx hb d_Mo_whole_153 rfl (lv_at hl 1 rfl) ?_
            refine sm_vM hI (va_runV (As := [.int (nI j1), .int (nI n_19)]) (rest := []) ⟨hx, hb, hml, hown, hts⟩ (c_Mo_control l D ca ad L _ _ _ hM (j1) (by omega) (nI n_19) u_42) (kv_Mo_control hts rfl rfl (hts _ tw_1689) ⟨Nat.le_of_ble_eq_true rfl, Nat.le_of_ble_eq_true rfl⟩) (pv_Mo hI hE hM) rfl rfl hl.1 rfl (lv_room (Nat.le_of_ble_eq_true rfl)) d_Mo_whole_154 ⟨Nat.le_of_ble_eq_true rfl, Nat.le_of_ble_eq_true rfl⟩) (fun H locs f σ_86 hI hM hF_87 p_85 => ?_)
            have hF := mq_fr_tr hF hF_87 (by decide)
            have o_88 : σ_86.1 56 = nI z1 := mq_fi hF_87 (by decide) o_41
            obtain ⟨n_89, h_90, o_91⟩ := mq_ri (n := 0) hF_87 (by decide) o_45
            have u_92 := BIe_fr hF_87 (by decide) u_43
            have u_93 := BIa_fr hF_87 (by decide) u_44
            obtain ⟨u_94, -⟩ := p_85
            refine lv_goto (tgt := 165) hx hb d_Mo_whole_157 (by decide) ?_
            exact sm_vret hx hb hr hlk hI ⟨σ_86, rfl, hM, hF, ⟨⟨z1, by omega, by omega, by omega, o_88⟩, (Eq.trans o_91 (congrArg nI (show (n_89 : Nat) = 0 by omega))), u_94, u_93, trivial⟩⟩ d_Mo_whole_165
          · have k_95 : ¬ n_19 = 7 := (fun q => c_83 ((nI_eq (a := n_19) (b := 7) (by omega) (by omega)).mpr q))
            refine lv_iload_n hx hb d_Mo_whole_132 rfl (lv_at hl 1 rfl) ?_
            refine lv_bipush (v := 19) hx hb d_Mo_whole_133 (by decide) ?_
            refine lv_icmp_eq (tgt := 151) hx hb d_Mo_whole_135 (by decide) (fun c_96 => ?_) (fun c_96 => ?_)
            · have k_97 : n_19 = 19 := (nI_eq (a := n_19) (b := 19) (by omega) (by omega)).mp c_96
              refine lv_aload_n hx hb d_Mo_whole_151 rfl (lv_at hl 3 rfl) ?_
              refine lv_iload_n hx hb d_Mo_whole_152 rfl (lv_at hl 4 rfl) ?_
              refine lv_iload_n hx hb d_Mo_whole_153 rfl (lv_at hl 1 rfl) ?_
              refine sm_vM hI (va_runV (As := [.int (nI j1), .int (nI n_19)]) (rest := []) ⟨hx, hb, hml, hown, hts⟩ (c_Mo_control l D ca ad L _ _ _ hM (j1) (by omega) (nI n_19) u_42) (kv_Mo_control hts rfl rfl (hts _ tw_1689) ⟨Nat.le_of_ble_eq_true rfl, Nat.le_of_ble_eq_true rfl⟩) (pv_Mo hI hE hM) rfl rfl hl.1 rfl (lv_room (Nat.le_of_ble_eq_true rfl)) d_Mo_whole_154 ⟨Nat.le_of_ble_eq_true rfl, Nat.le_of_ble_eq_true rfl⟩) (fun H locs f σ_99 hI hM hF_100 p_98 => ?_)
              have hF := mq_fr_tr hF hF_100 (by decide)
              have o_101 : σ_99.1 56 = nI z1 := mq_fi hF_100 (by decide) o_41
              obtain ⟨n_102, h_103, o_104⟩ := mq_ri (n := 0) hF_100 (by decide) o_45
              have u_105 := BIe_fr hF_100 (by decide) u_43
              have u_106 := BIa_fr hF_100 (by decide) u_44
              obtain ⟨u_107, -⟩ := p_98
              refine lv_goto (tgt := 165) hx hb d_Mo_whole_157 (by decide) ?_
              exact sm_vret hx hb hr hlk hI ⟨σ_99, rfl, hM, hF, ⟨⟨z1, by omega, by omega, by omega, o_101⟩, (Eq.trans o_104 (congrArg nI (show (n_102 : Nat) = 0 by omega))), u_107, u_106, trivial⟩⟩ d_Mo_whole_165
            · have k_108 : ¬ n_19 = 19 := (fun q => c_96 ((nI_eq (a := n_19) (b := 19) (by omega) (by omega)).mpr q))
              refine lv_iload_n hx hb d_Mo_whole_138 rfl (lv_at hl 1 rfl) ?_
              refine lv_bipush (v := 67) hx hb d_Mo_whole_139 (by decide) ?_
              refine lv_icmp_eq (tgt := 151) hx hb d_Mo_whole_141 (by decide) (fun c_109 => ?_) (fun c_109 => ?_)
              · have k_110 : n_19 = 67 := (nI_eq (a := n_19) (b := 67) (by omega) (by omega)).mp c_109
                refine lv_aload_n hx hb d_Mo_whole_151 rfl (lv_at hl 3 rfl) ?_
                refine lv_iload_n hx hb d_Mo_whole_152 rfl (lv_at hl 4 rfl) ?_
                refine lv_iload_n hx hb d_Mo_whole_153 rfl (lv_at hl 1 rfl) ?_
                refine sm_vM hI (va_runV (As := [.int (nI j1), .int (nI n_19)]) (rest := []) ⟨hx, hb, hml, hown, hts⟩ (c_Mo_control l D ca ad L _ _ _ hM (j1) (by omega) (nI n_19) u_42) (kv_Mo_control hts rfl rfl (hts _ tw_1689) ⟨Nat.le_of_ble_eq_true rfl, Nat.le_of_ble_eq_true rfl⟩) (pv_Mo hI hE hM) rfl rfl hl.1 rfl (lv_room (Nat.le_of_ble_eq_true rfl)) d_Mo_whole_154 ⟨Nat.le_of_ble_eq_true rfl, Nat.le_of_ble_eq_true rfl⟩) (fun H locs f σ_112 hI hM hF_113 p_111 => ?_)
                have hF := mq_fr_tr hF hF_113 (by decide)
                have o_114 : σ_112.1 56 = nI z1 := mq_fi hF_113 (by decide) o_41
                obtain ⟨n_115, h_116, o_117⟩ := mq_ri (n := 0) hF_113 (by decide) o_45
                have u_118 := BIe_fr hF_113 (by decide) u_43
                have u_119 := BIa_fr hF_113 (by decide) u_44
                obtain ⟨u_120, -⟩ := p_111
                refine lv_goto (tgt := 165) hx hb d_Mo_whole_157 (by decide) ?_
                exact sm_vret hx hb hr hlk hI ⟨σ_112, rfl, hM, hF, ⟨⟨z1, by omega, by omega, by omega, o_114⟩, (Eq.trans o_117 (congrArg nI (show (n_115 : Nat) = 0 by omega))), u_120, u_119, trivial⟩⟩ d_Mo_whole_165
              · have k_121 : ¬ n_19 = 67 := (fun q => c_109 ((nI_eq (a := n_19) (b := 67) (by omega) (by omega)).mpr q))
                refine lv_iload_n hx hb d_Mo_whole_144 rfl (lv_at hl 1 rfl) ?_
                refine lv_sipush (v := 131) hx hb d_Mo_whole_145 (by decide) ?_
                refine lv_icmp_ne (tgt := 160) hx hb d_Mo_whole_148 (by decide) (fun c_122 => ?_) (fun c_122 => ?_)
                · have k_123 : ¬ n_19 = 131 := (fun q => c_122 ((nI_eq (a := n_19) (b := 131) (by omega) (by omega)).mpr q))
                  refine lv_aload_n hx hb d_Mo_whole_160 rfl (lv_at hl 3 rfl) ?_
                  refine lv_iload_n hx hb d_Mo_whole_161 rfl (lv_at hl 4 rfl) ?_
                  refine sm_vM hI (va_runV (As := [.int (nI j1)]) (rest := []) ⟨hx, hb, hml, hown, hts⟩ (c_Mo_shut l D ca ad L _ _ _ hM (j1) (by omega) u_42) (kv_Mo_shut hts rfl rfl (hts _ tw_1513) ⟨Nat.le_of_ble_eq_true rfl, Nat.le_of_ble_eq_true rfl⟩) (pv_Mo hI hE hM) rfl rfl hl.1 rfl (lv_room (Nat.le_of_ble_eq_true rfl)) d_Mo_whole_162 ⟨Nat.le_of_ble_eq_true rfl, Nat.le_of_ble_eq_true rfl⟩) (fun H locs f σ_125 hI hM hF_126 p_124 => ?_)
                  have hF := mq_fr_tr hF hF_126 (by decide)
                  have o_127 : σ_125.1 56 = nI z1 := mq_fi hF_126 (by decide) o_41
                  obtain ⟨n_128, h_129, o_130⟩ := mq_ri (n := 0) hF_126 (by decide) o_45
                  have u_131 := BIe_fr hF_126 (by decide) u_43
                  have u_132 := BIa_fr hF_126 (by decide) u_44
                  obtain ⟨o_133, o_134, u_135, -⟩ := p_124
                  exact sm_vret hx hb hr hlk hI ⟨σ_125, rfl, hM, hF, ⟨⟨z1, by omega, by omega, by omega, o_127⟩, (Eq.trans o_134 (congrArg nI (show ((0) : Nat) = 0 by omega))), u_135, u_132, trivial⟩⟩ d_Mo_whole_165
                · have k_136 : n_19 = 131 := (nI_eq (a := n_19) (b := 131) (by omega) (by omega)).mp c_122
                  refine lv_aload_n hx hb d_Mo_whole_151 rfl (lv_at hl 3 rfl) ?_
                  refine lv_iload_n hx hb d_Mo_whole_152 rfl (lv_at hl 4 rfl) ?_
                  refine lv_iload_n hx hb d_Mo_whole_153 rfl (lv_at hl 1 rfl) ?_
                  refine sm_vM hI (va_runV (As := [.int (nI j1), .int (nI n_19)]) (rest := []) ⟨hx, hb, hml, hown, hts⟩ (c_Mo_control l D ca ad L _ _ _ hM (j1) (by omega) (nI n_19) u_42) (kv_Mo_control hts rfl rfl (hts _ tw_1689) ⟨Nat.le_of_ble_eq_true rfl, Nat.le_of_ble_eq_true rfl⟩) (pv_Mo hI hE hM) rfl rfl hl.1 rfl (lv_room (Nat.le_of_ble_eq_true rfl)) d_Mo_whole_154 ⟨Nat.le_of_ble_eq_true rfl, Nat.le_of_ble_eq_true rfl⟩) (fun H locs f σ_138 hI hM hF_139 p_137 => ?_)
                  have hF := mq_fr_tr hF hF_139 (by decide)
                  have o_140 : σ_138.1 56 = nI z1 := mq_fi hF_139 (by decide) o_41
                  obtain ⟨n_141, h_142, o_143⟩ := mq_ri (n := 0) hF_139 (by decide) o_45
                  have u_144 := BIe_fr hF_139 (by decide) u_43
                  have u_145 := BIa_fr hF_139 (by decide) u_44
                  obtain ⟨u_146, -⟩ := p_137
                  refine lv_goto (tgt := 165) hx hb d_Mo_whole_157 (by decide) ?_
                  exact sm_vret hx hb hr hlk hI ⟨σ_138, rfl, hM, hF, ⟨⟨z1, by omega, by omega, by omega, o_140⟩, (Eq.trans o_143 (congrArg nI (show (n_141 : Nat) = 0 by omega))), u_146, u_145, trivial⟩⟩ d_Mo_whole_165
    · have k_147 : n_19 = 1 := (nI_eq (a := n_19) (b := 1) (by omega) (by omega)).mp c_49
      refine lv_iload hx hb d_Mo_whole_86 (lv_at hl 0 rfl) ?_
      refine lv_iconst (v := 1) hx hb d_Mo_whole_88 (by decide) ?_
      refine lv_iand hx hb d_Mo_whole_89 ?_
      refine lv_topi (fun x_148 e_149 => ?_)
      refine lv_if_ne (tgt := 117) hx hb d_Mo_whole_90 (by decide) (fun c_150 => ?_) (fun c_150 => ?_)
      · refine lv_iload hx hb d_Mo_whole_117 (lv_at hl 0 rfl) ?_
        refine lv_if_ne (tgt := 160) hx hb d_Mo_whole_119 (by decide) (fun c_151 => ?_) (fun c_151 => ?_)
        · have k_152 : 0 < n_37 := Nat.pos_of_ne_zero (fun q => c_151 (by rw [q]; decide))
          refine lv_aload_n hx hb d_Mo_whole_160 rfl (lv_at hl 3 rfl) ?_
          refine lv_iload_n hx hb d_Mo_whole_161 rfl (lv_at hl 4 rfl) ?_
          refine sm_vM hI (va_runV (As := [.int (nI j1)]) (rest := []) ⟨hx, hb, hml, hown, hts⟩ (c_Mo_shut l D ca ad L _ _ _ hM (j1) (by omega) u_42) (kv_Mo_shut hts rfl rfl (hts _ tw_1513) ⟨Nat.le_of_ble_eq_true rfl, Nat.le_of_ble_eq_true rfl⟩) (pv_Mo hI hE hM) rfl rfl hl.1 rfl (lv_room (Nat.le_of_ble_eq_true rfl)) d_Mo_whole_162 ⟨Nat.le_of_ble_eq_true rfl, Nat.le_of_ble_eq_true rfl⟩) (fun H locs f σ_154 hI hM hF_155 p_153 => ?_)
          have hF := mq_fr_tr hF hF_155 (by decide)
          have o_156 : σ_154.1 56 = nI z1 := mq_fi hF_155 (by decide) o_41
          obtain ⟨n_157, h_158, o_159⟩ := mq_ri (n := 0) hF_155 (by decide) o_45
          have u_160 := BIe_fr hF_155 (by decide) u_43
          have u_161 := BIa_fr hF_155 (by decide) u_44
          obtain ⟨o_162, o_163, u_164, -⟩ := p_153
          exact sm_vret hx hb hr hlk hI ⟨σ_154, rfl, hM, hF, ⟨⟨z1, by omega, by omega, by omega, o_156⟩, (Eq.trans o_163 (congrArg nI (show ((0) : Nat) = 0 by omega))), u_164, u_161, trivial⟩⟩ d_Mo_whole_165
        · have k_166 : n_37 = 0 := nz_eq c_151 (by omega)
          refine lv_iload_n hx hb d_Mo_whole_122 rfl (lv_at hl 2 rfl) ?_
          refine lv_if_ne (tgt := 160) hx hb d_Mo_whole_123 (by decide) (fun c_167 => ?_) (fun c_167 => ?_)
          · have k_168 : 0 < (z2 - 6) := Nat.pos_of_ne_zero (fun q => c_167 (by rw [q]; decide))
            refine lv_aload_n hx hb d_Mo_whole_160 rfl (lv_at hl 3 rfl) ?_
            refine lv_iload_n hx hb d_Mo_whole_161 rfl (lv_at hl 4 rfl) ?_
            refine sm_vM hI (va_runV (As := [.int (nI j1)]) (rest := []) ⟨hx, hb, hml, hown, hts⟩ (c_Mo_shut l D ca ad L _ _ _ hM (j1) (by omega) u_42) (kv_Mo_shut hts rfl rfl (hts _ tw_1513) ⟨Nat.le_of_ble_eq_true rfl, Nat.le_of_ble_eq_true rfl⟩) (pv_Mo hI hE hM) rfl rfl hl.1 rfl (lv_room (Nat.le_of_ble_eq_true rfl)) d_Mo_whole_162 ⟨Nat.le_of_ble_eq_true rfl, Nat.le_of_ble_eq_true rfl⟩) (fun H locs f σ_170 hI hM hF_171 p_169 => ?_)
            have hF := mq_fr_tr hF hF_171 (by decide)
            have o_172 : σ_170.1 56 = nI z1 := mq_fi hF_171 (by decide) o_41
            obtain ⟨n_173, h_174, o_175⟩ := mq_ri (n := 0) hF_171 (by decide) o_45
            have u_176 := BIe_fr hF_171 (by decide) u_43
            have u_177 := BIa_fr hF_171 (by decide) u_44
            obtain ⟨o_178, o_179, u_180, -⟩ := p_169
            exact sm_vret hx hb hr hlk hI ⟨σ_170, rfl, hM, hF, ⟨⟨z1, by omega, by omega, by omega, o_172⟩, (Eq.trans o_179 (congrArg nI (show ((0) : Nat) = 0 by omega))), u_180, u_177, trivial⟩⟩ d_Mo_whole_165
          · have k_182 : (z2 - 6) = 0 := nz_eq c_167 (by omega)
            refine lv_iload_n hx hb d_Mo_whole_126 rfl (lv_at hl 1 rfl) ?_
            refine lv_bipush (v := 7) hx hb d_Mo_whole_127 (by decide) ?_
            refine lv_icmp_eq (tgt := 151) hx hb d_Mo_whole_129 (by decide) (fun c_183 => ?_) (fun c_183 => ?_)
            · have k_184 : n_19 = 7 := (nI_eq (a := n_19) (b := 7) (by omega) (by omega)).mp c_183
              refine lv_aload_n hx hb d_Mo_whole_151 rfl (lv_at hl 3 rfl) ?_
              refine lv_iload_n hx hb d_Mo_whole_152 rfl (lv_at hl 4 rfl) ?_
              refine lv_iload_n hx hb d_Mo_whole_153 rfl (lv_at hl 1 rfl) ?_
              refine sm_vM hI (va_runV (As := [.int (nI j1), .int (nI n_19)]) (rest := []) ⟨hx, hb, hml, hown, hts⟩ (c_Mo_control l D ca ad L _ _ _ hM (j1) (by omega) (nI n_19) u_42) (kv_Mo_control hts rfl rfl (hts _ tw_1689) ⟨Nat.le_of_ble_eq_true rfl, Nat.le_of_ble_eq_true rfl⟩) (pv_Mo hI hE hM) rfl rfl hl.1 rfl (lv_room (Nat.le_of_ble_eq_true rfl)) d_Mo_whole_154 ⟨Nat.le_of_ble_eq_true rfl, Nat.le_of_ble_eq_true rfl⟩) (fun H locs f σ_186 hI hM hF_187 p_185 => ?_)
              have hF := mq_fr_tr hF hF_187 (by decide)
              have o_188 : σ_186.1 56 = nI z1 := mq_fi hF_187 (by decide) o_41
              obtain ⟨n_189, h_190, o_191⟩ := mq_ri (n := 0) hF_187 (by decide) o_45
              have u_192 := BIe_fr hF_187 (by decide) u_43
              have u_193 := BIa_fr hF_187 (by decide) u_44
              obtain ⟨u_194, -⟩ := p_185
              refine lv_goto (tgt := 165) hx hb d_Mo_whole_157 (by decide) ?_
              exact sm_vret hx hb hr hlk hI ⟨σ_186, rfl, hM, hF, ⟨⟨z1, by omega, by omega, by omega, o_188⟩, (Eq.trans o_191 (congrArg nI (show (n_189 : Nat) = 0 by omega))), u_194, u_193, trivial⟩⟩ d_Mo_whole_165
            · have k_195 : ¬ n_19 = 7 := (fun q => c_183 ((nI_eq (a := n_19) (b := 7) (by omega) (by omega)).mpr q))
              refine lv_iload_n hx hb d_Mo_whole_132 rfl (lv_at hl 1 rfl) ?_
              refine lv_bipush (v := 19) hx hb d_Mo_whole_133 (by decide) ?_
              refine lv_icmp_eq (tgt := 151) hx hb d_Mo_whole_135 (by decide) (fun c_196 => ?_) (fun c_196 => ?_)
              · have k_197 : n_19 = 19 := (nI_eq (a := n_19) (b := 19) (by omega) (by omega)).mp c_196
                refine lv_aload_n hx hb d_Mo_whole_151 rfl (lv_at hl 3 rfl) ?_
                refine lv_iload_n hx hb d_Mo_whole_152 rfl (lv_at hl 4 rfl) ?_
                refine lv_iload_n hx hb d_Mo_whole_153 rfl (lv_at hl 1 rfl) ?_
                refine sm_vM hI (va_runV (As := [.int (nI j1), .int (nI n_19)]) (rest := []) ⟨hx, hb, hml, hown, hts⟩ (c_Mo_control l D ca ad L _ _ _ hM (j1) (by omega) (nI n_19) u_42) (kv_Mo_control hts rfl rfl (hts _ tw_1689) ⟨Nat.le_of_ble_eq_true rfl, Nat.le_of_ble_eq_true rfl⟩) (pv_Mo hI hE hM) rfl rfl hl.1 rfl (lv_room (Nat.le_of_ble_eq_true rfl)) d_Mo_whole_154 ⟨Nat.le_of_ble_eq_true rfl, Nat.le_of_ble_eq_true rfl⟩) (fun H locs f σ_199 hI hM hF_200 p_198 => ?_)
                have hF := mq_fr_tr hF hF_200 (by decide)
                have o_201 : σ_199.1 56 = nI z1 := mq_fi hF_200 (by decide) o_41
                obtain ⟨n_202, h_203, o_204⟩ := mq_ri (n := 0) hF_200 (by decide) o_45
                have u_205 := BIe_fr hF_200 (by decide) u_43
                have u_206 := BIa_fr hF_200 (by decide) u_44
                obtain ⟨u_207, -⟩ := p_198
                refine lv_goto (tgt := 165) hx hb d_Mo_whole_157 (by decide) ?_
                exact sm_vret hx hb hr hlk hI ⟨σ_199, rfl, hM, hF, ⟨⟨z1, by omega, by omega, by omega, o_201⟩, (Eq.trans o_204 (congrArg nI (show (n_202 : Nat) = 0 by omega))), u_207, u_206, trivial⟩⟩ d_Mo_whole_165
              · have k_208 : ¬ n_19 = 19 := (fun q => c_196 ((nI_eq (a := n_19) (b := 19) (by omega) (by omega)).mpr q))
                refine lv_iload_n hx hb d_Mo_whole_138 rfl (lv_at hl 1 rfl) ?_
                refine lv_bipush (v := 67) hx hb d_Mo_whole_139 (by decide) ?_
                refine lv_icmp_eq (tgt := 151) hx hb d_Mo_whole_141 (by decide) (fun c_209 => ?_) (fun c_209 => ?_)
                · have k_210 : n_19 = 67 := (nI_eq (a := n_19) (b := 67) (by omega) (by omega)).mp c_209
                  refine lv_aload_n hx hb d_Mo_whole_151 rfl (lv_at hl 3 rfl) ?_
                  refine lv_iload_n hx hb d_Mo_whole_152 rfl (lv_at hl 4 rfl) ?_
                  refine lv_iload_n hx hb d_Mo_whole_153 rfl (lv_at hl 1 rfl) ?_
                  refine sm_vM hI (va_runV (As := [.int (nI j1), .int (nI n_19)]) (rest := []) ⟨hx, hb, hml, hown, hts⟩ (c_Mo_control l D ca ad L _ _ _ hM (j1) (by omega) (nI n_19) u_42) (kv_Mo_control hts rfl rfl (hts _ tw_1689) ⟨Nat.le_of_ble_eq_true rfl, Nat.le_of_ble_eq_true rfl⟩) (pv_Mo hI hE hM) rfl rfl hl.1 rfl (lv_room (Nat.le_of_ble_eq_true rfl)) d_Mo_whole_154 ⟨Nat.le_of_ble_eq_true rfl, Nat.le_of_ble_eq_true rfl⟩) (fun H locs f σ_212 hI hM hF_213 p_211 => ?_)
                  have hF := mq_fr_tr hF hF_213 (by decide)
                  have o_214 : σ_212.1 56 = nI z1 := mq_fi hF_213 (by decide) o_41
                  obtain ⟨n_215, h_216, o_217⟩ := mq_ri (n := 0) hF_213 (by decide) o_45
                  have u_218 := BIe_fr hF_213 (by decide) u_43
                  have u_219 := BIa_fr hF_213 (by decide) u_44
                  obtain ⟨u_220, -⟩ := p_211
                  refine lv_goto (tgt := 165) hx hb d_Mo_whole_157 (by decide) ?_
                  exact sm_vret hx hb hr hlk hI ⟨σ_212, rfl, hM, hF, ⟨⟨z1, by omega, by omega, by omega, o_214⟩, (Eq.trans o_217 (congrArg nI (show (n_215 : Nat) = 0 by omega))), u_220, u_219, trivial⟩⟩ d_Mo_whole_165
                · have k_221 : ¬ n_19 = 67 := (fun q => c_209 ((nI_eq (a := n_19) (b := 67) (by omega) (by omega)).mpr q))
                  refine lv_iload_n hx hb d_Mo_whole_144 rfl (lv_at hl 1 rfl) ?_
                  refine lv_sipush (v := 131) hx hb d_Mo_whole_145 (by decide) ?_
                  refine lv_icmp_ne (tgt := 160) hx hb d_Mo_whole_148 (by decide) (fun c_222 => ?_) (fun c_222 => ?_)
                  · have k_223 : ¬ n_19 = 131 := (fun q => c_222 ((nI_eq (a := n_19) (b := 131) (by omega) (by omega)).mpr q))
                    refine lv_aload_n hx hb d_Mo_whole_160 rfl (lv_at hl 3 rfl) ?_
                    refine lv_iload_n hx hb d_Mo_whole_161 rfl (lv_at hl 4 rfl) ?_
                    refine sm_vM hI (va_runV (As := [.int (nI j1)]) (rest := []) ⟨hx, hb, hml, hown, hts⟩ (c_Mo_shut l D ca ad L _ _ _ hM (j1) (by omega) u_42) (kv_Mo_shut hts rfl rfl (hts _ tw_1513) ⟨Nat.le_of_ble_eq_true rfl, Nat.le_of_ble_eq_true rfl⟩) (pv_Mo hI hE hM) rfl rfl hl.1 rfl (lv_room (Nat.le_of_ble_eq_true rfl)) d_Mo_whole_162 ⟨Nat.le_of_ble_eq_true rfl, Nat.le_of_ble_eq_true rfl⟩) (fun H locs f σ_225 hI hM hF_226 p_224 => ?_)
                    have hF := mq_fr_tr hF hF_226 (by decide)
                    have o_227 : σ_225.1 56 = nI z1 := mq_fi hF_226 (by decide) o_41
                    obtain ⟨n_228, h_229, o_230⟩ := mq_ri (n := 0) hF_226 (by decide) o_45
                    have u_231 := BIe_fr hF_226 (by decide) u_43
                    have u_232 := BIa_fr hF_226 (by decide) u_44
                    obtain ⟨o_233, o_234, u_235, -⟩ := p_224
                    exact sm_vret hx hb hr hlk hI ⟨σ_225, rfl, hM, hF, ⟨⟨z1, by omega, by omega, by omega, o_227⟩, (Eq.trans o_234 (congrArg nI (show ((0) : Nat) = 0 by omega))), u_235, u_232, trivial⟩⟩ d_Mo_whole_165
                  · have k_236 : n_19 = 131 := (nI_eq (a := n_19) (b := 131) (by omega) (by omega)).mp c_222
                    refine lv_aload_n hx hb d_Mo_whole_151 rfl (lv_at hl 3 rfl) ?_
                    refine lv_iload_n hx hb d_Mo_whole_152 rfl (lv_at hl 4 rfl) ?_
                    refine lv_iload_n hx hb d_Mo_whole_153 rfl (lv_at hl 1 rfl) ?_
                    refine sm_vM hI (va_runV (As := [.int (nI j1), .int (nI n_19)]) (rest := []) ⟨hx, hb, hml, hown, hts⟩ (c_Mo_control l D ca ad L _ _ _ hM (j1) (by omega) (nI n_19) u_42) (kv_Mo_control hts rfl rfl (hts _ tw_1689) ⟨Nat.le_of_ble_eq_true rfl, Nat.le_of_ble_eq_true rfl⟩) (pv_Mo hI hE hM) rfl rfl hl.1 rfl (lv_room (Nat.le_of_ble_eq_true rfl)) d_Mo_whole_154 ⟨Nat.le_of_ble_eq_true rfl, Nat.le_of_ble_eq_true rfl⟩) (fun H locs f σ_238 hI hM hF_239 p_237 => ?_)
                    have hF := mq_fr_tr hF hF_239 (by decide)
                    have o_240 : σ_238.1 56 = nI z1 := mq_fi hF_239 (by decide) o_41
                    obtain ⟨n_241, h_242, o_243⟩ := mq_ri (n := 0) hF_239 (by decide) o_45
                    have u_244 := BIe_fr hF_239 (by decide) u_43
                    have u_245 := BIa_fr hF_239 (by decide) u_44
                    obtain ⟨u_246, -⟩ := p_237
                    refine lv_goto (tgt := 165) hx hb d_Mo_whole_157 (by decide) ?_
                    exact sm_vret hx hb hr hlk hI ⟨σ_238, rfl, hM, hF, ⟨⟨z1, by omega, by omega, by omega, o_240⟩, (Eq.trans o_243 (congrArg nI (show (n_241 : Nat) = 0 by omega))), u_246, u_245, trivial⟩⟩ d_Mo_whole_165
      · refine lv_iload_n hx hb d_Mo_whole_93 rfl (lv_at hl 2 rfl) ?_
        refine lv_if_ne (tgt := 117) hx hb d_Mo_whole_94 (by decide) (fun c_247 => ?_) (fun c_247 => ?_)
        · have k_248 : 0 < (z2 - 6) := Nat.pos_of_ne_zero (fun q => c_247 (by rw [q]; decide))
          refine lv_iload hx hb d_Mo_whole_117 (lv_at hl 0 rfl) ?_
          refine lv_if_ne (tgt := 160) hx hb d_Mo_whole_119 (by decide) (fun c_249 => ?_) (fun c_249 => ?_)
          · have k_250 : 0 < n_37 := Nat.pos_of_ne_zero (fun q => c_249 (by rw [q]; decide))
            refine lv_aload_n hx hb d_Mo_whole_160 rfl (lv_at hl 3 rfl) ?_
            refine lv_iload_n hx hb d_Mo_whole_161 rfl (lv_at hl 4 rfl) ?_
            refine sm_vM hI (va_runV (As := [.int (nI j1)]) (rest := []) ⟨hx, hb, hml, hown, hts⟩ (c_Mo_shut l D ca ad L _ _ _ hM (j1) (by omega) u_42) (kv_Mo_shut hts rfl rfl (hts _ tw_1513) ⟨Nat.le_of_ble_eq_true rfl, Nat.le_of_ble_eq_true rfl⟩) (pv_Mo hI hE hM) rfl rfl hl.1 rfl (lv_room (Nat.le_of_ble_eq_true rfl)) d_Mo_whole_162 ⟨Nat.le_of_ble_eq_true rfl, Nat.le_of_ble_eq_true rfl⟩) (fun H locs f σ_252 hI hM hF_253 p_251 => ?_)
            have hF := mq_fr_tr hF hF_253 (by decide)
            have o_254 : σ_252.1 56 = nI z1 := mq_fi hF_253 (by decide) o_41
            obtain ⟨n_255, h_256, o_257⟩ := mq_ri (n := 0) hF_253 (by decide) o_45
            have u_258 := BIe_fr hF_253 (by decide) u_43
            have u_259 := BIa_fr hF_253 (by decide) u_44
            obtain ⟨o_260, o_261, u_262, -⟩ := p_251
            exact sm_vret hx hb hr hlk hI ⟨σ_252, rfl, hM, hF, ⟨⟨z1, by omega, by omega, by omega, o_254⟩, (Eq.trans o_261 (congrArg nI (show ((0) : Nat) = 0 by omega))), u_262, u_259, trivial⟩⟩ d_Mo_whole_165
          · have k_264 : n_37 = 0 := nz_eq c_249 (by omega)
            refine lv_iload_n hx hb d_Mo_whole_122 rfl (lv_at hl 2 rfl) ?_
            refine lv_if_ne (tgt := 160) hx hb d_Mo_whole_123 (by decide) (fun c_265 => ?_) (fun c_265 => ?_)
            · have k_266 : 0 < (z2 - 6) := Nat.pos_of_ne_zero (fun q => c_265 (by rw [q]; decide))
              refine lv_aload_n hx hb d_Mo_whole_160 rfl (lv_at hl 3 rfl) ?_
              refine lv_iload_n hx hb d_Mo_whole_161 rfl (lv_at hl 4 rfl) ?_
              refine sm_vM hI (va_runV (As := [.int (nI j1)]) (rest := []) ⟨hx, hb, hml, hown, hts⟩ (c_Mo_shut l D ca ad L _ _ _ hM (j1) (by omega) u_42) (kv_Mo_shut hts rfl rfl (hts _ tw_1513) ⟨Nat.le_of_ble_eq_true rfl, Nat.le_of_ble_eq_true rfl⟩) (pv_Mo hI hE hM) rfl rfl hl.1 rfl (lv_room (Nat.le_of_ble_eq_true rfl)) d_Mo_whole_162 ⟨Nat.le_of_ble_eq_true rfl, Nat.le_of_ble_eq_true rfl⟩) (fun H locs f σ_268 hI hM hF_269 p_267 => ?_)
              have hF := mq_fr_tr hF hF_269 (by decide)
              have o_270 : σ_268.1 56 = nI z1 := mq_fi hF_269 (by decide) o_41
              obtain ⟨n_271, h_272, o_273⟩ := mq_ri (n := 0) hF_269 (by decide) o_45
              have u_274 := BIe_fr hF_269 (by decide) u_43
              have u_275 := BIa_fr hF_269 (by decide) u_44
              obtain ⟨o_276, o_277, u_278, -⟩ := p_267
              exact sm_vret hx hb hr hlk hI ⟨σ_268, rfl, hM, hF, ⟨⟨z1, by omega, by omega, by omega, o_270⟩, (Eq.trans o_277 (congrArg nI (show ((0) : Nat) = 0 by omega))), u_278, u_275, trivial⟩⟩ d_Mo_whole_165
            · exact absurd c_265 c_247
        · have k_280 : (z2 - 6) = 0 := nz_eq c_247 (by omega)
          refine lv_aload_n hx hb d_Mo_whole_97 rfl (lv_at hl 3 rfl) ?_
          refine lv_iload_n hx hb d_Mo_whole_98 rfl (lv_at hl 4 rfl) ?_
          refine lv_iload hx hb d_Mo_whole_99 (lv_at hl 0 rfl) ?_
          refine lv_iconst (v := 2) hx hb d_Mo_whole_101 (by decide) ?_
          refine lv_idiv hx hb d_Mo_whole_102 (by decide) ?_
          refine lv_topi (fun x_281 e_282 => ?_)
          obtain ⟨n_283, h_284, rfl⟩ : ∃ n : Nat, n ≤ 32767 ∧ x_281 = nI n := dv_2 e_282 (by omega)
          refine sm_iM hI (va_runV (As := [.int (nI j1), .int (nI n_283)]) (rest := []) ⟨hx, hb, hml, hown, hts⟩ (c_Mo_confirmed l D ca ad L _ _ _ hM (j1) (by omega) (n_283) (by omega) u_42) (kv_Mo_confirmed hts rfl rfl (hts _ tw_1685) ⟨Nat.le_of_ble_eq_true rfl, Nat.le_of_ble_eq_true rfl⟩) (pv_Mo hI hE hM) rfl rfl hl.1 rfl (lv_room (Nat.le_of_ble_eq_true rfl)) d_Mo_whole_103 ⟨Nat.le_of_ble_eq_true rfl, Nat.le_of_ble_eq_true rfl⟩) (fun x_288 H locs f σ_286 hI hM hF_287 p_285 => ?_)
          have hF := mq_fr_tr hF hF_287 (by decide)
          have o_289 : σ_286.1 56 = nI z1 := mq_fi hF_287 (by decide) o_41
          obtain ⟨n_290, h_291, o_292⟩ := mq_ri (n := 0) hF_287 (by decide) o_45
          have u_293 := BIe_fr hF_287 (by decide) u_43
          have u_294 := BIa_fr hF_287 (by decide) u_44
          obtain ⟨p_296, u_295, -⟩ := p_285
          refine lv_if_ne (tgt := 165) hx hb d_Mo_whole_106 (by decide) (fun c_297 => ?_) (fun c_297 => ?_)
          · exact sm_vret hx hb hr hlk hI ⟨σ_286, rfl, hM, hF, ⟨⟨z1, by omega, by omega, by omega, o_289⟩, (Eq.trans o_292 (congrArg nI (show (n_290 : Nat) = 0 by omega))), u_295, u_294, trivial⟩⟩ d_Mo_whole_165
          · refine lv_aload_n hx hb d_Mo_whole_109 rfl (lv_at hl 3 rfl) ?_
            refine lv_iload_n hx hb d_Mo_whole_110 rfl (lv_at hl 4 rfl) ?_
            refine sm_vM hI (va_runV (As := [.int (nI j1)]) (rest := []) ⟨hx, hb, hml, hown, hts⟩ (c_Mo_shut l D ca ad L _ _ _ hM (j1) (by omega) u_295) (kv_Mo_shut hts rfl rfl (hts _ tw_1513) ⟨Nat.le_of_ble_eq_true rfl, Nat.le_of_ble_eq_true rfl⟩) (pv_Mo hI hE hM) rfl rfl hl.1 rfl (lv_room (Nat.le_of_ble_eq_true rfl)) d_Mo_whole_111 ⟨Nat.le_of_ble_eq_true rfl, Nat.le_of_ble_eq_true rfl⟩) (fun H locs f σ_299 hI hM hF_300 p_298 => ?_)
            have hF := mq_fr_tr hF hF_300 (by decide)
            have o_301 : σ_299.1 56 = nI z1 := mq_fi hF_300 (by decide) o_289
            obtain ⟨n_302, h_303, o_304⟩ := mq_ri (n := n_290) hF_300 (by decide) o_292
            have u_305 := BIe_fr hF_300 (by decide) u_293
            have u_306 := BIa_fr hF_300 (by decide) u_294
            obtain ⟨o_307, o_308, u_309, -⟩ := p_298
            refine lv_goto (tgt := 165) hx hb d_Mo_whole_114 (by decide) ?_
            exact sm_vret hx hb hr hlk hI ⟨σ_299, rfl, hM, hF, ⟨⟨z1, by omega, by omega, by omega, o_301⟩, (Eq.trans o_308 (congrArg nI (show ((0) : Nat) = 0 by omega))), u_309, u_306, trivial⟩⟩ d_Mo_whole_165
  · refine lv_iload hx hb d_Mo_whole_58 (lv_at hl 0 rfl) ?_
    refine lv_iconst (v := 1) hx hb d_Mo_whole_60 (by decide) ?_
    refine lv_iand hx hb d_Mo_whole_61 ?_
    refine lv_topi (fun x_310 e_311 => ?_)
    refine lv_if_ne (tgt := 81) hx hb d_Mo_whole_62 (by decide) (fun c_312 => ?_) (fun c_312 => ?_)
    · refine lv_iload_n hx hb d_Mo_whole_81 rfl (lv_at hl 1 rfl) ?_
      refine lv_iconst (v := 1) hx hb d_Mo_whole_82 (by decide) ?_
      refine lv_icmp_ne (tgt := 117) hx hb d_Mo_whole_83 (by decide) (fun c_313 => ?_) (fun c_313 => ?_)
      · have k_314 : ¬ n_19 = 1 := (fun q => c_313 ((nI_eq (a := n_19) (b := 1) (by omega) (by omega)).mpr q))
        refine lv_iload hx hb d_Mo_whole_117 (lv_at hl 0 rfl) ?_
        refine lv_if_ne (tgt := 160) hx hb d_Mo_whole_119 (by decide) (fun c_315 => ?_) (fun c_315 => ?_)
        · have k_316 : 0 < n_37 := Nat.pos_of_ne_zero (fun q => c_315 (by rw [q]; decide))
          refine lv_aload_n hx hb d_Mo_whole_160 rfl (lv_at hl 3 rfl) ?_
          refine lv_iload_n hx hb d_Mo_whole_161 rfl (lv_at hl 4 rfl) ?_
          refine sm_vM hI (va_runV (As := [.int (nI j1)]) (rest := []) ⟨hx, hb, hml, hown, hts⟩ (c_Mo_shut l D ca ad L _ _ _ hM (j1) (by omega) u_42) (kv_Mo_shut hts rfl rfl (hts _ tw_1513) ⟨Nat.le_of_ble_eq_true rfl, Nat.le_of_ble_eq_true rfl⟩) (pv_Mo hI hE hM) rfl rfl hl.1 rfl (lv_room (Nat.le_of_ble_eq_true rfl)) d_Mo_whole_162 ⟨Nat.le_of_ble_eq_true rfl, Nat.le_of_ble_eq_true rfl⟩) (fun H locs f σ_318 hI hM hF_319 p_317 => ?_)
          have hF := mq_fr_tr hF hF_319 (by decide)
          have o_320 : σ_318.1 56 = nI z1 := mq_fi hF_319 (by decide) o_41
          obtain ⟨n_321, h_322, o_323⟩ := mq_ri (n := 0) hF_319 (by decide) o_45
          have u_324 := BIe_fr hF_319 (by decide) u_43
          have u_325 := BIa_fr hF_319 (by decide) u_44
          obtain ⟨o_326, o_327, u_328, -⟩ := p_317
          exact sm_vret hx hb hr hlk hI ⟨σ_318, rfl, hM, hF, ⟨⟨z1, by omega, by omega, by omega, o_320⟩, (Eq.trans o_327 (congrArg nI (show ((0) : Nat) = 0 by omega))), u_328, u_325, trivial⟩⟩ d_Mo_whole_165
        · have k_330 : n_37 = 0 := nz_eq c_315 (by omega)
          refine lv_iload_n hx hb d_Mo_whole_122 rfl (lv_at hl 2 rfl) ?_
          refine lv_if_ne (tgt := 160) hx hb d_Mo_whole_123 (by decide) (fun c_331 => ?_) (fun c_331 => ?_)
          · have k_332 : 0 < (z2 - 6) := Nat.pos_of_ne_zero (fun q => c_331 (by rw [q]; decide))
            refine lv_aload_n hx hb d_Mo_whole_160 rfl (lv_at hl 3 rfl) ?_
            refine lv_iload_n hx hb d_Mo_whole_161 rfl (lv_at hl 4 rfl) ?_
            refine sm_vM hI (va_runV (As := [.int (nI j1)]) (rest := []) ⟨hx, hb, hml, hown, hts⟩ (c_Mo_shut l D ca ad L _ _ _ hM (j1) (by omega) u_42) (kv_Mo_shut hts rfl rfl (hts _ tw_1513) ⟨Nat.le_of_ble_eq_true rfl, Nat.le_of_ble_eq_true rfl⟩) (pv_Mo hI hE hM) rfl rfl hl.1 rfl (lv_room (Nat.le_of_ble_eq_true rfl)) d_Mo_whole_162 ⟨Nat.le_of_ble_eq_true rfl, Nat.le_of_ble_eq_true rfl⟩) (fun H locs f σ_334 hI hM hF_335 p_333 => ?_)
            have hF := mq_fr_tr hF hF_335 (by decide)
            have o_336 : σ_334.1 56 = nI z1 := mq_fi hF_335 (by decide) o_41
            obtain ⟨n_337, h_338, o_339⟩ := mq_ri (n := 0) hF_335 (by decide) o_45
            have u_340 := BIe_fr hF_335 (by decide) u_43
            have u_341 := BIa_fr hF_335 (by decide) u_44
            obtain ⟨o_342, o_343, u_344, -⟩ := p_333
            exact sm_vret hx hb hr hlk hI ⟨σ_334, rfl, hM, hF, ⟨⟨z1, by omega, by omega, by omega, o_336⟩, (Eq.trans o_343 (congrArg nI (show ((0) : Nat) = 0 by omega))), u_344, u_341, trivial⟩⟩ d_Mo_whole_165
          · have k_346 : (z2 - 6) = 0 := nz_eq c_331 (by omega)
            refine lv_iload_n hx hb d_Mo_whole_126 rfl (lv_at hl 1 rfl) ?_
            refine lv_bipush (v := 7) hx hb d_Mo_whole_127 (by decide) ?_
            refine lv_icmp_eq (tgt := 151) hx hb d_Mo_whole_129 (by decide) (fun c_347 => ?_) (fun c_347 => ?_)
            · have k_348 : n_19 = 7 := (nI_eq (a := n_19) (b := 7) (by omega) (by omega)).mp c_347
              refine lv_aload_n hx hb d_Mo_whole_151 rfl (lv_at hl 3 rfl) ?_
              refine lv_iload_n hx hb d_Mo_whole_152 rfl (lv_at hl 4 rfl) ?_
              refine lv_iload_n hx hb d_Mo_whole_153 rfl (lv_at hl 1 rfl) ?_
              refine sm_vM hI (va_runV (As := [.int (nI j1), .int (nI n_19)]) (rest := []) ⟨hx, hb, hml, hown, hts⟩ (c_Mo_control l D ca ad L _ _ _ hM (j1) (by omega) (nI n_19) u_42) (kv_Mo_control hts rfl rfl (hts _ tw_1689) ⟨Nat.le_of_ble_eq_true rfl, Nat.le_of_ble_eq_true rfl⟩) (pv_Mo hI hE hM) rfl rfl hl.1 rfl (lv_room (Nat.le_of_ble_eq_true rfl)) d_Mo_whole_154 ⟨Nat.le_of_ble_eq_true rfl, Nat.le_of_ble_eq_true rfl⟩) (fun H locs f σ_350 hI hM hF_351 p_349 => ?_)
              have hF := mq_fr_tr hF hF_351 (by decide)
              have o_352 : σ_350.1 56 = nI z1 := mq_fi hF_351 (by decide) o_41
              obtain ⟨n_353, h_354, o_355⟩ := mq_ri (n := 0) hF_351 (by decide) o_45
              have u_356 := BIe_fr hF_351 (by decide) u_43
              have u_357 := BIa_fr hF_351 (by decide) u_44
              obtain ⟨u_358, -⟩ := p_349
              refine lv_goto (tgt := 165) hx hb d_Mo_whole_157 (by decide) ?_
              exact sm_vret hx hb hr hlk hI ⟨σ_350, rfl, hM, hF, ⟨⟨z1, by omega, by omega, by omega, o_352⟩, (Eq.trans o_355 (congrArg nI (show (n_353 : Nat) = 0 by omega))), u_358, u_357, trivial⟩⟩ d_Mo_whole_165
            · have k_359 : ¬ n_19 = 7 := (fun q => c_347 ((nI_eq (a := n_19) (b := 7) (by omega) (by omega)).mpr q))
              refine lv_iload_n hx hb d_Mo_whole_132 rfl (lv_at hl 1 rfl) ?_
              refine lv_bipush (v := 19) hx hb d_Mo_whole_133 (by decide) ?_
              refine lv_icmp_eq (tgt := 151) hx hb d_Mo_whole_135 (by decide) (fun c_360 => ?_) (fun c_360 => ?_)
              · have k_361 : n_19 = 19 := (nI_eq (a := n_19) (b := 19) (by omega) (by omega)).mp c_360
                refine lv_aload_n hx hb d_Mo_whole_151 rfl (lv_at hl 3 rfl) ?_
                refine lv_iload_n hx hb d_Mo_whole_152 rfl (lv_at hl 4 rfl) ?_
                refine lv_iload_n hx hb d_Mo_whole_153 rfl (lv_at hl 1 rfl) ?_
                refine sm_vM hI (va_runV (As := [.int (nI j1), .int (nI n_19)]) (rest := []) ⟨hx, hb, hml, hown, hts⟩ (c_Mo_control l D ca ad L _ _ _ hM (j1) (by omega) (nI n_19) u_42) (kv_Mo_control hts rfl rfl (hts _ tw_1689) ⟨Nat.le_of_ble_eq_true rfl, Nat.le_of_ble_eq_true rfl⟩) (pv_Mo hI hE hM) rfl rfl hl.1 rfl (lv_room (Nat.le_of_ble_eq_true rfl)) d_Mo_whole_154 ⟨Nat.le_of_ble_eq_true rfl, Nat.le_of_ble_eq_true rfl⟩) (fun H locs f σ_363 hI hM hF_364 p_362 => ?_)
                have hF := mq_fr_tr hF hF_364 (by decide)
                have o_365 : σ_363.1 56 = nI z1 := mq_fi hF_364 (by decide) o_41
                obtain ⟨n_366, h_367, o_368⟩ := mq_ri (n := 0) hF_364 (by decide) o_45
                have u_369 := BIe_fr hF_364 (by decide) u_43
                have u_370 := BIa_fr hF_364 (by decide) u_44
                obtain ⟨u_371, -⟩ := p_362
                refine lv_goto (tgt := 165) hx hb d_Mo_whole_157 (by decide) ?_
                exact sm_vret hx hb hr hlk hI ⟨σ_363, rfl, hM, hF, ⟨⟨z1, by omega, by omega, by omega, o_365⟩, (Eq.trans o_368 (congrArg nI (show (n_366 : Nat) = 0 by omega))), u_371, u_370, trivial⟩⟩ d_Mo_whole_165
              · have k_372 : ¬ n_19 = 19 := (fun q => c_360 ((nI_eq (a := n_19) (b := 19) (by omega) (by omega)).mpr q))
                refine lv_iload_n hx hb d_Mo_whole_138 rfl (lv_at hl 1 rfl) ?_
                refine lv_bipush (v := 67) hx hb d_Mo_whole_139 (by decide) ?_
                refine lv_icmp_eq (tgt := 151) hx hb d_Mo_whole_141 (by decide) (fun c_373 => ?_) (fun c_373 => ?_)
                · have k_374 : n_19 = 67 := (nI_eq (a := n_19) (b := 67) (by omega) (by omega)).mp c_373
                  refine lv_aload_n hx hb d_Mo_whole_151 rfl (lv_at hl 3 rfl) ?_
                  refine lv_iload_n hx hb d_Mo_whole_152 rfl (lv_at hl 4 rfl) ?_
                  refine lv_iload_n hx hb d_Mo_whole_153 rfl (lv_at hl 1 rfl) ?_
                  refine sm_vM hI (va_runV (As := [.int (nI j1), .int (nI n_19)]) (rest := []) ⟨hx, hb, hml, hown, hts⟩ (c_Mo_control l D ca ad L _ _ _ hM (j1) (by omega) (nI n_19) u_42) (kv_Mo_control hts rfl rfl (hts _ tw_1689) ⟨Nat.le_of_ble_eq_true rfl, Nat.le_of_ble_eq_true rfl⟩) (pv_Mo hI hE hM) rfl rfl hl.1 rfl (lv_room (Nat.le_of_ble_eq_true rfl)) d_Mo_whole_154 ⟨Nat.le_of_ble_eq_true rfl, Nat.le_of_ble_eq_true rfl⟩) (fun H locs f σ_376 hI hM hF_377 p_375 => ?_)
                  have hF := mq_fr_tr hF hF_377 (by decide)
                  have o_378 : σ_376.1 56 = nI z1 := mq_fi hF_377 (by decide) o_41
                  obtain ⟨n_379, h_380, o_381⟩ := mq_ri (n := 0) hF_377 (by decide) o_45
                  have u_382 := BIe_fr hF_377 (by decide) u_43
                  have u_383 := BIa_fr hF_377 (by decide) u_44
                  obtain ⟨u_384, -⟩ := p_375
                  refine lv_goto (tgt := 165) hx hb d_Mo_whole_157 (by decide) ?_
                  exact sm_vret hx hb hr hlk hI ⟨σ_376, rfl, hM, hF, ⟨⟨z1, by omega, by omega, by omega, o_378⟩, (Eq.trans o_381 (congrArg nI (show (n_379 : Nat) = 0 by omega))), u_384, u_383, trivial⟩⟩ d_Mo_whole_165
                · have k_385 : ¬ n_19 = 67 := (fun q => c_373 ((nI_eq (a := n_19) (b := 67) (by omega) (by omega)).mpr q))
                  refine lv_iload_n hx hb d_Mo_whole_144 rfl (lv_at hl 1 rfl) ?_
                  refine lv_sipush (v := 131) hx hb d_Mo_whole_145 (by decide) ?_
                  refine lv_icmp_ne (tgt := 160) hx hb d_Mo_whole_148 (by decide) (fun c_386 => ?_) (fun c_386 => ?_)
                  · have k_387 : ¬ n_19 = 131 := (fun q => c_386 ((nI_eq (a := n_19) (b := 131) (by omega) (by omega)).mpr q))
                    refine lv_aload_n hx hb d_Mo_whole_160 rfl (lv_at hl 3 rfl) ?_
                    refine lv_iload_n hx hb d_Mo_whole_161 rfl (lv_at hl 4 rfl) ?_
                    refine sm_vM hI (va_runV (As := [.int (nI j1)]) (rest := []) ⟨hx, hb, hml, hown, hts⟩ (c_Mo_shut l D ca ad L _ _ _ hM (j1) (by omega) u_42) (kv_Mo_shut hts rfl rfl (hts _ tw_1513) ⟨Nat.le_of_ble_eq_true rfl, Nat.le_of_ble_eq_true rfl⟩) (pv_Mo hI hE hM) rfl rfl hl.1 rfl (lv_room (Nat.le_of_ble_eq_true rfl)) d_Mo_whole_162 ⟨Nat.le_of_ble_eq_true rfl, Nat.le_of_ble_eq_true rfl⟩) (fun H locs f σ_389 hI hM hF_390 p_388 => ?_)
                    have hF := mq_fr_tr hF hF_390 (by decide)
                    have o_391 : σ_389.1 56 = nI z1 := mq_fi hF_390 (by decide) o_41
                    obtain ⟨n_392, h_393, o_394⟩ := mq_ri (n := 0) hF_390 (by decide) o_45
                    have u_395 := BIe_fr hF_390 (by decide) u_43
                    have u_396 := BIa_fr hF_390 (by decide) u_44
                    obtain ⟨o_397, o_398, u_399, -⟩ := p_388
                    exact sm_vret hx hb hr hlk hI ⟨σ_389, rfl, hM, hF, ⟨⟨z1, by omega, by omega, by omega, o_391⟩, (Eq.trans o_398 (congrArg nI (show ((0) : Nat) = 0 by omega))), u_399, u_396, trivial⟩⟩ d_Mo_whole_165
                  · have k_400 : n_19 = 131 := (nI_eq (a := n_19) (b := 131) (by omega) (by omega)).mp c_386
                    refine lv_aload_n hx hb d_Mo_whole_151 rfl (lv_at hl 3 rfl) ?_
                    refine lv_iload_n hx hb d_Mo_whole_152 rfl (lv_at hl 4 rfl) ?_
                    refine lv_iload_n hx hb d_Mo_whole_153 rfl (lv_at hl 1 rfl) ?_
                    refine sm_vM hI (va_runV (As := [.int (nI j1), .int (nI n_19)]) (rest := []) ⟨hx, hb, hml, hown, hts⟩ (c_Mo_control l D ca ad L _ _ _ hM (j1) (by omega) (nI n_19) u_42) (kv_Mo_control hts rfl rfl (hts _ tw_1689) ⟨Nat.le_of_ble_eq_true rfl, Nat.le_of_ble_eq_true rfl⟩) (pv_Mo hI hE hM) rfl rfl hl.1 rfl (lv_room (Nat.le_of_ble_eq_true rfl)) d_Mo_whole_154 ⟨Nat.le_of_ble_eq_true rfl, Nat.le_of_ble_eq_true rfl⟩) (fun H locs f σ_402 hI hM hF_403 p_401 => ?_)
                    have hF := mq_fr_tr hF hF_403 (by decide)
                    have o_404 : σ_402.1 56 = nI z1 := mq_fi hF_403 (by decide) o_41
                    obtain ⟨n_405, h_406, o_407⟩ := mq_ri (n := 0) hF_403 (by decide) o_45
                    have u_408 := BIe_fr hF_403 (by decide) u_43
                    have u_409 := BIa_fr hF_403 (by decide) u_44
                    obtain ⟨u_410, -⟩ := p_401
                    refine lv_goto (tgt := 165) hx hb d_Mo_whole_157 (by decide) ?_
                    exact sm_vret hx hb hr hlk hI ⟨σ_402, rfl, hM, hF, ⟨⟨z1, by omega, by omega, by omega, o_404⟩, (Eq.trans o_407 (congrArg nI (show (n_405 : Nat) = 0 by omega))), u_410, u_409, trivial⟩⟩ d_Mo_whole_165
      · have k_411 : n_19 = 1 := (nI_eq (a := n_19) (b := 1) (by omega) (by omega)).mp c_313
        refine lv_iload hx hb d_Mo_whole_86 (lv_at hl 0 rfl) ?_
        refine lv_iconst (v := 1) hx hb d_Mo_whole_88 (by decide) ?_
        refine lv_iand hx hb d_Mo_whole_89 ?_
        refine lv_topi (fun x_412 e_413 => ?_)
        refine lv_if_ne (tgt := 117) hx hb d_Mo_whole_90 (by decide) (fun c_414 => ?_) (fun c_414 => ?_)
        · refine lv_iload hx hb d_Mo_whole_117 (lv_at hl 0 rfl) ?_
          refine lv_if_ne (tgt := 160) hx hb d_Mo_whole_119 (by decide) (fun c_415 => ?_) (fun c_415 => ?_)
          · have k_416 : 0 < n_37 := Nat.pos_of_ne_zero (fun q => c_415 (by rw [q]; decide))
            refine lv_aload_n hx hb d_Mo_whole_160 rfl (lv_at hl 3 rfl) ?_
            refine lv_iload_n hx hb d_Mo_whole_161 rfl (lv_at hl 4 rfl) ?_
            refine sm_vM hI (va_runV (As := [.int (nI j1)]) (rest := []) ⟨hx, hb, hml, hown, hts⟩ (c_Mo_shut l D ca ad L _ _ _ hM (j1) (by omega) u_42) (kv_Mo_shut hts rfl rfl (hts _ tw_1513) ⟨Nat.le_of_ble_eq_true rfl, Nat.le_of_ble_eq_true rfl⟩) (pv_Mo hI hE hM) rfl rfl hl.1 rfl (lv_room (Nat.le_of_ble_eq_true rfl)) d_Mo_whole_162 ⟨Nat.le_of_ble_eq_true rfl, Nat.le_of_ble_eq_true rfl⟩) (fun H locs f σ_418 hI hM hF_419 p_417 => ?_)
            have hF := mq_fr_tr hF hF_419 (by decide)
            have o_420 : σ_418.1 56 = nI z1 := mq_fi hF_419 (by decide) o_41
            obtain ⟨n_421, h_422, o_423⟩ := mq_ri (n := 0) hF_419 (by decide) o_45
            have u_424 := BIe_fr hF_419 (by decide) u_43
            have u_425 := BIa_fr hF_419 (by decide) u_44
            obtain ⟨o_426, o_427, u_428, -⟩ := p_417
            exact sm_vret hx hb hr hlk hI ⟨σ_418, rfl, hM, hF, ⟨⟨z1, by omega, by omega, by omega, o_420⟩, (Eq.trans o_427 (congrArg nI (show ((0) : Nat) = 0 by omega))), u_428, u_425, trivial⟩⟩ d_Mo_whole_165
          · have k_430 : n_37 = 0 := nz_eq c_415 (by omega)
            refine lv_iload_n hx hb d_Mo_whole_122 rfl (lv_at hl 2 rfl) ?_
            refine lv_if_ne (tgt := 160) hx hb d_Mo_whole_123 (by decide) (fun c_431 => ?_) (fun c_431 => ?_)
            · have k_432 : 0 < (z2 - 6) := Nat.pos_of_ne_zero (fun q => c_431 (by rw [q]; decide))
              refine lv_aload_n hx hb d_Mo_whole_160 rfl (lv_at hl 3 rfl) ?_
              refine lv_iload_n hx hb d_Mo_whole_161 rfl (lv_at hl 4 rfl) ?_
              refine sm_vM hI (va_runV (As := [.int (nI j1)]) (rest := []) ⟨hx, hb, hml, hown, hts⟩ (c_Mo_shut l D ca ad L _ _ _ hM (j1) (by omega) u_42) (kv_Mo_shut hts rfl rfl (hts _ tw_1513) ⟨Nat.le_of_ble_eq_true rfl, Nat.le_of_ble_eq_true rfl⟩) (pv_Mo hI hE hM) rfl rfl hl.1 rfl (lv_room (Nat.le_of_ble_eq_true rfl)) d_Mo_whole_162 ⟨Nat.le_of_ble_eq_true rfl, Nat.le_of_ble_eq_true rfl⟩) (fun H locs f σ_434 hI hM hF_435 p_433 => ?_)
              have hF := mq_fr_tr hF hF_435 (by decide)
              have o_436 : σ_434.1 56 = nI z1 := mq_fi hF_435 (by decide) o_41
              obtain ⟨n_437, h_438, o_439⟩ := mq_ri (n := 0) hF_435 (by decide) o_45
              have u_440 := BIe_fr hF_435 (by decide) u_43
              have u_441 := BIa_fr hF_435 (by decide) u_44
              obtain ⟨o_442, o_443, u_444, -⟩ := p_433
              exact sm_vret hx hb hr hlk hI ⟨σ_434, rfl, hM, hF, ⟨⟨z1, by omega, by omega, by omega, o_436⟩, (Eq.trans o_443 (congrArg nI (show ((0) : Nat) = 0 by omega))), u_444, u_441, trivial⟩⟩ d_Mo_whole_165
            · have k_446 : (z2 - 6) = 0 := nz_eq c_431 (by omega)
              refine lv_iload_n hx hb d_Mo_whole_126 rfl (lv_at hl 1 rfl) ?_
              refine lv_bipush (v := 7) hx hb d_Mo_whole_127 (by decide) ?_
              refine lv_icmp_eq (tgt := 151) hx hb d_Mo_whole_129 (by decide) (fun c_447 => ?_) (fun c_447 => ?_)
              · have k_448 : n_19 = 7 := (nI_eq (a := n_19) (b := 7) (by omega) (by omega)).mp c_447
                refine lv_aload_n hx hb d_Mo_whole_151 rfl (lv_at hl 3 rfl) ?_
                refine lv_iload_n hx hb d_Mo_whole_152 rfl (lv_at hl 4 rfl) ?_
                refine lv_iload_n hx hb d_Mo_whole_153 rfl (lv_at hl 1 rfl) ?_
                refine sm_vM hI (va_runV (As := [.int (nI j1), .int (nI n_19)]) (rest := []) ⟨hx, hb, hml, hown, hts⟩ (c_Mo_control l D ca ad L _ _ _ hM (j1) (by omega) (nI n_19) u_42) (kv_Mo_control hts rfl rfl (hts _ tw_1689) ⟨Nat.le_of_ble_eq_true rfl, Nat.le_of_ble_eq_true rfl⟩) (pv_Mo hI hE hM) rfl rfl hl.1 rfl (lv_room (Nat.le_of_ble_eq_true rfl)) d_Mo_whole_154 ⟨Nat.le_of_ble_eq_true rfl, Nat.le_of_ble_eq_true rfl⟩) (fun H locs f σ_450 hI hM hF_451 p_449 => ?_)
                have hF := mq_fr_tr hF hF_451 (by decide)
                have o_452 : σ_450.1 56 = nI z1 := mq_fi hF_451 (by decide) o_41
                obtain ⟨n_453, h_454, o_455⟩ := mq_ri (n := 0) hF_451 (by decide) o_45
                have u_456 := BIe_fr hF_451 (by decide) u_43
                have u_457 := BIa_fr hF_451 (by decide) u_44
                obtain ⟨u_458, -⟩ := p_449
                refine lv_goto (tgt := 165) hx hb d_Mo_whole_157 (by decide) ?_
                exact sm_vret hx hb hr hlk hI ⟨σ_450, rfl, hM, hF, ⟨⟨z1, by omega, by omega, by omega, o_452⟩, (Eq.trans o_455 (congrArg nI (show (n_453 : Nat) = 0 by omega))), u_458, u_457, trivial⟩⟩ d_Mo_whole_165
              · have k_459 : ¬ n_19 = 7 := (fun q => c_447 ((nI_eq (a := n_19) (b := 7) (by omega) (by omega)).mpr q))
                refine lv_iload_n hx hb d_Mo_whole_132 rfl (lv_at hl 1 rfl) ?_
                refine lv_bipush (v := 19) hx hb d_Mo_whole_133 (by decide) ?_
                refine lv_icmp_eq (tgt := 151) hx hb d_Mo_whole_135 (by decide) (fun c_460 => ?_) (fun c_460 => ?_)
                · have k_461 : n_19 = 19 := (nI_eq (a := n_19) (b := 19) (by omega) (by omega)).mp c_460
                  refine lv_aload_n hx hb d_Mo_whole_151 rfl (lv_at hl 3 rfl) ?_
                  refine lv_iload_n hx hb d_Mo_whole_152 rfl (lv_at hl 4 rfl) ?_
                  refine lv_iload_n hx hb d_Mo_whole_153 rfl (lv_at hl 1 rfl) ?_
                  refine sm_vM hI (va_runV (As := [.int (nI j1), .int (nI n_19)]) (rest := []) ⟨hx, hb, hml, hown, hts⟩ (c_Mo_control l D ca ad L _ _ _ hM (j1) (by omega) (nI n_19) u_42) (kv_Mo_control hts rfl rfl (hts _ tw_1689) ⟨Nat.le_of_ble_eq_true rfl, Nat.le_of_ble_eq_true rfl⟩) (pv_Mo hI hE hM) rfl rfl hl.1 rfl (lv_room (Nat.le_of_ble_eq_true rfl)) d_Mo_whole_154 ⟨Nat.le_of_ble_eq_true rfl, Nat.le_of_ble_eq_true rfl⟩) (fun H locs f σ_463 hI hM hF_464 p_462 => ?_)
                  have hF := mq_fr_tr hF hF_464 (by decide)
                  have o_465 : σ_463.1 56 = nI z1 := mq_fi hF_464 (by decide) o_41
                  obtain ⟨n_466, h_467, o_468⟩ := mq_ri (n := 0) hF_464 (by decide) o_45
                  have u_469 := BIe_fr hF_464 (by decide) u_43
                  have u_470 := BIa_fr hF_464 (by decide) u_44
                  obtain ⟨u_471, -⟩ := p_462
                  refine lv_goto (tgt := 165) hx hb d_Mo_whole_157 (by decide) ?_
                  exact sm_vret hx hb hr hlk hI ⟨σ_463, rfl, hM, hF, ⟨⟨z1, by omega, by omega, by omega, o_465⟩, (Eq.trans o_468 (congrArg nI (show (n_466 : Nat) = 0 by omega))), u_471, u_470, trivial⟩⟩ d_Mo_whole_165
                · have k_472 : ¬ n_19 = 19 := (fun q => c_460 ((nI_eq (a := n_19) (b := 19) (by omega) (by omega)).mpr q))
                  refine lv_iload_n hx hb d_Mo_whole_138 rfl (lv_at hl 1 rfl) ?_
                  refine lv_bipush (v := 67) hx hb d_Mo_whole_139 (by decide) ?_
                  refine lv_icmp_eq (tgt := 151) hx hb d_Mo_whole_141 (by decide) (fun c_473 => ?_) (fun c_473 => ?_)
                  · have k_474 : n_19 = 67 := (nI_eq (a := n_19) (b := 67) (by omega) (by omega)).mp c_473
                    refine lv_aload_n hx hb d_Mo_whole_151 rfl (lv_at hl 3 rfl) ?_
                    refine lv_iload_n hx hb d_Mo_whole_152 rfl (lv_at hl 4 rfl) ?_
                    refine lv_iload_n hx hb d_Mo_whole_153 rfl (lv_at hl 1 rfl) ?_
                    refine sm_vM hI (va_runV (As := [.int (nI j1), .int (nI n_19)]) (rest := []) ⟨hx, hb, hml, hown, hts⟩ (c_Mo_control l D ca ad L _ _ _ hM (j1) (by omega) (nI n_19) u_42) (kv_Mo_control hts rfl rfl (hts _ tw_1689) ⟨Nat.le_of_ble_eq_true rfl, Nat.le_of_ble_eq_true rfl⟩) (pv_Mo hI hE hM) rfl rfl hl.1 rfl (lv_room (Nat.le_of_ble_eq_true rfl)) d_Mo_whole_154 ⟨Nat.le_of_ble_eq_true rfl, Nat.le_of_ble_eq_true rfl⟩) (fun H locs f σ_476 hI hM hF_477 p_475 => ?_)
                    have hF := mq_fr_tr hF hF_477 (by decide)
                    have o_478 : σ_476.1 56 = nI z1 := mq_fi hF_477 (by decide) o_41
                    obtain ⟨n_479, h_480, o_481⟩ := mq_ri (n := 0) hF_477 (by decide) o_45
                    have u_482 := BIe_fr hF_477 (by decide) u_43
                    have u_483 := BIa_fr hF_477 (by decide) u_44
                    obtain ⟨u_484, -⟩ := p_475
                    refine lv_goto (tgt := 165) hx hb d_Mo_whole_157 (by decide) ?_
                    exact sm_vret hx hb hr hlk hI ⟨σ_476, rfl, hM, hF, ⟨⟨z1, by omega, by omega, by omega, o_478⟩, (Eq.trans o_481 (congrArg nI (show (n_479 : Nat) = 0 by omega))), u_484, u_483, trivial⟩⟩ d_Mo_whole_165
                  · have k_485 : ¬ n_19 = 67 := (fun q => c_473 ((nI_eq (a := n_19) (b := 67) (by omega) (by omega)).mpr q))
                    refine lv_iload_n hx hb d_Mo_whole_144 rfl (lv_at hl 1 rfl) ?_
                    refine lv_sipush (v := 131) hx hb d_Mo_whole_145 (by decide) ?_
                    refine lv_icmp_ne (tgt := 160) hx hb d_Mo_whole_148 (by decide) (fun c_486 => ?_) (fun c_486 => ?_)
                    · have k_487 : ¬ n_19 = 131 := (fun q => c_486 ((nI_eq (a := n_19) (b := 131) (by omega) (by omega)).mpr q))
                      refine lv_aload_n hx hb d_Mo_whole_160 rfl (lv_at hl 3 rfl) ?_
                      refine lv_iload_n hx hb d_Mo_whole_161 rfl (lv_at hl 4 rfl) ?_
                      refine sm_vM hI (va_runV (As := [.int (nI j1)]) (rest := []) ⟨hx, hb, hml, hown, hts⟩ (c_Mo_shut l D ca ad L _ _ _ hM (j1) (by omega) u_42) (kv_Mo_shut hts rfl rfl (hts _ tw_1513) ⟨Nat.le_of_ble_eq_true rfl, Nat.le_of_ble_eq_true rfl⟩) (pv_Mo hI hE hM) rfl rfl hl.1 rfl (lv_room (Nat.le_of_ble_eq_true rfl)) d_Mo_whole_162 ⟨Nat.le_of_ble_eq_true rfl, Nat.le_of_ble_eq_true rfl⟩) (fun H locs f σ_489 hI hM hF_490 p_488 => ?_)
                      have hF := mq_fr_tr hF hF_490 (by decide)
                      have o_491 : σ_489.1 56 = nI z1 := mq_fi hF_490 (by decide) o_41
                      obtain ⟨n_492, h_493, o_494⟩ := mq_ri (n := 0) hF_490 (by decide) o_45
                      have u_495 := BIe_fr hF_490 (by decide) u_43
                      have u_496 := BIa_fr hF_490 (by decide) u_44
                      obtain ⟨o_497, o_498, u_499, -⟩ := p_488
                      exact sm_vret hx hb hr hlk hI ⟨σ_489, rfl, hM, hF, ⟨⟨z1, by omega, by omega, by omega, o_491⟩, (Eq.trans o_498 (congrArg nI (show ((0) : Nat) = 0 by omega))), u_499, u_496, trivial⟩⟩ d_Mo_whole_165
                    · have k_500 : n_19 = 131 := (nI_eq (a := n_19) (b := 131) (by omega) (by omega)).mp c_486
                      refine lv_aload_n hx hb d_Mo_whole_151 rfl (lv_at hl 3 rfl) ?_
                      refine lv_iload_n hx hb d_Mo_whole_152 rfl (lv_at hl 4 rfl) ?_
                      refine lv_iload_n hx hb d_Mo_whole_153 rfl (lv_at hl 1 rfl) ?_
                      refine sm_vM hI (va_runV (As := [.int (nI j1), .int (nI n_19)]) (rest := []) ⟨hx, hb, hml, hown, hts⟩ (c_Mo_control l D ca ad L _ _ _ hM (j1) (by omega) (nI n_19) u_42) (kv_Mo_control hts rfl rfl (hts _ tw_1689) ⟨Nat.le_of_ble_eq_true rfl, Nat.le_of_ble_eq_true rfl⟩) (pv_Mo hI hE hM) rfl rfl hl.1 rfl (lv_room (Nat.le_of_ble_eq_true rfl)) d_Mo_whole_154 ⟨Nat.le_of_ble_eq_true rfl, Nat.le_of_ble_eq_true rfl⟩) (fun H locs f σ_502 hI hM hF_503 p_501 => ?_)
                      have hF := mq_fr_tr hF hF_503 (by decide)
                      have o_504 : σ_502.1 56 = nI z1 := mq_fi hF_503 (by decide) o_41
                      obtain ⟨n_505, h_506, o_507⟩ := mq_ri (n := 0) hF_503 (by decide) o_45
                      have u_508 := BIe_fr hF_503 (by decide) u_43
                      have u_509 := BIa_fr hF_503 (by decide) u_44
                      obtain ⟨u_510, -⟩ := p_501
                      refine lv_goto (tgt := 165) hx hb d_Mo_whole_157 (by decide) ?_
                      exact sm_vret hx hb hr hlk hI ⟨σ_502, rfl, hM, hF, ⟨⟨z1, by omega, by omega, by omega, o_504⟩, (Eq.trans o_507 (congrArg nI (show (n_505 : Nat) = 0 by omega))), u_510, u_509, trivial⟩⟩ d_Mo_whole_165
        · refine lv_iload_n hx hb d_Mo_whole_93 rfl (lv_at hl 2 rfl) ?_
          refine lv_if_ne (tgt := 117) hx hb d_Mo_whole_94 (by decide) (fun c_511 => ?_) (fun c_511 => ?_)
          · have k_512 : 0 < (z2 - 6) := Nat.pos_of_ne_zero (fun q => c_511 (by rw [q]; decide))
            refine lv_iload hx hb d_Mo_whole_117 (lv_at hl 0 rfl) ?_
            refine lv_if_ne (tgt := 160) hx hb d_Mo_whole_119 (by decide) (fun c_513 => ?_) (fun c_513 => ?_)
            · have k_514 : 0 < n_37 := Nat.pos_of_ne_zero (fun q => c_513 (by rw [q]; decide))
              refine lv_aload_n hx hb d_Mo_whole_160 rfl (lv_at hl 3 rfl) ?_
              refine lv_iload_n hx hb d_Mo_whole_161 rfl (lv_at hl 4 rfl) ?_
              refine sm_vM hI (va_runV (As := [.int (nI j1)]) (rest := []) ⟨hx, hb, hml, hown, hts⟩ (c_Mo_shut l D ca ad L _ _ _ hM (j1) (by omega) u_42) (kv_Mo_shut hts rfl rfl (hts _ tw_1513) ⟨Nat.le_of_ble_eq_true rfl, Nat.le_of_ble_eq_true rfl⟩) (pv_Mo hI hE hM) rfl rfl hl.1 rfl (lv_room (Nat.le_of_ble_eq_true rfl)) d_Mo_whole_162 ⟨Nat.le_of_ble_eq_true rfl, Nat.le_of_ble_eq_true rfl⟩) (fun H locs f σ_516 hI hM hF_517 p_515 => ?_)
              have hF := mq_fr_tr hF hF_517 (by decide)
              have o_518 : σ_516.1 56 = nI z1 := mq_fi hF_517 (by decide) o_41
              obtain ⟨n_519, h_520, o_521⟩ := mq_ri (n := 0) hF_517 (by decide) o_45
              have u_522 := BIe_fr hF_517 (by decide) u_43
              have u_523 := BIa_fr hF_517 (by decide) u_44
              obtain ⟨o_524, o_525, u_526, -⟩ := p_515
              exact sm_vret hx hb hr hlk hI ⟨σ_516, rfl, hM, hF, ⟨⟨z1, by omega, by omega, by omega, o_518⟩, (Eq.trans o_525 (congrArg nI (show ((0) : Nat) = 0 by omega))), u_526, u_523, trivial⟩⟩ d_Mo_whole_165
            · have k_528 : n_37 = 0 := nz_eq c_513 (by omega)
              refine lv_iload_n hx hb d_Mo_whole_122 rfl (lv_at hl 2 rfl) ?_
              refine lv_if_ne (tgt := 160) hx hb d_Mo_whole_123 (by decide) (fun c_529 => ?_) (fun c_529 => ?_)
              · have k_530 : 0 < (z2 - 6) := Nat.pos_of_ne_zero (fun q => c_529 (by rw [q]; decide))
                refine lv_aload_n hx hb d_Mo_whole_160 rfl (lv_at hl 3 rfl) ?_
                refine lv_iload_n hx hb d_Mo_whole_161 rfl (lv_at hl 4 rfl) ?_
                refine sm_vM hI (va_runV (As := [.int (nI j1)]) (rest := []) ⟨hx, hb, hml, hown, hts⟩ (c_Mo_shut l D ca ad L _ _ _ hM (j1) (by omega) u_42) (kv_Mo_shut hts rfl rfl (hts _ tw_1513) ⟨Nat.le_of_ble_eq_true rfl, Nat.le_of_ble_eq_true rfl⟩) (pv_Mo hI hE hM) rfl rfl hl.1 rfl (lv_room (Nat.le_of_ble_eq_true rfl)) d_Mo_whole_162 ⟨Nat.le_of_ble_eq_true rfl, Nat.le_of_ble_eq_true rfl⟩) (fun H locs f σ_532 hI hM hF_533 p_531 => ?_)
                have hF := mq_fr_tr hF hF_533 (by decide)
                have o_534 : σ_532.1 56 = nI z1 := mq_fi hF_533 (by decide) o_41
                obtain ⟨n_535, h_536, o_537⟩ := mq_ri (n := 0) hF_533 (by decide) o_45
                have u_538 := BIe_fr hF_533 (by decide) u_43
                have u_539 := BIa_fr hF_533 (by decide) u_44
                obtain ⟨o_540, o_541, u_542, -⟩ := p_531
                exact sm_vret hx hb hr hlk hI ⟨σ_532, rfl, hM, hF, ⟨⟨z1, by omega, by omega, by omega, o_534⟩, (Eq.trans o_541 (congrArg nI (show ((0) : Nat) = 0 by omega))), u_542, u_539, trivial⟩⟩ d_Mo_whole_165
              · exact absurd c_529 c_511
          · have k_544 : (z2 - 6) = 0 := nz_eq c_511 (by omega)
            refine lv_aload_n hx hb d_Mo_whole_97 rfl (lv_at hl 3 rfl) ?_
            refine lv_iload_n hx hb d_Mo_whole_98 rfl (lv_at hl 4 rfl) ?_
            refine lv_iload hx hb d_Mo_whole_99 (lv_at hl 0 rfl) ?_
            refine lv_iconst (v := 2) hx hb d_Mo_whole_101 (by decide) ?_
            refine lv_idiv hx hb d_Mo_whole_102 (by decide) ?_
            refine lv_topi (fun x_545 e_546 => ?_)
            obtain ⟨n_547, h_548, rfl⟩ : ∃ n : Nat, n ≤ 32767 ∧ x_545 = nI n := dv_2 e_546 (by omega)
            refine sm_iM hI (va_runV (As := [.int (nI j1), .int (nI n_547)]) (rest := []) ⟨hx, hb, hml, hown, hts⟩ (c_Mo_confirmed l D ca ad L _ _ _ hM (j1) (by omega) (n_547) (by omega) u_42) (kv_Mo_confirmed hts rfl rfl (hts _ tw_1685) ⟨Nat.le_of_ble_eq_true rfl, Nat.le_of_ble_eq_true rfl⟩) (pv_Mo hI hE hM) rfl rfl hl.1 rfl (lv_room (Nat.le_of_ble_eq_true rfl)) d_Mo_whole_103 ⟨Nat.le_of_ble_eq_true rfl, Nat.le_of_ble_eq_true rfl⟩) (fun x_552 H locs f σ_550 hI hM hF_551 p_549 => ?_)
            have hF := mq_fr_tr hF hF_551 (by decide)
            have o_553 : σ_550.1 56 = nI z1 := mq_fi hF_551 (by decide) o_41
            obtain ⟨n_554, h_555, o_556⟩ := mq_ri (n := 0) hF_551 (by decide) o_45
            have u_557 := BIe_fr hF_551 (by decide) u_43
            have u_558 := BIa_fr hF_551 (by decide) u_44
            obtain ⟨p_560, u_559, -⟩ := p_549
            refine lv_if_ne (tgt := 165) hx hb d_Mo_whole_106 (by decide) (fun c_561 => ?_) (fun c_561 => ?_)
            · exact sm_vret hx hb hr hlk hI ⟨σ_550, rfl, hM, hF, ⟨⟨z1, by omega, by omega, by omega, o_553⟩, (Eq.trans o_556 (congrArg nI (show (n_554 : Nat) = 0 by omega))), u_559, u_558, trivial⟩⟩ d_Mo_whole_165
            · refine lv_aload_n hx hb d_Mo_whole_109 rfl (lv_at hl 3 rfl) ?_
              refine lv_iload_n hx hb d_Mo_whole_110 rfl (lv_at hl 4 rfl) ?_
              refine sm_vM hI (va_runV (As := [.int (nI j1)]) (rest := []) ⟨hx, hb, hml, hown, hts⟩ (c_Mo_shut l D ca ad L _ _ _ hM (j1) (by omega) u_559) (kv_Mo_shut hts rfl rfl (hts _ tw_1513) ⟨Nat.le_of_ble_eq_true rfl, Nat.le_of_ble_eq_true rfl⟩) (pv_Mo hI hE hM) rfl rfl hl.1 rfl (lv_room (Nat.le_of_ble_eq_true rfl)) d_Mo_whole_111 ⟨Nat.le_of_ble_eq_true rfl, Nat.le_of_ble_eq_true rfl⟩) (fun H locs f σ_563 hI hM hF_564 p_562 => ?_)
              have hF := mq_fr_tr hF hF_564 (by decide)
              have o_565 : σ_563.1 56 = nI z1 := mq_fi hF_564 (by decide) o_553
              obtain ⟨n_566, h_567, o_568⟩ := mq_ri (n := n_554) hF_564 (by decide) o_556
              have u_569 := BIe_fr hF_564 (by decide) u_557
              have u_570 := BIa_fr hF_564 (by decide) u_558
              obtain ⟨o_571, o_572, u_573, -⟩ := p_562
              refine lv_goto (tgt := 165) hx hb d_Mo_whole_114 (by decide) ?_
              exact sm_vret hx hb hr hlk hI ⟨σ_563, rfl, hM, hF, ⟨⟨z1, by omega, by omega, by omega, o_565⟩, (Eq.trans o_572 (congrArg nI (show ((0) : Nat) = 0 by omega))), u_573, u_570, trivial⟩⟩ d_Mo_whole_165
    · refine lv_aload_n hx hb d_Mo_whole_65 rfl (lv_at hl 3 rfl) ?_
      refine lv_iload_n hx hb d_Mo_whole_66 rfl (lv_at hl 4 rfl) ?_
      refine lv_iload_n hx hb d_Mo_whole_67 rfl (lv_at hl 1 rfl) ?_
      refine lv_iconst (v := 2) hx hb d_Mo_whole_68 (by decide) ?_
      refine lv_idiv hx hb d_Mo_whole_69 (by decide) ?_
      refine lv_topi (fun x_574 e_575 => ?_)
      obtain ⟨n_576, h_577, rfl⟩ : ∃ n : Nat, n ≤ 32767 ∧ x_574 = nI n := dv_2 e_575 (by omega)
      refine lv_iload hx hb d_Mo_whole_70 (lv_at hl 0 rfl) ?_
      refine lv_iconst (v := 2) hx hb d_Mo_whole_72 (by decide) ?_
      refine lv_idiv hx hb d_Mo_whole_73 (by decide) ?_
      refine lv_topi (fun x_578 e_579 => ?_)
      obtain ⟨n_580, h_581, rfl⟩ : ∃ n : Nat, n ≤ 32767 ∧ x_578 = nI n := dv_2 e_579 (by omega)
      refine lv_iload_n hx hb d_Mo_whole_74 rfl (lv_at hl 2 rfl) ?_
      refine sm_vM hI (va_runV (As := [.int (nI j1), .int (nI n_576), .int (nI n_580), .int (nI (z2 - 6))]) (rest := []) ⟨hx, hb, hml, hown, hts⟩ (c_Mo_frameI l D ca ad L _ _ _ hM (j1) (by omega) (nI n_576) (n_580) (by omega) ((z2 - 6)) (by omega) (z1) o_41 (by omega) u_42) (kv_Mo_frameI hts rfl rfl (hts _ tw_1681) ⟨Nat.le_of_ble_eq_true rfl, Nat.le_of_ble_eq_true rfl⟩) (pv_Mo hI hE hM) rfl rfl hl.1 rfl (lv_room (Nat.le_of_ble_eq_true rfl)) d_Mo_whole_75 ⟨Nat.le_of_ble_eq_true rfl, Nat.le_of_ble_eq_true rfl⟩) (fun H locs f σ_583 hI hM hF_584 p_582 => ?_)
      have hF := mq_fr_tr hF hF_584 (by decide)
      obtain ⟨n_585, h_586, o_587⟩ := mq_ri (n := 0) hF_584 (by decide) o_45
      have u_588 := BIe_fr hF_584 (by decide) u_43
      have u_589 := BIa_fr hF_584 (by decide) u_44
      obtain ⟨⟨n_591, h_592, h_593, h_594, o_590⟩, u_595, -⟩ := p_582
      refine lv_goto (tgt := 165) hx hb d_Mo_whole_78 (by decide) ?_
      exact sm_vret hx hb hr hlk hI ⟨σ_583, rfl, hM, hF, ⟨⟨n_591, by omega, by omega, by omega, o_590⟩, (Eq.trans o_587 (congrArg nI (show (n_585 : Nat) = 0 by omega))), u_595, u_589, trivial⟩⟩ d_Mo_whole_165
theorem d_Mo_byteOf_0 : decode b_Mo_byteOf 0 = .ok (.aload_n 0, 1) := by decide +kernel
theorem d_Mo_byteOf_1 : decode b_Mo_byteOf 1 = .ok (.getfield 41, 3) := by decide +kernel
theorem d_Mo_byteOf_4 : decode b_Mo_byteOf 4 = .ok (.iload_n 1, 1) := by decide +kernel
theorem d_Mo_byteOf_5 : decode b_Mo_byteOf 5 = .ok (.sipush 270, 3) := by decide +kernel
theorem d_Mo_byteOf_8 : decode b_Mo_byteOf 8 = .ok (.imul, 1) := by decide +kernel
theorem d_Mo_byteOf_9 : decode b_Mo_byteOf 9 = .ok (.aload_n 0, 1) := by decide +kernel
theorem d_Mo_byteOf_10 : decode b_Mo_byteOf 10 = .ok (.getfield 44, 3) := by decide +kernel
theorem d_Mo_byteOf_13 : decode b_Mo_byteOf 13 = .ok (.iload_n 1, 1) := by decide +kernel
theorem d_Mo_byteOf_14 : decode b_Mo_byteOf 14 = .ok (.iaload, 1) := by decide +kernel
theorem d_Mo_byteOf_15 : decode b_Mo_byteOf 15 = .ok (.iadd, 1) := by decide +kernel
theorem d_Mo_byteOf_16 : decode b_Mo_byteOf 16 = .ok (.iload_n 2, 1) := by decide +kernel
theorem d_Mo_byteOf_17 : decode b_Mo_byteOf 17 = .ok (.iastore, 1) := by decide +kernel
theorem d_Mo_byteOf_18 : decode b_Mo_byteOf 18 = .ok (.aload_n 0, 1) := by decide +kernel
theorem d_Mo_byteOf_19 : decode b_Mo_byteOf 19 = .ok (.getfield 44, 3) := by decide +kernel
theorem d_Mo_byteOf_22 : decode b_Mo_byteOf 22 = .ok (.iload_n 1, 1) := by decide +kernel
theorem d_Mo_byteOf_23 : decode b_Mo_byteOf 23 = .ok (.dup2, 1) := by decide +kernel
theorem d_Mo_byteOf_24 : decode b_Mo_byteOf 24 = .ok (.iaload, 1) := by decide +kernel
theorem d_Mo_byteOf_25 : decode b_Mo_byteOf 25 = .ok (.iconst 1, 1) := by decide +kernel
theorem d_Mo_byteOf_26 : decode b_Mo_byteOf 26 = .ok (.iadd, 1) := by decide +kernel
theorem d_Mo_byteOf_27 : decode b_Mo_byteOf 27 = .ok (.iastore, 1) := by decide +kernel
theorem d_Mo_byteOf_28 : decode b_Mo_byteOf 28 = .ok (.aload_n 0, 1) := by decide +kernel
theorem d_Mo_byteOf_29 : decode b_Mo_byteOf 29 = .ok (.getfield 44, 3) := by decide +kernel
theorem d_Mo_byteOf_32 : decode b_Mo_byteOf 32 = .ok (.iload_n 1, 1) := by decide +kernel
theorem d_Mo_byteOf_33 : decode b_Mo_byteOf 33 = .ok (.iaload, 1) := by decide +kernel
theorem d_Mo_byteOf_34 : decode b_Mo_byteOf 34 = .ok (.iconst 1, 1) := by decide +kernel
theorem d_Mo_byteOf_35 : decode b_Mo_byteOf 35 = .ok (.if_icmp .ne 9, 3) := by decide +kernel
theorem d_Mo_byteOf_38 : decode b_Mo_byteOf 38 = .ok (.iload_n 2, 1) := by decide +kernel
theorem d_Mo_byteOf_39 : decode b_Mo_byteOf 39 = .ok (.bipush 104, 2) := by decide +kernel
theorem d_Mo_byteOf_41 : decode b_Mo_byteOf 41 = .ok (.if_icmp .ne 27, 3) := by decide +kernel
theorem d_Mo_byteOf_44 : decode b_Mo_byteOf 44 = .ok (.aload_n 0, 1) := by decide +kernel
theorem d_Mo_byteOf_45 : decode b_Mo_byteOf 45 = .ok (.getfield 44, 3) := by decide +kernel
theorem d_Mo_byteOf_48 : decode b_Mo_byteOf 48 = .ok (.iload_n 1, 1) := by decide +kernel
theorem d_Mo_byteOf_49 : decode b_Mo_byteOf 49 = .ok (.iaload, 1) := by decide +kernel
theorem d_Mo_byteOf_50 : decode b_Mo_byteOf 50 = .ok (.iconst 2, 1) := by decide +kernel
theorem d_Mo_byteOf_51 : decode b_Mo_byteOf 51 = .ok (.if_icmp .ne 21, 3) := by decide +kernel
theorem d_Mo_byteOf_54 : decode b_Mo_byteOf 54 = .ok (.iload_n 2, 1) := by decide +kernel
theorem d_Mo_byteOf_55 : decode b_Mo_byteOf 55 = .ok (.i2l, 1) := by decide +kernel
theorem d_Mo_byteOf_56 : decode b_Mo_byteOf 56 = .ok (.ldc2_w 395, 3) := by decide +kernel
theorem d_Mo_byteOf_59 : decode b_Mo_byteOf 59 = .ok (.ldc2_w 397, 3) := by decide +kernel
theorem d_Mo_byteOf_62 : decode b_Mo_byteOf 62 = .ok (.invokestatic 187, 3) := by decide +kernel
theorem d_Mo_byteOf_65 : decode b_Mo_byteOf 65 = .ok (.ifCond .ne 7, 3) := by decide +kernel
theorem d_Mo_byteOf_68 : decode b_Mo_byteOf 68 = .ok (.iconst 1, 1) := by decide +kernel
theorem d_Mo_byteOf_69 : decode b_Mo_byteOf 69 = .ok (.goto 4, 3) := by decide +kernel
theorem d_Mo_byteOf_72 : decode b_Mo_byteOf 72 = .ok (.iconst 0, 1) := by decide +kernel
theorem d_Mo_byteOf_73 : decode b_Mo_byteOf 73 = .ok (.istore_n 3, 1) := by decide +kernel
theorem d_Mo_byteOf_74 : decode b_Mo_byteOf 74 = .ok (.iload_n 3, 1) := by decide +kernel
theorem d_Mo_byteOf_75 : decode b_Mo_byteOf 75 = .ok (.ifCond .eq 11, 3) := by decide +kernel
theorem d_Mo_byteOf_78 : decode b_Mo_byteOf 78 = .ok (.aload_n 0, 1) := by decide +kernel
theorem d_Mo_byteOf_79 : decode b_Mo_byteOf 79 = .ok (.iload_n 1, 1) := by decide +kernel
theorem d_Mo_byteOf_80 : decode b_Mo_byteOf 80 = .ok (.invokevirtual 276, 3) := by decide +kernel
theorem d_Mo_byteOf_83 : decode b_Mo_byteOf 83 = .ok (.goto 35, 3) := by decide +kernel
theorem d_Mo_byteOf_86 : decode b_Mo_byteOf 86 = .ok (.aload_n 0, 1) := by decide +kernel
theorem d_Mo_byteOf_87 : decode b_Mo_byteOf 87 = .ok (.getfield 44, 3) := by decide +kernel
theorem d_Mo_byteOf_90 : decode b_Mo_byteOf 90 = .ok (.iload_n 1, 1) := by decide +kernel
theorem d_Mo_byteOf_91 : decode b_Mo_byteOf 91 = .ok (.iaload, 1) := by decide +kernel
theorem d_Mo_byteOf_92 : decode b_Mo_byteOf 92 = .ok (.iconst 1, 1) := by decide +kernel
theorem d_Mo_byteOf_93 : decode b_Mo_byteOf 93 = .ok (.if_icmp .le 25, 3) := by decide +kernel
theorem d_Mo_byteOf_96 : decode b_Mo_byteOf 96 = .ok (.aload_n 0, 1) := by decide +kernel
theorem d_Mo_byteOf_97 : decode b_Mo_byteOf 97 = .ok (.getfield 44, 3) := by decide +kernel
theorem d_Mo_byteOf_100 : decode b_Mo_byteOf 100 = .ok (.iload_n 1, 1) := by decide +kernel
theorem d_Mo_byteOf_101 : decode b_Mo_byteOf 101 = .ok (.iaload, 1) := by decide +kernel
theorem d_Mo_byteOf_102 : decode b_Mo_byteOf 102 = .ok (.iconst 2, 1) := by decide +kernel
theorem d_Mo_byteOf_103 : decode b_Mo_byteOf 103 = .ok (.aload_n 0, 1) := by decide +kernel
theorem d_Mo_byteOf_104 : decode b_Mo_byteOf 104 = .ok (.iload_n 1, 1) := by decide +kernel
theorem d_Mo_byteOf_105 : decode b_Mo_byteOf 105 = .ok (.iconst 1, 1) := by decide +kernel
theorem d_Mo_byteOf_106 : decode b_Mo_byteOf 106 = .ok (.invokevirtual 369, 3) := by decide +kernel
theorem d_Mo_byteOf_109 : decode b_Mo_byteOf 109 = .ok (.iadd, 1) := by decide +kernel
theorem d_Mo_byteOf_110 : decode b_Mo_byteOf 110 = .ok (.if_icmp .ne 8, 3) := by decide +kernel
theorem d_Mo_byteOf_113 : decode b_Mo_byteOf 113 = .ok (.aload_n 0, 1) := by decide +kernel
theorem d_Mo_byteOf_114 : decode b_Mo_byteOf 114 = .ok (.iload_n 1, 1) := by decide +kernel
theorem d_Mo_byteOf_115 : decode b_Mo_byteOf 115 = .ok (.invokevirtual 399, 3) := by decide +kernel
theorem d_Mo_byteOf_118 : decode b_Mo_byteOf 118 = .ok (.return_, 1) := by decide +kernel
set_option maxRecDepth 100000 in
set_option maxHeartbeats 4000000 in
theorem c_Mo_byteOf (l : Launch) (D : va_G) (ca : Nat → ClassId) (ad : Nat → Nat) (L : List Nat) (f0 : Nat → va_E) (sz : Nat) (σ0 : mq_S) (hM : mq_B ca ad σ0 L f0) (j1 : Nat) (q1 : j1 ≤ 2) (j2 : Nat) (q2 : j2 ≤ 255) (z1 : Nat) (o0 : σ0.1 56 = nI z1) (z2 : Nat) (o1 : σ0.2.2.1 18 (j1) = nI z2) (hz : z1 ≤ 599) (hy : z2 ≤ 269) (u0 : IH σ0) (u1 : BIa σ0) (u2 : SI σ0) :
    Met l y_Mo_byteOf (Cond.code y_Mo_byteOf b_Mo_byteOf 4 none :: wg) { frames := 9, cells := 0, slots := 0, locals := 230 } (va_Pc [.ref (ad 71), .int (nI j1), .int (nI j2)] (sm_P D cl_all (ty_s ca) ek L f0 sz)) (sm_Qv D (ty_s ca) L f0 sz (fun u => mq_po ca ad L σ0 [9, 10, 11, 13, 14, 15, 16, 17, 18, 19, 20, 21, 22, 23, 24, 25, 26, 28, 30, 31, 32, 33, 34, 42, 43, 45, 46, 47, 48, 49, 50, 51, 52, 54, 55, 56, 57, 58, 59, 60, 61, 62, 63, 64, 65, 66, 67, 68, 69, 70, 118] (fun σ => (∃ n n2 : Nat, σ.1 56 = nI n ∧ σ.2.2.1 18 (j1) = nI n2 ∧ (z1 ≤ n ∧ n ≤ z1 + 1 ∧ n2 ≤ z2 + 1 ∧ (n = z1 ∨ (8 ≤ z2 ∧ n2 = 0)))) ∧ IH σ ∧ BIa σ ∧ SI σ ∧ True) u)) 0 0 (va_A (va_pl L f0) sz) := by
  refine sm_start (by decide) (Nat.le_of_ble_eq_true rfl) ?_
  intro p e s m below meth c ls hx hb hml hr hlk hnm hts hown hsz hE hI hl
  have hl : lv_has ls 4 [(0, .ref (ad 71)), (1, .int (nI j1)), (2, .int (nI j2))] := hl
  have hF : mq_fr [9, 10, 11, 13, 14, 15, 16, 17, 18, 19, 20, 21, 22, 23, 24, 25, 26, 28, 30, 31, 32, 33, 34, 42, 43, 45, 46, 47, 48, 49, 50, 51, 52, 54, 55, 56, 57, 58, 59, 60, 61, 62, 63, 64, 65, 66, 67, 68, 69, 70, 118] σ0 σ0 := mq_fr_rf
  have hb0 := BI_z q1 u1 o1 hy
  have hz2 : z2 ≤ 254 := by rcases hb0 with h | ⟨m, -, -, h1, h2⟩ <;> omega
  refine lv_aload_n hx hb d_Mo_byteOf_0 rfl (lv_at hl 0 rfl) ?_
  refine mq_get (k := 17) (v := .ref (ad 17)) hx hb hts hown hI hM (by decide) rfl rfl (hts _ tw_1186) d_Mo_byteOf_1 ?_
  refine lv_iload_n hx hb d_Mo_byteOf_4 rfl (lv_at hl 1 rfl) ?_
  refine lv_sipush (v := 270) hx hb d_Mo_byteOf_5 (by decide) ?_
  refine lv_imul hx hb d_Mo_byteOf_8 ?_
  refine lv_topi (fun x_1 e_2 => ?_)
  obtain rfl : x_1 = nI (j1 * 270) := by rw [e_2]; exact pk_mul _ _
  refine lv_aload_n hx hb d_Mo_byteOf_9 rfl (lv_at hl 0 rfl) ?_
  refine mq_get (k := 18) (v := .ref (ad 18)) hx hb hts hown hI hM (by decide) rfl rfl (hts _ tw_1187) d_Mo_byteOf_10 ?_
  refine lv_iload_n hx hb d_Mo_byteOf_13 rfl (lv_at hl 1 rfl) ?_
  refine mq_iald (k := 18) (j := j1) (v := nI z2) hx hb hI hM (by decide) rfl (by show j1 < 4; omega) (by decide) o1 d_Mo_byteOf_14 ?_
  refine lv_iadd hx hb d_Mo_byteOf_15 ?_
  refine lv_topi (fun x_3 e_4 => ?_)
  obtain rfl : x_3 = nI ((j1 * 270) + z2) := by rw [e_4]; exact nI_add _ _
  refine lv_iload_n hx hb d_Mo_byteOf_16 rfl (lv_at hl 2 rfl) ?_
  refine mq_iast (k := 17) (j := ((j1 * 270) + z2)) (x := nI j2) hx hb hI hM (by decide) rfl (by show ((j1 * 270) + z2) < 1080; omega) (by decide) ⟨j2, by omega, by omega, rfl⟩ d_Mo_byteOf_17 (fun H locs f σ_5 e_6 hI hM => ?_)
  have hF := mq_fr_ug hF e_6 rfl (Or.inl rfl)
  have o_7 : σ_5.1 56 = nI z1 := by rw [e_6]; exact o0
  have o_8 : σ_5.2.2.1 18 (j1) = nI z2 := by rw [e_6]; exact o1
  have u_9 := IH_fr (mq_fr_ug (X := [17]) mq_fr_rf e_6 rfl (Or.inl rfl)) (by decide) u0
  have u_10 : BIe σ_5 j1 := BIe_w e_6 (by omega) (by omega) (BI_e u1)
  have u_11 : SI σ_5 := SI_w e_6 (by omega) u2
  refine lv_aload_n hx hb d_Mo_byteOf_18 rfl (lv_at hl 0 rfl) ?_
  refine mq_get (k := 18) (v := .ref (ad 18)) hx hb hts hown hI hM (by decide) rfl rfl (hts _ tw_1187) d_Mo_byteOf_19 ?_
  refine lv_iload_n hx hb d_Mo_byteOf_22 rfl (lv_at hl 1 rfl) ?_
  refine lv_dup2_11 hx hb d_Mo_byteOf_23 rfl rfl ?_
  refine mq_iald (k := 18) (j := j1) (v := nI z2) hx hb hI hM (by decide) rfl (by show j1 < 4; omega) (by decide) o_8 d_Mo_byteOf_24 ?_
  refine lv_iconst (v := 1) hx hb d_Mo_byteOf_25 (by decide) ?_
  refine lv_iadd hx hb d_Mo_byteOf_26 ?_
  refine lv_topi (fun x_12 e_13 => ?_)
  obtain rfl : x_12 = nI (z2 + 1) := by rw [e_13]; exact nI_add _ _
  refine mq_iast (k := 18) (j := j1) (x := nI (z2 + 1)) hx hb hI hM (by decide) rfl (by show j1 < 4; omega) (by decide) ⟨(z2 + 1), by omega, by omega, rfl⟩ d_Mo_byteOf_27 (fun H locs f σ_14 e_15 hI hM => ?_)
  have hF := mq_fr_ug hF e_15 rfl (Or.inr (Or.inl rfl))
  have o_16 : σ_14.1 56 = nI z1 := by rw [e_15]; exact o_7
  have u_17 := IH_fr (mq_fr_ug (X := [18, 118]) mq_fr_rf e_15 rfl (Or.inr (Or.inl rfl))) (by decide) u_9
  have u_18 : BIe σ_14 j1 := BIe_n e_15 u_10
  have u_19 : SI σ_14 := SI_n e_15 q1 u_11
  have o_20 := mq_ugj e_15
  refine lv_aload_n hx hb d_Mo_byteOf_28 rfl (lv_at hl 0 rfl) ?_
  refine mq_get (k := 18) (v := .ref (ad 18)) hx hb hts hown hI hM (by decide) rfl rfl (hts _ tw_1187) d_Mo_byteOf_29 ?_
  refine lv_iload_n hx hb d_Mo_byteOf_32 rfl (lv_at hl 1 rfl) ?_
  refine mq_iald (k := 18) (j := j1) (v := nI (z2 + 1)) hx hb hI hM (by decide) rfl (by show j1 < 4; omega) (by decide) o_20 d_Mo_byteOf_33 ?_
  refine lv_iconst (v := 1) hx hb d_Mo_byteOf_34 (by decide) ?_
  refine lv_icmp_ne (tgt := 44) hx hb d_Mo_byteOf_35 (by decide) (fun c_21 => ?_) (fun c_21 => ?_)
  · have k_22 : ¬ (z2 + 1) = 1 := (fun q => c_21 ((nI_eq (a := (z2 + 1)) (b := 1) (by omega) (by omega)).mpr q))
    refine lv_aload_n hx hb d_Mo_byteOf_44 rfl (lv_at hl 0 rfl) ?_
    refine mq_get (k := 18) (v := .ref (ad 18)) hx hb hts hown hI hM (by decide) rfl rfl (hts _ tw_1187) d_Mo_byteOf_45 ?_
    refine lv_iload_n hx hb d_Mo_byteOf_48 rfl (lv_at hl 1 rfl) ?_
    refine mq_iald (k := 18) (j := j1) (v := nI (z2 + 1)) hx hb hI hM (by decide) rfl (by show j1 < 4; omega) (by decide) o_20 d_Mo_byteOf_49 ?_
    refine lv_iconst (v := 2) hx hb d_Mo_byteOf_50 (by decide) ?_
    refine lv_icmp_ne (tgt := 72) hx hb d_Mo_byteOf_51 (by decide) (fun c_23 => ?_) (fun c_23 => ?_)
    · have k_24 : ¬ (z2 + 1) = 2 := (fun q => c_23 ((nI_eq (a := (z2 + 1)) (b := 2) (by omega) (by omega)).mpr q))
      refine lv_iconst (v := 0) hx hb d_Mo_byteOf_72 (by decide) ?_
      refine lv_istore_n (lv' := [(3, .int (0)), (0, .ref (ad 71)), (1, .int (nI j1)), (2, .int (nI j2))]) hx hb d_Mo_byteOf_73 rfl hl (by decide) rfl (fun ls hl => ?_)
      refine lv_iload_n hx hb d_Mo_byteOf_74 rfl (lv_at hl 0 rfl) ?_
      refine lv_if_eq (tgt := 86) hx hb d_Mo_byteOf_75 (by decide) (fun c_25 => ?_) (fun c_25 => ?_)
      · refine lv_aload_n hx hb d_Mo_byteOf_86 rfl (lv_at hl 1 rfl) ?_
        refine mq_get (k := 18) (v := .ref (ad 18)) hx hb hts hown hI hM (by decide) rfl rfl (hts _ tw_1187) d_Mo_byteOf_87 ?_
        refine lv_iload_n hx hb d_Mo_byteOf_90 rfl (lv_at hl 2 rfl) ?_
        refine mq_iald (k := 18) (j := j1) (v := nI (z2 + 1)) hx hb hI hM (by decide) rfl (by show j1 < 4; omega) (by decide) o_20 d_Mo_byteOf_91 ?_
        refine lv_iconst (v := 1) hx hb d_Mo_byteOf_92 (by decide) ?_
        refine lv_icmp_le (tgt := 118) hx hb d_Mo_byteOf_93 (by decide) (fun c_26 => ?_) (fun c_26 => ?_)
        · have k_27 : (z2 + 1) ≤ 1 := (nI_leI (a := (z2 + 1)) (b := 1) (by omega) (by omega)).mp c_26
          exact sm_vret hx hb hr hlk hI ⟨σ_14, rfl, hM, hF, ⟨⟨z1, (z2 + 1), o_16, o_20, by omega⟩, u_17, (BI_fin (n := (z2 + 1)) u_18 o_20 (by omega) (Or.inl (by omega))), u_19, trivial⟩⟩ d_Mo_byteOf_118
        · have k_28 : 1 < (z2 + 1) := Nat.lt_of_not_le (fun q => c_26 ((nI_leI (a := (z2 + 1)) (b := 1) (by omega) (by omega)).mpr q))
          refine lv_aload_n hx hb d_Mo_byteOf_96 rfl (lv_at hl 1 rfl) ?_
          refine mq_get (k := 18) (v := .ref (ad 18)) hx hb hts hown hI hM (by decide) rfl rfl (hts _ tw_1187) d_Mo_byteOf_97 ?_
          refine lv_iload_n hx hb d_Mo_byteOf_100 rfl (lv_at hl 2 rfl) ?_
          refine mq_iald (k := 18) (j := j1) (v := nI (z2 + 1)) hx hb hI hM (by decide) rfl (by show j1 < 4; omega) (by decide) o_20 d_Mo_byteOf_101 ?_
          refine lv_iconst (v := 2) hx hb d_Mo_byteOf_102 (by decide) ?_
          refine lv_aload_n hx hb d_Mo_byteOf_103 rfl (lv_at hl 1 rfl) ?_
          refine lv_iload_n hx hb d_Mo_byteOf_104 rfl (lv_at hl 2 rfl) ?_
          refine lv_iconst (v := 1) hx hb d_Mo_byteOf_105 (by decide) ?_
          refine sm_iP hI (va_runV (As := [.int (nI j1), .int (1)]) (rest := [.int (2), .int (nI (z2 + 1))]) ⟨hx, hb, hml, hown, hts⟩ (c_Mo_byteIn l D ca ad L _ _ _ hM (j1) (by omega) (1) (by omega)) (kv_Mo_byteIn hts rfl rfl (hts _ tw_1580) ⟨Nat.le_of_ble_eq_true rfl, Nat.le_of_ble_eq_true rfl⟩) (pv_Mo hI hE hM) rfl rfl hl.1 rfl (lv_room (Nat.le_of_ble_eq_true rfl)) d_Mo_byteOf_106 ⟨Nat.le_of_ble_eq_true rfl, Nat.le_of_ble_eq_true rfl⟩) (fun x_30 H locs p_29 hI => ?_)
          obtain ⟨n_31, rfl, h_32, h_33, h_34⟩ := p_29
          have hbo := bo_0 u1 q1 o1 hy q2 (by omega) e_6 e_15 h_34
          refine lv_iadd hx hb d_Mo_byteOf_109 ?_
          refine lv_topi (fun x_35 e_36 => ?_)
          obtain rfl : x_35 = nI (2 + n_31) := by rw [e_36]; exact nI_add _ _
          refine lv_icmp_ne (tgt := 118) hx hb d_Mo_byteOf_110 (by decide) (fun c_37 => ?_) (fun c_37 => ?_)
          · have k_38 : ¬ (z2 + 1) = (2 + n_31) := (fun q => c_37 ((nI_eq (a := (z2 + 1)) (b := (2 + n_31)) (by omega) (by omega)).mpr q))
            exact sm_vret hx hb hr hlk hI ⟨σ_14, rfl, hM, hF, ⟨⟨z1, (z2 + 1), o_16, o_20, by omega⟩, u_17, (BI_fin (n := (z2 + 1)) u_18 o_20 (by omega) (Or.inr ⟨n_31, h_34, by omega, by omega, by omega⟩)), u_19, trivial⟩⟩ d_Mo_byteOf_118
          · have k_39 : (z2 + 1) = (2 + n_31) := (nI_eq (a := (z2 + 1)) (b := (2 + n_31)) (by omega) (by omega)).mp c_37
            refine lv_aload_n hx hb d_Mo_byteOf_113 rfl (lv_at hl 1 rfl) ?_
            refine lv_iload_n hx hb d_Mo_byteOf_114 rfl (lv_at hl 2 rfl) ?_
            refine sm_vM hI (va_runV (As := [.int (nI j1)]) (rest := []) ⟨hx, hb, hml, hown, hts⟩ (c_Mo_whole l D ca ad L _ _ _ hM (j1) (by omega) (z1) o_16 ((z2 + 1)) o_20 (by omega) (by omega) (by omega) u_17 u_18) (kv_Mo_whole hts rfl rfl (hts _ tw_1677) ⟨Nat.le_of_ble_eq_true rfl, Nat.le_of_ble_eq_true rfl⟩) (pv_Mo hI hE hM) rfl rfl hl.1 rfl (lv_room (Nat.le_of_ble_eq_true rfl)) d_Mo_byteOf_115 ⟨Nat.le_of_ble_eq_true rfl, Nat.le_of_ble_eq_true rfl⟩) (fun H locs f σ_41 hI hM hF_42 p_40 => ?_)
            have hF := mq_fr_tr hF hF_42 (by decide)
            obtain ⟨n_43, h_44, o_45⟩ := mq_ri (n := (z2 + 1)) hF_42 (by decide) o_20
            have o_46 : σ_41.2.2.1 17 (j1 * 270 + 1) = nI n_31 := mq_fg hF_42 (by decide) h_34
            have u_47 := BIe_fr hF_42 (by decide) u_18
            have u_48 := SI_fr hF_42 (by decide) u_19
            obtain ⟨⟨n_50, h_51, h_52, h_53, o_49⟩, o_54, u_55, u_56, -⟩ := p_40
            exact sm_vret hx hb hr hlk hI ⟨σ_41, rfl, hM, hF, ⟨⟨n_50, (0), o_49, o_54, by omega⟩, u_55, u_56, u_48, trivial⟩⟩ d_Mo_byteOf_118
      · exact absurd c_25 (by decide)
    · have k_57 : (z2 + 1) = 2 := (nI_eq (a := (z2 + 1)) (b := 2) (by omega) (by omega)).mp c_23
      refine lv_iload_n hx hb d_Mo_byteOf_54 rfl (lv_at hl 2 rfl) ?_
      refine lv_i2l hx hb d_Mo_byteOf_55 rfl ?_
      refine lv_topl (fun x_58 e_59 => ?_)
      refine lv_ldc2 (v := 4) hx hb hown (hts _ tw_1649) d_Mo_byteOf_56 ?_
      refine lv_ldc2 (v := 253) hx hb hown (hts _ tw_1584) d_Mo_byteOf_59 ?_
      refine sm_iP hI (va_runS (As := [.long (x_58), .long (4), .long (253)]) (rest := []) ⟨hx, hb, hml, hown, hts⟩ (c_Mo_in l D ca L _ _ x_58 4 253) (ks_Mo_in hts rfl rfl (hts _ tw_1393) ⟨Nat.le_of_ble_eq_true rfl, Nat.le_of_ble_eq_true rfl⟩) (sm_preS hI hE) rfl rfl hl.1 rfl (lv_room (Nat.le_of_ble_eq_true rfl)) d_Mo_byteOf_62 ⟨Nat.le_of_ble_eq_true rfl, Nat.le_of_ble_eq_true rfl⟩) (fun x_61 H locs p_60 hI => ?_)
      rcases in_nat (n := j2) (lo := 4) (hi := 253) p_60 e_59 (by decide) (by decide) (by omega) with ⟨rfl, h_62⟩ | ⟨rfl, h_62⟩
      · refine lv_if_ne (tgt := 72) hx hb d_Mo_byteOf_65 (by decide) (fun c_67 => ?_) (fun c_67 => ?_)
        · refine lv_iconst (v := 0) hx hb d_Mo_byteOf_72 (by decide) ?_
          refine lv_istore_n (lv' := [(3, .int (0)), (0, .ref (ad 71)), (1, .int (nI j1)), (2, .int (nI j2))]) hx hb d_Mo_byteOf_73 rfl hl (by decide) rfl (fun ls hl => ?_)
          refine lv_iload_n hx hb d_Mo_byteOf_74 rfl (lv_at hl 0 rfl) ?_
          refine lv_if_eq (tgt := 86) hx hb d_Mo_byteOf_75 (by decide) (fun c_68 => ?_) (fun c_68 => ?_)
          · refine lv_aload_n hx hb d_Mo_byteOf_86 rfl (lv_at hl 1 rfl) ?_
            refine mq_get (k := 18) (v := .ref (ad 18)) hx hb hts hown hI hM (by decide) rfl rfl (hts _ tw_1187) d_Mo_byteOf_87 ?_
            refine lv_iload_n hx hb d_Mo_byteOf_90 rfl (lv_at hl 2 rfl) ?_
            refine mq_iald (k := 18) (j := j1) (v := nI (z2 + 1)) hx hb hI hM (by decide) rfl (by show j1 < 4; omega) (by decide) o_20 d_Mo_byteOf_91 ?_
            refine lv_iconst (v := 1) hx hb d_Mo_byteOf_92 (by decide) ?_
            refine lv_icmp_le (tgt := 118) hx hb d_Mo_byteOf_93 (by decide) (fun c_69 => ?_) (fun c_69 => ?_)
            · have k_70 : (z2 + 1) ≤ 1 := (nI_leI (a := (z2 + 1)) (b := 1) (by omega) (by omega)).mp c_69
              exact sm_vret hx hb hr hlk hI ⟨σ_14, rfl, hM, hF, ⟨⟨z1, (z2 + 1), o_16, o_20, by omega⟩, u_17, (BI_fin (n := (z2 + 1)) u_18 o_20 (by omega) (Or.inl (by omega))), u_19, trivial⟩⟩ d_Mo_byteOf_118
            · have k_71 : 1 < (z2 + 1) := Nat.lt_of_not_le (fun q => c_69 ((nI_leI (a := (z2 + 1)) (b := 1) (by omega) (by omega)).mpr q))
              refine lv_aload_n hx hb d_Mo_byteOf_96 rfl (lv_at hl 1 rfl) ?_
              refine mq_get (k := 18) (v := .ref (ad 18)) hx hb hts hown hI hM (by decide) rfl rfl (hts _ tw_1187) d_Mo_byteOf_97 ?_
              refine lv_iload_n hx hb d_Mo_byteOf_100 rfl (lv_at hl 2 rfl) ?_
              refine mq_iald (k := 18) (j := j1) (v := nI (z2 + 1)) hx hb hI hM (by decide) rfl (by show j1 < 4; omega) (by decide) o_20 d_Mo_byteOf_101 ?_
              refine lv_iconst (v := 2) hx hb d_Mo_byteOf_102 (by decide) ?_
              refine lv_aload_n hx hb d_Mo_byteOf_103 rfl (lv_at hl 1 rfl) ?_
              refine lv_iload_n hx hb d_Mo_byteOf_104 rfl (lv_at hl 2 rfl) ?_
              refine lv_iconst (v := 1) hx hb d_Mo_byteOf_105 (by decide) ?_
              refine sm_iP hI (va_runV (As := [.int (nI j1), .int (1)]) (rest := [.int (2), .int (nI (z2 + 1))]) ⟨hx, hb, hml, hown, hts⟩ (c_Mo_byteIn l D ca ad L _ _ _ hM (j1) (by omega) (1) (by omega)) (kv_Mo_byteIn hts rfl rfl (hts _ tw_1580) ⟨Nat.le_of_ble_eq_true rfl, Nat.le_of_ble_eq_true rfl⟩) (pv_Mo hI hE hM) rfl rfl hl.1 rfl (lv_room (Nat.le_of_ble_eq_true rfl)) d_Mo_byteOf_106 ⟨Nat.le_of_ble_eq_true rfl, Nat.le_of_ble_eq_true rfl⟩) (fun x_73 H locs p_72 hI => ?_)
              obtain ⟨n_74, rfl, h_75, h_76, h_77⟩ := p_72
              have hbo := bo_0 u1 q1 o1 hy q2 (by omega) e_6 e_15 h_77
              refine lv_iadd hx hb d_Mo_byteOf_109 ?_
              refine lv_topi (fun x_78 e_79 => ?_)
              obtain rfl : x_78 = nI (2 + n_74) := by rw [e_79]; exact nI_add _ _
              refine lv_icmp_ne (tgt := 118) hx hb d_Mo_byteOf_110 (by decide) (fun c_80 => ?_) (fun c_80 => ?_)
              · have k_81 : ¬ (z2 + 1) = (2 + n_74) := (fun q => c_80 ((nI_eq (a := (z2 + 1)) (b := (2 + n_74)) (by omega) (by omega)).mpr q))
                exact sm_vret hx hb hr hlk hI ⟨σ_14, rfl, hM, hF, ⟨⟨z1, (z2 + 1), o_16, o_20, by omega⟩, u_17, (BI_fin (n := (z2 + 1)) u_18 o_20 (by omega) (Or.inr ⟨n_74, h_77, by omega, by omega, by omega⟩)), u_19, trivial⟩⟩ d_Mo_byteOf_118
              · have k_82 : (z2 + 1) = (2 + n_74) := (nI_eq (a := (z2 + 1)) (b := (2 + n_74)) (by omega) (by omega)).mp c_80
                refine lv_aload_n hx hb d_Mo_byteOf_113 rfl (lv_at hl 1 rfl) ?_
                refine lv_iload_n hx hb d_Mo_byteOf_114 rfl (lv_at hl 2 rfl) ?_
                refine sm_vM hI (va_runV (As := [.int (nI j1)]) (rest := []) ⟨hx, hb, hml, hown, hts⟩ (c_Mo_whole l D ca ad L _ _ _ hM (j1) (by omega) (z1) o_16 ((z2 + 1)) o_20 (by omega) (by omega) (by omega) u_17 u_18) (kv_Mo_whole hts rfl rfl (hts _ tw_1677) ⟨Nat.le_of_ble_eq_true rfl, Nat.le_of_ble_eq_true rfl⟩) (pv_Mo hI hE hM) rfl rfl hl.1 rfl (lv_room (Nat.le_of_ble_eq_true rfl)) d_Mo_byteOf_115 ⟨Nat.le_of_ble_eq_true rfl, Nat.le_of_ble_eq_true rfl⟩) (fun H locs f σ_84 hI hM hF_85 p_83 => ?_)
                have hF := mq_fr_tr hF hF_85 (by decide)
                obtain ⟨n_86, h_87, o_88⟩ := mq_ri (n := (z2 + 1)) hF_85 (by decide) o_20
                have o_89 : σ_84.2.2.1 17 (j1 * 270 + 1) = nI n_74 := mq_fg hF_85 (by decide) h_77
                have u_90 := BIe_fr hF_85 (by decide) u_18
                have u_91 := SI_fr hF_85 (by decide) u_19
                obtain ⟨⟨n_93, h_94, h_95, h_96, o_92⟩, o_97, u_98, u_99, -⟩ := p_83
                exact sm_vret hx hb hr hlk hI ⟨σ_84, rfl, hM, hF, ⟨⟨n_93, (0), o_92, o_97, by omega⟩, u_98, u_99, u_91, trivial⟩⟩ d_Mo_byteOf_118
          · exact absurd c_68 (by decide)
        · exact absurd c_67 (by decide)
      · refine lv_if_ne (tgt := 72) hx hb d_Mo_byteOf_65 (by decide) (fun c_100 => ?_) (fun c_100 => ?_)
        · exact absurd c_100 (by decide)
        · refine lv_iconst (v := 1) hx hb d_Mo_byteOf_68 (by decide) ?_
          refine lv_goto (tgt := 73) hx hb d_Mo_byteOf_69 (by decide) ?_
          refine lv_istore_n (lv' := [(3, .int (1)), (0, .ref (ad 71)), (1, .int (nI j1)), (2, .int (nI j2))]) hx hb d_Mo_byteOf_73 rfl hl (by decide) rfl (fun ls hl => ?_)
          refine lv_iload_n hx hb d_Mo_byteOf_74 rfl (lv_at hl 0 rfl) ?_
          refine lv_if_eq (tgt := 86) hx hb d_Mo_byteOf_75 (by decide) (fun c_101 => ?_) (fun c_101 => ?_)
          · exact absurd c_101 (by decide)
          · refine lv_aload_n hx hb d_Mo_byteOf_78 rfl (lv_at hl 1 rfl) ?_
            refine lv_iload_n hx hb d_Mo_byteOf_79 rfl (lv_at hl 2 rfl) ?_
            refine sm_vM hI (va_runV (As := [.int (nI j1)]) (rest := []) ⟨hx, hb, hml, hown, hts⟩ (c_Mo_shut l D ca ad L _ _ _ hM (j1) (by omega) u_17) (kv_Mo_shut hts rfl rfl (hts _ tw_1513) ⟨Nat.le_of_ble_eq_true rfl, Nat.le_of_ble_eq_true rfl⟩) (pv_Mo hI hE hM) rfl rfl hl.1 rfl (lv_room (Nat.le_of_ble_eq_true rfl)) d_Mo_byteOf_80 ⟨Nat.le_of_ble_eq_true rfl, Nat.le_of_ble_eq_true rfl⟩) (fun H locs f σ_103 hI hM hF_104 p_102 => ?_)
            have hF := mq_fr_tr hF hF_104 (by decide)
            have o_105 : σ_103.1 56 = nI z1 := mq_fi hF_104 (by decide) o_16
            obtain ⟨n_106, h_107, o_108⟩ := mq_ri (n := (z2 + 1)) hF_104 (by decide) o_20
            have u_109 := BIe_fr hF_104 (by decide) u_18
            have u_110 := SI_fr hF_104 (by decide) u_19
            obtain ⟨o_111, o_112, u_113, -⟩ := p_102
            refine lv_goto (tgt := 118) hx hb d_Mo_byteOf_83 (by decide) ?_
            exact sm_vret hx hb hr hlk hI ⟨σ_103, rfl, hM, hF, ⟨⟨z1, (0), o_105, o_112, by omega⟩, u_113, (BI_fin (n := (0)) u_109 o_112 (by omega) (Or.inl (by omega))), u_110, trivial⟩⟩ d_Mo_byteOf_118
  · have k_114 : (z2 + 1) = 1 := (nI_eq (a := (z2 + 1)) (b := 1) (by omega) (by omega)).mp c_21
    refine lv_iload_n hx hb d_Mo_byteOf_38 rfl (lv_at hl 2 rfl) ?_
    refine lv_bipush (v := 104) hx hb d_Mo_byteOf_39 (by decide) ?_
    refine lv_icmp_ne (tgt := 68) hx hb d_Mo_byteOf_41 (by decide) (fun c_115 => ?_) (fun c_115 => ?_)
    · have k_116 : ¬ j2 = 104 := (fun q => c_115 ((nI_eq (a := j2) (b := 104) (by omega) (by omega)).mpr q))
      refine lv_iconst (v := 1) hx hb d_Mo_byteOf_68 (by decide) ?_
      refine lv_goto (tgt := 73) hx hb d_Mo_byteOf_69 (by decide) ?_
      refine lv_istore_n (lv' := [(3, .int (1)), (0, .ref (ad 71)), (1, .int (nI j1)), (2, .int (nI j2))]) hx hb d_Mo_byteOf_73 rfl hl (by decide) rfl (fun ls hl => ?_)
      refine lv_iload_n hx hb d_Mo_byteOf_74 rfl (lv_at hl 0 rfl) ?_
      refine lv_if_eq (tgt := 86) hx hb d_Mo_byteOf_75 (by decide) (fun c_117 => ?_) (fun c_117 => ?_)
      · exact absurd c_117 (by decide)
      · refine lv_aload_n hx hb d_Mo_byteOf_78 rfl (lv_at hl 1 rfl) ?_
        refine lv_iload_n hx hb d_Mo_byteOf_79 rfl (lv_at hl 2 rfl) ?_
        refine sm_vM hI (va_runV (As := [.int (nI j1)]) (rest := []) ⟨hx, hb, hml, hown, hts⟩ (c_Mo_shut l D ca ad L _ _ _ hM (j1) (by omega) u_17) (kv_Mo_shut hts rfl rfl (hts _ tw_1513) ⟨Nat.le_of_ble_eq_true rfl, Nat.le_of_ble_eq_true rfl⟩) (pv_Mo hI hE hM) rfl rfl hl.1 rfl (lv_room (Nat.le_of_ble_eq_true rfl)) d_Mo_byteOf_80 ⟨Nat.le_of_ble_eq_true rfl, Nat.le_of_ble_eq_true rfl⟩) (fun H locs f σ_119 hI hM hF_120 p_118 => ?_)
        have hF := mq_fr_tr hF hF_120 (by decide)
        have o_121 : σ_119.1 56 = nI z1 := mq_fi hF_120 (by decide) o_16
        obtain ⟨n_122, h_123, o_124⟩ := mq_ri (n := (z2 + 1)) hF_120 (by decide) o_20
        have u_125 := BIe_fr hF_120 (by decide) u_18
        have u_126 := SI_fr hF_120 (by decide) u_19
        obtain ⟨o_127, o_128, u_129, -⟩ := p_118
        refine lv_goto (tgt := 118) hx hb d_Mo_byteOf_83 (by decide) ?_
        exact sm_vret hx hb hr hlk hI ⟨σ_119, rfl, hM, hF, ⟨⟨z1, (0), o_121, o_128, by omega⟩, u_129, (BI_fin (n := (0)) u_125 o_128 (by omega) (Or.inl (by omega))), u_126, trivial⟩⟩ d_Mo_byteOf_118
    · have k_130 : j2 = 104 := (nI_eq (a := j2) (b := 104) (by omega) (by omega)).mp c_115
      refine lv_aload_n hx hb d_Mo_byteOf_44 rfl (lv_at hl 0 rfl) ?_
      refine mq_get (k := 18) (v := .ref (ad 18)) hx hb hts hown hI hM (by decide) rfl rfl (hts _ tw_1187) d_Mo_byteOf_45 ?_
      refine lv_iload_n hx hb d_Mo_byteOf_48 rfl (lv_at hl 1 rfl) ?_
      refine mq_iald (k := 18) (j := j1) (v := nI (z2 + 1)) hx hb hI hM (by decide) rfl (by show j1 < 4; omega) (by decide) o_20 d_Mo_byteOf_49 ?_
      refine lv_iconst (v := 2) hx hb d_Mo_byteOf_50 (by decide) ?_
      refine lv_icmp_ne (tgt := 72) hx hb d_Mo_byteOf_51 (by decide) (fun c_131 => ?_) (fun c_131 => ?_)
      · have k_132 : ¬ (z2 + 1) = 2 := (fun q => c_131 ((nI_eq (a := (z2 + 1)) (b := 2) (by omega) (by omega)).mpr q))
        refine lv_iconst (v := 0) hx hb d_Mo_byteOf_72 (by decide) ?_
        refine lv_istore_n (lv' := [(3, .int (0)), (0, .ref (ad 71)), (1, .int (nI j1)), (2, .int (nI j2))]) hx hb d_Mo_byteOf_73 rfl hl (by decide) rfl (fun ls hl => ?_)
        refine lv_iload_n hx hb d_Mo_byteOf_74 rfl (lv_at hl 0 rfl) ?_
        refine lv_if_eq (tgt := 86) hx hb d_Mo_byteOf_75 (by decide) (fun c_133 => ?_) (fun c_133 => ?_)
        · refine lv_aload_n hx hb d_Mo_byteOf_86 rfl (lv_at hl 1 rfl) ?_
          refine mq_get (k := 18) (v := .ref (ad 18)) hx hb hts hown hI hM (by decide) rfl rfl (hts _ tw_1187) d_Mo_byteOf_87 ?_
          refine lv_iload_n hx hb d_Mo_byteOf_90 rfl (lv_at hl 2 rfl) ?_
          refine mq_iald (k := 18) (j := j1) (v := nI (z2 + 1)) hx hb hI hM (by decide) rfl (by show j1 < 4; omega) (by decide) o_20 d_Mo_byteOf_91 ?_
          refine lv_iconst (v := 1) hx hb d_Mo_byteOf_92 (by decide) ?_
          refine lv_icmp_le (tgt := 118) hx hb d_Mo_byteOf_93 (by decide) (fun c_134 => ?_) (fun c_134 => ?_)
          · have k_135 : (z2 + 1) ≤ 1 := (nI_leI (a := (z2 + 1)) (b := 1) (by omega) (by omega)).mp c_134
            exact sm_vret hx hb hr hlk hI ⟨σ_14, rfl, hM, hF, ⟨⟨z1, (z2 + 1), o_16, o_20, by omega⟩, u_17, (BI_fin (n := (z2 + 1)) u_18 o_20 (by omega) (Or.inl (by omega))), u_19, trivial⟩⟩ d_Mo_byteOf_118
          · have k_136 : 1 < (z2 + 1) := Nat.lt_of_not_le (fun q => c_134 ((nI_leI (a := (z2 + 1)) (b := 1) (by omega) (by omega)).mpr q))
            refine lv_aload_n hx hb d_Mo_byteOf_96 rfl (lv_at hl 1 rfl) ?_
            refine mq_get (k := 18) (v := .ref (ad 18)) hx hb hts hown hI hM (by decide) rfl rfl (hts _ tw_1187) d_Mo_byteOf_97 ?_
            refine lv_iload_n hx hb d_Mo_byteOf_100 rfl (lv_at hl 2 rfl) ?_
            refine mq_iald (k := 18) (j := j1) (v := nI (z2 + 1)) hx hb hI hM (by decide) rfl (by show j1 < 4; omega) (by decide) o_20 d_Mo_byteOf_101 ?_
            refine lv_iconst (v := 2) hx hb d_Mo_byteOf_102 (by decide) ?_
            refine lv_aload_n hx hb d_Mo_byteOf_103 rfl (lv_at hl 1 rfl) ?_
            refine lv_iload_n hx hb d_Mo_byteOf_104 rfl (lv_at hl 2 rfl) ?_
            refine lv_iconst (v := 1) hx hb d_Mo_byteOf_105 (by decide) ?_
            refine sm_iP hI (va_runV (As := [.int (nI j1), .int (1)]) (rest := [.int (2), .int (nI (z2 + 1))]) ⟨hx, hb, hml, hown, hts⟩ (c_Mo_byteIn l D ca ad L _ _ _ hM (j1) (by omega) (1) (by omega)) (kv_Mo_byteIn hts rfl rfl (hts _ tw_1580) ⟨Nat.le_of_ble_eq_true rfl, Nat.le_of_ble_eq_true rfl⟩) (pv_Mo hI hE hM) rfl rfl hl.1 rfl (lv_room (Nat.le_of_ble_eq_true rfl)) d_Mo_byteOf_106 ⟨Nat.le_of_ble_eq_true rfl, Nat.le_of_ble_eq_true rfl⟩) (fun x_138 H locs p_137 hI => ?_)
            obtain ⟨n_139, rfl, h_140, h_141, h_142⟩ := p_137
            have hbo := bo_0 u1 q1 o1 hy q2 (by omega) e_6 e_15 h_142
            refine lv_iadd hx hb d_Mo_byteOf_109 ?_
            refine lv_topi (fun x_143 e_144 => ?_)
            obtain rfl : x_143 = nI (2 + n_139) := by rw [e_144]; exact nI_add _ _
            refine lv_icmp_ne (tgt := 118) hx hb d_Mo_byteOf_110 (by decide) (fun c_145 => ?_) (fun c_145 => ?_)
            · have k_146 : ¬ (z2 + 1) = (2 + n_139) := (fun q => c_145 ((nI_eq (a := (z2 + 1)) (b := (2 + n_139)) (by omega) (by omega)).mpr q))
              exact sm_vret hx hb hr hlk hI ⟨σ_14, rfl, hM, hF, ⟨⟨z1, (z2 + 1), o_16, o_20, by omega⟩, u_17, (BI_fin (n := (z2 + 1)) u_18 o_20 (by omega) (Or.inr ⟨n_139, h_142, by omega, by omega, by omega⟩)), u_19, trivial⟩⟩ d_Mo_byteOf_118
            · have k_147 : (z2 + 1) = (2 + n_139) := (nI_eq (a := (z2 + 1)) (b := (2 + n_139)) (by omega) (by omega)).mp c_145
              refine lv_aload_n hx hb d_Mo_byteOf_113 rfl (lv_at hl 1 rfl) ?_
              refine lv_iload_n hx hb d_Mo_byteOf_114 rfl (lv_at hl 2 rfl) ?_
              refine sm_vM hI (va_runV (As := [.int (nI j1)]) (rest := []) ⟨hx, hb, hml, hown, hts⟩ (c_Mo_whole l D ca ad L _ _ _ hM (j1) (by omega) (z1) o_16 ((z2 + 1)) o_20 (by omega) (by omega) (by omega) u_17 u_18) (kv_Mo_whole hts rfl rfl (hts _ tw_1677) ⟨Nat.le_of_ble_eq_true rfl, Nat.le_of_ble_eq_true rfl⟩) (pv_Mo hI hE hM) rfl rfl hl.1 rfl (lv_room (Nat.le_of_ble_eq_true rfl)) d_Mo_byteOf_115 ⟨Nat.le_of_ble_eq_true rfl, Nat.le_of_ble_eq_true rfl⟩) (fun H locs f σ_149 hI hM hF_150 p_148 => ?_)
              have hF := mq_fr_tr hF hF_150 (by decide)
              obtain ⟨n_151, h_152, o_153⟩ := mq_ri (n := (z2 + 1)) hF_150 (by decide) o_20
              have o_154 : σ_149.2.2.1 17 (j1 * 270 + 1) = nI n_139 := mq_fg hF_150 (by decide) h_142
              have u_155 := BIe_fr hF_150 (by decide) u_18
              have u_156 := SI_fr hF_150 (by decide) u_19
              obtain ⟨⟨n_158, h_159, h_160, h_161, o_157⟩, o_162, u_163, u_164, -⟩ := p_148
              exact sm_vret hx hb hr hlk hI ⟨σ_149, rfl, hM, hF, ⟨⟨n_158, (0), o_157, o_162, by omega⟩, u_163, u_164, u_156, trivial⟩⟩ d_Mo_byteOf_118
        · exact absurd c_133 (by decide)
      · have k_165 : (z2 + 1) = 2 := (nI_eq (a := (z2 + 1)) (b := 2) (by omega) (by omega)).mp c_131
        refine lv_iload_n hx hb d_Mo_byteOf_54 rfl (lv_at hl 2 rfl) ?_
        refine lv_i2l hx hb d_Mo_byteOf_55 rfl ?_
        refine lv_topl (fun x_166 e_167 => ?_)
        refine lv_ldc2 (v := 4) hx hb hown (hts _ tw_1649) d_Mo_byteOf_56 ?_
        refine lv_ldc2 (v := 253) hx hb hown (hts _ tw_1584) d_Mo_byteOf_59 ?_
        refine sm_iP hI (va_runS (As := [.long (x_166), .long (4), .long (253)]) (rest := []) ⟨hx, hb, hml, hown, hts⟩ (c_Mo_in l D ca L _ _ x_166 4 253) (ks_Mo_in hts rfl rfl (hts _ tw_1393) ⟨Nat.le_of_ble_eq_true rfl, Nat.le_of_ble_eq_true rfl⟩) (sm_preS hI hE) rfl rfl hl.1 rfl (lv_room (Nat.le_of_ble_eq_true rfl)) d_Mo_byteOf_62 ⟨Nat.le_of_ble_eq_true rfl, Nat.le_of_ble_eq_true rfl⟩) (fun x_169 H locs p_168 hI => ?_)
        rcases in_nat (n := j2) (lo := 4) (hi := 253) p_168 e_167 (by decide) (by decide) (by omega) with ⟨rfl, h_170⟩ | ⟨rfl, h_170⟩
        · refine lv_if_ne (tgt := 72) hx hb d_Mo_byteOf_65 (by decide) (fun c_175 => ?_) (fun c_175 => ?_)
          · refine lv_iconst (v := 0) hx hb d_Mo_byteOf_72 (by decide) ?_
            refine lv_istore_n (lv' := [(3, .int (0)), (0, .ref (ad 71)), (1, .int (nI j1)), (2, .int (nI j2))]) hx hb d_Mo_byteOf_73 rfl hl (by decide) rfl (fun ls hl => ?_)
            refine lv_iload_n hx hb d_Mo_byteOf_74 rfl (lv_at hl 0 rfl) ?_
            refine lv_if_eq (tgt := 86) hx hb d_Mo_byteOf_75 (by decide) (fun c_176 => ?_) (fun c_176 => ?_)
            · refine lv_aload_n hx hb d_Mo_byteOf_86 rfl (lv_at hl 1 rfl) ?_
              refine mq_get (k := 18) (v := .ref (ad 18)) hx hb hts hown hI hM (by decide) rfl rfl (hts _ tw_1187) d_Mo_byteOf_87 ?_
              refine lv_iload_n hx hb d_Mo_byteOf_90 rfl (lv_at hl 2 rfl) ?_
              refine mq_iald (k := 18) (j := j1) (v := nI (z2 + 1)) hx hb hI hM (by decide) rfl (by show j1 < 4; omega) (by decide) o_20 d_Mo_byteOf_91 ?_
              refine lv_iconst (v := 1) hx hb d_Mo_byteOf_92 (by decide) ?_
              refine lv_icmp_le (tgt := 118) hx hb d_Mo_byteOf_93 (by decide) (fun c_177 => ?_) (fun c_177 => ?_)
              · have k_178 : (z2 + 1) ≤ 1 := (nI_leI (a := (z2 + 1)) (b := 1) (by omega) (by omega)).mp c_177
                exact sm_vret hx hb hr hlk hI ⟨σ_14, rfl, hM, hF, ⟨⟨z1, (z2 + 1), o_16, o_20, by omega⟩, u_17, (BI_fin (n := (z2 + 1)) u_18 o_20 (by omega) (Or.inl (by omega))), u_19, trivial⟩⟩ d_Mo_byteOf_118
              · have k_179 : 1 < (z2 + 1) := Nat.lt_of_not_le (fun q => c_177 ((nI_leI (a := (z2 + 1)) (b := 1) (by omega) (by omega)).mpr q))
                refine lv_aload_n hx hb d_Mo_byteOf_96 rfl (lv_at hl 1 rfl) ?_
                refine mq_get (k := 18) (v := .ref (ad 18)) hx hb hts hown hI hM (by decide) rfl rfl (hts _ tw_1187) d_Mo_byteOf_97 ?_
                refine lv_iload_n hx hb d_Mo_byteOf_100 rfl (lv_at hl 2 rfl) ?_
                refine mq_iald (k := 18) (j := j1) (v := nI (z2 + 1)) hx hb hI hM (by decide) rfl (by show j1 < 4; omega) (by decide) o_20 d_Mo_byteOf_101 ?_
                refine lv_iconst (v := 2) hx hb d_Mo_byteOf_102 (by decide) ?_
                refine lv_aload_n hx hb d_Mo_byteOf_103 rfl (lv_at hl 1 rfl) ?_
                refine lv_iload_n hx hb d_Mo_byteOf_104 rfl (lv_at hl 2 rfl) ?_
                refine lv_iconst (v := 1) hx hb d_Mo_byteOf_105 (by decide) ?_
                refine sm_iP hI (va_runV (As := [.int (nI j1), .int (1)]) (rest := [.int (2), .int (nI (z2 + 1))]) ⟨hx, hb, hml, hown, hts⟩ (c_Mo_byteIn l D ca ad L _ _ _ hM (j1) (by omega) (1) (by omega)) (kv_Mo_byteIn hts rfl rfl (hts _ tw_1580) ⟨Nat.le_of_ble_eq_true rfl, Nat.le_of_ble_eq_true rfl⟩) (pv_Mo hI hE hM) rfl rfl hl.1 rfl (lv_room (Nat.le_of_ble_eq_true rfl)) d_Mo_byteOf_106 ⟨Nat.le_of_ble_eq_true rfl, Nat.le_of_ble_eq_true rfl⟩) (fun x_181 H locs p_180 hI => ?_)
                obtain ⟨n_182, rfl, h_183, h_184, h_185⟩ := p_180
                have hbo := bo_0 u1 q1 o1 hy q2 (by omega) e_6 e_15 h_185
                refine lv_iadd hx hb d_Mo_byteOf_109 ?_
                refine lv_topi (fun x_186 e_187 => ?_)
                obtain rfl : x_186 = nI (2 + n_182) := by rw [e_187]; exact nI_add _ _
                refine lv_icmp_ne (tgt := 118) hx hb d_Mo_byteOf_110 (by decide) (fun c_188 => ?_) (fun c_188 => ?_)
                · have k_189 : ¬ (z2 + 1) = (2 + n_182) := (fun q => c_188 ((nI_eq (a := (z2 + 1)) (b := (2 + n_182)) (by omega) (by omega)).mpr q))
                  exact sm_vret hx hb hr hlk hI ⟨σ_14, rfl, hM, hF, ⟨⟨z1, (z2 + 1), o_16, o_20, by omega⟩, u_17, (BI_fin (n := (z2 + 1)) u_18 o_20 (by omega) (Or.inr ⟨n_182, h_185, by omega, by omega, by omega⟩)), u_19, trivial⟩⟩ d_Mo_byteOf_118
                · have k_190 : (z2 + 1) = (2 + n_182) := (nI_eq (a := (z2 + 1)) (b := (2 + n_182)) (by omega) (by omega)).mp c_188
                  refine lv_aload_n hx hb d_Mo_byteOf_113 rfl (lv_at hl 1 rfl) ?_
                  refine lv_iload_n hx hb d_Mo_byteOf_114 rfl (lv_at hl 2 rfl) ?_
                  refine sm_vM hI (va_runV (As := [.int (nI j1)]) (rest := []) ⟨hx, hb, hml, hown, hts⟩ (c_Mo_whole l D ca ad L _ _ _ hM (j1) (by omega) (z1) o_16 ((z2 + 1)) o_20 (by omega) (by omega) (by omega) u_17 u_18) (kv_Mo_whole hts rfl rfl (hts _ tw_1677) ⟨Nat.le_of_ble_eq_true rfl, Nat.le_of_ble_eq_true rfl⟩) (pv_Mo hI hE hM) rfl rfl hl.1 rfl (lv_room (Nat.le_of_ble_eq_true rfl)) d_Mo_byteOf_115 ⟨Nat.le_of_ble_eq_true rfl, Nat.le_of_ble_eq_true rfl⟩) (fun H locs f σ_192 hI hM hF_193 p_191 => ?_)
                  have hF := mq_fr_tr hF hF_193 (by decide)
                  obtain ⟨n_194, h_195, o_196⟩ := mq_ri (n := (z2 + 1)) hF_193 (by decide) o_20
                  have o_197 : σ_192.2.2.1 17 (j1 * 270 + 1) = nI n_182 := mq_fg hF_193 (by decide) h_185
                  have u_198 := BIe_fr hF_193 (by decide) u_18
                  have u_199 := SI_fr hF_193 (by decide) u_19
                  obtain ⟨⟨n_201, h_202, h_203, h_204, o_200⟩, o_205, u_206, u_207, -⟩ := p_191
                  exact sm_vret hx hb hr hlk hI ⟨σ_192, rfl, hM, hF, ⟨⟨n_201, (0), o_200, o_205, by omega⟩, u_206, u_207, u_199, trivial⟩⟩ d_Mo_byteOf_118
            · exact absurd c_176 (by decide)
          · exact absurd c_175 (by decide)
        · refine lv_if_ne (tgt := 72) hx hb d_Mo_byteOf_65 (by decide) (fun c_208 => ?_) (fun c_208 => ?_)
          · exact absurd c_208 (by decide)
          · refine lv_iconst (v := 1) hx hb d_Mo_byteOf_68 (by decide) ?_
            refine lv_goto (tgt := 73) hx hb d_Mo_byteOf_69 (by decide) ?_
            refine lv_istore_n (lv' := [(3, .int (1)), (0, .ref (ad 71)), (1, .int (nI j1)), (2, .int (nI j2))]) hx hb d_Mo_byteOf_73 rfl hl (by decide) rfl (fun ls hl => ?_)
            refine lv_iload_n hx hb d_Mo_byteOf_74 rfl (lv_at hl 0 rfl) ?_
            refine lv_if_eq (tgt := 86) hx hb d_Mo_byteOf_75 (by decide) (fun c_209 => ?_) (fun c_209 => ?_)
            · exact absurd c_209 (by decide)
            · refine lv_aload_n hx hb d_Mo_byteOf_78 rfl (lv_at hl 1 rfl) ?_
              refine lv_iload_n hx hb d_Mo_byteOf_79 rfl (lv_at hl 2 rfl) ?_
              refine sm_vM hI (va_runV (As := [.int (nI j1)]) (rest := []) ⟨hx, hb, hml, hown, hts⟩ (c_Mo_shut l D ca ad L _ _ _ hM (j1) (by omega) u_17) (kv_Mo_shut hts rfl rfl (hts _ tw_1513) ⟨Nat.le_of_ble_eq_true rfl, Nat.le_of_ble_eq_true rfl⟩) (pv_Mo hI hE hM) rfl rfl hl.1 rfl (lv_room (Nat.le_of_ble_eq_true rfl)) d_Mo_byteOf_80 ⟨Nat.le_of_ble_eq_true rfl, Nat.le_of_ble_eq_true rfl⟩) (fun H locs f σ_211 hI hM hF_212 p_210 => ?_)
              have hF := mq_fr_tr hF hF_212 (by decide)
              have o_213 : σ_211.1 56 = nI z1 := mq_fi hF_212 (by decide) o_16
              obtain ⟨n_214, h_215, o_216⟩ := mq_ri (n := (z2 + 1)) hF_212 (by decide) o_20
              have u_217 := BIe_fr hF_212 (by decide) u_18
              have u_218 := SI_fr hF_212 (by decide) u_19
              obtain ⟨o_219, o_220, u_221, -⟩ := p_210
              refine lv_goto (tgt := 118) hx hb d_Mo_byteOf_83 (by decide) ?_
              exact sm_vret hx hb hr hlk hI ⟨σ_211, rfl, hM, hF, ⟨⟨z1, (0), o_213, o_220, by omega⟩, u_221, (BI_fin (n := (0)) u_217 o_220 (by omega) (Or.inl (by omega))), u_218, trivial⟩⟩ d_Mo_byteOf_118
theorem d_Mo_serialByte_0 : decode b_Mo_serialByte 0 = .ok (.aload_n 0, 1) := by decide +kernel
theorem d_Mo_serialByte_1 : decode b_Mo_serialByte 1 = .ok (.getfield 44, 3) := by decide +kernel
theorem d_Mo_serialByte_4 : decode b_Mo_serialByte 4 = .ok (.iconst 3, 1) := by decide +kernel
theorem d_Mo_serialByte_5 : decode b_Mo_serialByte 5 = .ok (.iaload, 1) := by decide +kernel
theorem d_Mo_serialByte_6 : decode b_Mo_serialByte 6 = .ok (.istore_n 2, 1) := by decide +kernel
theorem d_Mo_serialByte_7 : decode b_Mo_serialByte 7 = .ok (.aload_n 0, 1) := by decide +kernel
theorem d_Mo_serialByte_8 : decode b_Mo_serialByte 8 = .ok (.getfield 41, 3) := by decide +kernel
theorem d_Mo_serialByte_11 : decode b_Mo_serialByte 11 = .ok (.sipush 810, 3) := by decide +kernel
theorem d_Mo_serialByte_14 : decode b_Mo_serialByte 14 = .ok (.iload_n 2, 1) := by decide +kernel
theorem d_Mo_serialByte_15 : decode b_Mo_serialByte 15 = .ok (.iadd, 1) := by decide +kernel
theorem d_Mo_serialByte_16 : decode b_Mo_serialByte 16 = .ok (.iload_n 1, 1) := by decide +kernel
theorem d_Mo_serialByte_17 : decode b_Mo_serialByte 17 = .ok (.iastore, 1) := by decide +kernel
theorem d_Mo_serialByte_18 : decode b_Mo_serialByte 18 = .ok (.aload_n 0, 1) := by decide +kernel
theorem d_Mo_serialByte_19 : decode b_Mo_serialByte 19 = .ok (.iconst 3, 1) := by decide +kernel
theorem d_Mo_serialByte_20 : decode b_Mo_serialByte 20 = .ok (.iconst 0, 1) := by decide +kernel
theorem d_Mo_serialByte_21 : decode b_Mo_serialByte 21 = .ok (.invokevirtual 369, 3) := by decide +kernel
theorem d_Mo_serialByte_24 : decode b_Mo_serialByte 24 = .ok (.istore_n 3, 1) := by decide +kernel
theorem d_Mo_serialByte_25 : decode b_Mo_serialByte 25 = .ok (.aload_n 0, 1) := by decide +kernel
theorem d_Mo_serialByte_26 : decode b_Mo_serialByte 26 = .ok (.iconst 3, 1) := by decide +kernel
theorem d_Mo_serialByte_27 : decode b_Mo_serialByte 27 = .ok (.iconst 1, 1) := by decide +kernel
theorem d_Mo_serialByte_28 : decode b_Mo_serialByte 28 = .ok (.invokevirtual 369, 3) := by decide +kernel
theorem d_Mo_serialByte_31 : decode b_Mo_serialByte 31 = .ok (.istore 4, 2) := by decide +kernel
theorem d_Mo_serialByte_33 : decode b_Mo_serialByte 33 = .ok (.iload_n 3, 1) := by decide +kernel
theorem d_Mo_serialByte_34 : decode b_Mo_serialByte 34 = .ok (.bipush 104, 2) := by decide +kernel
theorem d_Mo_serialByte_36 : decode b_Mo_serialByte 36 = .ok (.if_icmp .ne 7, 3) := by decide +kernel
theorem d_Mo_serialByte_39 : decode b_Mo_serialByte 39 = .ok (.iconst 1, 1) := by decide +kernel
theorem d_Mo_serialByte_40 : decode b_Mo_serialByte 40 = .ok (.goto 4, 3) := by decide +kernel
theorem d_Mo_serialByte_43 : decode b_Mo_serialByte 43 = .ok (.iconst 0, 1) := by decide +kernel
theorem d_Mo_serialByte_44 : decode b_Mo_serialByte 44 = .ok (.istore 5, 2) := by decide +kernel
theorem d_Mo_serialByte_46 : decode b_Mo_serialByte 46 = .ok (.iload_n 2, 1) := by decide +kernel
theorem d_Mo_serialByte_47 : decode b_Mo_serialByte 47 = .ok (.ifCond .gt 15, 3) := by decide +kernel
theorem d_Mo_serialByte_50 : decode b_Mo_serialByte 50 = .ok (.iload_n 1, 1) := by decide +kernel
theorem d_Mo_serialByte_51 : decode b_Mo_serialByte 51 = .ok (.bipush 16, 2) := by decide +kernel
theorem d_Mo_serialByte_53 : decode b_Mo_serialByte 53 = .ok (.if_icmp .eq 9, 3) := by decide +kernel
theorem d_Mo_serialByte_56 : decode b_Mo_serialByte 56 = .ok (.iload_n 1, 1) := by decide +kernel
theorem d_Mo_serialByte_57 : decode b_Mo_serialByte 57 = .ok (.bipush 104, 2) := by decide +kernel
theorem d_Mo_serialByte_59 : decode b_Mo_serialByte 59 = .ok (.if_icmp .ne 7, 3) := by decide +kernel
theorem d_Mo_serialByte_62 : decode b_Mo_serialByte 62 = .ok (.iconst 1, 1) := by decide +kernel
theorem d_Mo_serialByte_63 : decode b_Mo_serialByte 63 = .ok (.goto 4, 3) := by decide +kernel
theorem d_Mo_serialByte_66 : decode b_Mo_serialByte 66 = .ok (.iconst 0, 1) := by decide +kernel
theorem d_Mo_serialByte_67 : decode b_Mo_serialByte 67 = .ok (.istore 6, 2) := by decide +kernel
theorem d_Mo_serialByte_69 : decode b_Mo_serialByte 69 = .ok (.iload 5, 2) := by decide +kernel
theorem d_Mo_serialByte_71 : decode b_Mo_serialByte 71 = .ok (.ifCond .eq 11, 3) := by decide +kernel
theorem d_Mo_serialByte_74 : decode b_Mo_serialByte 74 = .ok (.bipush 6, 2) := by decide +kernel
theorem d_Mo_serialByte_76 : decode b_Mo_serialByte 76 = .ok (.iload 4, 2) := by decide +kernel
theorem d_Mo_serialByte_78 : decode b_Mo_serialByte 78 = .ok (.iadd, 1) := by decide +kernel
theorem d_Mo_serialByte_79 : decode b_Mo_serialByte 79 = .ok (.goto 4, 3) := by decide +kernel
theorem d_Mo_serialByte_82 : decode b_Mo_serialByte 82 = .ok (.iconst 5, 1) := by decide +kernel
theorem d_Mo_serialByte_83 : decode b_Mo_serialByte 83 = .ok (.istore 7, 2) := by decide +kernel
theorem d_Mo_serialByte_85 : decode b_Mo_serialByte 85 = .ok (.iload_n 2, 1) := by decide +kernel
theorem d_Mo_serialByte_86 : decode b_Mo_serialByte 86 = .ok (.ifCond .le 68, 3) := by decide +kernel
theorem d_Mo_serialByte_89 : decode b_Mo_serialByte 89 = .ok (.iload 5, 2) := by decide +kernel
theorem d_Mo_serialByte_91 : decode b_Mo_serialByte 91 = .ok (.ifCond .eq 63, 3) := by decide +kernel
theorem d_Mo_serialByte_94 : decode b_Mo_serialByte 94 = .ok (.iload_n 2, 1) := by decide +kernel
theorem d_Mo_serialByte_95 : decode b_Mo_serialByte 95 = .ok (.iconst 1, 1) := by decide +kernel
theorem d_Mo_serialByte_96 : decode b_Mo_serialByte 96 = .ok (.if_icmp .ne 17, 3) := by decide +kernel
theorem d_Mo_serialByte_99 : decode b_Mo_serialByte 99 = .ok (.iload_n 1, 1) := by decide +kernel
theorem d_Mo_serialByte_100 : decode b_Mo_serialByte 100 = .ok (.i2l, 1) := by decide +kernel
theorem d_Mo_serialByte_101 : decode b_Mo_serialByte 101 = .ok (.ldc2_w 194, 3) := by decide +kernel
theorem d_Mo_serialByte_104 : decode b_Mo_serialByte 104 = .ok (.ldc2_w 397, 3) := by decide +kernel
theorem d_Mo_serialByte_107 : decode b_Mo_serialByte 107 = .ok (.invokestatic 187, 3) := by decide +kernel
theorem d_Mo_serialByte_110 : decode b_Mo_serialByte 110 = .ok (.goto 42, 3) := by decide +kernel
theorem d_Mo_serialByte_113 : decode b_Mo_serialByte 113 = .ok (.iload_n 2, 1) := by decide +kernel
theorem d_Mo_serialByte_114 : decode b_Mo_serialByte 114 = .ok (.iconst 2, 1) := by decide +kernel
theorem d_Mo_serialByte_115 : decode b_Mo_serialByte 115 = .ok (.if_icmp .ne 17, 3) := by decide +kernel
theorem d_Mo_serialByte_118 : decode b_Mo_serialByte 118 = .ok (.iload_n 1, 1) := by decide +kernel
theorem d_Mo_serialByte_119 : decode b_Mo_serialByte 119 = .ok (.iload 4, 2) := by decide +kernel
theorem d_Mo_serialByte_121 : decode b_Mo_serialByte 121 = .ok (.if_icmp .ne 7, 3) := by decide +kernel
theorem d_Mo_serialByte_124 : decode b_Mo_serialByte 124 = .ok (.iconst 1, 1) := by decide +kernel
theorem d_Mo_serialByte_125 : decode b_Mo_serialByte 125 = .ok (.goto 27, 3) := by decide +kernel
theorem d_Mo_serialByte_128 : decode b_Mo_serialByte 128 = .ok (.iconst 0, 1) := by decide +kernel
theorem d_Mo_serialByte_129 : decode b_Mo_serialByte 129 = .ok (.goto 23, 3) := by decide +kernel
theorem d_Mo_serialByte_132 : decode b_Mo_serialByte 132 = .ok (.iload_n 2, 1) := by decide +kernel
theorem d_Mo_serialByte_133 : decode b_Mo_serialByte 133 = .ok (.iconst 3, 1) := by decide +kernel
theorem d_Mo_serialByte_134 : decode b_Mo_serialByte 134 = .ok (.if_icmp .ne 17, 3) := by decide +kernel
theorem d_Mo_serialByte_137 : decode b_Mo_serialByte 137 = .ok (.iload_n 1, 1) := by decide +kernel
theorem d_Mo_serialByte_138 : decode b_Mo_serialByte 138 = .ok (.bipush 104, 2) := by decide +kernel
theorem d_Mo_serialByte_140 : decode b_Mo_serialByte 140 = .ok (.if_icmp .ne 7, 3) := by decide +kernel
theorem d_Mo_serialByte_143 : decode b_Mo_serialByte 143 = .ok (.iconst 1, 1) := by decide +kernel
theorem d_Mo_serialByte_144 : decode b_Mo_serialByte 144 = .ok (.goto 8, 3) := by decide +kernel
theorem d_Mo_serialByte_147 : decode b_Mo_serialByte 147 = .ok (.iconst 0, 1) := by decide +kernel
theorem d_Mo_serialByte_148 : decode b_Mo_serialByte 148 = .ok (.goto 4, 3) := by decide +kernel
theorem d_Mo_serialByte_151 : decode b_Mo_serialByte 151 = .ok (.iconst 1, 1) := by decide +kernel
theorem d_Mo_serialByte_152 : decode b_Mo_serialByte 152 = .ok (.istore 6, 2) := by decide +kernel
theorem d_Mo_serialByte_154 : decode b_Mo_serialByte 154 = .ok (.iload_n 2, 1) := by decide +kernel
theorem d_Mo_serialByte_155 : decode b_Mo_serialByte 155 = .ok (.ifCond .le 37, 3) := by decide +kernel
theorem d_Mo_serialByte_158 : decode b_Mo_serialByte 158 = .ok (.iload_n 2, 1) := by decide +kernel
theorem d_Mo_serialByte_159 : decode b_Mo_serialByte 159 = .ok (.iload 7, 2) := by decide +kernel
theorem d_Mo_serialByte_161 : decode b_Mo_serialByte 161 = .ok (.iconst 2, 1) := by decide +kernel
theorem d_Mo_serialByte_162 : decode b_Mo_serialByte 162 = .ok (.isub, 1) := by decide +kernel
theorem d_Mo_serialByte_163 : decode b_Mo_serialByte 163 = .ok (.if_icmp .ne 29, 3) := by decide +kernel
theorem d_Mo_serialByte_166 : decode b_Mo_serialByte 166 = .ok (.iload_n 1, 1) := by decide +kernel
theorem d_Mo_serialByte_167 : decode b_Mo_serialByte 167 = .ok (.aload_n 0, 1) := by decide +kernel
theorem d_Mo_serialByte_168 : decode b_Mo_serialByte 168 = .ok (.iload 5, 2) := by decide +kernel
theorem d_Mo_serialByte_170 : decode b_Mo_serialByte 170 = .ok (.ifCond .eq 7, 3) := by decide +kernel
theorem d_Mo_serialByte_173 : decode b_Mo_serialByte 173 = .ok (.iconst 4, 1) := by decide +kernel
theorem d_Mo_serialByte_174 : decode b_Mo_serialByte 174 = .ok (.goto 4, 3) := by decide +kernel
theorem d_Mo_serialByte_177 : decode b_Mo_serialByte 177 = .ok (.iconst 1, 1) := by decide +kernel
theorem d_Mo_serialByte_178 : decode b_Mo_serialByte 178 = .ok (.iload_n 2, 1) := by decide +kernel
theorem d_Mo_serialByte_179 : decode b_Mo_serialByte 179 = .ok (.invokevirtual 410, 3) := by decide +kernel
theorem d_Mo_serialByte_182 : decode b_Mo_serialByte 182 = .ok (.if_icmp .ne 7, 3) := by decide +kernel
theorem d_Mo_serialByte_185 : decode b_Mo_serialByte 185 = .ok (.iconst 1, 1) := by decide +kernel
theorem d_Mo_serialByte_186 : decode b_Mo_serialByte 186 = .ok (.goto 4, 3) := by decide +kernel
theorem d_Mo_serialByte_189 : decode b_Mo_serialByte 189 = .ok (.iconst 0, 1) := by decide +kernel
theorem d_Mo_serialByte_190 : decode b_Mo_serialByte 190 = .ok (.istore 6, 2) := by decide +kernel
theorem d_Mo_serialByte_192 : decode b_Mo_serialByte 192 = .ok (.iload_n 2, 1) := by decide +kernel
theorem d_Mo_serialByte_193 : decode b_Mo_serialByte 193 = .ok (.ifCond .le 24, 3) := by decide +kernel
theorem d_Mo_serialByte_196 : decode b_Mo_serialByte 196 = .ok (.iload_n 2, 1) := by decide +kernel
theorem d_Mo_serialByte_197 : decode b_Mo_serialByte 197 = .ok (.iload 7, 2) := by decide +kernel
theorem d_Mo_serialByte_199 : decode b_Mo_serialByte 199 = .ok (.iconst 1, 1) := by decide +kernel
theorem d_Mo_serialByte_200 : decode b_Mo_serialByte 200 = .ok (.isub, 1) := by decide +kernel
theorem d_Mo_serialByte_201 : decode b_Mo_serialByte 201 = .ok (.if_icmp .ne 16, 3) := by decide +kernel
theorem d_Mo_serialByte_204 : decode b_Mo_serialByte 204 = .ok (.iload_n 1, 1) := by decide +kernel
theorem d_Mo_serialByte_205 : decode b_Mo_serialByte 205 = .ok (.bipush 22, 2) := by decide +kernel
theorem d_Mo_serialByte_207 : decode b_Mo_serialByte 207 = .ok (.if_icmp .ne 7, 3) := by decide +kernel
theorem d_Mo_serialByte_210 : decode b_Mo_serialByte 210 = .ok (.iconst 1, 1) := by decide +kernel
theorem d_Mo_serialByte_211 : decode b_Mo_serialByte 211 = .ok (.goto 4, 3) := by decide +kernel
theorem d_Mo_serialByte_214 : decode b_Mo_serialByte 214 = .ok (.iconst 0, 1) := by decide +kernel
theorem d_Mo_serialByte_215 : decode b_Mo_serialByte 215 = .ok (.istore 6, 2) := by decide +kernel
theorem d_Mo_serialByte_217 : decode b_Mo_serialByte 217 = .ok (.aload_n 0, 1) := by decide +kernel
theorem d_Mo_serialByte_218 : decode b_Mo_serialByte 218 = .ok (.getfield 44, 3) := by decide +kernel
theorem d_Mo_serialByte_221 : decode b_Mo_serialByte 221 = .ok (.iconst 3, 1) := by decide +kernel
theorem d_Mo_serialByte_222 : decode b_Mo_serialByte 222 = .ok (.iload 6, 2) := by decide +kernel
theorem d_Mo_serialByte_224 : decode b_Mo_serialByte 224 = .ok (.ifCond .eq 9, 3) := by decide +kernel
theorem d_Mo_serialByte_227 : decode b_Mo_serialByte 227 = .ok (.iload_n 2, 1) := by decide +kernel
theorem d_Mo_serialByte_228 : decode b_Mo_serialByte 228 = .ok (.iconst 1, 1) := by decide +kernel
theorem d_Mo_serialByte_229 : decode b_Mo_serialByte 229 = .ok (.iadd, 1) := by decide +kernel
theorem d_Mo_serialByte_230 : decode b_Mo_serialByte 230 = .ok (.goto 4, 3) := by decide +kernel
theorem d_Mo_serialByte_233 : decode b_Mo_serialByte 233 = .ok (.iconst 0, 1) := by decide +kernel
theorem d_Mo_serialByte_234 : decode b_Mo_serialByte 234 = .ok (.iastore, 1) := by decide +kernel
theorem d_Mo_serialByte_235 : decode b_Mo_serialByte 235 = .ok (.iload 6, 2) := by decide +kernel
theorem d_Mo_serialByte_237 : decode b_Mo_serialByte 237 = .ok (.ifCond .eq 15, 3) := by decide +kernel
theorem d_Mo_serialByte_240 : decode b_Mo_serialByte 240 = .ok (.iload_n 2, 1) := by decide +kernel
theorem d_Mo_serialByte_241 : decode b_Mo_serialByte 241 = .ok (.ifCond .eq 11, 3) := by decide +kernel
theorem d_Mo_serialByte_244 : decode b_Mo_serialByte 244 = .ok (.iload_n 2, 1) := by decide +kernel
theorem d_Mo_serialByte_245 : decode b_Mo_serialByte 245 = .ok (.iload 7, 2) := by decide +kernel
theorem d_Mo_serialByte_247 : decode b_Mo_serialByte 247 = .ok (.iconst 1, 1) := by decide +kernel
theorem d_Mo_serialByte_248 : decode b_Mo_serialByte 248 = .ok (.isub, 1) := by decide +kernel
theorem d_Mo_serialByte_249 : decode b_Mo_serialByte 249 = .ok (.if_icmp .ge 4, 3) := by decide +kernel
theorem d_Mo_serialByte_252 : decode b_Mo_serialByte 252 = .ok (.return_, 1) := by decide +kernel
theorem d_Mo_serialByte_253 : decode b_Mo_serialByte 253 = .ok (.aload_n 0, 1) := by decide +kernel
theorem d_Mo_serialByte_254 : decode b_Mo_serialByte 254 = .ok (.getfield 44, 3) := by decide +kernel
theorem d_Mo_serialByte_257 : decode b_Mo_serialByte 257 = .ok (.iconst 3, 1) := by decide +kernel
theorem d_Mo_serialByte_258 : decode b_Mo_serialByte 258 = .ok (.iconst 0, 1) := by decide +kernel
theorem d_Mo_serialByte_259 : decode b_Mo_serialByte 259 = .ok (.iastore, 1) := by decide +kernel
theorem d_Mo_serialByte_260 : decode b_Mo_serialByte 260 = .ok (.aload_n 0, 1) := by decide +kernel
theorem d_Mo_serialByte_261 : decode b_Mo_serialByte 261 = .ok (.iload 5, 2) := by decide +kernel
theorem d_Mo_serialByte_263 : decode b_Mo_serialByte 263 = .ok (.iload 5, 2) := by decide +kernel
theorem d_Mo_serialByte_265 : decode b_Mo_serialByte 265 = .ok (.ifCond .eq 10, 3) := by decide +kernel
theorem d_Mo_serialByte_268 : decode b_Mo_serialByte 268 = .ok (.iload 4, 2) := by decide +kernel
theorem d_Mo_serialByte_270 : decode b_Mo_serialByte 270 = .ok (.iconst 2, 1) := by decide +kernel
theorem d_Mo_serialByte_271 : decode b_Mo_serialByte 271 = .ok (.isub, 1) := by decide +kernel
theorem d_Mo_serialByte_272 : decode b_Mo_serialByte 272 = .ok (.goto 4, 3) := by decide +kernel
theorem d_Mo_serialByte_275 : decode b_Mo_serialByte 275 = .ok (.iconst 0, 1) := by decide +kernel
theorem d_Mo_serialByte_276 : decode b_Mo_serialByte 276 = .ok (.aload_n 0, 1) := by decide +kernel
theorem d_Mo_serialByte_277 : decode b_Mo_serialByte 277 = .ok (.iconst 3, 1) := by decide +kernel
theorem d_Mo_serialByte_278 : decode b_Mo_serialByte 278 = .ok (.iload 5, 2) := by decide +kernel
theorem d_Mo_serialByte_280 : decode b_Mo_serialByte 280 = .ok (.ifCond .eq 7, 3) := by decide +kernel
theorem d_Mo_serialByte_283 : decode b_Mo_serialByte 283 = .ok (.iconst 4, 1) := by decide +kernel
theorem d_Mo_serialByte_284 : decode b_Mo_serialByte 284 = .ok (.goto 4, 3) := by decide +kernel
theorem d_Mo_serialByte_287 : decode b_Mo_serialByte 287 = .ok (.iconst 1, 1) := by decide +kernel
theorem d_Mo_serialByte_288 : decode b_Mo_serialByte 288 = .ok (.invokevirtual 369, 3) := by decide +kernel
theorem d_Mo_serialByte_291 : decode b_Mo_serialByte 291 = .ok (.aload_n 0, 1) := by decide +kernel
theorem d_Mo_serialByte_292 : decode b_Mo_serialByte 292 = .ok (.iconst 3, 1) := by decide +kernel
theorem d_Mo_serialByte_293 : decode b_Mo_serialByte 293 = .ok (.iload 5, 2) := by decide +kernel
theorem d_Mo_serialByte_295 : decode b_Mo_serialByte 295 = .ok (.ifCond .eq 7, 3) := by decide +kernel
theorem d_Mo_serialByte_298 : decode b_Mo_serialByte 298 = .ok (.iconst 5, 1) := by decide +kernel
theorem d_Mo_serialByte_299 : decode b_Mo_serialByte 299 = .ok (.goto 4, 3) := by decide +kernel
theorem d_Mo_serialByte_302 : decode b_Mo_serialByte 302 = .ok (.iconst 2, 1) := by decide +kernel
theorem d_Mo_serialByte_303 : decode b_Mo_serialByte 303 = .ok (.invokevirtual 369, 3) := by decide +kernel
theorem d_Mo_serialByte_306 : decode b_Mo_serialByte 306 = .ok (.invokevirtual 413, 3) := by decide +kernel
theorem d_Mo_serialByte_309 : decode b_Mo_serialByte 309 = .ok (.return_, 1) := by decide +kernel
set_option maxRecDepth 100000 in
set_option maxHeartbeats 4000000 in
theorem c_Mo_serialByte (l : Launch) (D : va_G) (ca : Nat → ClassId) (ad : Nat → Nat) (L : List Nat) (f0 : Nat → va_E) (sz : Nat) (σ0 : mq_S) (hM : mq_B ca ad σ0 L f0) (j1 : Nat) (q1 : j1 ≤ 255) (z1 : Nat) (o0 : σ0.1 56 = nI z1) (z2 : Nat) (o1 : σ0.2.2.1 18 (3) = nI z2) (hz : z1 ≤ 599) (hy : z2 ≤ 269) (u0 : IH σ0) (u1 : BIa σ0) (u2 : SI σ0) :
    Met l y_Mo_serialByte (Cond.code y_Mo_serialByte b_Mo_serialByte 8 none :: wg) { frames := 10, cells := 0, slots := 0, locals := 254 } (va_Pc [.ref (ad 71), .int (nI j1)] (sm_P D cl_all (ty_s ca) ek L f0 sz)) (sm_Qv D (ty_s ca) L f0 sz (fun u => mq_po ca ad L σ0 [9, 10, 11, 13, 14, 15, 16, 17, 18, 19, 22, 23, 24, 25, 30, 31, 32, 33, 34, 39, 40, 41, 42, 43, 45, 46, 47, 48, 49, 50, 51, 52, 54, 55, 56, 57, 58, 59, 60, 61, 62, 63, 64, 65, 66, 67, 68, 69, 70, 118] (fun σ => (∃ n n2 : Nat, σ.1 56 = nI n ∧ σ.2.2.1 18 (3) = nI n2 ∧ (z1 ≤ n ∧ n ≤ z1 + 1 ∧ n2 ≤ z2 + 1 ∧ (n = z1 ∨ (8 ≤ z2 ∧ n2 = 0)))) ∧ IH σ ∧ BIa σ ∧ SI σ ∧ True) u)) 0 0 (va_A (va_pl L f0) sz) := by
  refine sm_start (by decide) (Nat.le_of_ble_eq_true rfl) ?_
  intro p e s m below meth c ls hx hb hml hr hlk hnm hts hown hsz hE hI hl
  have hl : lv_has ls 8 [(0, .ref (ad 71)), (1, .int (nI j1))] := hl
  have hF : mq_fr [9, 10, 11, 13, 14, 15, 16, 17, 18, 19, 22, 23, 24, 25, 30, 31, 32, 33, 34, 39, 40, 41, 42, 43, 45, 46, 47, 48, 49, 50, 51, 52, 54, 55, 56, 57, 58, 59, 60, 61, 62, 63, 64, 65, 66, 67, 68, 69, 70, 118] σ0 σ0 := mq_fr_rf
  have hz2 := SI_le u2 o1 hy
  have hJ_217 : ∀ (H : Heap) (locs : List Loc) (f : Nat → va_E) (σ : mq_S) (ls : Array Slot) (a1 : Nat) (a2 : Nat) (y5 : Int32) (y6 : Int32) (a7 : Nat), sw_I D cl_all (ty_s ca) (va_A (va_pl L f0) sz) s H locs L f → mq_B ca ad σ L f → mq_fr [9, 10, 11, 13, 14, 15, 16, 17, 18, 19, 22, 23, 24, 25, 30, 31, 32, 33, 34, 39, 40, 41, 42, 43, 45, 46, 47, 48, 49, 50, 51, 52, 54, 55, 56, 57, 58, 59, 60, 61, 62, 63, 64, 65, 66, 67, 68, 69, 70, 118] σ0 σ → lv_has ls 8 [(0, .ref (ad 71)), (1, .int (nI j1)), (2, .int (nI z2)), (3, .int (nI a1)), (4, .int (nI a2)), (5, .int (y5)), (6, .int (y6)), (7, .int (nI a7))] → (y5 = 0 ∨ y5 = 1) → (y6 = 0 ∨ y6 = 1) → (σ.1 56 = nI (z1)) → (σ.2.2.1 18 (3) = nI (z2)) → (σ.2.2.1 17 (3 * 270 + 0) = nI (a1)) → (σ.2.2.1 17 (3 * 270 + 1) = nI (a2)) → (IH σ) → (BIa σ) → (a1 ≤ 255) → (a2 ≤ 255) → ((z2 = 0 ∧ a1 = j1) ∨ (1 ≤ z2 ∧ ((a1 = 16 ∧ z2 ≤ 4) ∨ (a1 = 104 ∧ ((z2 = 1 ∧ a2 = j1) ∨ (2 ≤ z2 ∧ 3 ≤ a2 ∧ a2 ≤ 253 ∧ z2 ≤ a2 + 5)))))) → ((a1 = 104 ∧ a7 = 6 + a2) ∨ (¬ a1 = 104 ∧ a7 = 5)) → (y5 = 1 → a1 = 104) → (y5 = 0 → ¬ a1 = 104) → (y6 = 1 → ((z2 = 0 → j1 = 16 ∨ j1 = 104) ∧ (z2 = 1 → a1 = 104 → 3 ≤ j1 ∧ j1 ≤ 253))) → W p l e { frames := 10, cells := 0, slots := 0, locals := 254 } s m ([.ref (ad 71), .int (nI j1)] : List Value).toArray below meth c H locs 0 0 (MQ below (sm_Qv D (ty_s ca) L f0 sz (fun u => mq_po ca ad L σ0 [9, 10, 11, 13, 14, 15, 16, 17, 18, 19, 22, 23, 24, 25, 30, 31, 32, 33, 34, 39, 40, 41, 42, 43, 45, 46, 47, 48, 49, 50, 51, 52, 54, 55, 56, 57, 58, 59, 60, 61, 62, 63, 64, 65, 66, 67, 68, 69, 70, 118] (fun σ => (∃ n n2 : Nat, σ.1 56 = nI n ∧ σ.2.2.1 18 (3) = nI n2 ∧ (z1 ≤ n ∧ n ≤ z1 + 1 ∧ n2 ≤ z2 + 1 ∧ (n = z1 ∨ (8 ≤ z2 ∧ n2 = 0)))) ∧ IH σ ∧ BIa σ ∧ SI σ ∧ True) u)) ([.ref (ad 71), .int (nI j1)] : List Value).toArray s 0 0 (va_A (va_pl L f0) sz)) (F0 m 217 ls []) := by
    intro H locs f σ ls a1 a2 y5 y6 a7 hI hM hF hl py5 py6 o90 o91 o92 o93 u90 u91 ha1 ha2 hs0 hla hl1 hl0 hg
    refine lv_aload_n hx hb d_Mo_serialByte_217 rfl (lv_at hl 0 rfl) ?_
    refine mq_get (k := 18) (v := .ref (ad 18)) hx hb hts hown hI hM (by decide) rfl rfl (hts _ tw_1187) d_Mo_serialByte_218 ?_
    refine lv_iconst (v := 3) hx hb d_Mo_serialByte_221 (by decide) ?_
    refine lv_iload hx hb d_Mo_serialByte_222 (lv_at hl 6 rfl) ?_
    refine lv_if_eq (tgt := 233) hx hb d_Mo_serialByte_224 (by decide) (fun c_1 => ?_) (fun c_1 => ?_)
    · refine lv_iconst (v := 0) hx hb d_Mo_serialByte_233 (by decide) ?_
      refine mq_iast (k := 18) (j := 3) (x := 0) hx hb hI hM (by decide) rfl (by show 3 < 4; omega) (by decide) ⟨0, by decide, by decide, rfl⟩ d_Mo_serialByte_234 (fun H locs f σ_2 e_3 hI hM => ?_)
      have hF := mq_fr_ug hF e_3 rfl (Or.inr (Or.inr rfl))
      have o_4 : σ_2.1 56 = nI (z1) := by rw [e_3]; exact o90
      have o_5 : σ_2.2.2.1 17 (3 * 270 + 0) = nI (a1) := by rw [e_3]; exact o92
      have o_6 : σ_2.2.2.1 17 (3 * 270 + 1) = nI (a2) := by rw [e_3]; exact o93
      have u_7 := IH_fr (mq_fr_ug (X := [18]) mq_fr_rf e_3 rfl (Or.inr (Or.inr rfl))) (by decide) u90
      have u_8 := BIa_fr (mq_fr_ug (X := [18]) mq_fr_rf e_3 rfl (Or.inr (Or.inr rfl))) (by decide) u91
      have u_9 : BIa σ_2 := BIa_n e_3 u91
      have o_10 := mq_ugj e_3
      refine lv_iload hx hb d_Mo_serialByte_235 (lv_at hl 6 rfl) ?_
      refine lv_if_eq (tgt := 252) hx hb d_Mo_serialByte_237 (by decide) (fun c_11 => ?_) (fun c_11 => ?_)
      · exact sm_vret hx hb hr hlk hI ⟨σ_2, rfl, hM, hF, ⟨⟨(z1), 0, o_4, o_10, by omega⟩, u_7, u_9, (SI_mk (n := 0) o_10 o_5 o_6 (by omega)), trivial⟩⟩ d_Mo_serialByte_252
      · exact absurd c_1 c_11
    · have k_12 := hg (py6.resolve_left c_1)
      refine lv_iload_n hx hb d_Mo_serialByte_227 rfl (lv_at hl 2 rfl) ?_
      refine lv_iconst (v := 1) hx hb d_Mo_serialByte_228 (by decide) ?_
      refine lv_iadd hx hb d_Mo_serialByte_229 ?_
      refine lv_topi (fun x_13 e_14 => ?_)
      obtain rfl : x_13 = nI (z2 + 1) := by rw [e_14]; exact nI_add _ _
      refine lv_goto (tgt := 234) hx hb d_Mo_serialByte_230 (by decide) ?_
      refine mq_iast (k := 18) (j := 3) (x := nI (z2 + 1)) hx hb hI hM (by decide) rfl (by show 3 < 4; omega) (by decide) ⟨(z2 + 1), by omega, by omega, rfl⟩ d_Mo_serialByte_234 (fun H locs f σ_15 e_16 hI hM => ?_)
      have hF := mq_fr_ug hF e_16 rfl (Or.inr (Or.inl rfl))
      have o_17 : σ_15.1 56 = nI (z1) := by rw [e_16]; exact o90
      have o_18 : σ_15.2.2.1 17 (3 * 270 + 0) = nI (a1) := by rw [e_16]; exact o92
      have o_19 : σ_15.2.2.1 17 (3 * 270 + 1) = nI (a2) := by rw [e_16]; exact o93
      have u_20 := IH_fr (mq_fr_ug (X := [18, 118]) mq_fr_rf e_16 rfl (Or.inr (Or.inl rfl))) (by decide) u90
      have u_21 : BIa σ_15 := BIa_n e_16 u91
      have o_22 := mq_ugj e_16
      refine lv_iload hx hb d_Mo_serialByte_235 (lv_at hl 6 rfl) ?_
      refine lv_if_eq (tgt := 252) hx hb d_Mo_serialByte_237 (by decide) (fun c_23 => ?_) (fun c_23 => ?_)
      · exact absurd c_23 c_1
      · have k_24 := hg (py6.resolve_left c_23)
        refine lv_iload_n hx hb d_Mo_serialByte_240 rfl (lv_at hl 2 rfl) ?_
        refine lv_if_eq (tgt := 252) hx hb d_Mo_serialByte_241 (by decide) (fun c_25 => ?_) (fun c_25 => ?_)
        · have k_27 : z2 = 0 := nz_eq c_25 (by omega)
          exact sm_vret hx hb hr hlk hI ⟨σ_15, rfl, hM, hF, ⟨⟨(z1), (z2 + 1), o_17, o_22, by omega⟩, u_20, u_21, (SI_mk (n := (z2 + 1)) o_22 o_18 o_19 (by omega)), trivial⟩⟩ d_Mo_serialByte_252
        · have k_28 : 0 < z2 := Nat.pos_of_ne_zero (fun q => c_25 (by rw [q]; decide))
          refine lv_iload_n hx hb d_Mo_serialByte_244 rfl (lv_at hl 2 rfl) ?_
          refine lv_iload hx hb d_Mo_serialByte_245 (lv_at hl 7 rfl) ?_
          refine lv_iconst (v := 1) hx hb d_Mo_serialByte_247 (by decide) ?_
          refine lv_isub hx hb d_Mo_serialByte_248 ?_
          refine lv_topi (fun x_29 e_30 => ?_)
          obtain rfl : x_29 = nI (a7 - 1) := by rw [e_30]; exact pk_sub (a := a7) (b := 1) (by omega)
          refine lv_icmp_ge (tgt := 253) hx hb d_Mo_serialByte_249 (by decide) (fun c_31 => ?_) (fun c_31 => ?_)
          · have k_32 : (a7 - 1) ≤ z2 := (nI_leI (a := (a7 - 1)) (b := z2) (by omega) (by omega)).mp c_31
            refine lv_aload_n hx hb d_Mo_serialByte_253 rfl (lv_at hl 0 rfl) ?_
            refine mq_get (k := 18) (v := .ref (ad 18)) hx hb hts hown hI hM (by decide) rfl rfl (hts _ tw_1187) d_Mo_serialByte_254 ?_
            refine lv_iconst (v := 3) hx hb d_Mo_serialByte_257 (by decide) ?_
            refine lv_iconst (v := 0) hx hb d_Mo_serialByte_258 (by decide) ?_
            refine mq_iast (k := 18) (j := 3) (x := 0) hx hb hI hM (by decide) rfl (by show 3 < 4; omega) (by decide) ⟨0, by decide, by decide, rfl⟩ d_Mo_serialByte_259 (fun H locs f σ_33 e_34 hI hM => ?_)
            have hF := mq_fr_ug hF e_34 rfl (Or.inr (Or.inr rfl))
            have o_35 : σ_33.1 56 = nI (z1) := by rw [e_34]; exact o_17
            have o_36 : σ_33.2.2.1 17 (3 * 270 + 0) = nI (a1) := by rw [e_34]; exact o_18
            have o_37 : σ_33.2.2.1 17 (3 * 270 + 1) = nI (a2) := by rw [e_34]; exact o_19
            have u_38 := IH_fr (mq_fr_ug (X := [18]) mq_fr_rf e_34 rfl (Or.inr (Or.inr rfl))) (by decide) u_20
            have u_39 := BIa_fr (mq_fr_ug (X := [18]) mq_fr_rf e_34 rfl (Or.inr (Or.inr rfl))) (by decide) u_21
            have o_40 := mq_ugj e_34
            refine lv_aload_n hx hb d_Mo_serialByte_260 rfl (lv_at hl 0 rfl) ?_
            refine lv_iload hx hb d_Mo_serialByte_261 (lv_at hl 5 rfl) ?_
            refine lv_iload hx hb d_Mo_serialByte_263 (lv_at hl 5 rfl) ?_
            refine lv_if_eq (tgt := 275) hx hb d_Mo_serialByte_265 (by decide) (fun c_41 => ?_) (fun c_41 => ?_)
            · have k_42 := hl0 c_41
              refine lv_iconst (v := 0) hx hb d_Mo_serialByte_275 (by decide) ?_
              refine lv_aload_n hx hb d_Mo_serialByte_276 rfl (lv_at hl 0 rfl) ?_
              refine lv_iconst (v := 3) hx hb d_Mo_serialByte_277 (by decide) ?_
              refine lv_iload hx hb d_Mo_serialByte_278 (lv_at hl 5 rfl) ?_
              refine lv_if_eq (tgt := 287) hx hb d_Mo_serialByte_280 (by decide) (fun c_43 => ?_) (fun c_43 => ?_)
              · have k_44 := hl0 c_43
                refine lv_iconst (v := 1) hx hb d_Mo_serialByte_287 (by decide) ?_
                refine sm_iP hI (va_runV (As := [.int (3), .int (1)]) (rest := [.int (0), .int (y5), .ref (ad 71)]) ⟨hx, hb, hml, hown, hts⟩ (c_Mo_byteIn l D ca ad L _ _ _ hM (3) (by omega) (1) (by omega)) (kv_Mo_byteIn hts rfl rfl (hts _ tw_1580) ⟨Nat.le_of_ble_eq_true rfl, Nat.le_of_ble_eq_true rfl⟩) (pv_Mo hI hE hM) rfl rfl hl.1 rfl (lv_room (Nat.le_of_ble_eq_true rfl)) d_Mo_serialByte_288 ⟨Nat.le_of_ble_eq_true rfl, Nat.le_of_ble_eq_true rfl⟩) (fun x_46 H locs p_45 hI => ?_)
                obtain ⟨n_47, rfl, h_48, h_49, h_50⟩ := p_45
                refine lv_aload_n hx hb d_Mo_serialByte_291 rfl (lv_at hl 0 rfl) ?_
                refine lv_iconst (v := 3) hx hb d_Mo_serialByte_292 (by decide) ?_
                refine lv_iload hx hb d_Mo_serialByte_293 (lv_at hl 5 rfl) ?_
                refine lv_if_eq (tgt := 302) hx hb d_Mo_serialByte_295 (by decide) (fun c_51 => ?_) (fun c_51 => ?_)
                · have k_52 := hl0 c_51
                  refine lv_iconst (v := 2) hx hb d_Mo_serialByte_302 (by decide) ?_
                  refine sm_iP hI (va_runV (As := [.int (3), .int (2)]) (rest := [.int (nI n_47), .int (0), .int (y5), .ref (ad 71)]) ⟨hx, hb, hml, hown, hts⟩ (c_Mo_byteIn l D ca ad L _ _ _ hM (3) (by omega) (2) (by omega)) (kv_Mo_byteIn hts rfl rfl (hts _ tw_1580) ⟨Nat.le_of_ble_eq_true rfl, Nat.le_of_ble_eq_true rfl⟩) (pv_Mo hI hE hM) rfl rfl hl.1 rfl (lv_room (Nat.le_of_ble_eq_true rfl)) d_Mo_serialByte_303 ⟨Nat.le_of_ble_eq_true rfl, Nat.le_of_ble_eq_true rfl⟩) (fun x_54 H locs p_53 hI => ?_)
                  obtain ⟨n_55, rfl, h_56, h_57, h_58⟩ := p_53
                  refine sm_vM hI (va_runV (As := [.int (y5), .int (0), .int (nI n_47), .int (nI n_55)]) (rest := []) ⟨hx, hb, hml, hown, hts⟩ (c_Mo_heard l D ca ad L _ _ _ hM y5 py5 (0) (by omega) (nI n_47) (nI n_55) ((z1)) o_35 (by omega) u_38) (kv_Mo_heard hts rfl rfl (hts _ tw_1589) ⟨Nat.le_of_ble_eq_true rfl, Nat.le_of_ble_eq_true rfl⟩) (pv_Mo hI hE hM) rfl rfl hl.1 rfl (lv_room (Nat.le_of_ble_eq_true rfl)) d_Mo_serialByte_306 ⟨Nat.le_of_ble_eq_true rfl, Nat.le_of_ble_eq_true rfl⟩) (fun H locs f σ_60 hI hM hF_61 p_59 => ?_)
                  have hF := mq_fr_tr hF hF_61 (by decide)
                  have o_62 : σ_60.2.2.1 17 (3 * 270 + 0) = nI (a1) := mq_fg hF_61 (by decide) o_36
                  have o_63 : σ_60.2.2.1 17 (3 * 270 + 1) = nI n_47 := mq_fg hF_61 (by decide) h_50
                  obtain ⟨n_64, h_65, o_66⟩ := mq_ri (n := 0) hF_61 (by decide) o_40
                  have o_67 : σ_60.2.2.1 17 (3 * 270 + 2) = nI n_55 := mq_fg hF_61 (by decide) h_58
                  have u_68 := BIa_fr hF_61 (by decide) u_39
                  obtain ⟨⟨n_70, h_71, h_72, h_73, o_69⟩, u_74, -⟩ := p_59
                  exact sm_vret hx hb hr hlk hI ⟨σ_60, rfl, hM, hF, ⟨⟨n_70, n_64, o_69, o_66, by omega⟩, u_74, u_68, (SI_mk (n := n_64) o_66 o_62 o_63 (by omega)), trivial⟩⟩ d_Mo_serialByte_309
                · exact absurd c_41 c_51
              · exact absurd c_41 c_43
            · have k_75 := hl1 (py5.resolve_left c_41)
              refine lv_iload hx hb d_Mo_serialByte_268 (lv_at hl 4 rfl) ?_
              refine lv_iconst (v := 2) hx hb d_Mo_serialByte_270 (by decide) ?_
              refine lv_isub hx hb d_Mo_serialByte_271 ?_
              refine lv_topi (fun x_76 e_77 => ?_)
              obtain rfl : x_76 = nI (a2 - 2) := by rw [e_77]; exact pk_sub (a := a2) (b := 2) (by omega)
              refine lv_goto (tgt := 276) hx hb d_Mo_serialByte_272 (by decide) ?_
              refine lv_aload_n hx hb d_Mo_serialByte_276 rfl (lv_at hl 0 rfl) ?_
              refine lv_iconst (v := 3) hx hb d_Mo_serialByte_277 (by decide) ?_
              refine lv_iload hx hb d_Mo_serialByte_278 (lv_at hl 5 rfl) ?_
              refine lv_if_eq (tgt := 287) hx hb d_Mo_serialByte_280 (by decide) (fun c_78 => ?_) (fun c_78 => ?_)
              · exact absurd c_78 c_41
              · have k_79 := hl1 (py5.resolve_left c_78)
                refine lv_iconst (v := 4) hx hb d_Mo_serialByte_283 (by decide) ?_
                refine lv_goto (tgt := 288) hx hb d_Mo_serialByte_284 (by decide) ?_
                refine sm_iP hI (va_runV (As := [.int (3), .int (4)]) (rest := [.int (nI (a2 - 2)), .int (y5), .ref (ad 71)]) ⟨hx, hb, hml, hown, hts⟩ (c_Mo_byteIn l D ca ad L _ _ _ hM (3) (by omega) (4) (by omega)) (kv_Mo_byteIn hts rfl rfl (hts _ tw_1580) ⟨Nat.le_of_ble_eq_true rfl, Nat.le_of_ble_eq_true rfl⟩) (pv_Mo hI hE hM) rfl rfl hl.1 rfl (lv_room (Nat.le_of_ble_eq_true rfl)) d_Mo_serialByte_288 ⟨Nat.le_of_ble_eq_true rfl, Nat.le_of_ble_eq_true rfl⟩) (fun x_81 H locs p_80 hI => ?_)
                obtain ⟨n_82, rfl, h_83, h_84, h_85⟩ := p_80
                refine lv_aload_n hx hb d_Mo_serialByte_291 rfl (lv_at hl 0 rfl) ?_
                refine lv_iconst (v := 3) hx hb d_Mo_serialByte_292 (by decide) ?_
                refine lv_iload hx hb d_Mo_serialByte_293 (lv_at hl 5 rfl) ?_
                refine lv_if_eq (tgt := 302) hx hb d_Mo_serialByte_295 (by decide) (fun c_86 => ?_) (fun c_86 => ?_)
                · exact absurd c_86 c_41
                · have k_87 := hl1 (py5.resolve_left c_86)
                  refine lv_iconst (v := 5) hx hb d_Mo_serialByte_298 (by decide) ?_
                  refine lv_goto (tgt := 303) hx hb d_Mo_serialByte_299 (by decide) ?_
                  refine sm_iP hI (va_runV (As := [.int (3), .int (5)]) (rest := [.int (nI n_82), .int (nI (a2 - 2)), .int (y5), .ref (ad 71)]) ⟨hx, hb, hml, hown, hts⟩ (c_Mo_byteIn l D ca ad L _ _ _ hM (3) (by omega) (5) (by omega)) (kv_Mo_byteIn hts rfl rfl (hts _ tw_1580) ⟨Nat.le_of_ble_eq_true rfl, Nat.le_of_ble_eq_true rfl⟩) (pv_Mo hI hE hM) rfl rfl hl.1 rfl (lv_room (Nat.le_of_ble_eq_true rfl)) d_Mo_serialByte_303 ⟨Nat.le_of_ble_eq_true rfl, Nat.le_of_ble_eq_true rfl⟩) (fun x_89 H locs p_88 hI => ?_)
                  obtain ⟨n_90, rfl, h_91, h_92, h_93⟩ := p_88
                  refine sm_vM hI (va_runV (As := [.int (y5), .int (nI (a2 - 2)), .int (nI n_82), .int (nI n_90)]) (rest := []) ⟨hx, hb, hml, hown, hts⟩ (c_Mo_heard l D ca ad L _ _ _ hM y5 py5 ((a2 - 2)) (by omega) (nI n_82) (nI n_90) ((z1)) o_35 (by omega) u_38) (kv_Mo_heard hts rfl rfl (hts _ tw_1589) ⟨Nat.le_of_ble_eq_true rfl, Nat.le_of_ble_eq_true rfl⟩) (pv_Mo hI hE hM) rfl rfl hl.1 rfl (lv_room (Nat.le_of_ble_eq_true rfl)) d_Mo_serialByte_306 ⟨Nat.le_of_ble_eq_true rfl, Nat.le_of_ble_eq_true rfl⟩) (fun H locs f σ_95 hI hM hF_96 p_94 => ?_)
                  have hF := mq_fr_tr hF hF_96 (by decide)
                  have o_97 : σ_95.2.2.1 17 (3 * 270 + 0) = nI (a1) := mq_fg hF_96 (by decide) o_36
                  have o_98 : σ_95.2.2.1 17 (3 * 270 + 1) = nI (a2) := mq_fg hF_96 (by decide) o_37
                  obtain ⟨n_99, h_100, o_101⟩ := mq_ri (n := 0) hF_96 (by decide) o_40
                  have o_102 : σ_95.2.2.1 17 (3 * 270 + 4) = nI n_82 := mq_fg hF_96 (by decide) h_85
                  have o_103 : σ_95.2.2.1 17 (3 * 270 + 5) = nI n_90 := mq_fg hF_96 (by decide) h_93
                  have u_104 := BIa_fr hF_96 (by decide) u_39
                  obtain ⟨⟨n_106, h_107, h_108, h_109, o_105⟩, u_110, -⟩ := p_94
                  exact sm_vret hx hb hr hlk hI ⟨σ_95, rfl, hM, hF, ⟨⟨n_106, n_99, o_105, o_101, by omega⟩, u_110, u_104, (SI_mk (n := n_99) o_101 o_97 o_98 (by omega)), trivial⟩⟩ d_Mo_serialByte_309
          · have k_111 : z2 < (a7 - 1) := Nat.lt_of_not_le (fun q => c_31 ((nI_leI (a := (a7 - 1)) (b := z2) (by omega) (by omega)).mpr q))
            exact sm_vret hx hb hr hlk hI ⟨σ_15, rfl, hM, hF, ⟨⟨(z1), (z2 + 1), o_17, o_22, by omega⟩, u_20, u_21, (SI_mk (n := (z2 + 1)) o_22 o_18 o_19 (by omega)), trivial⟩⟩ d_Mo_serialByte_252
  have hJ_154 : ∀ (H : Heap) (locs : List Loc) (f : Nat → va_E) (σ : mq_S) (ls : Array Slot) (a1 : Nat) (a2 : Nat) (y5 : Int32) (y6 : Int32) (a7 : Nat), sw_I D cl_all (ty_s ca) (va_A (va_pl L f0) sz) s H locs L f → mq_B ca ad σ L f → mq_fr [9, 10, 11, 13, 14, 15, 16, 17, 18, 19, 22, 23, 24, 25, 30, 31, 32, 33, 34, 39, 40, 41, 42, 43, 45, 46, 47, 48, 49, 50, 51, 52, 54, 55, 56, 57, 58, 59, 60, 61, 62, 63, 64, 65, 66, 67, 68, 69, 70, 118] σ0 σ → lv_has ls 8 [(0, .ref (ad 71)), (1, .int (nI j1)), (2, .int (nI z2)), (3, .int (nI a1)), (4, .int (nI a2)), (5, .int (y5)), (6, .int (y6)), (7, .int (nI a7))] → (y5 = 0 ∨ y5 = 1) → (y6 = 0 ∨ y6 = 1) → (σ.1 56 = nI (z1)) → (σ.2.2.1 18 (3) = nI (z2)) → (σ.2.2.1 17 (3 * 270 + 0) = nI (a1)) → (σ.2.2.1 17 (3 * 270 + 1) = nI (a2)) → (IH σ) → (BIa σ) → (a1 ≤ 255) → (a2 ≤ 255) → ((z2 = 0 ∧ a1 = j1) ∨ (1 ≤ z2 ∧ ((a1 = 16 ∧ z2 ≤ 4) ∨ (a1 = 104 ∧ ((z2 = 1 ∧ a2 = j1) ∨ (2 ≤ z2 ∧ 3 ≤ a2 ∧ a2 ≤ 253 ∧ z2 ≤ a2 + 5)))))) → ((a1 = 104 ∧ a7 = 6 + a2) ∨ (¬ a1 = 104 ∧ a7 = 5)) → (y5 = 1 → a1 = 104) → (y5 = 0 → ¬ a1 = 104) → (y6 = 1 → ((z2 = 0 → j1 = 16 ∨ j1 = 104) ∧ (z2 = 1 → a1 = 104 → 3 ≤ j1 ∧ j1 ≤ 253))) → W p l e { frames := 10, cells := 0, slots := 0, locals := 254 } s m ([.ref (ad 71), .int (nI j1)] : List Value).toArray below meth c H locs 0 0 (MQ below (sm_Qv D (ty_s ca) L f0 sz (fun u => mq_po ca ad L σ0 [9, 10, 11, 13, 14, 15, 16, 17, 18, 19, 22, 23, 24, 25, 30, 31, 32, 33, 34, 39, 40, 41, 42, 43, 45, 46, 47, 48, 49, 50, 51, 52, 54, 55, 56, 57, 58, 59, 60, 61, 62, 63, 64, 65, 66, 67, 68, 69, 70, 118] (fun σ => (∃ n n2 : Nat, σ.1 56 = nI n ∧ σ.2.2.1 18 (3) = nI n2 ∧ (z1 ≤ n ∧ n ≤ z1 + 1 ∧ n2 ≤ z2 + 1 ∧ (n = z1 ∨ (8 ≤ z2 ∧ n2 = 0)))) ∧ IH σ ∧ BIa σ ∧ SI σ ∧ True) u)) ([.ref (ad 71), .int (nI j1)] : List Value).toArray s 0 0 (va_A (va_pl L f0) sz)) (F0 m 154 ls []) := by
    intro H locs f σ ls a1 a2 y5 y6 a7 hI hM hF hl py5 py6 o90 o91 o92 o93 u90 u91 ha1 ha2 hs0 hla hl1 hl0 hg
    refine lv_iload_n hx hb d_Mo_serialByte_154 rfl (lv_at hl 2 rfl) ?_
    refine lv_if_le (tgt := 192) hx hb d_Mo_serialByte_155 (by decide) (fun c_112 => ?_) (fun c_112 => ?_)
    · have k_114 : z2 = 0 := nz_le c_112 (by omega)
      refine lv_iload_n hx hb d_Mo_serialByte_192 rfl (lv_at hl 2 rfl) ?_
      refine lv_if_le (tgt := 217) hx hb d_Mo_serialByte_193 (by decide) (fun c_115 => ?_) (fun c_115 => ?_)
      · have k_117 : z2 = 0 := nz_le c_115 (by omega)
        exact hJ_217 _ _ _ _ _ (a1) (a2) y5 y6 (a7) hI hM hF (lv_sub hl [0, 1, 2, 3, 4, 5, 6, 7] rfl) py5 py6 (Eq.trans o90 (congrArg nI (show ((z1) : Nat) = _ by omega))) (Eq.trans o91 (congrArg nI (show ((z2) : Nat) = _ by omega))) (Eq.trans o92 (congrArg nI (show ((a1) : Nat) = _ by omega))) (Eq.trans o93 (congrArg nI (show ((a2) : Nat) = _ by omega))) u90 u91 (by omega) (by omega) (by omega) (by omega) hl1 hl0 hg
      · exact absurd c_112 c_115
    · have k_118 : 0 < z2 := Nat.pos_of_ne_zero (fun q => c_112 (by rw [q]; decide))
      refine lv_iload_n hx hb d_Mo_serialByte_158 rfl (lv_at hl 2 rfl) ?_
      refine lv_iload hx hb d_Mo_serialByte_159 (lv_at hl 7 rfl) ?_
      refine lv_iconst (v := 2) hx hb d_Mo_serialByte_161 (by decide) ?_
      refine lv_isub hx hb d_Mo_serialByte_162 ?_
      refine lv_topi (fun x_119 e_120 => ?_)
      obtain rfl : x_119 = nI (a7 - 2) := by rw [e_120]; exact pk_sub (a := a7) (b := 2) (by omega)
      refine lv_icmp_ne (tgt := 192) hx hb d_Mo_serialByte_163 (by decide) (fun c_121 => ?_) (fun c_121 => ?_)
      · have k_122 : ¬ z2 = (a7 - 2) := (fun q => c_121 ((nI_eq (a := z2) (b := (a7 - 2)) (by omega) (by omega)).mpr q))
        refine lv_iload_n hx hb d_Mo_serialByte_192 rfl (lv_at hl 2 rfl) ?_
        refine lv_if_le (tgt := 217) hx hb d_Mo_serialByte_193 (by decide) (fun c_123 => ?_) (fun c_123 => ?_)
        · exact absurd c_123 c_112
        · have k_124 : 0 < z2 := Nat.pos_of_ne_zero (fun q => c_123 (by rw [q]; decide))
          refine lv_iload_n hx hb d_Mo_serialByte_196 rfl (lv_at hl 2 rfl) ?_
          refine lv_iload hx hb d_Mo_serialByte_197 (lv_at hl 7 rfl) ?_
          refine lv_iconst (v := 1) hx hb d_Mo_serialByte_199 (by decide) ?_
          refine lv_isub hx hb d_Mo_serialByte_200 ?_
          refine lv_topi (fun x_125 e_126 => ?_)
          obtain rfl : x_125 = nI (a7 - 1) := by rw [e_126]; exact pk_sub (a := a7) (b := 1) (by omega)
          refine lv_icmp_ne (tgt := 217) hx hb d_Mo_serialByte_201 (by decide) (fun c_127 => ?_) (fun c_127 => ?_)
          · have k_128 : ¬ z2 = (a7 - 1) := (fun q => c_127 ((nI_eq (a := z2) (b := (a7 - 1)) (by omega) (by omega)).mpr q))
            exact hJ_217 _ _ _ _ _ (a1) (a2) y5 y6 (a7) hI hM hF (lv_sub hl [0, 1, 2, 3, 4, 5, 6, 7] rfl) py5 py6 (Eq.trans o90 (congrArg nI (show ((z1) : Nat) = _ by omega))) (Eq.trans o91 (congrArg nI (show ((z2) : Nat) = _ by omega))) (Eq.trans o92 (congrArg nI (show ((a1) : Nat) = _ by omega))) (Eq.trans o93 (congrArg nI (show ((a2) : Nat) = _ by omega))) u90 u91 (by omega) (by omega) (by omega) (by omega) hl1 hl0 hg
          · have k_129 : z2 = (a7 - 1) := (nI_eq (a := z2) (b := (a7 - 1)) (by omega) (by omega)).mp c_127
            refine lv_iload_n hx hb d_Mo_serialByte_204 rfl (lv_at hl 1 rfl) ?_
            refine lv_bipush (v := 22) hx hb d_Mo_serialByte_205 (by decide) ?_
            refine lv_icmp_ne (tgt := 214) hx hb d_Mo_serialByte_207 (by decide) (fun c_130 => ?_) (fun c_130 => ?_)
            · have k_131 : ¬ j1 = 22 := (fun q => c_130 ((nI_eq (a := j1) (b := 22) (by omega) (by omega)).mpr q))
              refine lv_iconst (v := 0) hx hb d_Mo_serialByte_214 (by decide) ?_
              refine lv_istore (lv' := [(6, .int (0)), (0, .ref (ad 71)), (1, .int (nI j1)), (2, .int (nI z2)), (3, .int (nI a1)), (4, .int (nI a2)), (5, .int (y5)), (7, .int (nI a7))]) hx hb d_Mo_serialByte_215 hl (by decide) rfl (fun ls hl => ?_)
              exact hJ_217 _ _ _ _ _ (a1) (a2) y5 0 (a7) hI hM hF (lv_sub hl [1, 2, 3, 4, 5, 6, 0, 7] rfl) py5 (by decide) (Eq.trans o90 (congrArg nI (show ((z1) : Nat) = _ by omega))) (Eq.trans o91 (congrArg nI (show ((z2) : Nat) = _ by omega))) (Eq.trans o92 (congrArg nI (show ((a1) : Nat) = _ by omega))) (Eq.trans o93 (congrArg nI (show ((a2) : Nat) = _ by omega))) u90 u91 (by omega) (by omega) (by omega) (by omega) hl1 hl0 (fun h => absurd h (by decide))
            · have k_132 : j1 = 22 := (nI_eq (a := j1) (b := 22) (by omega) (by omega)).mp c_130
              refine lv_iconst (v := 1) hx hb d_Mo_serialByte_210 (by decide) ?_
              refine lv_goto (tgt := 215) hx hb d_Mo_serialByte_211 (by decide) ?_
              refine lv_istore (lv' := [(6, .int (1)), (0, .ref (ad 71)), (1, .int (nI j1)), (2, .int (nI z2)), (3, .int (nI a1)), (4, .int (nI a2)), (5, .int (y5)), (7, .int (nI a7))]) hx hb d_Mo_serialByte_215 hl (by decide) rfl (fun ls hl => ?_)
              exact hJ_217 _ _ _ _ _ (a1) (a2) y5 1 (a7) hI hM hF (lv_sub hl [1, 2, 3, 4, 5, 6, 0, 7] rfl) py5 (by decide) (Eq.trans o90 (congrArg nI (show ((z1) : Nat) = _ by omega))) (Eq.trans o91 (congrArg nI (show ((z2) : Nat) = _ by omega))) (Eq.trans o92 (congrArg nI (show ((a1) : Nat) = _ by omega))) (Eq.trans o93 (congrArg nI (show ((a2) : Nat) = _ by omega))) u90 u91 (by omega) (by omega) (by omega) (by omega) hl1 hl0 (fun _ => by omega)
      · have k_133 : z2 = (a7 - 2) := (nI_eq (a := z2) (b := (a7 - 2)) (by omega) (by omega)).mp c_121
        refine lv_iload_n hx hb d_Mo_serialByte_166 rfl (lv_at hl 1 rfl) ?_
        refine lv_aload_n hx hb d_Mo_serialByte_167 rfl (lv_at hl 0 rfl) ?_
        refine lv_iload hx hb d_Mo_serialByte_168 (lv_at hl 5 rfl) ?_
        refine lv_if_eq (tgt := 177) hx hb d_Mo_serialByte_170 (by decide) (fun c_134 => ?_) (fun c_134 => ?_)
        · have k_135 := hl0 c_134
          refine lv_iconst (v := 1) hx hb d_Mo_serialByte_177 (by decide) ?_
          refine lv_iload_n hx hb d_Mo_serialByte_178 rfl (lv_at hl 2 rfl) ?_
          refine sm_iP hI (va_runV (As := [.int (1), .int (nI z2)]) (rest := [.int (nI j1)]) ⟨hx, hb, hml, hown, hts⟩ (c_Mo_sum l D ca ad L _ _ _ hM (1) (by omega) (z2) (by omega)) (kv_Mo_sum hts rfl rfl (hts _ tw_1585) ⟨Nat.le_of_ble_eq_true rfl, Nat.le_of_ble_eq_true rfl⟩) (pv_Mo hI hE hM) rfl rfl hl.1 rfl (lv_room (Nat.le_of_ble_eq_true rfl)) d_Mo_serialByte_179 ⟨Nat.le_of_ble_eq_true rfl, Nat.le_of_ble_eq_true rfl⟩) (fun x_137 H locs p_136 hI => ?_)
          refine lv_icmp_ne (tgt := 189) hx hb d_Mo_serialByte_182 (by decide) (fun c_138 => ?_) (fun c_138 => ?_)
          · refine lv_iconst (v := 0) hx hb d_Mo_serialByte_189 (by decide) ?_
            refine lv_istore (lv' := [(6, .int (0)), (0, .ref (ad 71)), (1, .int (nI j1)), (2, .int (nI z2)), (3, .int (nI a1)), (4, .int (nI a2)), (5, .int (y5)), (7, .int (nI a7))]) hx hb d_Mo_serialByte_190 hl (by decide) rfl (fun ls hl => ?_)
            refine lv_iload_n hx hb d_Mo_serialByte_192 rfl (lv_at hl 3 rfl) ?_
            refine lv_if_le (tgt := 217) hx hb d_Mo_serialByte_193 (by decide) (fun c_139 => ?_) (fun c_139 => ?_)
            · exact absurd c_139 c_112
            · have k_140 : 0 < z2 := Nat.pos_of_ne_zero (fun q => c_139 (by rw [q]; decide))
              refine lv_iload_n hx hb d_Mo_serialByte_196 rfl (lv_at hl 3 rfl) ?_
              refine lv_iload hx hb d_Mo_serialByte_197 (lv_at hl 7 rfl) ?_
              refine lv_iconst (v := 1) hx hb d_Mo_serialByte_199 (by decide) ?_
              refine lv_isub hx hb d_Mo_serialByte_200 ?_
              refine lv_topi (fun x_141 e_142 => ?_)
              obtain rfl : x_141 = nI (a7 - 1) := by rw [e_142]; exact pk_sub (a := a7) (b := 1) (by omega)
              refine lv_icmp_ne (tgt := 217) hx hb d_Mo_serialByte_201 (by decide) (fun c_143 => ?_) (fun c_143 => ?_)
              · have k_144 : ¬ z2 = (a7 - 1) := (fun q => c_143 ((nI_eq (a := z2) (b := (a7 - 1)) (by omega) (by omega)).mpr q))
                exact hJ_217 _ _ _ _ _ (a1) (a2) y5 0 (a7) hI hM hF (lv_sub hl [1, 2, 3, 4, 5, 6, 0, 7] rfl) py5 (by decide) (Eq.trans o90 (congrArg nI (show ((z1) : Nat) = _ by omega))) (Eq.trans o91 (congrArg nI (show ((z2) : Nat) = _ by omega))) (Eq.trans o92 (congrArg nI (show ((a1) : Nat) = _ by omega))) (Eq.trans o93 (congrArg nI (show ((a2) : Nat) = _ by omega))) u90 u91 (by omega) (by omega) (by omega) (by omega) hl1 hl0 (fun h => absurd h (by decide))
              · have k_145 : z2 = (a7 - 1) := (nI_eq (a := z2) (b := (a7 - 1)) (by omega) (by omega)).mp c_143
                refine lv_iload_n hx hb d_Mo_serialByte_204 rfl (lv_at hl 2 rfl) ?_
                refine lv_bipush (v := 22) hx hb d_Mo_serialByte_205 (by decide) ?_
                refine lv_icmp_ne (tgt := 214) hx hb d_Mo_serialByte_207 (by decide) (fun c_146 => ?_) (fun c_146 => ?_)
                · have k_147 : ¬ j1 = 22 := (fun q => c_146 ((nI_eq (a := j1) (b := 22) (by omega) (by omega)).mpr q))
                  refine lv_iconst (v := 0) hx hb d_Mo_serialByte_214 (by decide) ?_
                  refine lv_istore (lv' := [(6, .int (0)), (0, .ref (ad 71)), (1, .int (nI j1)), (2, .int (nI z2)), (3, .int (nI a1)), (4, .int (nI a2)), (5, .int (y5)), (7, .int (nI a7))]) hx hb d_Mo_serialByte_215 hl (by decide) rfl (fun ls hl => ?_)
                  exact hJ_217 _ _ _ _ _ (a1) (a2) y5 0 (a7) hI hM hF (lv_sub hl [1, 2, 3, 4, 5, 6, 0, 7] rfl) py5 (by decide) (Eq.trans o90 (congrArg nI (show ((z1) : Nat) = _ by omega))) (Eq.trans o91 (congrArg nI (show ((z2) : Nat) = _ by omega))) (Eq.trans o92 (congrArg nI (show ((a1) : Nat) = _ by omega))) (Eq.trans o93 (congrArg nI (show ((a2) : Nat) = _ by omega))) u90 u91 (by omega) (by omega) (by omega) (by omega) hl1 hl0 (fun h => absurd h (by decide))
                · have k_148 : j1 = 22 := (nI_eq (a := j1) (b := 22) (by omega) (by omega)).mp c_146
                  refine lv_iconst (v := 1) hx hb d_Mo_serialByte_210 (by decide) ?_
                  refine lv_goto (tgt := 215) hx hb d_Mo_serialByte_211 (by decide) ?_
                  refine lv_istore (lv' := [(6, .int (1)), (0, .ref (ad 71)), (1, .int (nI j1)), (2, .int (nI z2)), (3, .int (nI a1)), (4, .int (nI a2)), (5, .int (y5)), (7, .int (nI a7))]) hx hb d_Mo_serialByte_215 hl (by decide) rfl (fun ls hl => ?_)
                  exact hJ_217 _ _ _ _ _ (a1) (a2) y5 1 (a7) hI hM hF (lv_sub hl [1, 2, 3, 4, 5, 6, 0, 7] rfl) py5 (by decide) (Eq.trans o90 (congrArg nI (show ((z1) : Nat) = _ by omega))) (Eq.trans o91 (congrArg nI (show ((z2) : Nat) = _ by omega))) (Eq.trans o92 (congrArg nI (show ((a1) : Nat) = _ by omega))) (Eq.trans o93 (congrArg nI (show ((a2) : Nat) = _ by omega))) u90 u91 (by omega) (by omega) (by omega) (by omega) hl1 hl0 (fun _ => by omega)
          · refine lv_iconst (v := 1) hx hb d_Mo_serialByte_185 (by decide) ?_
            refine lv_goto (tgt := 190) hx hb d_Mo_serialByte_186 (by decide) ?_
            refine lv_istore (lv' := [(6, .int (1)), (0, .ref (ad 71)), (1, .int (nI j1)), (2, .int (nI z2)), (3, .int (nI a1)), (4, .int (nI a2)), (5, .int (y5)), (7, .int (nI a7))]) hx hb d_Mo_serialByte_190 hl (by decide) rfl (fun ls hl => ?_)
            refine lv_iload_n hx hb d_Mo_serialByte_192 rfl (lv_at hl 3 rfl) ?_
            refine lv_if_le (tgt := 217) hx hb d_Mo_serialByte_193 (by decide) (fun c_149 => ?_) (fun c_149 => ?_)
            · exact absurd c_149 c_112
            · have k_150 : 0 < z2 := Nat.pos_of_ne_zero (fun q => c_149 (by rw [q]; decide))
              refine lv_iload_n hx hb d_Mo_serialByte_196 rfl (lv_at hl 3 rfl) ?_
              refine lv_iload hx hb d_Mo_serialByte_197 (lv_at hl 7 rfl) ?_
              refine lv_iconst (v := 1) hx hb d_Mo_serialByte_199 (by decide) ?_
              refine lv_isub hx hb d_Mo_serialByte_200 ?_
              refine lv_topi (fun x_151 e_152 => ?_)
              obtain rfl : x_151 = nI (a7 - 1) := by rw [e_152]; exact pk_sub (a := a7) (b := 1) (by omega)
              refine lv_icmp_ne (tgt := 217) hx hb d_Mo_serialByte_201 (by decide) (fun c_153 => ?_) (fun c_153 => ?_)
              · have k_154 : ¬ z2 = (a7 - 1) := (fun q => c_153 ((nI_eq (a := z2) (b := (a7 - 1)) (by omega) (by omega)).mpr q))
                exact hJ_217 _ _ _ _ _ (a1) (a2) y5 1 (a7) hI hM hF (lv_sub hl [1, 2, 3, 4, 5, 6, 0, 7] rfl) py5 (by decide) (Eq.trans o90 (congrArg nI (show ((z1) : Nat) = _ by omega))) (Eq.trans o91 (congrArg nI (show ((z2) : Nat) = _ by omega))) (Eq.trans o92 (congrArg nI (show ((a1) : Nat) = _ by omega))) (Eq.trans o93 (congrArg nI (show ((a2) : Nat) = _ by omega))) u90 u91 (by omega) (by omega) (by omega) (by omega) hl1 hl0 (fun _ => by omega)
              · have k_155 : z2 = (a7 - 1) := (nI_eq (a := z2) (b := (a7 - 1)) (by omega) (by omega)).mp c_153
                refine lv_iload_n hx hb d_Mo_serialByte_204 rfl (lv_at hl 2 rfl) ?_
                refine lv_bipush (v := 22) hx hb d_Mo_serialByte_205 (by decide) ?_
                refine lv_icmp_ne (tgt := 214) hx hb d_Mo_serialByte_207 (by decide) (fun c_156 => ?_) (fun c_156 => ?_)
                · have k_157 : ¬ j1 = 22 := (fun q => c_156 ((nI_eq (a := j1) (b := 22) (by omega) (by omega)).mpr q))
                  refine lv_iconst (v := 0) hx hb d_Mo_serialByte_214 (by decide) ?_
                  refine lv_istore (lv' := [(6, .int (0)), (0, .ref (ad 71)), (1, .int (nI j1)), (2, .int (nI z2)), (3, .int (nI a1)), (4, .int (nI a2)), (5, .int (y5)), (7, .int (nI a7))]) hx hb d_Mo_serialByte_215 hl (by decide) rfl (fun ls hl => ?_)
                  exact hJ_217 _ _ _ _ _ (a1) (a2) y5 0 (a7) hI hM hF (lv_sub hl [1, 2, 3, 4, 5, 6, 0, 7] rfl) py5 (by decide) (Eq.trans o90 (congrArg nI (show ((z1) : Nat) = _ by omega))) (Eq.trans o91 (congrArg nI (show ((z2) : Nat) = _ by omega))) (Eq.trans o92 (congrArg nI (show ((a1) : Nat) = _ by omega))) (Eq.trans o93 (congrArg nI (show ((a2) : Nat) = _ by omega))) u90 u91 (by omega) (by omega) (by omega) (by omega) hl1 hl0 (fun h => absurd h (by decide))
                · have k_158 : j1 = 22 := (nI_eq (a := j1) (b := 22) (by omega) (by omega)).mp c_156
                  refine lv_iconst (v := 1) hx hb d_Mo_serialByte_210 (by decide) ?_
                  refine lv_goto (tgt := 215) hx hb d_Mo_serialByte_211 (by decide) ?_
                  refine lv_istore (lv' := [(6, .int (1)), (0, .ref (ad 71)), (1, .int (nI j1)), (2, .int (nI z2)), (3, .int (nI a1)), (4, .int (nI a2)), (5, .int (y5)), (7, .int (nI a7))]) hx hb d_Mo_serialByte_215 hl (by decide) rfl (fun ls hl => ?_)
                  exact hJ_217 _ _ _ _ _ (a1) (a2) y5 1 (a7) hI hM hF (lv_sub hl [1, 2, 3, 4, 5, 6, 0, 7] rfl) py5 (by decide) (Eq.trans o90 (congrArg nI (show ((z1) : Nat) = _ by omega))) (Eq.trans o91 (congrArg nI (show ((z2) : Nat) = _ by omega))) (Eq.trans o92 (congrArg nI (show ((a1) : Nat) = _ by omega))) (Eq.trans o93 (congrArg nI (show ((a2) : Nat) = _ by omega))) u90 u91 (by omega) (by omega) (by omega) (by omega) hl1 hl0 (fun _ => by omega)
        · have k_159 := hl1 (py5.resolve_left c_134)
          refine lv_iconst (v := 4) hx hb d_Mo_serialByte_173 (by decide) ?_
          refine lv_goto (tgt := 178) hx hb d_Mo_serialByte_174 (by decide) ?_
          refine lv_iload_n hx hb d_Mo_serialByte_178 rfl (lv_at hl 2 rfl) ?_
          refine sm_iP hI (va_runV (As := [.int (4), .int (nI z2)]) (rest := [.int (nI j1)]) ⟨hx, hb, hml, hown, hts⟩ (c_Mo_sum l D ca ad L _ _ _ hM (4) (by omega) (z2) (by omega)) (kv_Mo_sum hts rfl rfl (hts _ tw_1585) ⟨Nat.le_of_ble_eq_true rfl, Nat.le_of_ble_eq_true rfl⟩) (pv_Mo hI hE hM) rfl rfl hl.1 rfl (lv_room (Nat.le_of_ble_eq_true rfl)) d_Mo_serialByte_179 ⟨Nat.le_of_ble_eq_true rfl, Nat.le_of_ble_eq_true rfl⟩) (fun x_161 H locs p_160 hI => ?_)
          refine lv_icmp_ne (tgt := 189) hx hb d_Mo_serialByte_182 (by decide) (fun c_162 => ?_) (fun c_162 => ?_)
          · refine lv_iconst (v := 0) hx hb d_Mo_serialByte_189 (by decide) ?_
            refine lv_istore (lv' := [(6, .int (0)), (0, .ref (ad 71)), (1, .int (nI j1)), (2, .int (nI z2)), (3, .int (nI a1)), (4, .int (nI a2)), (5, .int (y5)), (7, .int (nI a7))]) hx hb d_Mo_serialByte_190 hl (by decide) rfl (fun ls hl => ?_)
            refine lv_iload_n hx hb d_Mo_serialByte_192 rfl (lv_at hl 3 rfl) ?_
            refine lv_if_le (tgt := 217) hx hb d_Mo_serialByte_193 (by decide) (fun c_163 => ?_) (fun c_163 => ?_)
            · exact absurd c_163 c_112
            · have k_164 : 0 < z2 := Nat.pos_of_ne_zero (fun q => c_163 (by rw [q]; decide))
              refine lv_iload_n hx hb d_Mo_serialByte_196 rfl (lv_at hl 3 rfl) ?_
              refine lv_iload hx hb d_Mo_serialByte_197 (lv_at hl 7 rfl) ?_
              refine lv_iconst (v := 1) hx hb d_Mo_serialByte_199 (by decide) ?_
              refine lv_isub hx hb d_Mo_serialByte_200 ?_
              refine lv_topi (fun x_165 e_166 => ?_)
              obtain rfl : x_165 = nI (a7 - 1) := by rw [e_166]; exact pk_sub (a := a7) (b := 1) (by omega)
              refine lv_icmp_ne (tgt := 217) hx hb d_Mo_serialByte_201 (by decide) (fun c_167 => ?_) (fun c_167 => ?_)
              · have k_168 : ¬ z2 = (a7 - 1) := (fun q => c_167 ((nI_eq (a := z2) (b := (a7 - 1)) (by omega) (by omega)).mpr q))
                exact hJ_217 _ _ _ _ _ (a1) (a2) y5 0 (a7) hI hM hF (lv_sub hl [1, 2, 3, 4, 5, 6, 0, 7] rfl) py5 (by decide) (Eq.trans o90 (congrArg nI (show ((z1) : Nat) = _ by omega))) (Eq.trans o91 (congrArg nI (show ((z2) : Nat) = _ by omega))) (Eq.trans o92 (congrArg nI (show ((a1) : Nat) = _ by omega))) (Eq.trans o93 (congrArg nI (show ((a2) : Nat) = _ by omega))) u90 u91 (by omega) (by omega) (by omega) (by omega) hl1 hl0 (fun h => absurd h (by decide))
              · have k_169 : z2 = (a7 - 1) := (nI_eq (a := z2) (b := (a7 - 1)) (by omega) (by omega)).mp c_167
                refine lv_iload_n hx hb d_Mo_serialByte_204 rfl (lv_at hl 2 rfl) ?_
                refine lv_bipush (v := 22) hx hb d_Mo_serialByte_205 (by decide) ?_
                refine lv_icmp_ne (tgt := 214) hx hb d_Mo_serialByte_207 (by decide) (fun c_170 => ?_) (fun c_170 => ?_)
                · have k_171 : ¬ j1 = 22 := (fun q => c_170 ((nI_eq (a := j1) (b := 22) (by omega) (by omega)).mpr q))
                  refine lv_iconst (v := 0) hx hb d_Mo_serialByte_214 (by decide) ?_
                  refine lv_istore (lv' := [(6, .int (0)), (0, .ref (ad 71)), (1, .int (nI j1)), (2, .int (nI z2)), (3, .int (nI a1)), (4, .int (nI a2)), (5, .int (y5)), (7, .int (nI a7))]) hx hb d_Mo_serialByte_215 hl (by decide) rfl (fun ls hl => ?_)
                  exact hJ_217 _ _ _ _ _ (a1) (a2) y5 0 (a7) hI hM hF (lv_sub hl [1, 2, 3, 4, 5, 6, 0, 7] rfl) py5 (by decide) (Eq.trans o90 (congrArg nI (show ((z1) : Nat) = _ by omega))) (Eq.trans o91 (congrArg nI (show ((z2) : Nat) = _ by omega))) (Eq.trans o92 (congrArg nI (show ((a1) : Nat) = _ by omega))) (Eq.trans o93 (congrArg nI (show ((a2) : Nat) = _ by omega))) u90 u91 (by omega) (by omega) (by omega) (by omega) hl1 hl0 (fun h => absurd h (by decide))
                · have k_172 : j1 = 22 := (nI_eq (a := j1) (b := 22) (by omega) (by omega)).mp c_170
                  refine lv_iconst (v := 1) hx hb d_Mo_serialByte_210 (by decide) ?_
                  refine lv_goto (tgt := 215) hx hb d_Mo_serialByte_211 (by decide) ?_
                  refine lv_istore (lv' := [(6, .int (1)), (0, .ref (ad 71)), (1, .int (nI j1)), (2, .int (nI z2)), (3, .int (nI a1)), (4, .int (nI a2)), (5, .int (y5)), (7, .int (nI a7))]) hx hb d_Mo_serialByte_215 hl (by decide) rfl (fun ls hl => ?_)
                  exact hJ_217 _ _ _ _ _ (a1) (a2) y5 1 (a7) hI hM hF (lv_sub hl [1, 2, 3, 4, 5, 6, 0, 7] rfl) py5 (by decide) (Eq.trans o90 (congrArg nI (show ((z1) : Nat) = _ by omega))) (Eq.trans o91 (congrArg nI (show ((z2) : Nat) = _ by omega))) (Eq.trans o92 (congrArg nI (show ((a1) : Nat) = _ by omega))) (Eq.trans o93 (congrArg nI (show ((a2) : Nat) = _ by omega))) u90 u91 (by omega) (by omega) (by omega) (by omega) hl1 hl0 (fun _ => by omega)
          · refine lv_iconst (v := 1) hx hb d_Mo_serialByte_185 (by decide) ?_
            refine lv_goto (tgt := 190) hx hb d_Mo_serialByte_186 (by decide) ?_
            refine lv_istore (lv' := [(6, .int (1)), (0, .ref (ad 71)), (1, .int (nI j1)), (2, .int (nI z2)), (3, .int (nI a1)), (4, .int (nI a2)), (5, .int (y5)), (7, .int (nI a7))]) hx hb d_Mo_serialByte_190 hl (by decide) rfl (fun ls hl => ?_)
            refine lv_iload_n hx hb d_Mo_serialByte_192 rfl (lv_at hl 3 rfl) ?_
            refine lv_if_le (tgt := 217) hx hb d_Mo_serialByte_193 (by decide) (fun c_173 => ?_) (fun c_173 => ?_)
            · exact absurd c_173 c_112
            · have k_174 : 0 < z2 := Nat.pos_of_ne_zero (fun q => c_173 (by rw [q]; decide))
              refine lv_iload_n hx hb d_Mo_serialByte_196 rfl (lv_at hl 3 rfl) ?_
              refine lv_iload hx hb d_Mo_serialByte_197 (lv_at hl 7 rfl) ?_
              refine lv_iconst (v := 1) hx hb d_Mo_serialByte_199 (by decide) ?_
              refine lv_isub hx hb d_Mo_serialByte_200 ?_
              refine lv_topi (fun x_175 e_176 => ?_)
              obtain rfl : x_175 = nI (a7 - 1) := by rw [e_176]; exact pk_sub (a := a7) (b := 1) (by omega)
              refine lv_icmp_ne (tgt := 217) hx hb d_Mo_serialByte_201 (by decide) (fun c_177 => ?_) (fun c_177 => ?_)
              · have k_178 : ¬ z2 = (a7 - 1) := (fun q => c_177 ((nI_eq (a := z2) (b := (a7 - 1)) (by omega) (by omega)).mpr q))
                exact hJ_217 _ _ _ _ _ (a1) (a2) y5 1 (a7) hI hM hF (lv_sub hl [1, 2, 3, 4, 5, 6, 0, 7] rfl) py5 (by decide) (Eq.trans o90 (congrArg nI (show ((z1) : Nat) = _ by omega))) (Eq.trans o91 (congrArg nI (show ((z2) : Nat) = _ by omega))) (Eq.trans o92 (congrArg nI (show ((a1) : Nat) = _ by omega))) (Eq.trans o93 (congrArg nI (show ((a2) : Nat) = _ by omega))) u90 u91 (by omega) (by omega) (by omega) (by omega) hl1 hl0 (fun _ => by omega)
              · have k_179 : z2 = (a7 - 1) := (nI_eq (a := z2) (b := (a7 - 1)) (by omega) (by omega)).mp c_177
                refine lv_iload_n hx hb d_Mo_serialByte_204 rfl (lv_at hl 2 rfl) ?_
                refine lv_bipush (v := 22) hx hb d_Mo_serialByte_205 (by decide) ?_
                refine lv_icmp_ne (tgt := 214) hx hb d_Mo_serialByte_207 (by decide) (fun c_180 => ?_) (fun c_180 => ?_)
                · have k_181 : ¬ j1 = 22 := (fun q => c_180 ((nI_eq (a := j1) (b := 22) (by omega) (by omega)).mpr q))
                  refine lv_iconst (v := 0) hx hb d_Mo_serialByte_214 (by decide) ?_
                  refine lv_istore (lv' := [(6, .int (0)), (0, .ref (ad 71)), (1, .int (nI j1)), (2, .int (nI z2)), (3, .int (nI a1)), (4, .int (nI a2)), (5, .int (y5)), (7, .int (nI a7))]) hx hb d_Mo_serialByte_215 hl (by decide) rfl (fun ls hl => ?_)
                  exact hJ_217 _ _ _ _ _ (a1) (a2) y5 0 (a7) hI hM hF (lv_sub hl [1, 2, 3, 4, 5, 6, 0, 7] rfl) py5 (by decide) (Eq.trans o90 (congrArg nI (show ((z1) : Nat) = _ by omega))) (Eq.trans o91 (congrArg nI (show ((z2) : Nat) = _ by omega))) (Eq.trans o92 (congrArg nI (show ((a1) : Nat) = _ by omega))) (Eq.trans o93 (congrArg nI (show ((a2) : Nat) = _ by omega))) u90 u91 (by omega) (by omega) (by omega) (by omega) hl1 hl0 (fun h => absurd h (by decide))
                · have k_182 : j1 = 22 := (nI_eq (a := j1) (b := 22) (by omega) (by omega)).mp c_180
                  refine lv_iconst (v := 1) hx hb d_Mo_serialByte_210 (by decide) ?_
                  refine lv_goto (tgt := 215) hx hb d_Mo_serialByte_211 (by decide) ?_
                  refine lv_istore (lv' := [(6, .int (1)), (0, .ref (ad 71)), (1, .int (nI j1)), (2, .int (nI z2)), (3, .int (nI a1)), (4, .int (nI a2)), (5, .int (y5)), (7, .int (nI a7))]) hx hb d_Mo_serialByte_215 hl (by decide) rfl (fun ls hl => ?_)
                  exact hJ_217 _ _ _ _ _ (a1) (a2) y5 1 (a7) hI hM hF (lv_sub hl [1, 2, 3, 4, 5, 6, 0, 7] rfl) py5 (by decide) (Eq.trans o90 (congrArg nI (show ((z1) : Nat) = _ by omega))) (Eq.trans o91 (congrArg nI (show ((z2) : Nat) = _ by omega))) (Eq.trans o92 (congrArg nI (show ((a1) : Nat) = _ by omega))) (Eq.trans o93 (congrArg nI (show ((a2) : Nat) = _ by omega))) u90 u91 (by omega) (by omega) (by omega) (by omega) hl1 hl0 (fun _ => by omega)
  refine lv_aload_n hx hb d_Mo_serialByte_0 rfl (lv_at hl 0 rfl) ?_
  refine mq_get (k := 18) (v := .ref (ad 18)) hx hb hts hown hI hM (by decide) rfl rfl (hts _ tw_1187) d_Mo_serialByte_1 ?_
  refine lv_iconst (v := 3) hx hb d_Mo_serialByte_4 (by decide) ?_
  refine mq_iald (k := 18) (j := 3) (v := nI z2) hx hb hI hM (by decide) rfl (by show 3 < 4; omega) (by decide) o1 d_Mo_serialByte_5 ?_
  refine lv_istore_n (lv' := [(2, .int (nI z2)), (0, .ref (ad 71)), (1, .int (nI j1))]) hx hb d_Mo_serialByte_6 rfl hl (by decide) rfl (fun ls hl => ?_)
  refine lv_aload_n hx hb d_Mo_serialByte_7 rfl (lv_at hl 1 rfl) ?_
  refine mq_get (k := 17) (v := .ref (ad 17)) hx hb hts hown hI hM (by decide) rfl rfl (hts _ tw_1186) d_Mo_serialByte_8 ?_
  refine lv_sipush (v := 810) hx hb d_Mo_serialByte_11 (by decide) ?_
  refine lv_iload_n hx hb d_Mo_serialByte_14 rfl (lv_at hl 0 rfl) ?_
  refine lv_iadd hx hb d_Mo_serialByte_15 ?_
  refine lv_topi (fun x_183 e_184 => ?_)
  obtain rfl : x_183 = nI (810 + z2) := by rw [e_184]; exact nI_add _ _
  refine lv_iload_n hx hb d_Mo_serialByte_16 rfl (lv_at hl 2 rfl) ?_
  refine mq_iast (k := 17) (j := (810 + z2)) (x := nI j1) hx hb hI hM (by decide) rfl (by show (810 + z2) < 1080; omega) (by decide) ⟨j1, by omega, by omega, rfl⟩ d_Mo_serialByte_17 (fun H locs f σ_185 e_186 hI hM => ?_)
  have hF := mq_fr_ug hF e_186 rfl (Or.inl rfl)
  have o_187 : σ_185.1 56 = nI z1 := by rw [e_186]; exact o0
  have o_188 : σ_185.2.2.1 18 (3) = nI z2 := by rw [e_186]; exact o1
  have u_189 := IH_fr (mq_fr_ug (X := [17]) mq_fr_rf e_186 rfl (Or.inl rfl)) (by decide) u0
  have u_190 : BIa σ_185 := BIa_w e_186 (by omega) u1
  refine lv_aload_n hx hb d_Mo_serialByte_18 rfl (lv_at hl 1 rfl) ?_
  refine lv_iconst (v := 3) hx hb d_Mo_serialByte_19 (by decide) ?_
  refine lv_iconst (v := 0) hx hb d_Mo_serialByte_20 (by decide) ?_
  refine sm_iP hI (va_runV (As := [.int (3), .int (0)]) (rest := []) ⟨hx, hb, hml, hown, hts⟩ (c_Mo_byteIn l D ca ad L _ _ _ hM (3) (by omega) (0) (by omega)) (kv_Mo_byteIn hts rfl rfl (hts _ tw_1580) ⟨Nat.le_of_ble_eq_true rfl, Nat.le_of_ble_eq_true rfl⟩) (pv_Mo hI hE hM) rfl rfl hl.1 rfl (lv_room (Nat.le_of_ble_eq_true rfl)) d_Mo_serialByte_21 ⟨Nat.le_of_ble_eq_true rfl, Nat.le_of_ble_eq_true rfl⟩) (fun x_192 H locs p_191 hI => ?_)
  obtain ⟨n_193, rfl, h_194, h_195, h_196⟩ := p_191
  refine lv_istore_n (lv' := [(3, .int (nI n_193)), (2, .int (nI z2)), (0, .ref (ad 71)), (1, .int (nI j1))]) hx hb d_Mo_serialByte_24 rfl hl (by decide) rfl (fun ls hl => ?_)
  refine lv_aload_n hx hb d_Mo_serialByte_25 rfl (lv_at hl 2 rfl) ?_
  refine lv_iconst (v := 3) hx hb d_Mo_serialByte_26 (by decide) ?_
  refine lv_iconst (v := 1) hx hb d_Mo_serialByte_27 (by decide) ?_
  refine sm_iP hI (va_runV (As := [.int (3), .int (1)]) (rest := []) ⟨hx, hb, hml, hown, hts⟩ (c_Mo_byteIn l D ca ad L _ _ _ hM (3) (by omega) (1) (by omega)) (kv_Mo_byteIn hts rfl rfl (hts _ tw_1580) ⟨Nat.le_of_ble_eq_true rfl, Nat.le_of_ble_eq_true rfl⟩) (pv_Mo hI hE hM) rfl rfl hl.1 rfl (lv_room (Nat.le_of_ble_eq_true rfl)) d_Mo_serialByte_28 ⟨Nat.le_of_ble_eq_true rfl, Nat.le_of_ble_eq_true rfl⟩) (fun x_198 H locs p_197 hI => ?_)
  obtain ⟨n_199, rfl, h_200, h_201, h_202⟩ := p_197
  have hs0 := sb_0 u2 o1 hy q1 e_186 h_196 h_202 (by omega) (by omega)
  refine lv_istore (lv' := [(4, .int (nI n_199)), (3, .int (nI n_193)), (2, .int (nI z2)), (0, .ref (ad 71)), (1, .int (nI j1))]) hx hb d_Mo_serialByte_31 hl (by decide) rfl (fun ls hl => ?_)
  refine lv_iload_n hx hb d_Mo_serialByte_33 rfl (lv_at hl 1 rfl) ?_
  refine lv_bipush (v := 104) hx hb d_Mo_serialByte_34 (by decide) ?_
  refine lv_icmp_ne (tgt := 43) hx hb d_Mo_serialByte_36 (by decide) (fun c_203 => ?_) (fun c_203 => ?_)
  · have k_204 : ¬ n_193 = 104 := (fun q => c_203 ((nI_eq (a := n_193) (b := 104) (by omega) (by omega)).mpr q))
    refine lv_iconst (v := 0) hx hb d_Mo_serialByte_43 (by decide) ?_
    refine lv_istore (lv' := [(5, .int (0)), (4, .int (nI n_199)), (3, .int (nI n_193)), (2, .int (nI z2)), (0, .ref (ad 71)), (1, .int (nI j1))]) hx hb d_Mo_serialByte_44 hl (by decide) rfl (fun ls hl => ?_)
    refine lv_iload_n hx hb d_Mo_serialByte_46 rfl (lv_at hl 3 rfl) ?_
    refine lv_if_gt (tgt := 62) hx hb d_Mo_serialByte_47 (by decide) (fun c_205 => ?_) (fun c_205 => ?_)
    · have k_206 : 0 < z2 := Nat.pos_of_ne_zero (fun q => absurd c_205 (by rw [q]; decide))
      refine lv_iconst (v := 1) hx hb d_Mo_serialByte_62 (by decide) ?_
      refine lv_goto (tgt := 67) hx hb d_Mo_serialByte_63 (by decide) ?_
      refine lv_istore (lv' := [(6, .int (1)), (5, .int (0)), (4, .int (nI n_199)), (3, .int (nI n_193)), (2, .int (nI z2)), (0, .ref (ad 71)), (1, .int (nI j1))]) hx hb d_Mo_serialByte_67 hl (by decide) rfl (fun ls hl => ?_)
      refine lv_iload hx hb d_Mo_serialByte_69 (lv_at hl 1 rfl) ?_
      refine lv_if_eq (tgt := 82) hx hb d_Mo_serialByte_71 (by decide) (fun c_207 => ?_) (fun c_207 => ?_)
      · refine lv_iconst (v := 5) hx hb d_Mo_serialByte_82 (by decide) ?_
        refine lv_istore (lv' := [(7, .int (5)), (6, .int (1)), (5, .int (0)), (4, .int (nI n_199)), (3, .int (nI n_193)), (2, .int (nI z2)), (0, .ref (ad 71)), (1, .int (nI j1))]) hx hb d_Mo_serialByte_83 hl (by decide) rfl (fun ls hl => ?_)
        refine lv_iload_n hx hb d_Mo_serialByte_85 rfl (lv_at hl 5 rfl) ?_
        refine lv_if_le (tgt := 154) hx hb d_Mo_serialByte_86 (by decide) (fun c_208 => ?_) (fun c_208 => ?_)
        · have k_210 : z2 = 0 := nz_le c_208 (by omega)
          exact hJ_154 _ _ _ _ _ (n_193) (n_199) 0 1 (5) hI hM hF (lv_sub hl [6, 7, 5, 4, 3, 2, 1, 0] rfl) (by decide) (by decide) (Eq.trans o_187 (congrArg nI (show (z1 : Nat) = _ by omega))) (Eq.trans o_188 (congrArg nI (show (z2 : Nat) = _ by omega))) (Eq.trans h_196 (congrArg nI (show (n_193 : Nat) = _ by omega))) (Eq.trans h_202 (congrArg nI (show (n_199 : Nat) = _ by omega))) u_189 u_190 (by omega) (by omega) (by omega) (by omega) (fun h => absurd h (by decide)) (fun _ => by omega) (fun _ => by omega)
        · have k_211 : 0 < z2 := Nat.pos_of_ne_zero (fun q => c_208 (by rw [q]; decide))
          refine lv_iload hx hb d_Mo_serialByte_89 (lv_at hl 2 rfl) ?_
          refine lv_if_eq (tgt := 154) hx hb d_Mo_serialByte_91 (by decide) (fun c_212 => ?_) (fun c_212 => ?_)
          · exact hJ_154 _ _ _ _ _ (n_193) (n_199) 0 1 (5) hI hM hF (lv_sub hl [6, 7, 5, 4, 3, 2, 1, 0] rfl) (by decide) (by decide) (Eq.trans o_187 (congrArg nI (show (z1 : Nat) = _ by omega))) (Eq.trans o_188 (congrArg nI (show (z2 : Nat) = _ by omega))) (Eq.trans h_196 (congrArg nI (show (n_193 : Nat) = _ by omega))) (Eq.trans h_202 (congrArg nI (show (n_199 : Nat) = _ by omega))) u_189 u_190 (by omega) (by omega) (by omega) (by omega) (fun h => absurd h (by decide)) (fun _ => by omega) (fun _ => by omega)
          · exact absurd c_212 (by decide)
      · exact absurd c_207 (by decide)
    · have k_214 : z2 = 0 := nz_le (nz_ng c_205) (by omega)
      refine lv_iload_n hx hb d_Mo_serialByte_50 rfl (lv_at hl 5 rfl) ?_
      refine lv_bipush (v := 16) hx hb d_Mo_serialByte_51 (by decide) ?_
      refine lv_icmp_eq (tgt := 62) hx hb d_Mo_serialByte_53 (by decide) (fun c_215 => ?_) (fun c_215 => ?_)
      · have k_216 : j1 = 16 := (nI_eq (a := j1) (b := 16) (by omega) (by omega)).mp c_215
        refine lv_iconst (v := 1) hx hb d_Mo_serialByte_62 (by decide) ?_
        refine lv_goto (tgt := 67) hx hb d_Mo_serialByte_63 (by decide) ?_
        refine lv_istore (lv' := [(6, .int (1)), (5, .int (0)), (4, .int (nI n_199)), (3, .int (nI n_193)), (2, .int (nI z2)), (0, .ref (ad 71)), (1, .int (nI j1))]) hx hb d_Mo_serialByte_67 hl (by decide) rfl (fun ls hl => ?_)
        refine lv_iload hx hb d_Mo_serialByte_69 (lv_at hl 1 rfl) ?_
        refine lv_if_eq (tgt := 82) hx hb d_Mo_serialByte_71 (by decide) (fun c_217 => ?_) (fun c_217 => ?_)
        · refine lv_iconst (v := 5) hx hb d_Mo_serialByte_82 (by decide) ?_
          refine lv_istore (lv' := [(7, .int (5)), (6, .int (1)), (5, .int (0)), (4, .int (nI n_199)), (3, .int (nI n_193)), (2, .int (nI z2)), (0, .ref (ad 71)), (1, .int (nI j1))]) hx hb d_Mo_serialByte_83 hl (by decide) rfl (fun ls hl => ?_)
          refine lv_iload_n hx hb d_Mo_serialByte_85 rfl (lv_at hl 5 rfl) ?_
          refine lv_if_le (tgt := 154) hx hb d_Mo_serialByte_86 (by decide) (fun c_218 => ?_) (fun c_218 => ?_)
          · have k_220 : z2 = 0 := nz_le c_218 (by omega)
            exact hJ_154 _ _ _ _ _ (n_193) (n_199) 0 1 (5) hI hM hF (lv_sub hl [6, 7, 5, 4, 3, 2, 1, 0] rfl) (by decide) (by decide) (Eq.trans o_187 (congrArg nI (show (z1 : Nat) = _ by omega))) (Eq.trans o_188 (congrArg nI (show (z2 : Nat) = _ by omega))) (Eq.trans h_196 (congrArg nI (show (n_193 : Nat) = _ by omega))) (Eq.trans h_202 (congrArg nI (show (n_199 : Nat) = _ by omega))) u_189 u_190 (by omega) (by omega) (by omega) (by omega) (fun h => absurd h (by decide)) (fun _ => by omega) (fun _ => by omega)
          · have k_221 : 0 < z2 := Nat.pos_of_ne_zero (fun q => c_218 (by rw [q]; decide))
            refine lv_iload hx hb d_Mo_serialByte_89 (lv_at hl 2 rfl) ?_
            refine lv_if_eq (tgt := 154) hx hb d_Mo_serialByte_91 (by decide) (fun c_222 => ?_) (fun c_222 => ?_)
            · exact hJ_154 _ _ _ _ _ (n_193) (n_199) 0 1 (5) hI hM hF (lv_sub hl [6, 7, 5, 4, 3, 2, 1, 0] rfl) (by decide) (by decide) (Eq.trans o_187 (congrArg nI (show (z1 : Nat) = _ by omega))) (Eq.trans o_188 (congrArg nI (show (z2 : Nat) = _ by omega))) (Eq.trans h_196 (congrArg nI (show (n_193 : Nat) = _ by omega))) (Eq.trans h_202 (congrArg nI (show (n_199 : Nat) = _ by omega))) u_189 u_190 (by omega) (by omega) (by omega) (by omega) (fun h => absurd h (by decide)) (fun _ => by omega) (fun _ => by omega)
            · exact absurd c_222 (by decide)
        · exact absurd c_217 (by decide)
      · have k_223 : ¬ j1 = 16 := (fun q => c_215 ((nI_eq (a := j1) (b := 16) (by omega) (by omega)).mpr q))
        refine lv_iload_n hx hb d_Mo_serialByte_56 rfl (lv_at hl 5 rfl) ?_
        refine lv_bipush (v := 104) hx hb d_Mo_serialByte_57 (by decide) ?_
        refine lv_icmp_ne (tgt := 66) hx hb d_Mo_serialByte_59 (by decide) (fun c_224 => ?_) (fun c_224 => ?_)
        · have k_225 : ¬ j1 = 104 := (fun q => c_224 ((nI_eq (a := j1) (b := 104) (by omega) (by omega)).mpr q))
          refine lv_iconst (v := 0) hx hb d_Mo_serialByte_66 (by decide) ?_
          refine lv_istore (lv' := [(6, .int (0)), (5, .int (0)), (4, .int (nI n_199)), (3, .int (nI n_193)), (2, .int (nI z2)), (0, .ref (ad 71)), (1, .int (nI j1))]) hx hb d_Mo_serialByte_67 hl (by decide) rfl (fun ls hl => ?_)
          refine lv_iload hx hb d_Mo_serialByte_69 (lv_at hl 1 rfl) ?_
          refine lv_if_eq (tgt := 82) hx hb d_Mo_serialByte_71 (by decide) (fun c_226 => ?_) (fun c_226 => ?_)
          · refine lv_iconst (v := 5) hx hb d_Mo_serialByte_82 (by decide) ?_
            refine lv_istore (lv' := [(7, .int (5)), (6, .int (0)), (5, .int (0)), (4, .int (nI n_199)), (3, .int (nI n_193)), (2, .int (nI z2)), (0, .ref (ad 71)), (1, .int (nI j1))]) hx hb d_Mo_serialByte_83 hl (by decide) rfl (fun ls hl => ?_)
            refine lv_iload_n hx hb d_Mo_serialByte_85 rfl (lv_at hl 5 rfl) ?_
            refine lv_if_le (tgt := 154) hx hb d_Mo_serialByte_86 (by decide) (fun c_227 => ?_) (fun c_227 => ?_)
            · have k_229 : z2 = 0 := nz_le c_227 (by omega)
              exact hJ_154 _ _ _ _ _ (n_193) (n_199) 0 0 (5) hI hM hF (lv_sub hl [6, 7, 5, 4, 3, 2, 1, 0] rfl) (by decide) (by decide) (Eq.trans o_187 (congrArg nI (show (z1 : Nat) = _ by omega))) (Eq.trans o_188 (congrArg nI (show (z2 : Nat) = _ by omega))) (Eq.trans h_196 (congrArg nI (show (n_193 : Nat) = _ by omega))) (Eq.trans h_202 (congrArg nI (show (n_199 : Nat) = _ by omega))) u_189 u_190 (by omega) (by omega) (by omega) (by omega) (fun h => absurd h (by decide)) (fun _ => by omega) (fun h => absurd h (by decide))
            · have k_230 : 0 < z2 := Nat.pos_of_ne_zero (fun q => c_227 (by rw [q]; decide))
              refine lv_iload hx hb d_Mo_serialByte_89 (lv_at hl 2 rfl) ?_
              refine lv_if_eq (tgt := 154) hx hb d_Mo_serialByte_91 (by decide) (fun c_231 => ?_) (fun c_231 => ?_)
              · exact hJ_154 _ _ _ _ _ (n_193) (n_199) 0 0 (5) hI hM hF (lv_sub hl [6, 7, 5, 4, 3, 2, 1, 0] rfl) (by decide) (by decide) (Eq.trans o_187 (congrArg nI (show (z1 : Nat) = _ by omega))) (Eq.trans o_188 (congrArg nI (show (z2 : Nat) = _ by omega))) (Eq.trans h_196 (congrArg nI (show (n_193 : Nat) = _ by omega))) (Eq.trans h_202 (congrArg nI (show (n_199 : Nat) = _ by omega))) u_189 u_190 (by omega) (by omega) (by omega) (by omega) (fun h => absurd h (by decide)) (fun _ => by omega) (fun h => absurd h (by decide))
              · exact absurd c_231 (by decide)
          · exact absurd c_226 (by decide)
        · have k_232 : j1 = 104 := (nI_eq (a := j1) (b := 104) (by omega) (by omega)).mp c_224
          refine lv_iconst (v := 1) hx hb d_Mo_serialByte_62 (by decide) ?_
          refine lv_goto (tgt := 67) hx hb d_Mo_serialByte_63 (by decide) ?_
          refine lv_istore (lv' := [(6, .int (1)), (5, .int (0)), (4, .int (nI n_199)), (3, .int (nI n_193)), (2, .int (nI z2)), (0, .ref (ad 71)), (1, .int (nI j1))]) hx hb d_Mo_serialByte_67 hl (by decide) rfl (fun ls hl => ?_)
          refine lv_iload hx hb d_Mo_serialByte_69 (lv_at hl 1 rfl) ?_
          refine lv_if_eq (tgt := 82) hx hb d_Mo_serialByte_71 (by decide) (fun c_233 => ?_) (fun c_233 => ?_)
          · refine lv_iconst (v := 5) hx hb d_Mo_serialByte_82 (by decide) ?_
            refine lv_istore (lv' := [(7, .int (5)), (6, .int (1)), (5, .int (0)), (4, .int (nI n_199)), (3, .int (nI n_193)), (2, .int (nI z2)), (0, .ref (ad 71)), (1, .int (nI j1))]) hx hb d_Mo_serialByte_83 hl (by decide) rfl (fun ls hl => ?_)
            refine lv_iload_n hx hb d_Mo_serialByte_85 rfl (lv_at hl 5 rfl) ?_
            refine lv_if_le (tgt := 154) hx hb d_Mo_serialByte_86 (by decide) (fun c_234 => ?_) (fun c_234 => ?_)
            · have k_236 : z2 = 0 := nz_le c_234 (by omega)
              exact hJ_154 _ _ _ _ _ (n_193) (n_199) 0 1 (5) hI hM hF (lv_sub hl [6, 7, 5, 4, 3, 2, 1, 0] rfl) (by decide) (by decide) (Eq.trans o_187 (congrArg nI (show (z1 : Nat) = _ by omega))) (Eq.trans o_188 (congrArg nI (show (z2 : Nat) = _ by omega))) (Eq.trans h_196 (congrArg nI (show (n_193 : Nat) = _ by omega))) (Eq.trans h_202 (congrArg nI (show (n_199 : Nat) = _ by omega))) u_189 u_190 (by omega) (by omega) (by omega) (by omega) (fun h => absurd h (by decide)) (fun _ => by omega) (fun _ => by omega)
            · have k_237 : 0 < z2 := Nat.pos_of_ne_zero (fun q => c_234 (by rw [q]; decide))
              refine lv_iload hx hb d_Mo_serialByte_89 (lv_at hl 2 rfl) ?_
              refine lv_if_eq (tgt := 154) hx hb d_Mo_serialByte_91 (by decide) (fun c_238 => ?_) (fun c_238 => ?_)
              · exact hJ_154 _ _ _ _ _ (n_193) (n_199) 0 1 (5) hI hM hF (lv_sub hl [6, 7, 5, 4, 3, 2, 1, 0] rfl) (by decide) (by decide) (Eq.trans o_187 (congrArg nI (show (z1 : Nat) = _ by omega))) (Eq.trans o_188 (congrArg nI (show (z2 : Nat) = _ by omega))) (Eq.trans h_196 (congrArg nI (show (n_193 : Nat) = _ by omega))) (Eq.trans h_202 (congrArg nI (show (n_199 : Nat) = _ by omega))) u_189 u_190 (by omega) (by omega) (by omega) (by omega) (fun h => absurd h (by decide)) (fun _ => by omega) (fun _ => by omega)
              · exact absurd c_238 (by decide)
          · exact absurd c_233 (by decide)
  · have k_239 : n_193 = 104 := (nI_eq (a := n_193) (b := 104) (by omega) (by omega)).mp c_203
    refine lv_iconst (v := 1) hx hb d_Mo_serialByte_39 (by decide) ?_
    refine lv_goto (tgt := 44) hx hb d_Mo_serialByte_40 (by decide) ?_
    refine lv_istore (lv' := [(5, .int (1)), (4, .int (nI n_199)), (3, .int (nI n_193)), (2, .int (nI z2)), (0, .ref (ad 71)), (1, .int (nI j1))]) hx hb d_Mo_serialByte_44 hl (by decide) rfl (fun ls hl => ?_)
    refine lv_iload_n hx hb d_Mo_serialByte_46 rfl (lv_at hl 3 rfl) ?_
    refine lv_if_gt (tgt := 62) hx hb d_Mo_serialByte_47 (by decide) (fun c_240 => ?_) (fun c_240 => ?_)
    · have k_241 : 0 < z2 := Nat.pos_of_ne_zero (fun q => absurd c_240 (by rw [q]; decide))
      refine lv_iconst (v := 1) hx hb d_Mo_serialByte_62 (by decide) ?_
      refine lv_goto (tgt := 67) hx hb d_Mo_serialByte_63 (by decide) ?_
      refine lv_istore (lv' := [(6, .int (1)), (5, .int (1)), (4, .int (nI n_199)), (3, .int (nI n_193)), (2, .int (nI z2)), (0, .ref (ad 71)), (1, .int (nI j1))]) hx hb d_Mo_serialByte_67 hl (by decide) rfl (fun ls hl => ?_)
      refine lv_iload hx hb d_Mo_serialByte_69 (lv_at hl 1 rfl) ?_
      refine lv_if_eq (tgt := 82) hx hb d_Mo_serialByte_71 (by decide) (fun c_242 => ?_) (fun c_242 => ?_)
      · exact absurd c_242 (by decide)
      · refine lv_bipush (v := 6) hx hb d_Mo_serialByte_74 (by decide) ?_
        refine lv_iload hx hb d_Mo_serialByte_76 (lv_at hl 2 rfl) ?_
        refine lv_iadd hx hb d_Mo_serialByte_78 ?_
        refine lv_topi (fun x_243 e_244 => ?_)
        obtain rfl : x_243 = nI (6 + n_199) := by rw [e_244]; exact nI_add _ _
        refine lv_goto (tgt := 83) hx hb d_Mo_serialByte_79 (by decide) ?_
        refine lv_istore (lv' := [(7, .int (nI (6 + n_199))), (6, .int (1)), (5, .int (1)), (4, .int (nI n_199)), (3, .int (nI n_193)), (2, .int (nI z2)), (0, .ref (ad 71)), (1, .int (nI j1))]) hx hb d_Mo_serialByte_83 hl (by decide) rfl (fun ls hl => ?_)
        refine lv_iload_n hx hb d_Mo_serialByte_85 rfl (lv_at hl 5 rfl) ?_
        refine lv_if_le (tgt := 154) hx hb d_Mo_serialByte_86 (by decide) (fun c_245 => ?_) (fun c_245 => ?_)
        · have k_247 : z2 = 0 := nz_le c_245 (by omega)
          exact hJ_154 _ _ _ _ _ (n_193) (n_199) 1 1 ((6 + n_199)) hI hM hF (lv_sub hl [6, 7, 5, 4, 3, 2, 1, 0] rfl) (by decide) (by decide) (Eq.trans o_187 (congrArg nI (show (z1 : Nat) = _ by omega))) (Eq.trans o_188 (congrArg nI (show (z2 : Nat) = _ by omega))) (Eq.trans h_196 (congrArg nI (show (n_193 : Nat) = _ by omega))) (Eq.trans h_202 (congrArg nI (show (n_199 : Nat) = _ by omega))) u_189 u_190 (by omega) (by omega) (by omega) (by omega) (fun _ => by omega) (fun h => absurd h (by decide)) (fun _ => by omega)
        · have k_248 : 0 < z2 := Nat.pos_of_ne_zero (fun q => c_245 (by rw [q]; decide))
          refine lv_iload hx hb d_Mo_serialByte_89 (lv_at hl 2 rfl) ?_
          refine lv_if_eq (tgt := 154) hx hb d_Mo_serialByte_91 (by decide) (fun c_249 => ?_) (fun c_249 => ?_)
          · exact absurd c_249 (by decide)
          · refine lv_iload_n hx hb d_Mo_serialByte_94 rfl (lv_at hl 5 rfl) ?_
            refine lv_iconst (v := 1) hx hb d_Mo_serialByte_95 (by decide) ?_
            refine lv_icmp_ne (tgt := 113) hx hb d_Mo_serialByte_96 (by decide) (fun c_250 => ?_) (fun c_250 => ?_)
            · have k_251 : ¬ z2 = 1 := (fun q => c_250 ((nI_eq (a := z2) (b := 1) (by omega) (by omega)).mpr q))
              refine lv_iload_n hx hb d_Mo_serialByte_113 rfl (lv_at hl 5 rfl) ?_
              refine lv_iconst (v := 2) hx hb d_Mo_serialByte_114 (by decide) ?_
              refine lv_icmp_ne (tgt := 132) hx hb d_Mo_serialByte_115 (by decide) (fun c_252 => ?_) (fun c_252 => ?_)
              · have k_253 : ¬ z2 = 2 := (fun q => c_252 ((nI_eq (a := z2) (b := 2) (by omega) (by omega)).mpr q))
                refine lv_iload_n hx hb d_Mo_serialByte_132 rfl (lv_at hl 5 rfl) ?_
                refine lv_iconst (v := 3) hx hb d_Mo_serialByte_133 (by decide) ?_
                refine lv_icmp_ne (tgt := 151) hx hb d_Mo_serialByte_134 (by decide) (fun c_254 => ?_) (fun c_254 => ?_)
                · have k_255 : ¬ z2 = 3 := (fun q => c_254 ((nI_eq (a := z2) (b := 3) (by omega) (by omega)).mpr q))
                  refine lv_iconst (v := 1) hx hb d_Mo_serialByte_151 (by decide) ?_
                  refine lv_istore (lv' := [(6, .int (1)), (7, .int (nI (6 + n_199))), (5, .int (1)), (4, .int (nI n_199)), (3, .int (nI n_193)), (2, .int (nI z2)), (0, .ref (ad 71)), (1, .int (nI j1))]) hx hb d_Mo_serialByte_152 hl (by decide) rfl (fun ls hl => ?_)
                  exact hJ_154 _ _ _ _ _ (n_193) (n_199) 1 1 ((6 + n_199)) hI hM hF (lv_sub hl [6, 7, 5, 4, 3, 2, 0, 1] rfl) (by decide) (by decide) (Eq.trans o_187 (congrArg nI (show (z1 : Nat) = _ by omega))) (Eq.trans o_188 (congrArg nI (show (z2 : Nat) = _ by omega))) (Eq.trans h_196 (congrArg nI (show (n_193 : Nat) = _ by omega))) (Eq.trans h_202 (congrArg nI (show (n_199 : Nat) = _ by omega))) u_189 u_190 (by omega) (by omega) (by omega) (by omega) (fun _ => by omega) (fun h => absurd h (by decide)) (fun _ => by omega)
                · have k_256 : z2 = 3 := (nI_eq (a := z2) (b := 3) (by omega) (by omega)).mp c_254
                  refine lv_iload_n hx hb d_Mo_serialByte_137 rfl (lv_at hl 7 rfl) ?_
                  refine lv_bipush (v := 104) hx hb d_Mo_serialByte_138 (by decide) ?_
                  refine lv_icmp_ne (tgt := 147) hx hb d_Mo_serialByte_140 (by decide) (fun c_257 => ?_) (fun c_257 => ?_)
                  · have k_258 : ¬ j1 = 104 := (fun q => c_257 ((nI_eq (a := j1) (b := 104) (by omega) (by omega)).mpr q))
                    refine lv_iconst (v := 0) hx hb d_Mo_serialByte_147 (by decide) ?_
                    refine lv_goto (tgt := 152) hx hb d_Mo_serialByte_148 (by decide) ?_
                    refine lv_istore (lv' := [(6, .int (0)), (7, .int (nI (6 + n_199))), (5, .int (1)), (4, .int (nI n_199)), (3, .int (nI n_193)), (2, .int (nI z2)), (0, .ref (ad 71)), (1, .int (nI j1))]) hx hb d_Mo_serialByte_152 hl (by decide) rfl (fun ls hl => ?_)
                    exact hJ_154 _ _ _ _ _ (n_193) (n_199) 1 0 ((6 + n_199)) hI hM hF (lv_sub hl [6, 7, 5, 4, 3, 2, 0, 1] rfl) (by decide) (by decide) (Eq.trans o_187 (congrArg nI (show (z1 : Nat) = _ by omega))) (Eq.trans o_188 (congrArg nI (show (z2 : Nat) = _ by omega))) (Eq.trans h_196 (congrArg nI (show (n_193 : Nat) = _ by omega))) (Eq.trans h_202 (congrArg nI (show (n_199 : Nat) = _ by omega))) u_189 u_190 (by omega) (by omega) (by omega) (by omega) (fun _ => by omega) (fun h => absurd h (by decide)) (fun h => absurd h (by decide))
                  · have k_259 : j1 = 104 := (nI_eq (a := j1) (b := 104) (by omega) (by omega)).mp c_257
                    refine lv_iconst (v := 1) hx hb d_Mo_serialByte_143 (by decide) ?_
                    refine lv_goto (tgt := 152) hx hb d_Mo_serialByte_144 (by decide) ?_
                    refine lv_istore (lv' := [(6, .int (1)), (7, .int (nI (6 + n_199))), (5, .int (1)), (4, .int (nI n_199)), (3, .int (nI n_193)), (2, .int (nI z2)), (0, .ref (ad 71)), (1, .int (nI j1))]) hx hb d_Mo_serialByte_152 hl (by decide) rfl (fun ls hl => ?_)
                    exact hJ_154 _ _ _ _ _ (n_193) (n_199) 1 1 ((6 + n_199)) hI hM hF (lv_sub hl [6, 7, 5, 4, 3, 2, 0, 1] rfl) (by decide) (by decide) (Eq.trans o_187 (congrArg nI (show (z1 : Nat) = _ by omega))) (Eq.trans o_188 (congrArg nI (show (z2 : Nat) = _ by omega))) (Eq.trans h_196 (congrArg nI (show (n_193 : Nat) = _ by omega))) (Eq.trans h_202 (congrArg nI (show (n_199 : Nat) = _ by omega))) u_189 u_190 (by omega) (by omega) (by omega) (by omega) (fun _ => by omega) (fun h => absurd h (by decide)) (fun _ => by omega)
              · have k_260 : z2 = 2 := (nI_eq (a := z2) (b := 2) (by omega) (by omega)).mp c_252
                refine lv_iload_n hx hb d_Mo_serialByte_118 rfl (lv_at hl 7 rfl) ?_
                refine lv_iload hx hb d_Mo_serialByte_119 (lv_at hl 3 rfl) ?_
                refine lv_icmp_ne (tgt := 128) hx hb d_Mo_serialByte_121 (by decide) (fun c_261 => ?_) (fun c_261 => ?_)
                · have k_262 : ¬ j1 = n_199 := (fun q => c_261 ((nI_eq (a := j1) (b := n_199) (by omega) (by omega)).mpr q))
                  refine lv_iconst (v := 0) hx hb d_Mo_serialByte_128 (by decide) ?_
                  refine lv_goto (tgt := 152) hx hb d_Mo_serialByte_129 (by decide) ?_
                  refine lv_istore (lv' := [(6, .int (0)), (7, .int (nI (6 + n_199))), (5, .int (1)), (4, .int (nI n_199)), (3, .int (nI n_193)), (2, .int (nI z2)), (0, .ref (ad 71)), (1, .int (nI j1))]) hx hb d_Mo_serialByte_152 hl (by decide) rfl (fun ls hl => ?_)
                  exact hJ_154 _ _ _ _ _ (n_193) (n_199) 1 0 ((6 + n_199)) hI hM hF (lv_sub hl [6, 7, 5, 4, 3, 2, 0, 1] rfl) (by decide) (by decide) (Eq.trans o_187 (congrArg nI (show (z1 : Nat) = _ by omega))) (Eq.trans o_188 (congrArg nI (show (z2 : Nat) = _ by omega))) (Eq.trans h_196 (congrArg nI (show (n_193 : Nat) = _ by omega))) (Eq.trans h_202 (congrArg nI (show (n_199 : Nat) = _ by omega))) u_189 u_190 (by omega) (by omega) (by omega) (by omega) (fun _ => by omega) (fun h => absurd h (by decide)) (fun h => absurd h (by decide))
                · have k_263 : j1 = n_199 := (nI_eq (a := j1) (b := n_199) (by omega) (by omega)).mp c_261
                  refine lv_iconst (v := 1) hx hb d_Mo_serialByte_124 (by decide) ?_
                  refine lv_goto (tgt := 152) hx hb d_Mo_serialByte_125 (by decide) ?_
                  refine lv_istore (lv' := [(6, .int (1)), (7, .int (nI (6 + n_199))), (5, .int (1)), (4, .int (nI n_199)), (3, .int (nI n_193)), (2, .int (nI z2)), (0, .ref (ad 71)), (1, .int (nI j1))]) hx hb d_Mo_serialByte_152 hl (by decide) rfl (fun ls hl => ?_)
                  exact hJ_154 _ _ _ _ _ (n_193) (n_199) 1 1 ((6 + n_199)) hI hM hF (lv_sub hl [6, 7, 5, 4, 3, 2, 0, 1] rfl) (by decide) (by decide) (Eq.trans o_187 (congrArg nI (show (z1 : Nat) = _ by omega))) (Eq.trans o_188 (congrArg nI (show (z2 : Nat) = _ by omega))) (Eq.trans h_196 (congrArg nI (show (n_193 : Nat) = _ by omega))) (Eq.trans h_202 (congrArg nI (show (n_199 : Nat) = _ by omega))) u_189 u_190 (by omega) (by omega) (by omega) (by omega) (fun _ => by omega) (fun h => absurd h (by decide)) (fun _ => by omega)
            · have k_264 : z2 = 1 := (nI_eq (a := z2) (b := 1) (by omega) (by omega)).mp c_250
              refine lv_iload_n hx hb d_Mo_serialByte_99 rfl (lv_at hl 7 rfl) ?_
              refine lv_i2l hx hb d_Mo_serialByte_100 rfl ?_
              refine lv_topl (fun x_265 e_266 => ?_)
              refine lv_ldc2 (v := 3) hx hb hown (hts _ tw_1405) d_Mo_serialByte_101 ?_
              refine lv_ldc2 (v := 253) hx hb hown (hts _ tw_1584) d_Mo_serialByte_104 ?_
              refine sm_iP hI (va_runS (As := [.long (x_265), .long (3), .long (253)]) (rest := []) ⟨hx, hb, hml, hown, hts⟩ (c_Mo_in l D ca L _ _ x_265 3 253) (ks_Mo_in hts rfl rfl (hts _ tw_1393) ⟨Nat.le_of_ble_eq_true rfl, Nat.le_of_ble_eq_true rfl⟩) (sm_preS hI hE) rfl rfl hl.1 rfl (lv_room (Nat.le_of_ble_eq_true rfl)) d_Mo_serialByte_107 ⟨Nat.le_of_ble_eq_true rfl, Nat.le_of_ble_eq_true rfl⟩) (fun x_268 H locs p_267 hI => ?_)
              rcases in_nat (n := j1) (lo := 3) (hi := 253) p_267 e_266 (by decide) (by decide) (by omega) with ⟨rfl, h_269⟩ | ⟨rfl, h_269⟩
              · refine lv_goto (tgt := 152) hx hb d_Mo_serialByte_110 (by decide) ?_
                refine lv_istore (lv' := [(6, .int (1)), (7, .int (nI (6 + n_199))), (5, .int (1)), (4, .int (nI n_199)), (3, .int (nI n_193)), (2, .int (nI z2)), (0, .ref (ad 71)), (1, .int (nI j1))]) hx hb d_Mo_serialByte_152 hl (by decide) rfl (fun ls hl => ?_)
                exact hJ_154 _ _ _ _ _ (n_193) (n_199) 1 1 ((6 + n_199)) hI hM hF (lv_sub hl [6, 7, 5, 4, 3, 2, 0, 1] rfl) (by decide) (by decide) (Eq.trans o_187 (congrArg nI (show (z1 : Nat) = _ by omega))) (Eq.trans o_188 (congrArg nI (show (z2 : Nat) = _ by omega))) (Eq.trans h_196 (congrArg nI (show (n_193 : Nat) = _ by omega))) (Eq.trans h_202 (congrArg nI (show (n_199 : Nat) = _ by omega))) u_189 u_190 (by omega) (by omega) (by omega) (by omega) (fun _ => by omega) (fun h => absurd h (by decide)) (fun _ => by omega)
              · refine lv_goto (tgt := 152) hx hb d_Mo_serialByte_110 (by decide) ?_
                refine lv_istore (lv' := [(6, .int (0)), (7, .int (nI (6 + n_199))), (5, .int (1)), (4, .int (nI n_199)), (3, .int (nI n_193)), (2, .int (nI z2)), (0, .ref (ad 71)), (1, .int (nI j1))]) hx hb d_Mo_serialByte_152 hl (by decide) rfl (fun ls hl => ?_)
                exact hJ_154 _ _ _ _ _ (n_193) (n_199) 1 0 ((6 + n_199)) hI hM hF (lv_sub hl [6, 7, 5, 4, 3, 2, 0, 1] rfl) (by decide) (by decide) (Eq.trans o_187 (congrArg nI (show (z1 : Nat) = _ by omega))) (Eq.trans o_188 (congrArg nI (show (z2 : Nat) = _ by omega))) (Eq.trans h_196 (congrArg nI (show (n_193 : Nat) = _ by omega))) (Eq.trans h_202 (congrArg nI (show (n_199 : Nat) = _ by omega))) u_189 u_190 (by omega) (by omega) (by omega) (by omega) (fun _ => by omega) (fun h => absurd h (by decide)) (fun h => absurd h (by decide))
    · have k_275 : z2 = 0 := nz_le (nz_ng c_240) (by omega)
      refine lv_iload_n hx hb d_Mo_serialByte_50 rfl (lv_at hl 5 rfl) ?_
      refine lv_bipush (v := 16) hx hb d_Mo_serialByte_51 (by decide) ?_
      refine lv_icmp_eq (tgt := 62) hx hb d_Mo_serialByte_53 (by decide) (fun c_276 => ?_) (fun c_276 => ?_)
      · have k_277 : j1 = 16 := (nI_eq (a := j1) (b := 16) (by omega) (by omega)).mp c_276
        refine lv_iconst (v := 1) hx hb d_Mo_serialByte_62 (by decide) ?_
        refine lv_goto (tgt := 67) hx hb d_Mo_serialByte_63 (by decide) ?_
        refine lv_istore (lv' := [(6, .int (1)), (5, .int (1)), (4, .int (nI n_199)), (3, .int (nI n_193)), (2, .int (nI z2)), (0, .ref (ad 71)), (1, .int (nI j1))]) hx hb d_Mo_serialByte_67 hl (by decide) rfl (fun ls hl => ?_)
        refine lv_iload hx hb d_Mo_serialByte_69 (lv_at hl 1 rfl) ?_
        refine lv_if_eq (tgt := 82) hx hb d_Mo_serialByte_71 (by decide) (fun c_278 => ?_) (fun c_278 => ?_)
        · exact absurd c_278 (by decide)
        · refine lv_bipush (v := 6) hx hb d_Mo_serialByte_74 (by decide) ?_
          refine lv_iload hx hb d_Mo_serialByte_76 (lv_at hl 2 rfl) ?_
          refine lv_iadd hx hb d_Mo_serialByte_78 ?_
          refine lv_topi (fun x_279 e_280 => ?_)
          obtain rfl : x_279 = nI (6 + n_199) := by rw [e_280]; exact nI_add _ _
          refine lv_goto (tgt := 83) hx hb d_Mo_serialByte_79 (by decide) ?_
          refine lv_istore (lv' := [(7, .int (nI (6 + n_199))), (6, .int (1)), (5, .int (1)), (4, .int (nI n_199)), (3, .int (nI n_193)), (2, .int (nI z2)), (0, .ref (ad 71)), (1, .int (nI j1))]) hx hb d_Mo_serialByte_83 hl (by decide) rfl (fun ls hl => ?_)
          refine lv_iload_n hx hb d_Mo_serialByte_85 rfl (lv_at hl 5 rfl) ?_
          refine lv_if_le (tgt := 154) hx hb d_Mo_serialByte_86 (by decide) (fun c_281 => ?_) (fun c_281 => ?_)
          · have k_283 : z2 = 0 := nz_le c_281 (by omega)
            exact hJ_154 _ _ _ _ _ (n_193) (n_199) 1 1 ((6 + n_199)) hI hM hF (lv_sub hl [6, 7, 5, 4, 3, 2, 1, 0] rfl) (by decide) (by decide) (Eq.trans o_187 (congrArg nI (show (z1 : Nat) = _ by omega))) (Eq.trans o_188 (congrArg nI (show (z2 : Nat) = _ by omega))) (Eq.trans h_196 (congrArg nI (show (n_193 : Nat) = _ by omega))) (Eq.trans h_202 (congrArg nI (show (n_199 : Nat) = _ by omega))) u_189 u_190 (by omega) (by omega) (by omega) (by omega) (fun _ => by omega) (fun h => absurd h (by decide)) (fun _ => by omega)
          · have k_284 : 0 < z2 := Nat.pos_of_ne_zero (fun q => c_281 (by rw [q]; decide))
            refine lv_iload hx hb d_Mo_serialByte_89 (lv_at hl 2 rfl) ?_
            refine lv_if_eq (tgt := 154) hx hb d_Mo_serialByte_91 (by decide) (fun c_285 => ?_) (fun c_285 => ?_)
            · exact absurd c_285 (by decide)
            · refine lv_iload_n hx hb d_Mo_serialByte_94 rfl (lv_at hl 5 rfl) ?_
              refine lv_iconst (v := 1) hx hb d_Mo_serialByte_95 (by decide) ?_
              refine lv_icmp_ne (tgt := 113) hx hb d_Mo_serialByte_96 (by decide) (fun c_286 => ?_) (fun c_286 => ?_)
              · have k_287 : ¬ z2 = 1 := (fun q => c_286 ((nI_eq (a := z2) (b := 1) (by omega) (by omega)).mpr q))
                refine lv_iload_n hx hb d_Mo_serialByte_113 rfl (lv_at hl 5 rfl) ?_
                refine lv_iconst (v := 2) hx hb d_Mo_serialByte_114 (by decide) ?_
                refine lv_icmp_ne (tgt := 132) hx hb d_Mo_serialByte_115 (by decide) (fun c_288 => ?_) (fun c_288 => ?_)
                · have k_289 : ¬ z2 = 2 := (fun q => c_288 ((nI_eq (a := z2) (b := 2) (by omega) (by omega)).mpr q))
                  refine lv_iload_n hx hb d_Mo_serialByte_132 rfl (lv_at hl 5 rfl) ?_
                  refine lv_iconst (v := 3) hx hb d_Mo_serialByte_133 (by decide) ?_
                  refine lv_icmp_ne (tgt := 151) hx hb d_Mo_serialByte_134 (by decide) (fun c_290 => ?_) (fun c_290 => ?_)
                  · have k_291 : ¬ z2 = 3 := (fun q => c_290 ((nI_eq (a := z2) (b := 3) (by omega) (by omega)).mpr q))
                    refine lv_iconst (v := 1) hx hb d_Mo_serialByte_151 (by decide) ?_
                    refine lv_istore (lv' := [(6, .int (1)), (7, .int (nI (6 + n_199))), (5, .int (1)), (4, .int (nI n_199)), (3, .int (nI n_193)), (2, .int (nI z2)), (0, .ref (ad 71)), (1, .int (nI j1))]) hx hb d_Mo_serialByte_152 hl (by decide) rfl (fun ls hl => ?_)
                    exact hJ_154 _ _ _ _ _ (n_193) (n_199) 1 1 ((6 + n_199)) hI hM hF (lv_sub hl [6, 7, 5, 4, 3, 2, 0, 1] rfl) (by decide) (by decide) (Eq.trans o_187 (congrArg nI (show (z1 : Nat) = _ by omega))) (Eq.trans o_188 (congrArg nI (show (z2 : Nat) = _ by omega))) (Eq.trans h_196 (congrArg nI (show (n_193 : Nat) = _ by omega))) (Eq.trans h_202 (congrArg nI (show (n_199 : Nat) = _ by omega))) u_189 u_190 (by omega) (by omega) (by omega) (by omega) (fun _ => by omega) (fun h => absurd h (by decide)) (fun _ => by omega)
                  · have k_292 : z2 = 3 := (nI_eq (a := z2) (b := 3) (by omega) (by omega)).mp c_290
                    refine lv_iload_n hx hb d_Mo_serialByte_137 rfl (lv_at hl 7 rfl) ?_
                    refine lv_bipush (v := 104) hx hb d_Mo_serialByte_138 (by decide) ?_
                    refine lv_icmp_ne (tgt := 147) hx hb d_Mo_serialByte_140 (by decide) (fun c_293 => ?_) (fun c_293 => ?_)
                    · have k_294 : ¬ j1 = 104 := (fun q => c_293 ((nI_eq (a := j1) (b := 104) (by omega) (by omega)).mpr q))
                      refine lv_iconst (v := 0) hx hb d_Mo_serialByte_147 (by decide) ?_
                      refine lv_goto (tgt := 152) hx hb d_Mo_serialByte_148 (by decide) ?_
                      refine lv_istore (lv' := [(6, .int (0)), (7, .int (nI (6 + n_199))), (5, .int (1)), (4, .int (nI n_199)), (3, .int (nI n_193)), (2, .int (nI z2)), (0, .ref (ad 71)), (1, .int (nI j1))]) hx hb d_Mo_serialByte_152 hl (by decide) rfl (fun ls hl => ?_)
                      exact hJ_154 _ _ _ _ _ (n_193) (n_199) 1 0 ((6 + n_199)) hI hM hF (lv_sub hl [6, 7, 5, 4, 3, 2, 0, 1] rfl) (by decide) (by decide) (Eq.trans o_187 (congrArg nI (show (z1 : Nat) = _ by omega))) (Eq.trans o_188 (congrArg nI (show (z2 : Nat) = _ by omega))) (Eq.trans h_196 (congrArg nI (show (n_193 : Nat) = _ by omega))) (Eq.trans h_202 (congrArg nI (show (n_199 : Nat) = _ by omega))) u_189 u_190 (by omega) (by omega) (by omega) (by omega) (fun _ => by omega) (fun h => absurd h (by decide)) (fun h => absurd h (by decide))
                    · have k_295 : j1 = 104 := (nI_eq (a := j1) (b := 104) (by omega) (by omega)).mp c_293
                      refine lv_iconst (v := 1) hx hb d_Mo_serialByte_143 (by decide) ?_
                      refine lv_goto (tgt := 152) hx hb d_Mo_serialByte_144 (by decide) ?_
                      refine lv_istore (lv' := [(6, .int (1)), (7, .int (nI (6 + n_199))), (5, .int (1)), (4, .int (nI n_199)), (3, .int (nI n_193)), (2, .int (nI z2)), (0, .ref (ad 71)), (1, .int (nI j1))]) hx hb d_Mo_serialByte_152 hl (by decide) rfl (fun ls hl => ?_)
                      exact hJ_154 _ _ _ _ _ (n_193) (n_199) 1 1 ((6 + n_199)) hI hM hF (lv_sub hl [6, 7, 5, 4, 3, 2, 0, 1] rfl) (by decide) (by decide) (Eq.trans o_187 (congrArg nI (show (z1 : Nat) = _ by omega))) (Eq.trans o_188 (congrArg nI (show (z2 : Nat) = _ by omega))) (Eq.trans h_196 (congrArg nI (show (n_193 : Nat) = _ by omega))) (Eq.trans h_202 (congrArg nI (show (n_199 : Nat) = _ by omega))) u_189 u_190 (by omega) (by omega) (by omega) (by omega) (fun _ => by omega) (fun h => absurd h (by decide)) (fun _ => by omega)
                · have k_296 : z2 = 2 := (nI_eq (a := z2) (b := 2) (by omega) (by omega)).mp c_288
                  refine lv_iload_n hx hb d_Mo_serialByte_118 rfl (lv_at hl 7 rfl) ?_
                  refine lv_iload hx hb d_Mo_serialByte_119 (lv_at hl 3 rfl) ?_
                  refine lv_icmp_ne (tgt := 128) hx hb d_Mo_serialByte_121 (by decide) (fun c_297 => ?_) (fun c_297 => ?_)
                  · have k_298 : ¬ j1 = n_199 := (fun q => c_297 ((nI_eq (a := j1) (b := n_199) (by omega) (by omega)).mpr q))
                    refine lv_iconst (v := 0) hx hb d_Mo_serialByte_128 (by decide) ?_
                    refine lv_goto (tgt := 152) hx hb d_Mo_serialByte_129 (by decide) ?_
                    refine lv_istore (lv' := [(6, .int (0)), (7, .int (nI (6 + n_199))), (5, .int (1)), (4, .int (nI n_199)), (3, .int (nI n_193)), (2, .int (nI z2)), (0, .ref (ad 71)), (1, .int (nI j1))]) hx hb d_Mo_serialByte_152 hl (by decide) rfl (fun ls hl => ?_)
                    exact hJ_154 _ _ _ _ _ (n_193) (n_199) 1 0 ((6 + n_199)) hI hM hF (lv_sub hl [6, 7, 5, 4, 3, 2, 0, 1] rfl) (by decide) (by decide) (Eq.trans o_187 (congrArg nI (show (z1 : Nat) = _ by omega))) (Eq.trans o_188 (congrArg nI (show (z2 : Nat) = _ by omega))) (Eq.trans h_196 (congrArg nI (show (n_193 : Nat) = _ by omega))) (Eq.trans h_202 (congrArg nI (show (n_199 : Nat) = _ by omega))) u_189 u_190 (by omega) (by omega) (by omega) (by omega) (fun _ => by omega) (fun h => absurd h (by decide)) (fun h => absurd h (by decide))
                  · have k_299 : j1 = n_199 := (nI_eq (a := j1) (b := n_199) (by omega) (by omega)).mp c_297
                    refine lv_iconst (v := 1) hx hb d_Mo_serialByte_124 (by decide) ?_
                    refine lv_goto (tgt := 152) hx hb d_Mo_serialByte_125 (by decide) ?_
                    refine lv_istore (lv' := [(6, .int (1)), (7, .int (nI (6 + n_199))), (5, .int (1)), (4, .int (nI n_199)), (3, .int (nI n_193)), (2, .int (nI z2)), (0, .ref (ad 71)), (1, .int (nI j1))]) hx hb d_Mo_serialByte_152 hl (by decide) rfl (fun ls hl => ?_)
                    exact hJ_154 _ _ _ _ _ (n_193) (n_199) 1 1 ((6 + n_199)) hI hM hF (lv_sub hl [6, 7, 5, 4, 3, 2, 0, 1] rfl) (by decide) (by decide) (Eq.trans o_187 (congrArg nI (show (z1 : Nat) = _ by omega))) (Eq.trans o_188 (congrArg nI (show (z2 : Nat) = _ by omega))) (Eq.trans h_196 (congrArg nI (show (n_193 : Nat) = _ by omega))) (Eq.trans h_202 (congrArg nI (show (n_199 : Nat) = _ by omega))) u_189 u_190 (by omega) (by omega) (by omega) (by omega) (fun _ => by omega) (fun h => absurd h (by decide)) (fun _ => by omega)
              · have k_300 : z2 = 1 := (nI_eq (a := z2) (b := 1) (by omega) (by omega)).mp c_286
                refine lv_iload_n hx hb d_Mo_serialByte_99 rfl (lv_at hl 7 rfl) ?_
                refine lv_i2l hx hb d_Mo_serialByte_100 rfl ?_
                refine lv_topl (fun x_301 e_302 => ?_)
                refine lv_ldc2 (v := 3) hx hb hown (hts _ tw_1405) d_Mo_serialByte_101 ?_
                refine lv_ldc2 (v := 253) hx hb hown (hts _ tw_1584) d_Mo_serialByte_104 ?_
                refine sm_iP hI (va_runS (As := [.long (x_301), .long (3), .long (253)]) (rest := []) ⟨hx, hb, hml, hown, hts⟩ (c_Mo_in l D ca L _ _ x_301 3 253) (ks_Mo_in hts rfl rfl (hts _ tw_1393) ⟨Nat.le_of_ble_eq_true rfl, Nat.le_of_ble_eq_true rfl⟩) (sm_preS hI hE) rfl rfl hl.1 rfl (lv_room (Nat.le_of_ble_eq_true rfl)) d_Mo_serialByte_107 ⟨Nat.le_of_ble_eq_true rfl, Nat.le_of_ble_eq_true rfl⟩) (fun x_304 H locs p_303 hI => ?_)
                rcases in_nat (n := j1) (lo := 3) (hi := 253) p_303 e_302 (by decide) (by decide) (by omega) with ⟨rfl, h_305⟩ | ⟨rfl, h_305⟩
                · refine lv_goto (tgt := 152) hx hb d_Mo_serialByte_110 (by decide) ?_
                  refine lv_istore (lv' := [(6, .int (1)), (7, .int (nI (6 + n_199))), (5, .int (1)), (4, .int (nI n_199)), (3, .int (nI n_193)), (2, .int (nI z2)), (0, .ref (ad 71)), (1, .int (nI j1))]) hx hb d_Mo_serialByte_152 hl (by decide) rfl (fun ls hl => ?_)
                  exact hJ_154 _ _ _ _ _ (n_193) (n_199) 1 1 ((6 + n_199)) hI hM hF (lv_sub hl [6, 7, 5, 4, 3, 2, 0, 1] rfl) (by decide) (by decide) (Eq.trans o_187 (congrArg nI (show (z1 : Nat) = _ by omega))) (Eq.trans o_188 (congrArg nI (show (z2 : Nat) = _ by omega))) (Eq.trans h_196 (congrArg nI (show (n_193 : Nat) = _ by omega))) (Eq.trans h_202 (congrArg nI (show (n_199 : Nat) = _ by omega))) u_189 u_190 (by omega) (by omega) (by omega) (by omega) (fun _ => by omega) (fun h => absurd h (by decide)) (fun _ => by omega)
                · refine lv_goto (tgt := 152) hx hb d_Mo_serialByte_110 (by decide) ?_
                  refine lv_istore (lv' := [(6, .int (0)), (7, .int (nI (6 + n_199))), (5, .int (1)), (4, .int (nI n_199)), (3, .int (nI n_193)), (2, .int (nI z2)), (0, .ref (ad 71)), (1, .int (nI j1))]) hx hb d_Mo_serialByte_152 hl (by decide) rfl (fun ls hl => ?_)
                  exact hJ_154 _ _ _ _ _ (n_193) (n_199) 1 0 ((6 + n_199)) hI hM hF (lv_sub hl [6, 7, 5, 4, 3, 2, 0, 1] rfl) (by decide) (by decide) (Eq.trans o_187 (congrArg nI (show (z1 : Nat) = _ by omega))) (Eq.trans o_188 (congrArg nI (show (z2 : Nat) = _ by omega))) (Eq.trans h_196 (congrArg nI (show (n_193 : Nat) = _ by omega))) (Eq.trans h_202 (congrArg nI (show (n_199 : Nat) = _ by omega))) u_189 u_190 (by omega) (by omega) (by omega) (by omega) (fun _ => by omega) (fun h => absurd h (by decide)) (fun h => absurd h (by decide))
      · have k_310 : ¬ j1 = 16 := (fun q => c_276 ((nI_eq (a := j1) (b := 16) (by omega) (by omega)).mpr q))
        refine lv_iload_n hx hb d_Mo_serialByte_56 rfl (lv_at hl 5 rfl) ?_
        refine lv_bipush (v := 104) hx hb d_Mo_serialByte_57 (by decide) ?_
        refine lv_icmp_ne (tgt := 66) hx hb d_Mo_serialByte_59 (by decide) (fun c_311 => ?_) (fun c_311 => ?_)
        · have k_312 : ¬ j1 = 104 := (fun q => c_311 ((nI_eq (a := j1) (b := 104) (by omega) (by omega)).mpr q))
          refine lv_iconst (v := 0) hx hb d_Mo_serialByte_66 (by decide) ?_
          refine lv_istore (lv' := [(6, .int (0)), (5, .int (1)), (4, .int (nI n_199)), (3, .int (nI n_193)), (2, .int (nI z2)), (0, .ref (ad 71)), (1, .int (nI j1))]) hx hb d_Mo_serialByte_67 hl (by decide) rfl (fun ls hl => ?_)
          refine lv_iload hx hb d_Mo_serialByte_69 (lv_at hl 1 rfl) ?_
          refine lv_if_eq (tgt := 82) hx hb d_Mo_serialByte_71 (by decide) (fun c_313 => ?_) (fun c_313 => ?_)
          · exact absurd c_313 (by decide)
          · refine lv_bipush (v := 6) hx hb d_Mo_serialByte_74 (by decide) ?_
            refine lv_iload hx hb d_Mo_serialByte_76 (lv_at hl 2 rfl) ?_
            refine lv_iadd hx hb d_Mo_serialByte_78 ?_
            refine lv_topi (fun x_314 e_315 => ?_)
            obtain rfl : x_314 = nI (6 + n_199) := by rw [e_315]; exact nI_add _ _
            refine lv_goto (tgt := 83) hx hb d_Mo_serialByte_79 (by decide) ?_
            refine lv_istore (lv' := [(7, .int (nI (6 + n_199))), (6, .int (0)), (5, .int (1)), (4, .int (nI n_199)), (3, .int (nI n_193)), (2, .int (nI z2)), (0, .ref (ad 71)), (1, .int (nI j1))]) hx hb d_Mo_serialByte_83 hl (by decide) rfl (fun ls hl => ?_)
            refine lv_iload_n hx hb d_Mo_serialByte_85 rfl (lv_at hl 5 rfl) ?_
            refine lv_if_le (tgt := 154) hx hb d_Mo_serialByte_86 (by decide) (fun c_316 => ?_) (fun c_316 => ?_)
            · have k_318 : z2 = 0 := nz_le c_316 (by omega)
              exact hJ_154 _ _ _ _ _ (n_193) (n_199) 1 0 ((6 + n_199)) hI hM hF (lv_sub hl [6, 7, 5, 4, 3, 2, 1, 0] rfl) (by decide) (by decide) (Eq.trans o_187 (congrArg nI (show (z1 : Nat) = _ by omega))) (Eq.trans o_188 (congrArg nI (show (z2 : Nat) = _ by omega))) (Eq.trans h_196 (congrArg nI (show (n_193 : Nat) = _ by omega))) (Eq.trans h_202 (congrArg nI (show (n_199 : Nat) = _ by omega))) u_189 u_190 (by omega) (by omega) (by omega) (by omega) (fun _ => by omega) (fun h => absurd h (by decide)) (fun h => absurd h (by decide))
            · have k_319 : 0 < z2 := Nat.pos_of_ne_zero (fun q => c_316 (by rw [q]; decide))
              refine lv_iload hx hb d_Mo_serialByte_89 (lv_at hl 2 rfl) ?_
              refine lv_if_eq (tgt := 154) hx hb d_Mo_serialByte_91 (by decide) (fun c_320 => ?_) (fun c_320 => ?_)
              · exact absurd c_320 (by decide)
              · refine lv_iload_n hx hb d_Mo_serialByte_94 rfl (lv_at hl 5 rfl) ?_
                refine lv_iconst (v := 1) hx hb d_Mo_serialByte_95 (by decide) ?_
                refine lv_icmp_ne (tgt := 113) hx hb d_Mo_serialByte_96 (by decide) (fun c_321 => ?_) (fun c_321 => ?_)
                · have k_322 : ¬ z2 = 1 := (fun q => c_321 ((nI_eq (a := z2) (b := 1) (by omega) (by omega)).mpr q))
                  refine lv_iload_n hx hb d_Mo_serialByte_113 rfl (lv_at hl 5 rfl) ?_
                  refine lv_iconst (v := 2) hx hb d_Mo_serialByte_114 (by decide) ?_
                  refine lv_icmp_ne (tgt := 132) hx hb d_Mo_serialByte_115 (by decide) (fun c_323 => ?_) (fun c_323 => ?_)
                  · have k_324 : ¬ z2 = 2 := (fun q => c_323 ((nI_eq (a := z2) (b := 2) (by omega) (by omega)).mpr q))
                    refine lv_iload_n hx hb d_Mo_serialByte_132 rfl (lv_at hl 5 rfl) ?_
                    refine lv_iconst (v := 3) hx hb d_Mo_serialByte_133 (by decide) ?_
                    refine lv_icmp_ne (tgt := 151) hx hb d_Mo_serialByte_134 (by decide) (fun c_325 => ?_) (fun c_325 => ?_)
                    · have k_326 : ¬ z2 = 3 := (fun q => c_325 ((nI_eq (a := z2) (b := 3) (by omega) (by omega)).mpr q))
                      refine lv_iconst (v := 1) hx hb d_Mo_serialByte_151 (by decide) ?_
                      refine lv_istore (lv' := [(6, .int (1)), (7, .int (nI (6 + n_199))), (5, .int (1)), (4, .int (nI n_199)), (3, .int (nI n_193)), (2, .int (nI z2)), (0, .ref (ad 71)), (1, .int (nI j1))]) hx hb d_Mo_serialByte_152 hl (by decide) rfl (fun ls hl => ?_)
                      exact hJ_154 _ _ _ _ _ (n_193) (n_199) 1 1 ((6 + n_199)) hI hM hF (lv_sub hl [6, 7, 5, 4, 3, 2, 0, 1] rfl) (by decide) (by decide) (Eq.trans o_187 (congrArg nI (show (z1 : Nat) = _ by omega))) (Eq.trans o_188 (congrArg nI (show (z2 : Nat) = _ by omega))) (Eq.trans h_196 (congrArg nI (show (n_193 : Nat) = _ by omega))) (Eq.trans h_202 (congrArg nI (show (n_199 : Nat) = _ by omega))) u_189 u_190 (by omega) (by omega) (by omega) (by omega) (fun _ => by omega) (fun h => absurd h (by decide)) (fun _ => by omega)
                    · have k_327 : z2 = 3 := (nI_eq (a := z2) (b := 3) (by omega) (by omega)).mp c_325
                      refine lv_iload_n hx hb d_Mo_serialByte_137 rfl (lv_at hl 7 rfl) ?_
                      refine lv_bipush (v := 104) hx hb d_Mo_serialByte_138 (by decide) ?_
                      refine lv_icmp_ne (tgt := 147) hx hb d_Mo_serialByte_140 (by decide) (fun c_328 => ?_) (fun c_328 => ?_)
                      · have k_329 : ¬ j1 = 104 := (fun q => c_328 ((nI_eq (a := j1) (b := 104) (by omega) (by omega)).mpr q))
                        refine lv_iconst (v := 0) hx hb d_Mo_serialByte_147 (by decide) ?_
                        refine lv_goto (tgt := 152) hx hb d_Mo_serialByte_148 (by decide) ?_
                        refine lv_istore (lv' := [(6, .int (0)), (7, .int (nI (6 + n_199))), (5, .int (1)), (4, .int (nI n_199)), (3, .int (nI n_193)), (2, .int (nI z2)), (0, .ref (ad 71)), (1, .int (nI j1))]) hx hb d_Mo_serialByte_152 hl (by decide) rfl (fun ls hl => ?_)
                        exact hJ_154 _ _ _ _ _ (n_193) (n_199) 1 0 ((6 + n_199)) hI hM hF (lv_sub hl [6, 7, 5, 4, 3, 2, 0, 1] rfl) (by decide) (by decide) (Eq.trans o_187 (congrArg nI (show (z1 : Nat) = _ by omega))) (Eq.trans o_188 (congrArg nI (show (z2 : Nat) = _ by omega))) (Eq.trans h_196 (congrArg nI (show (n_193 : Nat) = _ by omega))) (Eq.trans h_202 (congrArg nI (show (n_199 : Nat) = _ by omega))) u_189 u_190 (by omega) (by omega) (by omega) (by omega) (fun _ => by omega) (fun h => absurd h (by decide)) (fun h => absurd h (by decide))
                      · exact absurd c_328 c_311
                  · have k_330 : z2 = 2 := (nI_eq (a := z2) (b := 2) (by omega) (by omega)).mp c_323
                    refine lv_iload_n hx hb d_Mo_serialByte_118 rfl (lv_at hl 7 rfl) ?_
                    refine lv_iload hx hb d_Mo_serialByte_119 (lv_at hl 3 rfl) ?_
                    refine lv_icmp_ne (tgt := 128) hx hb d_Mo_serialByte_121 (by decide) (fun c_331 => ?_) (fun c_331 => ?_)
                    · have k_332 : ¬ j1 = n_199 := (fun q => c_331 ((nI_eq (a := j1) (b := n_199) (by omega) (by omega)).mpr q))
                      refine lv_iconst (v := 0) hx hb d_Mo_serialByte_128 (by decide) ?_
                      refine lv_goto (tgt := 152) hx hb d_Mo_serialByte_129 (by decide) ?_
                      refine lv_istore (lv' := [(6, .int (0)), (7, .int (nI (6 + n_199))), (5, .int (1)), (4, .int (nI n_199)), (3, .int (nI n_193)), (2, .int (nI z2)), (0, .ref (ad 71)), (1, .int (nI j1))]) hx hb d_Mo_serialByte_152 hl (by decide) rfl (fun ls hl => ?_)
                      exact hJ_154 _ _ _ _ _ (n_193) (n_199) 1 0 ((6 + n_199)) hI hM hF (lv_sub hl [6, 7, 5, 4, 3, 2, 0, 1] rfl) (by decide) (by decide) (Eq.trans o_187 (congrArg nI (show (z1 : Nat) = _ by omega))) (Eq.trans o_188 (congrArg nI (show (z2 : Nat) = _ by omega))) (Eq.trans h_196 (congrArg nI (show (n_193 : Nat) = _ by omega))) (Eq.trans h_202 (congrArg nI (show (n_199 : Nat) = _ by omega))) u_189 u_190 (by omega) (by omega) (by omega) (by omega) (fun _ => by omega) (fun h => absurd h (by decide)) (fun h => absurd h (by decide))
                    · have k_333 : j1 = n_199 := (nI_eq (a := j1) (b := n_199) (by omega) (by omega)).mp c_331
                      refine lv_iconst (v := 1) hx hb d_Mo_serialByte_124 (by decide) ?_
                      refine lv_goto (tgt := 152) hx hb d_Mo_serialByte_125 (by decide) ?_
                      refine lv_istore (lv' := [(6, .int (1)), (7, .int (nI (6 + n_199))), (5, .int (1)), (4, .int (nI n_199)), (3, .int (nI n_193)), (2, .int (nI z2)), (0, .ref (ad 71)), (1, .int (nI j1))]) hx hb d_Mo_serialByte_152 hl (by decide) rfl (fun ls hl => ?_)
                      exact hJ_154 _ _ _ _ _ (n_193) (n_199) 1 1 ((6 + n_199)) hI hM hF (lv_sub hl [6, 7, 5, 4, 3, 2, 0, 1] rfl) (by decide) (by decide) (Eq.trans o_187 (congrArg nI (show (z1 : Nat) = _ by omega))) (Eq.trans o_188 (congrArg nI (show (z2 : Nat) = _ by omega))) (Eq.trans h_196 (congrArg nI (show (n_193 : Nat) = _ by omega))) (Eq.trans h_202 (congrArg nI (show (n_199 : Nat) = _ by omega))) u_189 u_190 (by omega) (by omega) (by omega) (by omega) (fun _ => by omega) (fun h => absurd h (by decide)) (fun _ => by omega)
                · have k_334 : z2 = 1 := (nI_eq (a := z2) (b := 1) (by omega) (by omega)).mp c_321
                  refine lv_iload_n hx hb d_Mo_serialByte_99 rfl (lv_at hl 7 rfl) ?_
                  refine lv_i2l hx hb d_Mo_serialByte_100 rfl ?_
                  refine lv_topl (fun x_335 e_336 => ?_)
                  refine lv_ldc2 (v := 3) hx hb hown (hts _ tw_1405) d_Mo_serialByte_101 ?_
                  refine lv_ldc2 (v := 253) hx hb hown (hts _ tw_1584) d_Mo_serialByte_104 ?_
                  refine sm_iP hI (va_runS (As := [.long (x_335), .long (3), .long (253)]) (rest := []) ⟨hx, hb, hml, hown, hts⟩ (c_Mo_in l D ca L _ _ x_335 3 253) (ks_Mo_in hts rfl rfl (hts _ tw_1393) ⟨Nat.le_of_ble_eq_true rfl, Nat.le_of_ble_eq_true rfl⟩) (sm_preS hI hE) rfl rfl hl.1 rfl (lv_room (Nat.le_of_ble_eq_true rfl)) d_Mo_serialByte_107 ⟨Nat.le_of_ble_eq_true rfl, Nat.le_of_ble_eq_true rfl⟩) (fun x_338 H locs p_337 hI => ?_)
                  rcases in_nat (n := j1) (lo := 3) (hi := 253) p_337 e_336 (by decide) (by decide) (by omega) with ⟨rfl, h_339⟩ | ⟨rfl, h_339⟩
                  · refine lv_goto (tgt := 152) hx hb d_Mo_serialByte_110 (by decide) ?_
                    refine lv_istore (lv' := [(6, .int (1)), (7, .int (nI (6 + n_199))), (5, .int (1)), (4, .int (nI n_199)), (3, .int (nI n_193)), (2, .int (nI z2)), (0, .ref (ad 71)), (1, .int (nI j1))]) hx hb d_Mo_serialByte_152 hl (by decide) rfl (fun ls hl => ?_)
                    exact hJ_154 _ _ _ _ _ (n_193) (n_199) 1 1 ((6 + n_199)) hI hM hF (lv_sub hl [6, 7, 5, 4, 3, 2, 0, 1] rfl) (by decide) (by decide) (Eq.trans o_187 (congrArg nI (show (z1 : Nat) = _ by omega))) (Eq.trans o_188 (congrArg nI (show (z2 : Nat) = _ by omega))) (Eq.trans h_196 (congrArg nI (show (n_193 : Nat) = _ by omega))) (Eq.trans h_202 (congrArg nI (show (n_199 : Nat) = _ by omega))) u_189 u_190 (by omega) (by omega) (by omega) (by omega) (fun _ => by omega) (fun h => absurd h (by decide)) (fun _ => by omega)
                  · refine lv_goto (tgt := 152) hx hb d_Mo_serialByte_110 (by decide) ?_
                    refine lv_istore (lv' := [(6, .int (0)), (7, .int (nI (6 + n_199))), (5, .int (1)), (4, .int (nI n_199)), (3, .int (nI n_193)), (2, .int (nI z2)), (0, .ref (ad 71)), (1, .int (nI j1))]) hx hb d_Mo_serialByte_152 hl (by decide) rfl (fun ls hl => ?_)
                    exact hJ_154 _ _ _ _ _ (n_193) (n_199) 1 0 ((6 + n_199)) hI hM hF (lv_sub hl [6, 7, 5, 4, 3, 2, 0, 1] rfl) (by decide) (by decide) (Eq.trans o_187 (congrArg nI (show (z1 : Nat) = _ by omega))) (Eq.trans o_188 (congrArg nI (show (z2 : Nat) = _ by omega))) (Eq.trans h_196 (congrArg nI (show (n_193 : Nat) = _ by omega))) (Eq.trans h_202 (congrArg nI (show (n_199 : Nat) = _ by omega))) u_189 u_190 (by omega) (by omega) (by omega) (by omega) (fun _ => by omega) (fun h => absurd h (by decide)) (fun h => absurd h (by decide))
        · have k_344 : j1 = 104 := (nI_eq (a := j1) (b := 104) (by omega) (by omega)).mp c_311
          refine lv_iconst (v := 1) hx hb d_Mo_serialByte_62 (by decide) ?_
          refine lv_goto (tgt := 67) hx hb d_Mo_serialByte_63 (by decide) ?_
          refine lv_istore (lv' := [(6, .int (1)), (5, .int (1)), (4, .int (nI n_199)), (3, .int (nI n_193)), (2, .int (nI z2)), (0, .ref (ad 71)), (1, .int (nI j1))]) hx hb d_Mo_serialByte_67 hl (by decide) rfl (fun ls hl => ?_)
          refine lv_iload hx hb d_Mo_serialByte_69 (lv_at hl 1 rfl) ?_
          refine lv_if_eq (tgt := 82) hx hb d_Mo_serialByte_71 (by decide) (fun c_345 => ?_) (fun c_345 => ?_)
          · exact absurd c_345 (by decide)
          · refine lv_bipush (v := 6) hx hb d_Mo_serialByte_74 (by decide) ?_
            refine lv_iload hx hb d_Mo_serialByte_76 (lv_at hl 2 rfl) ?_
            refine lv_iadd hx hb d_Mo_serialByte_78 ?_
            refine lv_topi (fun x_346 e_347 => ?_)
            obtain rfl : x_346 = nI (6 + n_199) := by rw [e_347]; exact nI_add _ _
            refine lv_goto (tgt := 83) hx hb d_Mo_serialByte_79 (by decide) ?_
            refine lv_istore (lv' := [(7, .int (nI (6 + n_199))), (6, .int (1)), (5, .int (1)), (4, .int (nI n_199)), (3, .int (nI n_193)), (2, .int (nI z2)), (0, .ref (ad 71)), (1, .int (nI j1))]) hx hb d_Mo_serialByte_83 hl (by decide) rfl (fun ls hl => ?_)
            refine lv_iload_n hx hb d_Mo_serialByte_85 rfl (lv_at hl 5 rfl) ?_
            refine lv_if_le (tgt := 154) hx hb d_Mo_serialByte_86 (by decide) (fun c_348 => ?_) (fun c_348 => ?_)
            · have k_350 : z2 = 0 := nz_le c_348 (by omega)
              exact hJ_154 _ _ _ _ _ (n_193) (n_199) 1 1 ((6 + n_199)) hI hM hF (lv_sub hl [6, 7, 5, 4, 3, 2, 1, 0] rfl) (by decide) (by decide) (Eq.trans o_187 (congrArg nI (show (z1 : Nat) = _ by omega))) (Eq.trans o_188 (congrArg nI (show (z2 : Nat) = _ by omega))) (Eq.trans h_196 (congrArg nI (show (n_193 : Nat) = _ by omega))) (Eq.trans h_202 (congrArg nI (show (n_199 : Nat) = _ by omega))) u_189 u_190 (by omega) (by omega) (by omega) (by omega) (fun _ => by omega) (fun h => absurd h (by decide)) (fun _ => by omega)
            · have k_351 : 0 < z2 := Nat.pos_of_ne_zero (fun q => c_348 (by rw [q]; decide))
              refine lv_iload hx hb d_Mo_serialByte_89 (lv_at hl 2 rfl) ?_
              refine lv_if_eq (tgt := 154) hx hb d_Mo_serialByte_91 (by decide) (fun c_352 => ?_) (fun c_352 => ?_)
              · exact absurd c_352 (by decide)
              · refine lv_iload_n hx hb d_Mo_serialByte_94 rfl (lv_at hl 5 rfl) ?_
                refine lv_iconst (v := 1) hx hb d_Mo_serialByte_95 (by decide) ?_
                refine lv_icmp_ne (tgt := 113) hx hb d_Mo_serialByte_96 (by decide) (fun c_353 => ?_) (fun c_353 => ?_)
                · have k_354 : ¬ z2 = 1 := (fun q => c_353 ((nI_eq (a := z2) (b := 1) (by omega) (by omega)).mpr q))
                  refine lv_iload_n hx hb d_Mo_serialByte_113 rfl (lv_at hl 5 rfl) ?_
                  refine lv_iconst (v := 2) hx hb d_Mo_serialByte_114 (by decide) ?_
                  refine lv_icmp_ne (tgt := 132) hx hb d_Mo_serialByte_115 (by decide) (fun c_355 => ?_) (fun c_355 => ?_)
                  · have k_356 : ¬ z2 = 2 := (fun q => c_355 ((nI_eq (a := z2) (b := 2) (by omega) (by omega)).mpr q))
                    refine lv_iload_n hx hb d_Mo_serialByte_132 rfl (lv_at hl 5 rfl) ?_
                    refine lv_iconst (v := 3) hx hb d_Mo_serialByte_133 (by decide) ?_
                    refine lv_icmp_ne (tgt := 151) hx hb d_Mo_serialByte_134 (by decide) (fun c_357 => ?_) (fun c_357 => ?_)
                    · have k_358 : ¬ z2 = 3 := (fun q => c_357 ((nI_eq (a := z2) (b := 3) (by omega) (by omega)).mpr q))
                      refine lv_iconst (v := 1) hx hb d_Mo_serialByte_151 (by decide) ?_
                      refine lv_istore (lv' := [(6, .int (1)), (7, .int (nI (6 + n_199))), (5, .int (1)), (4, .int (nI n_199)), (3, .int (nI n_193)), (2, .int (nI z2)), (0, .ref (ad 71)), (1, .int (nI j1))]) hx hb d_Mo_serialByte_152 hl (by decide) rfl (fun ls hl => ?_)
                      exact hJ_154 _ _ _ _ _ (n_193) (n_199) 1 1 ((6 + n_199)) hI hM hF (lv_sub hl [6, 7, 5, 4, 3, 2, 0, 1] rfl) (by decide) (by decide) (Eq.trans o_187 (congrArg nI (show (z1 : Nat) = _ by omega))) (Eq.trans o_188 (congrArg nI (show (z2 : Nat) = _ by omega))) (Eq.trans h_196 (congrArg nI (show (n_193 : Nat) = _ by omega))) (Eq.trans h_202 (congrArg nI (show (n_199 : Nat) = _ by omega))) u_189 u_190 (by omega) (by omega) (by omega) (by omega) (fun _ => by omega) (fun h => absurd h (by decide)) (fun _ => by omega)
                    · have k_359 : z2 = 3 := (nI_eq (a := z2) (b := 3) (by omega) (by omega)).mp c_357
                      refine lv_iload_n hx hb d_Mo_serialByte_137 rfl (lv_at hl 7 rfl) ?_
                      refine lv_bipush (v := 104) hx hb d_Mo_serialByte_138 (by decide) ?_
                      refine lv_icmp_ne (tgt := 147) hx hb d_Mo_serialByte_140 (by decide) (fun c_360 => ?_) (fun c_360 => ?_)
                      · exact absurd c_311 c_360
                      · have k_361 : j1 = 104 := (nI_eq (a := j1) (b := 104) (by omega) (by omega)).mp c_360
                        refine lv_iconst (v := 1) hx hb d_Mo_serialByte_143 (by decide) ?_
                        refine lv_goto (tgt := 152) hx hb d_Mo_serialByte_144 (by decide) ?_
                        refine lv_istore (lv' := [(6, .int (1)), (7, .int (nI (6 + n_199))), (5, .int (1)), (4, .int (nI n_199)), (3, .int (nI n_193)), (2, .int (nI z2)), (0, .ref (ad 71)), (1, .int (nI j1))]) hx hb d_Mo_serialByte_152 hl (by decide) rfl (fun ls hl => ?_)
                        exact hJ_154 _ _ _ _ _ (n_193) (n_199) 1 1 ((6 + n_199)) hI hM hF (lv_sub hl [6, 7, 5, 4, 3, 2, 0, 1] rfl) (by decide) (by decide) (Eq.trans o_187 (congrArg nI (show (z1 : Nat) = _ by omega))) (Eq.trans o_188 (congrArg nI (show (z2 : Nat) = _ by omega))) (Eq.trans h_196 (congrArg nI (show (n_193 : Nat) = _ by omega))) (Eq.trans h_202 (congrArg nI (show (n_199 : Nat) = _ by omega))) u_189 u_190 (by omega) (by omega) (by omega) (by omega) (fun _ => by omega) (fun h => absurd h (by decide)) (fun _ => by omega)
                  · have k_362 : z2 = 2 := (nI_eq (a := z2) (b := 2) (by omega) (by omega)).mp c_355
                    refine lv_iload_n hx hb d_Mo_serialByte_118 rfl (lv_at hl 7 rfl) ?_
                    refine lv_iload hx hb d_Mo_serialByte_119 (lv_at hl 3 rfl) ?_
                    refine lv_icmp_ne (tgt := 128) hx hb d_Mo_serialByte_121 (by decide) (fun c_363 => ?_) (fun c_363 => ?_)
                    · have k_364 : ¬ j1 = n_199 := (fun q => c_363 ((nI_eq (a := j1) (b := n_199) (by omega) (by omega)).mpr q))
                      refine lv_iconst (v := 0) hx hb d_Mo_serialByte_128 (by decide) ?_
                      refine lv_goto (tgt := 152) hx hb d_Mo_serialByte_129 (by decide) ?_
                      refine lv_istore (lv' := [(6, .int (0)), (7, .int (nI (6 + n_199))), (5, .int (1)), (4, .int (nI n_199)), (3, .int (nI n_193)), (2, .int (nI z2)), (0, .ref (ad 71)), (1, .int (nI j1))]) hx hb d_Mo_serialByte_152 hl (by decide) rfl (fun ls hl => ?_)
                      exact hJ_154 _ _ _ _ _ (n_193) (n_199) 1 0 ((6 + n_199)) hI hM hF (lv_sub hl [6, 7, 5, 4, 3, 2, 0, 1] rfl) (by decide) (by decide) (Eq.trans o_187 (congrArg nI (show (z1 : Nat) = _ by omega))) (Eq.trans o_188 (congrArg nI (show (z2 : Nat) = _ by omega))) (Eq.trans h_196 (congrArg nI (show (n_193 : Nat) = _ by omega))) (Eq.trans h_202 (congrArg nI (show (n_199 : Nat) = _ by omega))) u_189 u_190 (by omega) (by omega) (by omega) (by omega) (fun _ => by omega) (fun h => absurd h (by decide)) (fun h => absurd h (by decide))
                    · have k_365 : j1 = n_199 := (nI_eq (a := j1) (b := n_199) (by omega) (by omega)).mp c_363
                      refine lv_iconst (v := 1) hx hb d_Mo_serialByte_124 (by decide) ?_
                      refine lv_goto (tgt := 152) hx hb d_Mo_serialByte_125 (by decide) ?_
                      refine lv_istore (lv' := [(6, .int (1)), (7, .int (nI (6 + n_199))), (5, .int (1)), (4, .int (nI n_199)), (3, .int (nI n_193)), (2, .int (nI z2)), (0, .ref (ad 71)), (1, .int (nI j1))]) hx hb d_Mo_serialByte_152 hl (by decide) rfl (fun ls hl => ?_)
                      exact hJ_154 _ _ _ _ _ (n_193) (n_199) 1 1 ((6 + n_199)) hI hM hF (lv_sub hl [6, 7, 5, 4, 3, 2, 0, 1] rfl) (by decide) (by decide) (Eq.trans o_187 (congrArg nI (show (z1 : Nat) = _ by omega))) (Eq.trans o_188 (congrArg nI (show (z2 : Nat) = _ by omega))) (Eq.trans h_196 (congrArg nI (show (n_193 : Nat) = _ by omega))) (Eq.trans h_202 (congrArg nI (show (n_199 : Nat) = _ by omega))) u_189 u_190 (by omega) (by omega) (by omega) (by omega) (fun _ => by omega) (fun h => absurd h (by decide)) (fun _ => by omega)
                · have k_366 : z2 = 1 := (nI_eq (a := z2) (b := 1) (by omega) (by omega)).mp c_353
                  refine lv_iload_n hx hb d_Mo_serialByte_99 rfl (lv_at hl 7 rfl) ?_
                  refine lv_i2l hx hb d_Mo_serialByte_100 rfl ?_
                  refine lv_topl (fun x_367 e_368 => ?_)
                  refine lv_ldc2 (v := 3) hx hb hown (hts _ tw_1405) d_Mo_serialByte_101 ?_
                  refine lv_ldc2 (v := 253) hx hb hown (hts _ tw_1584) d_Mo_serialByte_104 ?_
                  refine sm_iP hI (va_runS (As := [.long (x_367), .long (3), .long (253)]) (rest := []) ⟨hx, hb, hml, hown, hts⟩ (c_Mo_in l D ca L _ _ x_367 3 253) (ks_Mo_in hts rfl rfl (hts _ tw_1393) ⟨Nat.le_of_ble_eq_true rfl, Nat.le_of_ble_eq_true rfl⟩) (sm_preS hI hE) rfl rfl hl.1 rfl (lv_room (Nat.le_of_ble_eq_true rfl)) d_Mo_serialByte_107 ⟨Nat.le_of_ble_eq_true rfl, Nat.le_of_ble_eq_true rfl⟩) (fun x_370 H locs p_369 hI => ?_)
                  rcases in_nat (n := j1) (lo := 3) (hi := 253) p_369 e_368 (by decide) (by decide) (by omega) with ⟨rfl, h_371⟩ | ⟨rfl, h_371⟩
                  · refine lv_goto (tgt := 152) hx hb d_Mo_serialByte_110 (by decide) ?_
                    refine lv_istore (lv' := [(6, .int (1)), (7, .int (nI (6 + n_199))), (5, .int (1)), (4, .int (nI n_199)), (3, .int (nI n_193)), (2, .int (nI z2)), (0, .ref (ad 71)), (1, .int (nI j1))]) hx hb d_Mo_serialByte_152 hl (by decide) rfl (fun ls hl => ?_)
                    exact hJ_154 _ _ _ _ _ (n_193) (n_199) 1 1 ((6 + n_199)) hI hM hF (lv_sub hl [6, 7, 5, 4, 3, 2, 0, 1] rfl) (by decide) (by decide) (Eq.trans o_187 (congrArg nI (show (z1 : Nat) = _ by omega))) (Eq.trans o_188 (congrArg nI (show (z2 : Nat) = _ by omega))) (Eq.trans h_196 (congrArg nI (show (n_193 : Nat) = _ by omega))) (Eq.trans h_202 (congrArg nI (show (n_199 : Nat) = _ by omega))) u_189 u_190 (by omega) (by omega) (by omega) (by omega) (fun _ => by omega) (fun h => absurd h (by decide)) (fun _ => by omega)
                  · refine lv_goto (tgt := 152) hx hb d_Mo_serialByte_110 (by decide) ?_
                    refine lv_istore (lv' := [(6, .int (0)), (7, .int (nI (6 + n_199))), (5, .int (1)), (4, .int (nI n_199)), (3, .int (nI n_193)), (2, .int (nI z2)), (0, .ref (ad 71)), (1, .int (nI j1))]) hx hb d_Mo_serialByte_152 hl (by decide) rfl (fun ls hl => ?_)
                    exact hJ_154 _ _ _ _ _ (n_193) (n_199) 1 0 ((6 + n_199)) hI hM hF (lv_sub hl [6, 7, 5, 4, 3, 2, 0, 1] rfl) (by decide) (by decide) (Eq.trans o_187 (congrArg nI (show (z1 : Nat) = _ by omega))) (Eq.trans o_188 (congrArg nI (show (z2 : Nat) = _ by omega))) (Eq.trans h_196 (congrArg nI (show (n_193 : Nat) = _ by omega))) (Eq.trans h_202 (congrArg nI (show (n_199 : Nat) = _ by omega))) u_189 u_190 (by omega) (by omega) (by omega) (by omega) (fun _ => by omega) (fun h => absurd h (by decide)) (fun h => absurd h (by decide))
