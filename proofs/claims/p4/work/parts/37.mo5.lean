/-! the reference: answers (written by wip/tools) -/
theorem d_Mo_answered_0 : decode b_Mo_answered 0 = .ok (.aload_n 0, 1) := by decide +kernel
theorem d_Mo_answered_1 : decode b_Mo_answered 1 = .ok (.getfield 81, 3) := by decide +kernel
theorem d_Mo_answered_4 : decode b_Mo_answered 4 = .ok (.iload_n 1, 1) := by decide +kernel
theorem d_Mo_answered_5 : decode b_Mo_answered 5 = .ok (.iaload, 1) := by decide +kernel
theorem d_Mo_answered_6 : decode b_Mo_answered 6 = .ok (.bipush 16, 2) := by decide +kernel
theorem d_Mo_answered_8 : decode b_Mo_answered 8 = .ok (.if_icmp .ne 14, 3) := by decide +kernel
theorem d_Mo_answered_11 : decode b_Mo_answered 11 = .ok (.iload_n 1, 1) := by decide +kernel
theorem d_Mo_answered_12 : decode b_Mo_answered 12 = .ok (.iconst 3, 1) := by decide +kernel
theorem d_Mo_answered_13 : decode b_Mo_answered 13 = .ok (.if_icmp .ge 8, 3) := by decide +kernel
theorem d_Mo_answered_16 : decode b_Mo_answered 16 = .ok (.aload_n 0, 1) := by decide +kernel
theorem d_Mo_answered_17 : decode b_Mo_answered 17 = .ok (.iload_n 1, 1) := by decide +kernel
theorem d_Mo_answered_18 : decode b_Mo_answered 18 = .ok (.invokevirtual 276, 3) := by decide +kernel
theorem d_Mo_answered_21 : decode b_Mo_answered 21 = .ok (.return_, 1) := by decide +kernel
theorem d_Mo_answered_22 : decode b_Mo_answered 22 = .ok (.aload_n 0, 1) := by decide +kernel
theorem d_Mo_answered_23 : decode b_Mo_answered 23 = .ok (.iload_n 1, 1) := by decide +kernel
theorem d_Mo_answered_24 : decode b_Mo_answered 24 = .ok (.aload_n 0, 1) := by decide +kernel
theorem d_Mo_answered_25 : decode b_Mo_answered 25 = .ok (.getfield 81, 3) := by decide +kernel
theorem d_Mo_answered_28 : decode b_Mo_answered 28 = .ok (.iload_n 1, 1) := by decide +kernel
theorem d_Mo_answered_29 : decode b_Mo_answered 29 = .ok (.iaload, 1) := by decide +kernel
theorem d_Mo_answered_30 : decode b_Mo_answered 30 = .ok (.invokevirtual 290, 3) := by decide +kernel
theorem d_Mo_answered_33 : decode b_Mo_answered 33 = .ok (.istore_n 3, 1) := by decide +kernel
theorem d_Mo_answered_34 : decode b_Mo_answered 34 = .ok (.aload_n 0, 1) := by decide +kernel
theorem d_Mo_answered_35 : decode b_Mo_answered 35 = .ok (.getfield 87, 3) := by decide +kernel
theorem d_Mo_answered_38 : decode b_Mo_answered 38 = .ok (.iload_n 3, 1) := by decide +kernel
theorem d_Mo_answered_39 : decode b_Mo_answered 39 = .ok (.aload_n 0, 1) := by decide +kernel
theorem d_Mo_answered_40 : decode b_Mo_answered 40 = .ok (.getfield 219, 3) := by decide +kernel
theorem d_Mo_answered_43 : decode b_Mo_answered 43 = .ok (.iastore, 1) := by decide +kernel
theorem d_Mo_answered_44 : decode b_Mo_answered 44 = .ok (.iconst 0, 1) := by decide +kernel
theorem d_Mo_answered_45 : decode b_Mo_answered 45 = .ok (.istore 4, 2) := by decide +kernel
theorem d_Mo_answered_47 : decode b_Mo_answered 47 = .ok (.iload 4, 2) := by decide +kernel
theorem d_Mo_answered_49 : decode b_Mo_answered 49 = .ok (.aload_n 0, 1) := by decide +kernel
theorem d_Mo_answered_50 : decode b_Mo_answered 50 = .ok (.getfield 219, 3) := by decide +kernel
theorem d_Mo_answered_53 : decode b_Mo_answered 53 = .ok (.if_icmp .ge 29, 3) := by decide +kernel
theorem d_Mo_answered_56 : decode b_Mo_answered 56 = .ok (.aload_n 0, 1) := by decide +kernel
theorem d_Mo_answered_57 : decode b_Mo_answered 57 = .ok (.getfield 84, 3) := by decide +kernel
theorem d_Mo_answered_60 : decode b_Mo_answered 60 = .ok (.iload_n 3, 1) := by decide +kernel
theorem d_Mo_answered_61 : decode b_Mo_answered 61 = .ok (.sipush 260, 3) := by decide +kernel
theorem d_Mo_answered_64 : decode b_Mo_answered 64 = .ok (.imul, 1) := by decide +kernel
theorem d_Mo_answered_65 : decode b_Mo_answered 65 = .ok (.iload 4, 2) := by decide +kernel
theorem d_Mo_answered_67 : decode b_Mo_answered 67 = .ok (.iadd, 1) := by decide +kernel
theorem d_Mo_answered_68 : decode b_Mo_answered 68 = .ok (.aload_n 0, 1) := by decide +kernel
theorem d_Mo_answered_69 : decode b_Mo_answered 69 = .ok (.getfield 172, 3) := by decide +kernel
theorem d_Mo_answered_72 : decode b_Mo_answered 72 = .ok (.iload 4, 2) := by decide +kernel
theorem d_Mo_answered_74 : decode b_Mo_answered 74 = .ok (.iaload, 1) := by decide +kernel
theorem d_Mo_answered_75 : decode b_Mo_answered 75 = .ok (.iastore, 1) := by decide +kernel
theorem d_Mo_answered_76 : decode b_Mo_answered 76 = .ok (.iinc 4 1, 3) := by decide +kernel
theorem d_Mo_answered_79 : decode b_Mo_answered 79 = .ok (.goto (-32), 3) := by decide +kernel
theorem d_Mo_answered_82 : decode b_Mo_answered 82 = .ok (.aload_n 0, 1) := by decide +kernel
theorem d_Mo_answered_83 : decode b_Mo_answered 83 = .ok (.getfield 90, 3) := by decide +kernel
theorem d_Mo_answered_86 : decode b_Mo_answered 86 = .ok (.iload_n 3, 1) := by decide +kernel
theorem d_Mo_answered_87 : decode b_Mo_answered 87 = .ok (.iload_n 2, 1) := by decide +kernel
theorem d_Mo_answered_88 : decode b_Mo_answered 88 = .ok (.iastore, 1) := by decide +kernel
theorem d_Mo_answered_89 : decode b_Mo_answered 89 = .ok (.aload_n 0, 1) := by decide +kernel
theorem d_Mo_answered_90 : decode b_Mo_answered 90 = .ok (.getfield 93, 3) := by decide +kernel
theorem d_Mo_answered_93 : decode b_Mo_answered 93 = .ok (.iload_n 3, 1) := by decide +kernel
theorem d_Mo_answered_94 : decode b_Mo_answered 94 = .ok (.iconst 0, 1) := by decide +kernel
theorem d_Mo_answered_95 : decode b_Mo_answered 95 = .ok (.iastore, 1) := by decide +kernel
theorem d_Mo_answered_96 : decode b_Mo_answered 96 = .ok (.aload_n 0, 1) := by decide +kernel
theorem d_Mo_answered_97 : decode b_Mo_answered 97 = .ok (.getfield 81, 3) := by decide +kernel
theorem d_Mo_answered_100 : decode b_Mo_answered 100 = .ok (.iload_n 1, 1) := by decide +kernel
theorem d_Mo_answered_101 : decode b_Mo_answered 101 = .ok (.dup2, 1) := by decide +kernel
theorem d_Mo_answered_102 : decode b_Mo_answered 102 = .ok (.iaload, 1) := by decide +kernel
theorem d_Mo_answered_103 : decode b_Mo_answered 103 = .ok (.iconst 1, 1) := by decide +kernel
theorem d_Mo_answered_104 : decode b_Mo_answered 104 = .ok (.iadd, 1) := by decide +kernel
theorem d_Mo_answered_105 : decode b_Mo_answered 105 = .ok (.iastore, 1) := by decide +kernel
theorem d_Mo_answered_106 : decode b_Mo_answered 106 = .ok (.return_, 1) := by decide +kernel
set_option maxRecDepth 100000 in
set_option maxHeartbeats 4000000 in
theorem c_Mo_answered (l : Launch) (D : va_G) (ca : Nat → ClassId) (ad : Nat → Nat) (L : List Nat) (f0 : Nat → va_E) (sz : Nat) (σ0 : mq_S) (hM : mq_B ca ad σ0 L f0) (j1 : Nat) (q1 : j1 ≤ 3) (x2 : Int32) (hw : ¬ x2 = 2) (u0 : IH σ0) :
    Met l y_Mo_answered (Cond.code y_Mo_answered b_Mo_answered 5 none :: wg) { frames := 2, cells := 0, slots := 0, locals := 43 } (va_Pc [.ref (ad 71), .int (nI j1), .int (x2)] (sm_P D cl_all (ty_s ca) ek L f0 sz)) (sm_Qv D (ty_s ca) L f0 sz (fun u => mq_po ca ad L σ0 [13, 14, 16, 18, 24, 30, 31, 32, 33, 34, 42, 52, 65] (fun σ => IH σ ∧ True) u)) 0 0 (va_A (va_pl L f0) sz) := by
  refine sm_start (by decide) (Nat.le_of_ble_eq_true rfl) ?_
  intro p e s m below meth c ls hx hb hml hr hlk hnm hts hown hsz hE hI hl
  have hl : lv_has ls 5 [(0, .ref (ad 71)), (1, .int (nI j1)), (2, .int (x2))] := hl
  have hF : mq_fr [13, 14, 16, 18, 24, 30, 31, 32, 33, 34, 42, 52, 65] σ0 σ0 := mq_fr_rf
  have hJ_47 : ∀ (N k : Nat) (H : Heap) (locs : List Loc) (f : Nat → va_E) (σ : mq_S) (ls : Array Slot) (r : Nat) (w : Nat), 260 + 1 - k ≤ N → k ≤ 260 → sw_I D cl_all (ty_s ca) (va_A (va_pl L f0) sz) s H locs L f → mq_B ca ad σ L f → mq_fr [13, 14, 16, 18, 24, 30, 31, 32, 33, 34, 42, 52, 65] σ0 σ → lv_has ls 5 [(0, .ref (ad 71)), (1, .int (nI j1)), (2, .int (x2)), (3, .int (nI r)), (4, .int (nI k))] → (0 ≤ w) → (w ≤ 15) → (σ.2.2.1 30 (j1) = nI w) → (IH σ) → (r = j1 * 16 + w) → W p l e { frames := 2, cells := 0, slots := 0, locals := 43 } s m ([.ref (ad 71), .int (nI j1), .int (x2)] : List Value).toArray below meth c H locs 0 0 (MQ below (sm_Qv D (ty_s ca) L f0 sz (fun u => mq_po ca ad L σ0 [13, 14, 16, 18, 24, 30, 31, 32, 33, 34, 42, 52, 65] (fun σ => IH σ ∧ True) u)) ([.ref (ad 71), .int (nI j1), .int (x2)] : List Value).toArray s 0 0 (va_A (va_pl L f0) sz)) (F0 m 47 ls []) := by
    intro N
    induction N with
    | zero => intros; omega
    | succ N ih =>
      intro k H locs f σ ls r w hN hk hI hM hF hl h90a h90b o90 u90 hrr
      refine lv_iload hx hb d_Mo_answered_47 (lv_at hl 4 rfl) ?_
      refine lv_aload_n hx hb d_Mo_answered_49 rfl (lv_at hl 0 rfl) ?_
      obtain ⟨n_1, h_2, h_3, e_4⟩ := hM.2.2.2.2.1 70
      refine mq_get (k := 70) (v := .int (nI n_1)) hx hb hts hown hI hM (by decide) (congrArg (fun z => some (Value.int z)) e_4) rfl (hts _ tw_1239) d_Mo_answered_50 ?_
      refine lv_icmp_ge (tgt := 82) hx hb d_Mo_answered_53 (by decide) (fun c_5 => ?_) (fun c_5 => ?_)
      · have k_6 : n_1 ≤ k := (nI_leI (a := n_1) (b := k) (by omega) (by omega)).mp c_5
        refine lv_aload_n hx hb d_Mo_answered_82 rfl (lv_at hl 0 rfl) ?_
        refine mq_get (k := 33) (v := .ref (ad 33)) hx hb hts hown hI hM (by decide) rfl rfl (hts _ tw_1202) d_Mo_answered_83 ?_
        refine lv_iload_n hx hb d_Mo_answered_86 rfl (lv_at hl 3 rfl) ?_
        refine lv_iload_n hx hb d_Mo_answered_87 rfl (lv_at hl 2 rfl) ?_
        have hm9 := hM.2.2.2.2
        refine mq_iast (k := 33) (j := r) (x := x2) hx hb hI hM (by decide) rfl (by show r < 64; omega) (by decide) trivial d_Mo_answered_88 (fun H locs f σ_7 e_8 hI hM => ?_)
        have hF := mq_fr_ug hF e_8 rfl (Or.inl rfl)
        have o_9 : σ_7.2.2.1 30 (j1) = nI w := by rw [e_8]; exact o90
        have u_10 : IH σ_7 := IH_ph (w := w) (hrr ▸ e_8) o90 (by omega) hm9 u90
        have o_11 := mq_ugj e_8
        refine lv_aload_n hx hb d_Mo_answered_89 rfl (lv_at hl 0 rfl) ?_
        refine mq_get (k := 34) (v := .ref (ad 34)) hx hb hts hown hI hM (by decide) rfl rfl (hts _ tw_1203) d_Mo_answered_90 ?_
        refine lv_iload_n hx hb d_Mo_answered_93 rfl (lv_at hl 3 rfl) ?_
        refine lv_iconst (v := 0) hx hb d_Mo_answered_94 (by decide) ?_
        refine mq_iast (k := 34) (j := r) (x := 0) hx hb hI hM (by decide) rfl (by show r < 64; omega) (by decide) trivial d_Mo_answered_95 (fun H locs f σ_12 e_13 hI hM => ?_)
        have hF := mq_fr_ug hF e_13 rfl (Or.inl rfl)
        have o_14 : σ_12.2.2.1 30 (j1) = nI w := by rw [e_13]; exact o_9
        have o_15 : σ_12.2.2.1 33 (r) = x2 := by rw [e_13]; exact o_11
        have u_16 : IH σ_12 := IH_td (w := w) (hrr ▸ e_13) o_9 (by omega) u_10
        refine lv_aload_n hx hb d_Mo_answered_96 rfl (lv_at hl 0 rfl) ?_
        refine mq_get (k := 30) (v := .ref (ad 30)) hx hb hts hown hI hM (by decide) rfl rfl (hts _ tw_1199) d_Mo_answered_97 ?_
        refine lv_iload_n hx hb d_Mo_answered_100 rfl (lv_at hl 1 rfl) ?_
        refine lv_dup2_11 hx hb d_Mo_answered_101 rfl rfl ?_
        refine mq_iald (k := 30) (j := j1) (v := nI w) hx hb hI hM (by decide) rfl (by show j1 < 4; omega) (by decide) o_14 d_Mo_answered_102 ?_
        refine lv_iconst (v := 1) hx hb d_Mo_answered_103 (by decide) ?_
        refine lv_iadd hx hb d_Mo_answered_104 ?_
        refine lv_topi (fun x_17 e_18 => ?_)
        obtain rfl : x_17 = nI (w + 1) := by rw [e_18]; exact nI_add _ _
        refine mq_iast (k := 30) (j := j1) (x := nI (w + 1)) hx hb hI hM (by decide) rfl (by show j1 < 4; omega) (by decide) ⟨(w + 1), by omega, by omega, rfl⟩ d_Mo_answered_105 (fun H locs f σ_19 e_20 hI hM => ?_)
        have hF := mq_fr_ug hF e_20 rfl (Or.inl rfl)
        have o_21 : σ_19.2.2.1 33 (r) = x2 := by rw [e_20]; exact o_15
        have u_22 : IH σ_19 := IH_inc (w := w) e_20 o_14 (by omega) (hrr ▸ o_15) hw u_16
        have o_23 := mq_ugj e_20
        exact sm_vret hx hb hr hlk hI ⟨σ_19, rfl, hM, hF, ⟨u_22, trivial⟩⟩ d_Mo_answered_106
      · have k_24 : k < n_1 := Nat.lt_of_not_le (fun q => c_5 ((nI_leI (a := n_1) (b := k) (by omega) (by omega)).mpr q))
        refine lv_aload_n hx hb d_Mo_answered_56 rfl (lv_at hl 0 rfl) ?_
        refine mq_get (k := 31) (v := .ref (ad 31)) hx hb hts hown hI hM (by decide) rfl rfl (hts _ tw_1200) d_Mo_answered_57 ?_
        refine lv_iload_n hx hb d_Mo_answered_60 rfl (lv_at hl 3 rfl) ?_
        refine lv_sipush (v := 260) hx hb d_Mo_answered_61 (by decide) ?_
        refine lv_imul hx hb d_Mo_answered_64 ?_
        refine lv_topi (fun x_25 e_26 => ?_)
        obtain rfl : x_25 = nI (r * 260) := by rw [e_26]; exact pk_mul _ _
        refine lv_iload hx hb d_Mo_answered_65 (lv_at hl 4 rfl) ?_
        refine lv_iadd hx hb d_Mo_answered_67 ?_
        refine lv_topi (fun x_27 e_28 => ?_)
        obtain rfl : x_27 = nI ((r * 260) + k) := by rw [e_28]; exact nI_add _ _
        refine lv_aload_n hx hb d_Mo_answered_68 rfl (lv_at hl 0 rfl) ?_
        refine mq_get (k := 69) (v := .ref (ad 69)) hx hb hts hown hI hM (by decide) rfl rfl (hts _ tw_1238) d_Mo_answered_69 ?_
        refine lv_iload hx hb d_Mo_answered_72 (lv_at hl 4 rfl) ?_
        obtain ⟨x_29, e_30⟩ : ∃ z, σ.2.2.1 69 (k) = z := ⟨_, rfl⟩
        refine mq_iald (k := 69) (j := k) (v := x_29) hx hb hI hM (by decide) rfl (by show k < 260; omega) (by decide) e_30 d_Mo_answered_74 ?_
        have hm9 := hM.2.2.2.2
        refine mq_iast (k := 31) (j := ((r * 260) + k)) (x := x_29) hx hb hI hM (by decide) rfl (by show ((r * 260) + k) < 16640; omega) (by decide) trivial d_Mo_answered_75 (fun H locs f σ_31 e_32 hI hM => ?_)
        have hF := mq_fr_ug hF e_32 rfl (Or.inl rfl)
        have o_33 : σ_31.2.2.1 30 (j1) = nI w := by rw [e_32]; exact o90
        have u_34 : IH σ_31 := IH_an (w := w) e_32 (by omega) (by omega) o90 (by omega) hm9 u90
        refine lv_iinc (v := nI (k + 1)) (lv' := [(4, .int (nI (k + 1))), (0, .ref (ad 71)), (1, .int (nI j1)), (2, .int (x2)), (3, .int (nI r))]) hx hb d_Mo_answered_76 hl (k := 4) rfl (nI_1 _) (by decide) rfl (fun ls hl => ?_)
        refine lv_goto (tgt := 47) hx hb d_Mo_answered_79 (by decide) ?_
        exact ih ((k + 1)) _ _ _ _ _ (r) (w) (by omega) (by omega) hI hM hF (lv_sub hl [1, 2, 3, 4, 0] rfl) (by omega) (by omega) o_33 u_34 (by omega)
  refine lv_aload_n hx hb d_Mo_answered_0 rfl (lv_at hl 0 rfl) ?_
  refine mq_get (k := 30) (v := .ref (ad 30)) hx hb hts hown hI hM (by decide) rfl rfl (hts _ tw_1199) d_Mo_answered_1 ?_
  refine lv_iload_n hx hb d_Mo_answered_4 rfl (lv_at hl 1 rfl) ?_
  obtain ⟨n_35, h_36, h_37, e_38⟩ := hM.2.2.2.2.2 30 (j1)
  refine mq_iald (k := 30) (j := j1) (v := nI n_35) hx hb hI hM (by decide) rfl (by show j1 < 4; omega) (by decide) e_38 d_Mo_answered_5 ?_
  refine lv_bipush (v := 16) hx hb d_Mo_answered_6 (by decide) ?_
  refine lv_icmp_ne (tgt := 22) hx hb d_Mo_answered_8 (by decide) (fun c_39 => ?_) (fun c_39 => ?_)
  · have k_40 : ¬ n_35 = 16 := (fun q => c_39 ((nI_eq (a := n_35) (b := 16) (by omega) (by omega)).mpr q))
    refine lv_aload_n hx hb d_Mo_answered_22 rfl (lv_at hl 0 rfl) ?_
    refine lv_iload_n hx hb d_Mo_answered_23 rfl (lv_at hl 1 rfl) ?_
    refine lv_aload_n hx hb d_Mo_answered_24 rfl (lv_at hl 0 rfl) ?_
    refine mq_get (k := 30) (v := .ref (ad 30)) hx hb hts hown hI hM (by decide) rfl rfl (hts _ tw_1199) d_Mo_answered_25 ?_
    refine lv_iload_n hx hb d_Mo_answered_28 rfl (lv_at hl 1 rfl) ?_
    refine mq_iald (k := 30) (j := j1) (v := nI n_35) hx hb hI hM (by decide) rfl (by show j1 < 4; omega) (by decide) e_38 d_Mo_answered_29 ?_
    refine sm_iP hI (va_runV (As := [.int (nI j1), .int (nI n_35)]) (rest := []) ⟨hx, hb, hml, hown, hts⟩ (c_Mo_slot l D ca ad L _ _ _ hM (j1) (by omega) (n_35) (by omega)) (kv_Mo_slot hts rfl rfl (hts _ tw_1442) ⟨Nat.le_of_ble_eq_true rfl, Nat.le_of_ble_eq_true rfl⟩) (pv_Mo hI hE hM) rfl rfl hl.1 rfl (lv_room (Nat.le_of_ble_eq_true rfl)) d_Mo_answered_30 ⟨Nat.le_of_ble_eq_true rfl, Nat.le_of_ble_eq_true rfl⟩) (fun x_42 H locs p_41 hI => ?_)
    subst p_41
    refine lv_istore_n (lv' := [(3, .int (nI (j1 * 16 + n_35))), (0, .ref (ad 71)), (1, .int (nI j1)), (2, .int (x2))]) hx hb d_Mo_answered_33 rfl hl (by decide) rfl (fun ls hl => ?_)
    refine lv_aload_n hx hb d_Mo_answered_34 rfl (lv_at hl 1 rfl) ?_
    refine mq_get (k := 32) (v := .ref (ad 32)) hx hb hts hown hI hM (by decide) rfl rfl (hts _ tw_1201) d_Mo_answered_35 ?_
    refine lv_iload_n hx hb d_Mo_answered_38 rfl (lv_at hl 0 rfl) ?_
    refine lv_aload_n hx hb d_Mo_answered_39 rfl (lv_at hl 1 rfl) ?_
    obtain ⟨n_43, h_44, h_45, e_46⟩ := hM.2.2.2.2.1 70
    refine mq_get (k := 70) (v := .int (nI n_43)) hx hb hts hown hI hM (by decide) (congrArg (fun z => some (Value.int z)) e_46) rfl (hts _ tw_1239) d_Mo_answered_40 ?_
    refine mq_iast (k := 32) (j := (j1 * 16 + n_35)) (x := nI n_43) hx hb hI hM (by decide) rfl (by show (j1 * 16 + n_35) < 64; omega) (by decide) ⟨n_43, by omega, by omega, rfl⟩ d_Mo_answered_43 (fun H locs f σ_47 e_48 hI hM => ?_)
    have hF := mq_fr_ug hF e_48 rfl (Or.inl rfl)
    have o_49 : σ_47.2.2.1 30 (j1) = nI n_35 := by rw [e_48]; exact e_38
    have u_50 := IH_fr (mq_fr_ug (X := [32]) mq_fr_rf e_48 rfl (Or.inl rfl)) (by decide) u0
    refine lv_iconst (v := 0) hx hb d_Mo_answered_44 (by decide) ?_
    refine lv_istore (lv' := [(4, .int (0)), (3, .int (nI (j1 * 16 + n_35))), (0, .ref (ad 71)), (1, .int (nI j1)), (2, .int (x2))]) hx hb d_Mo_answered_45 hl (by decide) rfl (fun ls hl => ?_)
    exact hJ_47 _ (0) _ _ _ _ _ ((j1 * 16 + n_35)) (n_35) (Nat.le_refl _) (by omega) hI hM hF (lv_sub hl [2, 3, 4, 1, 0] rfl) (by omega) (by omega) o_49 u_50 (by omega)
  · have k_51 : n_35 = 16 := (nI_eq (a := n_35) (b := 16) (by omega) (by omega)).mp c_39
    refine lv_iload_n hx hb d_Mo_answered_11 rfl (lv_at hl 1 rfl) ?_
    refine lv_iconst (v := 3) hx hb d_Mo_answered_12 (by decide) ?_
    refine lv_icmp_ge (tgt := 21) hx hb d_Mo_answered_13 (by decide) (fun c_52 => ?_) (fun c_52 => ?_)
    · have k_53 : 3 ≤ j1 := (nI_leI (a := 3) (b := j1) (by omega) (by omega)).mp c_52
      exact sm_vret hx hb hr hlk hI ⟨σ0, rfl, hM, hF, ⟨u0, trivial⟩⟩ d_Mo_answered_21
    · have k_54 : j1 < 3 := Nat.lt_of_not_le (fun q => c_52 ((nI_leI (a := 3) (b := j1) (by omega) (by omega)).mpr q))
      refine lv_aload_n hx hb d_Mo_answered_16 rfl (lv_at hl 0 rfl) ?_
      refine lv_iload_n hx hb d_Mo_answered_17 rfl (lv_at hl 1 rfl) ?_
      refine sm_vM hI (va_runV (As := [.int (nI j1)]) (rest := []) ⟨hx, hb, hml, hown, hts⟩ (c_Mo_shut l D ca ad L _ _ _ hM (j1) (by omega) u0) (kv_Mo_shut hts rfl rfl (hts _ tw_1513) ⟨Nat.le_of_ble_eq_true rfl, Nat.le_of_ble_eq_true rfl⟩) (pv_Mo hI hE hM) rfl rfl hl.1 rfl (lv_room (Nat.le_of_ble_eq_true rfl)) d_Mo_answered_18 ⟨Nat.le_of_ble_eq_true rfl, Nat.le_of_ble_eq_true rfl⟩) (fun H locs f σ_56 hI hM hF_57 p_55 => ?_)
      have hF := mq_fr_tr hF hF_57 (by decide)
      obtain ⟨o_58, o_59, u_60, -⟩ := p_55
      exact sm_vret hx hb hr hlk hI ⟨σ_56, rfl, hM, hF, ⟨u_60, trivial⟩⟩ d_Mo_answered_21
theorem d_Mo_comes_0 : decode b_Mo_comes 0 = .ok (.aload_n 0, 1) := by decide +kernel
theorem d_Mo_comes_1 : decode b_Mo_comes 1 = .ok (.getfield 172, 3) := by decide +kernel
theorem d_Mo_comes_4 : decode b_Mo_comes 4 = .ok (.iconst 2, 1) := by decide +kernel
theorem d_Mo_comes_5 : decode b_Mo_comes 5 = .ok (.aload_n 0, 1) := by decide +kernel
theorem d_Mo_comes_6 : decode b_Mo_comes 6 = .ok (.getfield 172, 3) := by decide +kernel
theorem d_Mo_comes_9 : decode b_Mo_comes 9 = .ok (.iconst 2, 1) := by decide +kernel
theorem d_Mo_comes_10 : decode b_Mo_comes 10 = .ok (.iaload, 1) := by decide +kernel
theorem d_Mo_comes_11 : decode b_Mo_comes 11 = .ok (.sipush 128, 3) := by decide +kernel
theorem d_Mo_comes_14 : decode b_Mo_comes 14 = .ok (.iand, 1) := by decide +kernel
theorem d_Mo_comes_15 : decode b_Mo_comes 15 = .ok (.iload_n 2, 1) := by decide +kernel
theorem d_Mo_comes_16 : decode b_Mo_comes 16 = .ok (.ior, 1) := by decide +kernel
theorem d_Mo_comes_17 : decode b_Mo_comes 17 = .ok (.iload_n 3, 1) := by decide +kernel
theorem d_Mo_comes_18 : decode b_Mo_comes 18 = .ok (.ifCond .eq 8, 3) := by decide +kernel
theorem d_Mo_comes_21 : decode b_Mo_comes 21 = .ok (.bipush 64, 2) := by decide +kernel
theorem d_Mo_comes_23 : decode b_Mo_comes 23 = .ok (.goto 4, 3) := by decide +kernel
theorem d_Mo_comes_26 : decode b_Mo_comes 26 = .ok (.iconst 0, 1) := by decide +kernel
theorem d_Mo_comes_27 : decode b_Mo_comes 27 = .ok (.ior, 1) := by decide +kernel
theorem d_Mo_comes_28 : decode b_Mo_comes 28 = .ok (.iastore, 1) := by decide +kernel
theorem d_Mo_comes_29 : decode b_Mo_comes 29 = .ok (.aload_n 0, 1) := by decide +kernel
theorem d_Mo_comes_30 : decode b_Mo_comes 30 = .ok (.iload_n 1, 1) := by decide +kernel
theorem d_Mo_comes_31 : decode b_Mo_comes 31 = .ok (.iconst 0, 1) := by decide +kernel
theorem d_Mo_comes_32 : decode b_Mo_comes 32 = .ok (.invokevirtual 437, 3) := by decide +kernel
theorem d_Mo_comes_35 : decode b_Mo_comes 35 = .ok (.return_, 1) := by decide +kernel
set_option maxRecDepth 100000 in
set_option maxHeartbeats 4000000 in
theorem c_Mo_comes (l : Launch) (D : va_G) (ca : Nat → ClassId) (ad : Nat → Nat) (L : List Nat) (f0 : Nat → va_E) (sz : Nat) (σ0 : mq_S) (hM : mq_B ca ad σ0 L f0) (j1 : Nat) (q1 : j1 ≤ 3) (x2 : Int32) (x3 : Int32) (p3 : x3 = 0 ∨ x3 = 1) (u0 : IH σ0) :
    Met l y_Mo_comes (Cond.code y_Mo_comes b_Mo_comes 4 none :: wg) { frames := 3, cells := 0, slots := 0, locals := 67 } (va_Pc [.ref (ad 71), .int (nI j1), .int (x2), .int (x3)] (sm_P D cl_all (ty_s ca) ek L f0 sz)) (sm_Qv D (ty_s ca) L f0 sz (fun u => mq_po ca ad L σ0 [13, 14, 16, 18, 24, 30, 31, 32, 33, 34, 42, 52, 65, 69] (fun σ => IH σ ∧ True) u)) 0 0 (va_A (va_pl L f0) sz) := by
  refine sm_start (by decide) (Nat.le_of_ble_eq_true rfl) ?_
  intro p e s m below meth c ls hx hb hml hr hlk hnm hts hown hsz hE hI hl
  have hl : lv_has ls 4 [(0, .ref (ad 71)), (1, .int (nI j1)), (2, .int (x2)), (3, .int (x3))] := hl
  have hF : mq_fr [13, 14, 16, 18, 24, 30, 31, 32, 33, 34, 42, 52, 65, 69] σ0 σ0 := mq_fr_rf
  refine lv_aload_n hx hb d_Mo_comes_0 rfl (lv_at hl 0 rfl) ?_
  refine mq_get (k := 69) (v := .ref (ad 69)) hx hb hts hown hI hM (by decide) rfl rfl (hts _ tw_1238) d_Mo_comes_1 ?_
  refine lv_iconst (v := 2) hx hb d_Mo_comes_4 (by decide) ?_
  refine lv_aload_n hx hb d_Mo_comes_5 rfl (lv_at hl 0 rfl) ?_
  refine mq_get (k := 69) (v := .ref (ad 69)) hx hb hts hown hI hM (by decide) rfl rfl (hts _ tw_1238) d_Mo_comes_6 ?_
  refine lv_iconst (v := 2) hx hb d_Mo_comes_9 (by decide) ?_
  obtain ⟨x_1, e_2⟩ : ∃ z, σ0.2.2.1 69 (2) = z := ⟨_, rfl⟩
  refine mq_iald (k := 69) (j := 2) (v := x_1) hx hb hI hM (by decide) rfl (by show 2 < 260; omega) (by decide) e_2 d_Mo_comes_10 ?_
  refine lv_sipush (v := 128) hx hb d_Mo_comes_11 (by decide) ?_
  refine lv_iand hx hb d_Mo_comes_14 ?_
  refine lv_topi (fun x_3 e_4 => ?_)
  refine lv_iload_n hx hb d_Mo_comes_15 rfl (lv_at hl 2 rfl) ?_
  refine lv_ior hx hb d_Mo_comes_16 ?_
  refine lv_topi (fun x_5 e_6 => ?_)
  refine lv_iload_n hx hb d_Mo_comes_17 rfl (lv_at hl 3 rfl) ?_
  refine lv_if_eq (tgt := 26) hx hb d_Mo_comes_18 (by decide) (fun c_7 => ?_) (fun c_7 => ?_)
  · refine lv_iconst (v := 0) hx hb d_Mo_comes_26 (by decide) ?_
    refine lv_ior hx hb d_Mo_comes_27 ?_
    refine lv_topi (fun x_8 e_9 => ?_)
    refine mq_iast (k := 69) (j := 2) (x := x_8) hx hb hI hM (by decide) rfl (by show 2 < 260; omega) (by decide) trivial d_Mo_comes_28 (fun H locs f σ_10 e_11 hI hM => ?_)
    have hF := mq_fr_ug hF e_11 rfl (Or.inl rfl)
    have u_12 := IH_fr (mq_fr_ug (X := [69]) mq_fr_rf e_11 rfl (Or.inl rfl)) (by decide) u0
    refine lv_aload_n hx hb d_Mo_comes_29 rfl (lv_at hl 0 rfl) ?_
    refine lv_iload_n hx hb d_Mo_comes_30 rfl (lv_at hl 1 rfl) ?_
    refine lv_iconst (v := 0) hx hb d_Mo_comes_31 (by decide) ?_
    refine sm_vM hI (va_runV (As := [.int (nI j1), .int (0)]) (rest := []) ⟨hx, hb, hml, hown, hts⟩ (c_Mo_answered l D ca ad L _ _ _ hM (j1) (by omega) 0 (by decide) u_12) (kv_Mo_answered hts rfl rfl (hts _ tw_1615) ⟨Nat.le_of_ble_eq_true rfl, Nat.le_of_ble_eq_true rfl⟩) (pv_Mo hI hE hM) rfl rfl hl.1 rfl (lv_room (Nat.le_of_ble_eq_true rfl)) d_Mo_comes_32 ⟨Nat.le_of_ble_eq_true rfl, Nat.le_of_ble_eq_true rfl⟩) (fun H locs f σ_14 hI hM hF_15 p_13 => ?_)
    have hF := mq_fr_tr hF hF_15 (by decide)
    obtain ⟨u_16, -⟩ := p_13
    exact sm_vret hx hb hr hlk hI ⟨σ_14, rfl, hM, hF, ⟨u_16, trivial⟩⟩ d_Mo_comes_35
  · refine lv_bipush (v := 64) hx hb d_Mo_comes_21 (by decide) ?_
    refine lv_goto (tgt := 27) hx hb d_Mo_comes_23 (by decide) ?_
    refine lv_ior hx hb d_Mo_comes_27 ?_
    refine lv_topi (fun x_17 e_18 => ?_)
    refine mq_iast (k := 69) (j := 2) (x := x_17) hx hb hI hM (by decide) rfl (by show 2 < 260; omega) (by decide) trivial d_Mo_comes_28 (fun H locs f σ_19 e_20 hI hM => ?_)
    have hF := mq_fr_ug hF e_20 rfl (Or.inl rfl)
    have u_21 := IH_fr (mq_fr_ug (X := [69]) mq_fr_rf e_20 rfl (Or.inl rfl)) (by decide) u0
    refine lv_aload_n hx hb d_Mo_comes_29 rfl (lv_at hl 0 rfl) ?_
    refine lv_iload_n hx hb d_Mo_comes_30 rfl (lv_at hl 1 rfl) ?_
    refine lv_iconst (v := 0) hx hb d_Mo_comes_31 (by decide) ?_
    refine sm_vM hI (va_runV (As := [.int (nI j1), .int (0)]) (rest := []) ⟨hx, hb, hml, hown, hts⟩ (c_Mo_answered l D ca ad L _ _ _ hM (j1) (by omega) 0 (by decide) u_21) (kv_Mo_answered hts rfl rfl (hts _ tw_1615) ⟨Nat.le_of_ble_eq_true rfl, Nat.le_of_ble_eq_true rfl⟩) (pv_Mo hI hE hM) rfl rfl hl.1 rfl (lv_room (Nat.le_of_ble_eq_true rfl)) d_Mo_comes_32 ⟨Nat.le_of_ble_eq_true rfl, Nat.le_of_ble_eq_true rfl⟩) (fun H locs f σ_23 hI hM hF_24 p_22 => ?_)
    have hF := mq_fr_tr hF hF_24 (by decide)
    obtain ⟨u_25, -⟩ := p_22
    exact sm_vret hx hb hr hlk hI ⟨σ_23, rfl, hM, hF, ⟨u_25, trivial⟩⟩ d_Mo_comes_35
theorem d_Mo_tells_0 : decode b_Mo_tells 0 = .ok (.aload_n 0, 1) := by decide +kernel
theorem d_Mo_tells_1 : decode b_Mo_tells 1 = .ok (.iload_n 1, 1) := by decide +kernel
theorem d_Mo_tells_2 : decode b_Mo_tells 2 = .ok (.iconst 0, 1) := by decide +kernel
theorem d_Mo_tells_3 : decode b_Mo_tells 3 = .ok (.invokevirtual 290, 3) := by decide +kernel
theorem d_Mo_tells_6 : decode b_Mo_tells 6 = .ok (.istore_n 2, 1) := by decide +kernel
theorem d_Mo_tells_7 : decode b_Mo_tells 7 = .ok (.iload_n 2, 1) := by decide +kernel
theorem d_Mo_tells_8 : decode b_Mo_tells 8 = .ok (.sipush 260, 3) := by decide +kernel
theorem d_Mo_tells_11 : decode b_Mo_tells 11 = .ok (.imul, 1) := by decide +kernel
theorem d_Mo_tells_12 : decode b_Mo_tells 12 = .ok (.istore_n 3, 1) := by decide +kernel
theorem d_Mo_tells_13 : decode b_Mo_tells 13 = .ok (.aload_n 0, 1) := by decide +kernel
theorem d_Mo_tells_14 : decode b_Mo_tells 14 = .ok (.iload_n 1, 1) := by decide +kernel
theorem d_Mo_tells_15 : decode b_Mo_tells 15 = .ok (.invokevirtual 293, 3) := by decide +kernel
theorem d_Mo_tells_18 : decode b_Mo_tells 18 = .ok (.aload_n 0, 1) := by decide +kernel
theorem d_Mo_tells_19 : decode b_Mo_tells 19 = .ok (.iload_n 1, 1) := by decide +kernel
theorem d_Mo_tells_20 : decode b_Mo_tells 20 = .ok (.invokevirtual 296, 3) := by decide +kernel
theorem d_Mo_tells_23 : decode b_Mo_tells 23 = .ok (.iadd, 1) := by decide +kernel
theorem d_Mo_tells_24 : decode b_Mo_tells 24 = .ok (.istore 4, 2) := by decide +kernel
theorem d_Mo_tells_26 : decode b_Mo_tells 26 = .ok (.aload_n 0, 1) := by decide +kernel
theorem d_Mo_tells_27 : decode b_Mo_tells 27 = .ok (.getfield 84, 3) := by decide +kernel
theorem d_Mo_tells_30 : decode b_Mo_tells 30 = .ok (.iload_n 3, 1) := by decide +kernel
theorem d_Mo_tells_31 : decode b_Mo_tells 31 = .ok (.iload 4, 2) := by decide +kernel
theorem d_Mo_tells_33 : decode b_Mo_tells 33 = .ok (.iadd, 1) := by decide +kernel
theorem d_Mo_tells_34 : decode b_Mo_tells 34 = .ok (.iaload, 1) := by decide +kernel
theorem d_Mo_tells_35 : decode b_Mo_tells 35 = .ok (.istore 5, 2) := by decide +kernel
theorem d_Mo_tells_37 : decode b_Mo_tells 37 = .ok (.aload_n 0, 1) := by decide +kernel
theorem d_Mo_tells_38 : decode b_Mo_tells 38 = .ok (.getfield 84, 3) := by decide +kernel
theorem d_Mo_tells_41 : decode b_Mo_tells 41 = .ok (.iload_n 3, 1) := by decide +kernel
theorem d_Mo_tells_42 : decode b_Mo_tells 42 = .ok (.iaload, 1) := by decide +kernel
theorem d_Mo_tells_43 : decode b_Mo_tells 43 = .ok (.bipush 100, 2) := by decide +kernel
theorem d_Mo_tells_45 : decode b_Mo_tells 45 = .ok (.if_icmp .ne 8, 3) := by decide +kernel
theorem d_Mo_tells_48 : decode b_Mo_tells 48 = .ok (.iload 5, 2) := by decide +kernel
theorem d_Mo_tells_50 : decode b_Mo_tells 50 = .ok (.goto 19, 3) := by decide +kernel
theorem d_Mo_tells_53 : decode b_Mo_tells 53 = .ok (.iload 5, 2) := by decide +kernel
theorem d_Mo_tells_55 : decode b_Mo_tells 55 = .ok (.iconst 5, 1) := by decide +kernel
theorem d_Mo_tells_56 : decode b_Mo_tells 56 = .ok (.if_icmp .ne 8, 3) := by decide +kernel
theorem d_Mo_tells_59 : decode b_Mo_tells 59 = .ok (.bipush 37, 2) := by decide +kernel
theorem d_Mo_tells_61 : decode b_Mo_tells 61 = .ok (.goto 8, 3) := by decide +kernel
theorem d_Mo_tells_64 : decode b_Mo_tells 64 = .ok (.bipush 37, 2) := by decide +kernel
theorem d_Mo_tells_66 : decode b_Mo_tells 66 = .ok (.iload 5, 2) := by decide +kernel
theorem d_Mo_tells_68 : decode b_Mo_tells 68 = .ok (.iadd, 1) := by decide +kernel
theorem d_Mo_tells_69 : decode b_Mo_tells 69 = .ok (.istore 6, 2) := by decide +kernel
theorem d_Mo_tells_71 : decode b_Mo_tells 71 = .ok (.aload_n 0, 1) := by decide +kernel
theorem d_Mo_tells_72 : decode b_Mo_tells 72 = .ok (.iload_n 1, 1) := by decide +kernel
theorem d_Mo_tells_73 : decode b_Mo_tells 73 = .ok (.aload_n 0, 1) := by decide +kernel
theorem d_Mo_tells_74 : decode b_Mo_tells 74 = .ok (.getfield 93, 3) := by decide +kernel
theorem d_Mo_tells_77 : decode b_Mo_tells 77 = .ok (.iload_n 2, 1) := by decide +kernel
theorem d_Mo_tells_78 : decode b_Mo_tells 78 = .ok (.iaload, 1) := by decide +kernel
theorem d_Mo_tells_79 : decode b_Mo_tells 79 = .ok (.invokevirtual 299, 3) := by decide +kernel
theorem d_Mo_tells_82 : decode b_Mo_tells 82 = .ok (.istore 7, 2) := by decide +kernel
theorem d_Mo_tells_84 : decode b_Mo_tells 84 = .ok (.aload_n 0, 1) := by decide +kernel
theorem d_Mo_tells_85 : decode b_Mo_tells 85 = .ok (.getfield 13, 3) := by decide +kernel
theorem d_Mo_tells_88 : decode b_Mo_tells 88 = .ok (.iload 7, 2) := by decide +kernel
theorem d_Mo_tells_90 : decode b_Mo_tells 90 = .ok (.iaload, 1) := by decide +kernel
theorem d_Mo_tells_91 : decode b_Mo_tells 91 = .ok (.istore 8, 2) := by decide +kernel
theorem d_Mo_tells_93 : decode b_Mo_tells 93 = .ok (.aload_n 0, 1) := by decide +kernel
theorem d_Mo_tells_94 : decode b_Mo_tells 94 = .ok (.iload_n 1, 1) := by decide +kernel
theorem d_Mo_tells_95 : decode b_Mo_tells 95 = .ok (.iload 8, 2) := by decide +kernel
theorem d_Mo_tells_97 : decode b_Mo_tells 97 = .ok (.invokestatic 302, 3) := by decide +kernel
theorem d_Mo_tells_100 : decode b_Mo_tells 100 = .ok (.iconst 0, 1) := by decide +kernel
theorem d_Mo_tells_101 : decode b_Mo_tells 101 = .ok (.iload 6, 2) := by decide +kernel
theorem d_Mo_tells_103 : decode b_Mo_tells 103 = .ok (.aload_n 0, 1) := by decide +kernel
theorem d_Mo_tells_104 : decode b_Mo_tells 104 = .ok (.getfield 84, 3) := by decide +kernel
theorem d_Mo_tells_107 : decode b_Mo_tells 107 = .ok (.iload_n 3, 1) := by decide +kernel
theorem d_Mo_tells_108 : decode b_Mo_tells 108 = .ok (.iconst 2, 1) := by decide +kernel
theorem d_Mo_tells_109 : decode b_Mo_tells 109 = .ok (.iadd, 1) := by decide +kernel
theorem d_Mo_tells_110 : decode b_Mo_tells 110 = .ok (.iaload, 1) := by decide +kernel
theorem d_Mo_tells_111 : decode b_Mo_tells 111 = .ok (.sipush 128, 3) := by decide +kernel
theorem d_Mo_tells_114 : decode b_Mo_tells 114 = .ok (.iand, 1) := by decide +kernel
theorem d_Mo_tells_115 : decode b_Mo_tells 115 = .ok (.ior, 1) := by decide +kernel
theorem d_Mo_tells_116 : decode b_Mo_tells 116 = .ok (.aload_n 0, 1) := by decide +kernel
theorem d_Mo_tells_117 : decode b_Mo_tells 117 = .ok (.getfield 84, 3) := by decide +kernel
theorem d_Mo_tells_120 : decode b_Mo_tells 120 = .ok (.iload_n 3, 1) := by decide +kernel
theorem d_Mo_tells_121 : decode b_Mo_tells 121 = .ok (.iconst 3, 1) := by decide +kernel
theorem d_Mo_tells_122 : decode b_Mo_tells 122 = .ok (.iadd, 1) := by decide +kernel
theorem d_Mo_tells_123 : decode b_Mo_tells 123 = .ok (.iaload, 1) := by decide +kernel
theorem d_Mo_tells_124 : decode b_Mo_tells 124 = .ok (.invokevirtual 305, 3) := by decide +kernel
theorem d_Mo_tells_127 : decode b_Mo_tells 127 = .ok (.iload 7, 2) := by decide +kernel
theorem d_Mo_tells_129 : decode b_Mo_tells 129 = .ok (.ifCond .lt 116, 3) := by decide +kernel
theorem d_Mo_tells_132 : decode b_Mo_tells 132 = .ok (.aload_n 0, 1) := by decide +kernel
theorem d_Mo_tells_133 : decode b_Mo_tells 133 = .ok (.getfield 13, 3) := by decide +kernel
theorem d_Mo_tells_136 : decode b_Mo_tells 136 = .ok (.iload 7, 2) := by decide +kernel
theorem d_Mo_tells_138 : decode b_Mo_tells 138 = .ok (.iaload, 1) := by decide +kernel
theorem d_Mo_tells_139 : decode b_Mo_tells 139 = .ok (.iload 8, 2) := by decide +kernel
theorem d_Mo_tells_141 : decode b_Mo_tells 141 = .ok (.if_icmp .ne 104, 3) := by decide +kernel
theorem d_Mo_tells_144 : decode b_Mo_tells 144 = .ok (.aload_n 0, 1) := by decide +kernel
theorem d_Mo_tells_145 : decode b_Mo_tells 145 = .ok (.getfield 219, 3) := by decide +kernel
theorem d_Mo_tells_148 : decode b_Mo_tells 148 = .ok (.aload_n 0, 1) := by decide +kernel
theorem d_Mo_tells_149 : decode b_Mo_tells 149 = .ok (.iload_n 1, 1) := by decide +kernel
theorem d_Mo_tells_150 : decode b_Mo_tells 150 = .ok (.invokevirtual 296, 3) := by decide +kernel
theorem d_Mo_tells_153 : decode b_Mo_tells 153 = .ok (.iadd, 1) := by decide +kernel
theorem d_Mo_tells_154 : decode b_Mo_tells 154 = .ok (.iload 8, 2) := by decide +kernel
theorem d_Mo_tells_156 : decode b_Mo_tells 156 = .ok (.invokestatic 309, 3) := by decide +kernel
theorem d_Mo_tells_159 : decode b_Mo_tells 159 = .ok (.iadd, 1) := by decide +kernel
theorem d_Mo_tells_160 : decode b_Mo_tells 160 = .ok (.sipush 249, 3) := by decide +kernel
theorem d_Mo_tells_163 : decode b_Mo_tells 163 = .ok (.if_icmp .gt 82, 3) := by decide +kernel
theorem d_Mo_tells_166 : decode b_Mo_tells 166 = .ok (.aload_n 0, 1) := by decide +kernel
theorem d_Mo_tells_167 : decode b_Mo_tells 167 = .ok (.aload_n 0, 1) := by decide +kernel
theorem d_Mo_tells_168 : decode b_Mo_tells 168 = .ok (.getfield 7, 3) := by decide +kernel
theorem d_Mo_tells_171 : decode b_Mo_tells 171 = .ok (.iload 7, 2) := by decide +kernel
theorem d_Mo_tells_173 : decode b_Mo_tells 173 = .ok (.iaload, 1) := by decide +kernel
theorem d_Mo_tells_174 : decode b_Mo_tells 174 = .ok (.aload_n 0, 1) := by decide +kernel
theorem d_Mo_tells_175 : decode b_Mo_tells 175 = .ok (.iload_n 1, 1) := by decide +kernel
theorem d_Mo_tells_176 : decode b_Mo_tells 176 = .ok (.invokevirtual 296, 3) := by decide +kernel
theorem d_Mo_tells_179 : decode b_Mo_tells 179 = .ok (.invokevirtual 272, 3) := by decide +kernel
theorem d_Mo_tells_182 : decode b_Mo_tells 182 = .ok (.aload_n 0, 1) := by decide +kernel
theorem d_Mo_tells_183 : decode b_Mo_tells 183 = .ok (.iload 8, 2) := by decide +kernel
theorem d_Mo_tells_185 : decode b_Mo_tells 185 = .ok (.aload_n 0, 1) := by decide +kernel
theorem d_Mo_tells_186 : decode b_Mo_tells 186 = .ok (.getfield 23, 3) := by decide +kernel
theorem d_Mo_tells_189 : decode b_Mo_tells 189 = .ok (.iload 7, 2) := by decide +kernel
theorem d_Mo_tells_191 : decode b_Mo_tells 191 = .ok (.iaload, 1) := by decide +kernel
theorem d_Mo_tells_192 : decode b_Mo_tells 192 = .ok (.aload_n 0, 1) := by decide +kernel
theorem d_Mo_tells_193 : decode b_Mo_tells 193 = .ok (.getfield 26, 3) := by decide +kernel
theorem d_Mo_tells_196 : decode b_Mo_tells 196 = .ok (.iload 7, 2) := by decide +kernel
theorem d_Mo_tells_198 : decode b_Mo_tells 198 = .ok (.iaload, 1) := by decide +kernel
theorem d_Mo_tells_199 : decode b_Mo_tells 199 = .ok (.aload_n 0, 1) := by decide +kernel
theorem d_Mo_tells_200 : decode b_Mo_tells 200 = .ok (.getfield 259, 3) := by decide +kernel
theorem d_Mo_tells_203 : decode b_Mo_tells 203 = .ok (.invokevirtual 312, 3) := by decide +kernel
theorem d_Mo_tells_206 : decode b_Mo_tells 206 = .ok (.aload_n 0, 1) := by decide +kernel
theorem d_Mo_tells_207 : decode b_Mo_tells 207 = .ok (.getfield 172, 3) := by decide +kernel
theorem d_Mo_tells_210 : decode b_Mo_tells 210 = .ok (.iconst 1, 1) := by decide +kernel
theorem d_Mo_tells_211 : decode b_Mo_tells 211 = .ok (.dup2, 1) := by decide +kernel
theorem d_Mo_tells_212 : decode b_Mo_tells 212 = .ok (.iaload, 1) := by decide +kernel
theorem d_Mo_tells_213 : decode b_Mo_tells 213 = .ok (.iconst 1, 1) := by decide +kernel
theorem d_Mo_tells_214 : decode b_Mo_tells 214 = .ok (.iadd, 1) := by decide +kernel
theorem d_Mo_tells_215 : decode b_Mo_tells 215 = .ok (.iastore, 1) := by decide +kernel
theorem d_Mo_tells_216 : decode b_Mo_tells 216 = .ok (.aload_n 0, 1) := by decide +kernel
theorem d_Mo_tells_217 : decode b_Mo_tells 217 = .ok (.getfield 93, 3) := by decide +kernel
theorem d_Mo_tells_220 : decode b_Mo_tells 220 = .ok (.iload_n 2, 1) := by decide +kernel
theorem d_Mo_tells_221 : decode b_Mo_tells 221 = .ok (.aload_n 0, 1) := by decide +kernel
theorem d_Mo_tells_222 : decode b_Mo_tells 222 = .ok (.getfield 7, 3) := by decide +kernel
theorem d_Mo_tells_225 : decode b_Mo_tells 225 = .ok (.iload 7, 2) := by decide +kernel
theorem d_Mo_tells_227 : decode b_Mo_tells 227 = .ok (.iaload, 1) := by decide +kernel
theorem d_Mo_tells_228 : decode b_Mo_tells 228 = .ok (.iastore, 1) := by decide +kernel
theorem d_Mo_tells_229 : decode b_Mo_tells 229 = .ok (.aload_n 0, 1) := by decide +kernel
theorem d_Mo_tells_230 : decode b_Mo_tells 230 = .ok (.iload_n 1, 1) := by decide +kernel
theorem d_Mo_tells_231 : decode b_Mo_tells 231 = .ok (.aload_n 0, 1) := by decide +kernel
theorem d_Mo_tells_232 : decode b_Mo_tells 232 = .ok (.getfield 93, 3) := by decide +kernel
theorem d_Mo_tells_235 : decode b_Mo_tells 235 = .ok (.iload_n 2, 1) := by decide +kernel
theorem d_Mo_tells_236 : decode b_Mo_tells 236 = .ok (.iaload, 1) := by decide +kernel
theorem d_Mo_tells_237 : decode b_Mo_tells 237 = .ok (.invokevirtual 299, 3) := by decide +kernel
theorem d_Mo_tells_240 : decode b_Mo_tells 240 = .ok (.istore 7, 2) := by decide +kernel
theorem d_Mo_tells_242 : decode b_Mo_tells 242 = .ok (.goto (-115), 3) := by decide +kernel
theorem d_Mo_tells_245 : decode b_Mo_tells 245 = .ok (.aload_n 0, 1) := by decide +kernel
theorem d_Mo_tells_246 : decode b_Mo_tells 246 = .ok (.iload_n 1, 1) := by decide +kernel
theorem d_Mo_tells_247 : decode b_Mo_tells 247 = .ok (.invokevirtual 316, 3) := by decide +kernel
theorem d_Mo_tells_250 : decode b_Mo_tells 250 = .ok (.return_, 1) := by decide +kernel
set_option maxRecDepth 100000 in
set_option maxHeartbeats 4000000 in
theorem c_Mo_tells (l : Launch) (D : va_G) (ca : Nat → ClassId) (ad : Nat → Nat) (L : List Nat) (f0 : Nat → va_E) (sz : Nat) (σ0 : mq_S) (hM : mq_B ca ad σ0 L f0) (j1 : Nat) (q1 : j1 ≤ 3) (z1 : Nat) (o0 : σ0.2.2.1 30 (j1) = nI z1) (hz : 0 < z1) (hy : z1 ≤ 16) (hph : σ0.2.2.1 33 (j1 * 16 + 0) = 2) (u0 : IH σ0) :
    Met l y_Mo_tells (Cond.code y_Mo_tells b_Mo_tells 9 none :: wg) { frames := 4, cells := 0, slots := 0, locals := 94 } (va_Pc [.ref (ad 71), .int (nI j1)] (sm_P D cl_all (ty_s ca) ek L f0 sz)) (sm_Qv D (ty_s ca) L f0 sz (fun u => mq_po ca ad L σ0 [33, 34, 69, 70] (fun σ => IH σ ∧ True) u)) 0 0 (va_A (va_pl L f0) sz) := by
  refine sm_start (by decide) (Nat.le_of_ble_eq_true rfl) ?_
  intro p e s m below meth c ls hx hb hml hr hlk hnm hts hown hsz hE hI hl
  have hl : lv_has ls 9 [(0, .ref (ad 71)), (1, .int (nI j1))] := hl
  have hF : mq_fr [33, 34, 69, 70] σ0 σ0 := mq_fr_rf
  have hJ_127 : ∀ (N : Nat) (H : Heap) (locs : List Loc) (f : Nat → va_E) (σ : mq_S) (ls : Array Slot) (r : Nat) (y3 : Int32) (y4 : Int32) (y5 : Int32) (y6 : Int32) (y7 : Int32) (y8 : Int32) (z : Nat), 261 - z + 1 ≤ N → sw_I D cl_all (ty_s ca) (va_A (va_pl L f0) sz) s H locs L f → mq_B ca ad σ L f → mq_fr [33, 34, 69, 70] σ0 σ → lv_has ls 9 [(0, .ref (ad 71)), (1, .int (nI j1)), (2, .int (nI r)), (3, .int (y3)), (4, .int (y4)), (5, .int (y5)), (6, .int (y6)), (7, .int (y7)), (8, .int (y8))] → (0 ≤ z) → (z ≤ 260) → (σ.1 70 = nI z) → (IHs σ j1) → (r = j1 * 16 + 0) → (y7 = -1 ∨ ∃ n : Nat, y7 = nI n ∧ n ≤ 31) → W p l e { frames := 4, cells := 0, slots := 0, locals := 94 } s m ([.ref (ad 71), .int (nI j1)] : List Value).toArray below meth c H locs 0 0 (MQ below (sm_Qv D (ty_s ca) L f0 sz (fun u => mq_po ca ad L σ0 [33, 34, 69, 70] (fun σ => IH σ ∧ True) u)) ([.ref (ad 71), .int (nI j1)] : List Value).toArray s 0 0 (va_A (va_pl L f0) sz)) (F0 m 127 ls []) := by
    intro N
    induction N with
    | zero => intros; omega
    | succ N ih =>
      intro H locs f σ ls r y3 y4 y5 y6 y7 y8 z hN hI hM hF hl h90a h90b o90 u90 hrr hv
      refine lv_iload hx hb d_Mo_tells_127 (lv_at hl 7 rfl) ?_
      refine lv_if_lt (tgt := 245) hx hb d_Mo_tells_129 (by decide) (fun c_1 => ?_) (fun c_1 => ?_)
      · refine lv_aload_n hx hb d_Mo_tells_245 rfl (lv_at hl 0 rfl) ?_
        refine lv_iload_n hx hb d_Mo_tells_246 rfl (lv_at hl 1 rfl) ?_
        refine sm_vM hI (va_runV (As := [.int (nI j1)]) (rest := []) ⟨hx, hb, hml, hown, hts⟩ (c_Mo_settle l D ca ad L _ _ _ hM (j1) (by omega) u90) (kv_Mo_settle hts rfl rfl (hts _ tw_1492) ⟨Nat.le_of_ble_eq_true rfl, Nat.le_of_ble_eq_true rfl⟩) (pv_Mo hI hE hM) rfl rfl hl.1 rfl (lv_room (Nat.le_of_ble_eq_true rfl)) d_Mo_tells_247 ⟨Nat.le_of_ble_eq_true rfl, Nat.le_of_ble_eq_true rfl⟩) (fun H locs f σ_3 hI hM hF_4 p_2 => ?_)
        have hF := mq_fr_tr hF hF_4 (by decide)
        have o_5 : σ_3.1 70 = nI z := mq_fi hF_4 (by decide) o90
        obtain ⟨u_6, -⟩ := p_2
        exact sm_vret hx hb hr hlk hI ⟨σ_3, rfl, hM, hF, ⟨u_6, trivial⟩⟩ d_Mo_tells_250
      · refine lv_aload_n hx hb d_Mo_tells_132 rfl (lv_at hl 0 rfl) ?_
        refine mq_get (k := 4) (v := .ref (ad 4)) hx hb hts hown hI hM (by decide) rfl rfl (hts _ tw_1173) d_Mo_tells_133 ?_
        refine lv_iload hx hb d_Mo_tells_136 (lv_at hl 7 rfl) ?_
        refine lv_topi (fun x_7 e_8 => ?_)
        obtain ⟨j_9, h_10, rfl⟩ : ∃ j : Nat, j < 32 ∧ x_7 = nI j := by rw [e_8]; exact px_ix hv c_1
        obtain ⟨x_11, e_12⟩ : ∃ z, σ.2.2.1 4 (j_9) = z := ⟨_, rfl⟩
        refine mq_iald (k := 4) (j := j_9) (v := x_11) hx hb hI hM (by decide) rfl (by show j_9 < 32; omega) (by decide) e_12 d_Mo_tells_138 ?_
        refine lv_iload hx hb d_Mo_tells_139 (lv_at hl 8 rfl) ?_
        refine lv_icmp_ne (tgt := 245) hx hb d_Mo_tells_141 (by decide) (fun c_13 => ?_) (fun c_13 => ?_)
        · refine lv_aload_n hx hb d_Mo_tells_245 rfl (lv_at hl 0 rfl) ?_
          refine lv_iload_n hx hb d_Mo_tells_246 rfl (lv_at hl 1 rfl) ?_
          refine sm_vM hI (va_runV (As := [.int (nI j1)]) (rest := []) ⟨hx, hb, hml, hown, hts⟩ (c_Mo_settle l D ca ad L _ _ _ hM (j1) (by omega) u90) (kv_Mo_settle hts rfl rfl (hts _ tw_1492) ⟨Nat.le_of_ble_eq_true rfl, Nat.le_of_ble_eq_true rfl⟩) (pv_Mo hI hE hM) rfl rfl hl.1 rfl (lv_room (Nat.le_of_ble_eq_true rfl)) d_Mo_tells_247 ⟨Nat.le_of_ble_eq_true rfl, Nat.le_of_ble_eq_true rfl⟩) (fun H locs f σ_15 hI hM hF_16 p_14 => ?_)
          have hF := mq_fr_tr hF hF_16 (by decide)
          have o_17 : σ_15.1 70 = nI z := mq_fi hF_16 (by decide) o90
          obtain ⟨u_18, -⟩ := p_14
          exact sm_vret hx hb hr hlk hI ⟨σ_15, rfl, hM, hF, ⟨u_18, trivial⟩⟩ d_Mo_tells_250
        · refine lv_aload_n hx hb d_Mo_tells_144 rfl (lv_at hl 0 rfl) ?_
          refine mq_get (k := 70) (v := .int (nI z)) hx hb hts hown hI hM (by decide) (congrArg (fun z => some (Value.int z)) o90) rfl (hts _ tw_1239) d_Mo_tells_145 ?_
          refine lv_aload_n hx hb d_Mo_tells_148 rfl (lv_at hl 0 rfl) ?_
          refine lv_iload_n hx hb d_Mo_tells_149 rfl (lv_at hl 1 rfl) ?_
          refine sm_iP hI (va_runV (As := [.int (nI j1)]) (rest := [.int (nI z)]) ⟨hx, hb, hml, hown, hts⟩ (c_Mo_objectBytes l D ca ad L _ _ _ hM (nI j1)) (kv_Mo_objectBytes hts rfl rfl (hts _ tw_1462) ⟨Nat.le_of_ble_eq_true rfl, Nat.le_of_ble_eq_true rfl⟩) (pv_Mo hI hE hM) rfl rfl hl.1 rfl (lv_room (Nat.le_of_ble_eq_true rfl)) d_Mo_tells_150 ⟨Nat.le_of_ble_eq_true rfl, Nat.le_of_ble_eq_true rfl⟩) (fun x_20 H locs p_19 hI => ?_)
          obtain ⟨n_21, rfl, h_22, h_23, h_24⟩ := p_19
          refine lv_iadd hx hb d_Mo_tells_153 ?_
          refine lv_topi (fun x_25 e_26 => ?_)
          obtain rfl : x_25 = nI (z + n_21) := by rw [e_26]; exact nI_add _ _
          refine lv_iload hx hb d_Mo_tells_154 (lv_at hl 8 rfl) ?_
          refine sm_iP hI (va_runS (As := [.int (y8)]) (rest := [.int (nI (z + n_21))]) ⟨hx, hb, hml, hown, hts⟩ (c_Mo_objectSizeOf l D ca L _ _ y8) (ks_Mo_objectSizeOf hts rfl rfl (hts _ tw_1485) ⟨Nat.le_of_ble_eq_true rfl, Nat.le_of_ble_eq_true rfl⟩) (sm_preS hI hE) rfl rfl hl.1 rfl (lv_room (Nat.le_of_ble_eq_true rfl)) d_Mo_tells_156 ⟨Nat.le_of_ble_eq_true rfl, Nat.le_of_ble_eq_true rfl⟩) (fun x_28 H locs p_27 hI => ?_)
          obtain ⟨n_29, rfl, h_30, h_31⟩ := p_27
          refine lv_iadd hx hb d_Mo_tells_159 ?_
          refine lv_topi (fun x_32 e_33 => ?_)
          obtain rfl : x_32 = nI ((z + n_21) + n_29) := by rw [e_33]; exact nI_add _ _
          refine lv_sipush (v := 249) hx hb d_Mo_tells_160 (by decide) ?_
          refine lv_icmp_gt (tgt := 245) hx hb d_Mo_tells_163 (by decide) (fun c_34 => ?_) (fun c_34 => ?_)
          · have k_35 : 249 < ((z + n_21) + n_29) := (nI_ltI (a := 249) (b := ((z + n_21) + n_29)) (by omega) (by omega)).mp c_34
            refine lv_aload_n hx hb d_Mo_tells_245 rfl (lv_at hl 0 rfl) ?_
            refine lv_iload_n hx hb d_Mo_tells_246 rfl (lv_at hl 1 rfl) ?_
            refine sm_vM hI (va_runV (As := [.int (nI j1)]) (rest := []) ⟨hx, hb, hml, hown, hts⟩ (c_Mo_settle l D ca ad L _ _ _ hM (j1) (by omega) u90) (kv_Mo_settle hts rfl rfl (hts _ tw_1492) ⟨Nat.le_of_ble_eq_true rfl, Nat.le_of_ble_eq_true rfl⟩) (pv_Mo hI hE hM) rfl rfl hl.1 rfl (lv_room (Nat.le_of_ble_eq_true rfl)) d_Mo_tells_247 ⟨Nat.le_of_ble_eq_true rfl, Nat.le_of_ble_eq_true rfl⟩) (fun H locs f σ_37 hI hM hF_38 p_36 => ?_)
            have hF := mq_fr_tr hF hF_38 (by decide)
            have o_39 : σ_37.1 70 = nI z := mq_fi hF_38 (by decide) o90
            obtain ⟨u_40, -⟩ := p_36
            exact sm_vret hx hb hr hlk hI ⟨σ_37, rfl, hM, hF, ⟨u_40, trivial⟩⟩ d_Mo_tells_250
          · have k_41 : ((z + n_21) + n_29) ≤ 249 := Nat.le_of_not_lt (fun q => c_34 ((nI_ltI (a := 249) (b := ((z + n_21) + n_29)) (by omega) (by omega)).mpr q))
            refine lv_aload_n hx hb d_Mo_tells_166 rfl (lv_at hl 0 rfl) ?_
            refine lv_aload_n hx hb d_Mo_tells_167 rfl (lv_at hl 0 rfl) ?_
            refine mq_get (k := 3) (v := .ref (ad 3)) hx hb hts hown hI hM (by decide) rfl rfl (hts _ tw_1172) d_Mo_tells_168 ?_
            refine lv_iload hx hb d_Mo_tells_171 (lv_at hl 7 rfl) ?_
            refine lv_topi (fun x_42 e_43 => ?_)
            obtain ⟨j_44, h_45, rfl⟩ : ∃ j : Nat, j < 32 ∧ x_42 = nI j := by rw [e_43]; exact px_ix hv c_1
            obtain ⟨x_46, e_47⟩ : ∃ z, σ.2.2.1 3 (j_44) = z := ⟨_, rfl⟩
            refine mq_iald (k := 3) (j := j_44) (v := x_46) hx hb hI hM (by decide) rfl (by show j_44 < 32; omega) (by decide) e_47 d_Mo_tells_173 ?_
            refine lv_aload_n hx hb d_Mo_tells_174 rfl (lv_at hl 0 rfl) ?_
            refine lv_iload_n hx hb d_Mo_tells_175 rfl (lv_at hl 1 rfl) ?_
            refine sm_iP hI (va_runV (As := [.int (nI j1)]) (rest := [.int (x_46), .ref (ad 71)]) ⟨hx, hb, hml, hown, hts⟩ (c_Mo_objectBytes l D ca ad L _ _ _ hM (nI j1)) (kv_Mo_objectBytes hts rfl rfl (hts _ tw_1462) ⟨Nat.le_of_ble_eq_true rfl, Nat.le_of_ble_eq_true rfl⟩) (pv_Mo hI hE hM) rfl rfl hl.1 rfl (lv_room (Nat.le_of_ble_eq_true rfl)) d_Mo_tells_176 ⟨Nat.le_of_ble_eq_true rfl, Nat.le_of_ble_eq_true rfl⟩) (fun x_49 H locs p_48 hI => ?_)
            obtain ⟨n_50, rfl, h_51, h_52, h_53⟩ := p_48
            refine sm_vM hI (va_runV (As := [.int (x_46), .int (nI n_50)]) (rest := []) ⟨hx, hb, hml, hown, hts⟩ (c_Mo_addNumber l D ca ad L _ _ _ hM x_46 (n_50) (by omega) (z) o90 (by omega)) (kv_Mo_addNumber hts rfl rfl (hts _ tw_1481) ⟨Nat.le_of_ble_eq_true rfl, Nat.le_of_ble_eq_true rfl⟩) (pv_Mo hI hE hM) rfl rfl hl.1 rfl (lv_room (Nat.le_of_ble_eq_true rfl)) d_Mo_tells_179 ⟨Nat.le_of_ble_eq_true rfl, Nat.le_of_ble_eq_true rfl⟩) (fun H locs f σ_55 hI hM hF_56 p_54 => ?_)
            have hF := mq_fr_tr hF hF_56 (by decide)
            have u_57 := IHs_fr hF_56 (by decide) u90
            obtain ⟨o_58, -⟩ := p_54
            refine lv_aload_n hx hb d_Mo_tells_182 rfl (lv_at hl 0 rfl) ?_
            refine lv_iload hx hb d_Mo_tells_183 (lv_at hl 8 rfl) ?_
            refine lv_aload_n hx hb d_Mo_tells_185 rfl (lv_at hl 0 rfl) ?_
            refine mq_get (k := 7) (v := .ref (ad 7)) hx hb hts hown hI hM (by decide) rfl rfl (hts _ tw_1176) d_Mo_tells_186 ?_
            refine lv_iload hx hb d_Mo_tells_189 (lv_at hl 7 rfl) ?_
            refine lv_topi (fun x_59 e_60 => ?_)
            obtain ⟨j_61, h_62, rfl⟩ : ∃ j : Nat, j < 32 ∧ x_59 = nI j := by rw [e_60]; exact px_ix hv c_1
            obtain ⟨x_63, e_64⟩ : ∃ z, σ_55.2.2.1 7 (j_61) = z := ⟨_, rfl⟩
            refine mq_iald (k := 7) (j := j_61) (v := x_63) hx hb hI hM (by decide) rfl (by show j_61 < 32; omega) (by decide) e_64 d_Mo_tells_191 ?_
            refine lv_aload_n hx hb d_Mo_tells_192 rfl (lv_at hl 0 rfl) ?_
            refine mq_get (k := 8) (v := .ref (ad 8)) hx hb hts hown hI hM (by decide) rfl rfl (hts _ tw_1177) d_Mo_tells_193 ?_
            refine lv_iload hx hb d_Mo_tells_196 (lv_at hl 7 rfl) ?_
            refine lv_topi (fun x_65 e_66 => ?_)
            obtain ⟨j_67, h_68, rfl⟩ : ∃ j : Nat, j < 32 ∧ x_65 = nI j := by rw [e_66]; exact px_ix hv c_1
            obtain ⟨x_69, e_70⟩ : ∃ z, σ_55.2.2.1 8 (j_67) = z := ⟨_, rfl⟩
            refine mq_iald (k := 8) (j := j_67) (v := x_69) hx hb hI hM (by decide) rfl (by show j_67 < 32; omega) (by decide) e_70 d_Mo_tells_198 ?_
            refine lv_aload_n hx hb d_Mo_tells_199 rfl (lv_at hl 0 rfl) ?_
            obtain ⟨x_71, e_72⟩ : ∃ z, σ_55.1 9 = z := ⟨_, rfl⟩
            refine mq_get (k := 9) (v := .int (x_71)) hx hb hts hown hI hM (by decide) (congrArg (fun z => some (Value.int z)) e_72) rfl (hts _ tw_1178) d_Mo_tells_200 ?_
            refine sm_vM hI (va_runV (As := [.int (y8), .int (x_63), .int (x_69), .int (x_71)]) (rest := []) ⟨hx, hb, hml, hown, hts⟩ (c_Mo_addObject l D ca ad L _ _ _ hM y8 x_63 x_69 x_71 ((z + n_50)) o_58 (by omega)) (kv_Mo_addObject hts rfl rfl (hts _ tw_1488) ⟨Nat.le_of_ble_eq_true rfl, Nat.le_of_ble_eq_true rfl⟩) (pv_Mo hI hE hM) rfl rfl hl.1 rfl (lv_room (Nat.le_of_ble_eq_true rfl)) d_Mo_tells_203 ⟨Nat.le_of_ble_eq_true rfl, Nat.le_of_ble_eq_true rfl⟩) (fun H locs f σ_74 hI hM hF_75 p_73 => ?_)
            have hF := mq_fr_tr hF hF_75 (by decide)
            have u_76 := IHs_fr hF_75 (by decide) u_57
            obtain ⟨⟨n_78, h_79, h_80, o_77⟩, -⟩ := p_73
            refine lv_aload_n hx hb d_Mo_tells_206 rfl (lv_at hl 0 rfl) ?_
            refine mq_get (k := 69) (v := .ref (ad 69)) hx hb hts hown hI hM (by decide) rfl rfl (hts _ tw_1238) d_Mo_tells_207 ?_
            refine lv_iconst (v := 1) hx hb d_Mo_tells_210 (by decide) ?_
            refine lv_dup2_11 hx hb d_Mo_tells_211 rfl rfl ?_
            obtain ⟨x_81, e_82⟩ : ∃ z, σ_74.2.2.1 69 (1) = z := ⟨_, rfl⟩
            refine mq_iald (k := 69) (j := 1) (v := x_81) hx hb hI hM (by decide) rfl (by show 1 < 260; omega) (by decide) e_82 d_Mo_tells_212 ?_
            refine lv_iconst (v := 1) hx hb d_Mo_tells_213 (by decide) ?_
            refine lv_iadd hx hb d_Mo_tells_214 ?_
            refine lv_topi (fun x_83 e_84 => ?_)
            refine mq_iast (k := 69) (j := 1) (x := x_83) hx hb hI hM (by decide) rfl (by show 1 < 260; omega) (by decide) trivial d_Mo_tells_215 (fun H locs f σ_85 e_86 hI hM => ?_)
            have hF := mq_fr_ug hF e_86 rfl (Or.inl rfl)
            have o_87 : σ_85.1 70 = nI n_78 := by rw [e_86]; exact o_77
            have u_88 := IHs_fr (mq_fr_ug (X := [69]) mq_fr_rf e_86 rfl (Or.inl rfl)) (by decide) u_76
            refine lv_aload_n hx hb d_Mo_tells_216 rfl (lv_at hl 0 rfl) ?_
            refine mq_get (k := 34) (v := .ref (ad 34)) hx hb hts hown hI hM (by decide) rfl rfl (hts _ tw_1203) d_Mo_tells_217 ?_
            refine lv_iload_n hx hb d_Mo_tells_220 rfl (lv_at hl 2 rfl) ?_
            refine lv_aload_n hx hb d_Mo_tells_221 rfl (lv_at hl 0 rfl) ?_
            refine mq_get (k := 3) (v := .ref (ad 3)) hx hb hts hown hI hM (by decide) rfl rfl (hts _ tw_1172) d_Mo_tells_222 ?_
            refine lv_iload hx hb d_Mo_tells_225 (lv_at hl 7 rfl) ?_
            refine lv_topi (fun x_89 e_90 => ?_)
            obtain ⟨j_91, h_92, rfl⟩ : ∃ j : Nat, j < 32 ∧ x_89 = nI j := by rw [e_90]; exact px_ix hv c_1
            obtain ⟨x_93, e_94⟩ : ∃ z, σ_85.2.2.1 3 (j_91) = z := ⟨_, rfl⟩
            refine mq_iald (k := 3) (j := j_91) (v := x_93) hx hb hI hM (by decide) rfl (by show j_91 < 32; omega) (by decide) e_94 d_Mo_tells_227 ?_
            refine mq_iast (k := 34) (j := r) (x := x_93) hx hb hI hM (by decide) rfl (by show r < 64; omega) (by decide) trivial d_Mo_tells_228 (fun H locs f σ_95 e_96 hI hM => ?_)
            have hF := mq_fr_ug hF e_96 rfl (Or.inl rfl)
            have o_97 : σ_95.1 70 = nI n_78 := by rw [e_96]; exact o_87
            have u_98 : IHs σ_95 j1 := IHs_td (hrr ▸ e_96) u_88
            refine lv_aload_n hx hb d_Mo_tells_229 rfl (lv_at hl 0 rfl) ?_
            refine lv_iload_n hx hb d_Mo_tells_230 rfl (lv_at hl 1 rfl) ?_
            refine lv_aload_n hx hb d_Mo_tells_231 rfl (lv_at hl 0 rfl) ?_
            refine mq_get (k := 34) (v := .ref (ad 34)) hx hb hts hown hI hM (by decide) rfl rfl (hts _ tw_1203) d_Mo_tells_232 ?_
            refine lv_iload_n hx hb d_Mo_tells_235 rfl (lv_at hl 2 rfl) ?_
            obtain ⟨x_99, e_100⟩ : ∃ z, σ_95.2.2.1 34 (r) = z := ⟨_, rfl⟩
            refine mq_iald (k := 34) (j := r) (v := x_99) hx hb hI hM (by decide) rfl (by show r < 64; omega) (by decide) e_100 d_Mo_tells_236 ?_
            refine sm_iP hI (va_runV (As := [.int (nI j1), .int (x_99)]) (rest := []) ⟨hx, hb, hml, hown, hts⟩ (c_Mo_nextPoint l D ca ad L _ _ _ hM (j1) (by omega) x_99) (kv_Mo_nextPoint hts rfl rfl (hts _ tw_1466) ⟨Nat.le_of_ble_eq_true rfl, Nat.le_of_ble_eq_true rfl⟩) (pv_Mo hI hE hM) rfl rfl hl.1 rfl (lv_room (Nat.le_of_ble_eq_true rfl)) d_Mo_tells_237 ⟨Nat.le_of_ble_eq_true rfl, Nat.le_of_ble_eq_true rfl⟩) (fun x_102 H locs p_101 hI => ?_)
            rcases p_101 with ⟨rfl, h_105⟩ | ⟨n_103, rfl, h_104, h_105⟩
            · refine lv_istore (lv' := [(7, .int (-1)), (0, .ref (ad 71)), (1, .int (nI j1)), (2, .int (nI r)), (3, .int (y3)), (4, .int (y4)), (5, .int (y5)), (6, .int (y6)), (8, .int (y8))]) hx hb d_Mo_tells_240 hl (by decide) rfl (fun ls hl => ?_)
              refine lv_goto (tgt := 127) hx hb d_Mo_tells_242 (by decide) ?_
              exact ih _ _ _ _ _ (r) y3 y4 y5 y6 (-1) y8 (n_78) (by omega) hI hM hF (lv_sub hl [1, 2, 3, 4, 5, 6, 7, 0, 8] rfl) (by omega) (by omega) o_97 u_98 (by omega) (Or.inl rfl)
            · refine lv_istore (lv' := [(7, .int (nI n_103)), (0, .ref (ad 71)), (1, .int (nI j1)), (2, .int (nI r)), (3, .int (y3)), (4, .int (y4)), (5, .int (y5)), (6, .int (y6)), (8, .int (y8))]) hx hb d_Mo_tells_240 hl (by decide) rfl (fun ls hl => ?_)
              refine lv_goto (tgt := 127) hx hb d_Mo_tells_242 (by decide) ?_
              exact ih _ _ _ _ _ (r) y3 y4 y5 y6 (nI n_103) y8 (n_78) (by omega) hI hM hF (lv_sub hl [1, 2, 3, 4, 5, 6, 7, 0, 8] rfl) (by omega) (by omega) o_97 u_98 (by omega) (Or.inr ⟨n_103, rfl, by omega⟩)
  refine lv_aload_n hx hb d_Mo_tells_0 rfl (lv_at hl 0 rfl) ?_
  refine lv_iload_n hx hb d_Mo_tells_1 rfl (lv_at hl 1 rfl) ?_
  refine lv_iconst (v := 0) hx hb d_Mo_tells_2 (by decide) ?_
  refine sm_iP hI (va_runV (As := [.int (nI j1), .int (0)]) (rest := []) ⟨hx, hb, hml, hown, hts⟩ (c_Mo_slot l D ca ad L _ _ _ hM (j1) (by omega) (0) (by omega)) (kv_Mo_slot hts rfl rfl (hts _ tw_1442) ⟨Nat.le_of_ble_eq_true rfl, Nat.le_of_ble_eq_true rfl⟩) (pv_Mo hI hE hM) rfl rfl hl.1 rfl (lv_room (Nat.le_of_ble_eq_true rfl)) d_Mo_tells_3 ⟨Nat.le_of_ble_eq_true rfl, Nat.le_of_ble_eq_true rfl⟩) (fun x_107 H locs p_106 hI => ?_)
  subst p_106
  refine lv_istore_n (lv' := [(2, .int (nI (j1 * 16 + 0))), (0, .ref (ad 71)), (1, .int (nI j1))]) hx hb d_Mo_tells_6 rfl hl (by decide) rfl (fun ls hl => ?_)
  refine lv_iload_n hx hb d_Mo_tells_7 rfl (lv_at hl 0 rfl) ?_
  refine lv_sipush (v := 260) hx hb d_Mo_tells_8 (by decide) ?_
  refine lv_imul hx hb d_Mo_tells_11 ?_
  refine lv_topi (fun x_108 e_109 => ?_)
  obtain rfl : x_108 = nI ((j1 * 16 + 0) * 260) := by rw [e_109]; exact pk_mul _ _
  refine lv_istore_n (lv' := [(3, .int (nI ((j1 * 16 + 0) * 260))), (2, .int (nI (j1 * 16 + 0))), (0, .ref (ad 71)), (1, .int (nI j1))]) hx hb d_Mo_tells_12 rfl hl (by decide) rfl (fun ls hl => ?_)
  refine lv_aload_n hx hb d_Mo_tells_13 rfl (lv_at hl 2 rfl) ?_
  refine lv_iload_n hx hb d_Mo_tells_14 rfl (lv_at hl 3 rfl) ?_
  refine sm_iP hI (va_runV (As := [.int (nI j1)]) (rest := []) ⟨hx, hb, hml, hown, hts⟩ (c_Mo_headBytes l D ca ad L _ _ _ hM (nI j1)) (kv_Mo_headBytes hts rfl rfl (hts _ tw_1450) ⟨Nat.le_of_ble_eq_true rfl, Nat.le_of_ble_eq_true rfl⟩) (pv_Mo hI hE hM) rfl rfl hl.1 rfl (lv_room (Nat.le_of_ble_eq_true rfl)) d_Mo_tells_15 ⟨Nat.le_of_ble_eq_true rfl, Nat.le_of_ble_eq_true rfl⟩) (fun x_111 H locs p_110 hI => ?_)
  obtain ⟨n_112, rfl, h_113, h_114, h_115⟩ := p_110
  refine lv_aload_n hx hb d_Mo_tells_18 rfl (lv_at hl 2 rfl) ?_
  refine lv_iload_n hx hb d_Mo_tells_19 rfl (lv_at hl 3 rfl) ?_
  refine sm_iP hI (va_runV (As := [.int (nI j1)]) (rest := [.int (nI n_112)]) ⟨hx, hb, hml, hown, hts⟩ (c_Mo_objectBytes l D ca ad L _ _ _ hM (nI j1)) (kv_Mo_objectBytes hts rfl rfl (hts _ tw_1462) ⟨Nat.le_of_ble_eq_true rfl, Nat.le_of_ble_eq_true rfl⟩) (pv_Mo hI hE hM) rfl rfl hl.1 rfl (lv_room (Nat.le_of_ble_eq_true rfl)) d_Mo_tells_20 ⟨Nat.le_of_ble_eq_true rfl, Nat.le_of_ble_eq_true rfl⟩) (fun x_117 H locs p_116 hI => ?_)
  obtain ⟨n_118, rfl, h_119, h_120, h_121⟩ := p_116
  refine lv_iadd hx hb d_Mo_tells_23 ?_
  refine lv_topi (fun x_122 e_123 => ?_)
  obtain rfl : x_122 = nI (n_112 + n_118) := by rw [e_123]; exact nI_add _ _
  refine lv_istore (lv' := [(4, .int (nI (n_112 + n_118))), (3, .int (nI ((j1 * 16 + 0) * 260))), (2, .int (nI (j1 * 16 + 0))), (0, .ref (ad 71)), (1, .int (nI j1))]) hx hb d_Mo_tells_24 hl (by decide) rfl (fun ls hl => ?_)
  refine lv_aload_n hx hb d_Mo_tells_26 rfl (lv_at hl 3 rfl) ?_
  refine mq_get (k := 31) (v := .ref (ad 31)) hx hb hts hown hI hM (by decide) rfl rfl (hts _ tw_1200) d_Mo_tells_27 ?_
  refine lv_iload_n hx hb d_Mo_tells_30 rfl (lv_at hl 1 rfl) ?_
  refine lv_iload hx hb d_Mo_tells_31 (lv_at hl 0 rfl) ?_
  refine lv_iadd hx hb d_Mo_tells_33 ?_
  refine lv_topi (fun x_124 e_125 => ?_)
  obtain rfl : x_124 = nI (((j1 * 16 + 0) * 260) + (n_112 + n_118)) := by rw [e_125]; exact nI_add _ _
  obtain ⟨x_126, e_127⟩ : ∃ z, σ0.2.2.1 31 ((((j1 * 16 + 0) * 260) + (n_112 + n_118))) = z := ⟨_, rfl⟩
  refine mq_iald (k := 31) (j := (((j1 * 16 + 0) * 260) + (n_112 + n_118))) (v := x_126) hx hb hI hM (by decide) rfl (by show (((j1 * 16 + 0) * 260) + (n_112 + n_118)) < 16640; omega) (by decide) e_127 d_Mo_tells_34 ?_
  refine lv_istore (lv' := [(5, .int (x_126)), (4, .int (nI (n_112 + n_118))), (3, .int (nI ((j1 * 16 + 0) * 260))), (2, .int (nI (j1 * 16 + 0))), (0, .ref (ad 71)), (1, .int (nI j1))]) hx hb d_Mo_tells_35 hl (by decide) rfl (fun ls hl => ?_)
  refine lv_aload_n hx hb d_Mo_tells_37 rfl (lv_at hl 4 rfl) ?_
  refine mq_get (k := 31) (v := .ref (ad 31)) hx hb hts hown hI hM (by decide) rfl rfl (hts _ tw_1200) d_Mo_tells_38 ?_
  refine lv_iload_n hx hb d_Mo_tells_41 rfl (lv_at hl 2 rfl) ?_
  obtain ⟨x_128, e_129⟩ : ∃ z, σ0.2.2.1 31 (((j1 * 16 + 0) * 260)) = z := ⟨_, rfl⟩
  refine mq_iald (k := 31) (j := ((j1 * 16 + 0) * 260)) (v := x_128) hx hb hI hM (by decide) rfl (by show ((j1 * 16 + 0) * 260) < 16640; omega) (by decide) e_129 d_Mo_tells_42 ?_
  refine lv_bipush (v := 100) hx hb d_Mo_tells_43 (by decide) ?_
  refine lv_icmp_ne (tgt := 53) hx hb d_Mo_tells_45 (by decide) (fun c_130 => ?_) (fun c_130 => ?_)
  · refine lv_iload hx hb d_Mo_tells_53 (lv_at hl 0 rfl) ?_
    refine lv_iconst (v := 5) hx hb d_Mo_tells_55 (by decide) ?_
    refine lv_icmp_ne (tgt := 64) hx hb d_Mo_tells_56 (by decide) (fun c_131 => ?_) (fun c_131 => ?_)
    · refine lv_bipush (v := 37) hx hb d_Mo_tells_64 (by decide) ?_
      refine lv_iload hx hb d_Mo_tells_66 (lv_at hl 0 rfl) ?_
      refine lv_iadd hx hb d_Mo_tells_68 ?_
      refine lv_topi (fun x_132 e_133 => ?_)
      refine lv_istore (lv' := [(6, .int (x_132)), (5, .int (x_126)), (4, .int (nI (n_112 + n_118))), (3, .int (nI ((j1 * 16 + 0) * 260))), (2, .int (nI (j1 * 16 + 0))), (0, .ref (ad 71)), (1, .int (nI j1))]) hx hb d_Mo_tells_69 hl (by decide) rfl (fun ls hl => ?_)
      refine lv_aload_n hx hb d_Mo_tells_71 rfl (lv_at hl 5 rfl) ?_
      refine lv_iload_n hx hb d_Mo_tells_72 rfl (lv_at hl 6 rfl) ?_
      refine lv_aload_n hx hb d_Mo_tells_73 rfl (lv_at hl 5 rfl) ?_
      refine mq_get (k := 34) (v := .ref (ad 34)) hx hb hts hown hI hM (by decide) rfl rfl (hts _ tw_1203) d_Mo_tells_74 ?_
      refine lv_iload_n hx hb d_Mo_tells_77 rfl (lv_at hl 4 rfl) ?_
      obtain ⟨x_134, e_135⟩ : ∃ z, σ0.2.2.1 34 ((j1 * 16 + 0)) = z := ⟨_, rfl⟩
      refine mq_iald (k := 34) (j := (j1 * 16 + 0)) (v := x_134) hx hb hI hM (by decide) rfl (by show (j1 * 16 + 0) < 64; omega) (by decide) e_135 d_Mo_tells_78 ?_
      refine sm_iP hI (va_runV (As := [.int (nI j1), .int (x_134)]) (rest := []) ⟨hx, hb, hml, hown, hts⟩ (c_Mo_nextPoint l D ca ad L _ _ _ hM (j1) (by omega) x_134) (kv_Mo_nextPoint hts rfl rfl (hts _ tw_1466) ⟨Nat.le_of_ble_eq_true rfl, Nat.le_of_ble_eq_true rfl⟩) (pv_Mo hI hE hM) rfl rfl hl.1 rfl (lv_room (Nat.le_of_ble_eq_true rfl)) d_Mo_tells_79 ⟨Nat.le_of_ble_eq_true rfl, Nat.le_of_ble_eq_true rfl⟩) (fun x_137 H locs p_136 hI => ?_)
      rcases p_136 with ⟨rfl, h_140⟩ | ⟨n_138, rfl, h_139, h_140⟩
      · exact (h_140 (np_first u0 q1 o0 hz (by omega) hph e_135)).elim
      · refine lv_istore (lv' := [(7, .int (nI n_138)), (6, .int (x_132)), (5, .int (x_126)), (4, .int (nI (n_112 + n_118))), (3, .int (nI ((j1 * 16 + 0) * 260))), (2, .int (nI (j1 * 16 + 0))), (0, .ref (ad 71)), (1, .int (nI j1))]) hx hb d_Mo_tells_82 hl (by decide) rfl (fun ls hl => ?_)
        refine lv_aload_n hx hb d_Mo_tells_84 rfl (lv_at hl 6 rfl) ?_
        refine mq_get (k := 4) (v := .ref (ad 4)) hx hb hts hown hI hM (by decide) rfl rfl (hts _ tw_1173) d_Mo_tells_85 ?_
        refine lv_iload hx hb d_Mo_tells_88 (lv_at hl 0 rfl) ?_
        obtain ⟨x_141, e_142⟩ : ∃ z, σ0.2.2.1 4 (n_138) = z := ⟨_, rfl⟩
        refine mq_iald (k := 4) (j := n_138) (v := x_141) hx hb hI hM (by decide) rfl (by show n_138 < 32; omega) (by decide) e_142 d_Mo_tells_90 ?_
        refine lv_istore (lv' := [(8, .int (x_141)), (7, .int (nI n_138)), (6, .int (x_132)), (5, .int (x_126)), (4, .int (nI (n_112 + n_118))), (3, .int (nI ((j1 * 16 + 0) * 260))), (2, .int (nI (j1 * 16 + 0))), (0, .ref (ad 71)), (1, .int (nI j1))]) hx hb d_Mo_tells_91 hl (by decide) rfl (fun ls hl => ?_)
        refine lv_aload_n hx hb d_Mo_tells_93 rfl (lv_at hl 7 rfl) ?_
        refine lv_iload_n hx hb d_Mo_tells_94 rfl (lv_at hl 8 rfl) ?_
        refine lv_iload hx hb d_Mo_tells_95 (lv_at hl 0 rfl) ?_
        refine sm_iP hI (va_runS (As := [.int (x_141)]) (rest := [.int (nI j1), .ref (ad 71)]) ⟨hx, hb, hml, hown, hts⟩ (c_Mo_typeOf l D ca L _ _ x_141) (ks_Mo_typeOf hts rfl rfl (hts _ tw_1470) ⟨Nat.le_of_ble_eq_true rfl, Nat.le_of_ble_eq_true rfl⟩) (sm_preS hI hE) rfl rfl hl.1 rfl (lv_room (Nat.le_of_ble_eq_true rfl)) d_Mo_tells_97 ⟨Nat.le_of_ble_eq_true rfl, Nat.le_of_ble_eq_true rfl⟩) (fun x_144 H locs p_143 hI => ?_)
        refine lv_iconst (v := 0) hx hb d_Mo_tells_100 (by decide) ?_
        refine lv_iload hx hb d_Mo_tells_101 (lv_at hl 2 rfl) ?_
        refine lv_aload_n hx hb d_Mo_tells_103 rfl (lv_at hl 7 rfl) ?_
        refine mq_get (k := 31) (v := .ref (ad 31)) hx hb hts hown hI hM (by decide) rfl rfl (hts _ tw_1200) d_Mo_tells_104 ?_
        refine lv_iload_n hx hb d_Mo_tells_107 rfl (lv_at hl 5 rfl) ?_
        refine lv_iconst (v := 2) hx hb d_Mo_tells_108 (by decide) ?_
        refine lv_iadd hx hb d_Mo_tells_109 ?_
        refine lv_topi (fun x_145 e_146 => ?_)
        obtain rfl : x_145 = nI (((j1 * 16 + 0) * 260) + 2) := by rw [e_146]; exact nI_add _ _
        obtain ⟨x_147, e_148⟩ : ∃ z, σ0.2.2.1 31 ((((j1 * 16 + 0) * 260) + 2)) = z := ⟨_, rfl⟩
        refine mq_iald (k := 31) (j := (((j1 * 16 + 0) * 260) + 2)) (v := x_147) hx hb hI hM (by decide) rfl (by show (((j1 * 16 + 0) * 260) + 2) < 16640; omega) (by decide) e_148 d_Mo_tells_110 ?_
        refine lv_sipush (v := 128) hx hb d_Mo_tells_111 (by decide) ?_
        refine lv_iand hx hb d_Mo_tells_114 ?_
        refine lv_topi (fun x_149 e_150 => ?_)
        refine lv_ior hx hb d_Mo_tells_115 ?_
        refine lv_topi (fun x_151 e_152 => ?_)
        refine lv_aload_n hx hb d_Mo_tells_116 rfl (lv_at hl 7 rfl) ?_
        refine mq_get (k := 31) (v := .ref (ad 31)) hx hb hts hown hI hM (by decide) rfl rfl (hts _ tw_1200) d_Mo_tells_117 ?_
        refine lv_iload_n hx hb d_Mo_tells_120 rfl (lv_at hl 5 rfl) ?_
        refine lv_iconst (v := 3) hx hb d_Mo_tells_121 (by decide) ?_
        refine lv_iadd hx hb d_Mo_tells_122 ?_
        refine lv_topi (fun x_153 e_154 => ?_)
        obtain rfl : x_153 = nI (((j1 * 16 + 0) * 260) + 3) := by rw [e_154]; exact nI_add _ _
        obtain ⟨x_155, e_156⟩ : ∃ z, σ0.2.2.1 31 ((((j1 * 16 + 0) * 260) + 3)) = z := ⟨_, rfl⟩
        refine mq_iald (k := 31) (j := (((j1 * 16 + 0) * 260) + 3)) (v := x_155) hx hb hI hM (by decide) rfl (by show (((j1 * 16 + 0) * 260) + 3) < 16640; omega) (by decide) e_156 d_Mo_tells_123 ?_
        refine sm_vM hI (va_runV (As := [.int (nI j1), .int (x_144), .int (0), .int (x_151), .int (x_155)]) (rest := []) ⟨hx, hb, hml, hown, hts⟩ (c_Mo_begin l D ca ad L _ _ _ hM (nI j1) x_144 0 x_151 x_155) (kv_Mo_begin hts rfl rfl (hts _ tw_1473) ⟨Nat.le_of_ble_eq_true rfl, Nat.le_of_ble_eq_true rfl⟩) (pv_Mo hI hE hM) rfl rfl hl.1 rfl (lv_room (Nat.le_of_ble_eq_true rfl)) d_Mo_tells_124 ⟨Nat.le_of_ble_eq_true rfl, Nat.le_of_ble_eq_true rfl⟩) (fun H locs f σ_158 hI hM hF_159 p_157 => ?_)
        have hF := mq_fr_tr hF hF_159 (by decide)
        have o_160 : σ_158.2.2.1 30 (j1) = nI z1 := mq_fg hF_159 (by decide) o0
        have u_161 := IH_fr hF_159 (by decide) u0
        obtain ⟨⟨n_163, h_164, h_165, o_162⟩, -⟩ := p_157
        exact hJ_127 _ _ _ _ _ _ ((j1 * 16 + 0)) (nI ((j1 * 16 + 0) * 260)) (nI (n_112 + n_118)) x_126 x_132 (nI n_138) x_141 (n_163) (Nat.le_refl _) hI hM hF (lv_sub hl [7, 8, 6, 5, 4, 3, 2, 1, 0] rfl) (by omega) (by omega) o_162 (IH_s q1 u_161) (by omega) (Or.inr ⟨n_138, rfl, by omega⟩)
    · refine lv_bipush (v := 37) hx hb d_Mo_tells_59 (by decide) ?_
      refine lv_goto (tgt := 69) hx hb d_Mo_tells_61 (by decide) ?_
      refine lv_istore (lv' := [(6, .int (37)), (5, .int (x_126)), (4, .int (nI (n_112 + n_118))), (3, .int (nI ((j1 * 16 + 0) * 260))), (2, .int (nI (j1 * 16 + 0))), (0, .ref (ad 71)), (1, .int (nI j1))]) hx hb d_Mo_tells_69 hl (by decide) rfl (fun ls hl => ?_)
      refine lv_aload_n hx hb d_Mo_tells_71 rfl (lv_at hl 5 rfl) ?_
      refine lv_iload_n hx hb d_Mo_tells_72 rfl (lv_at hl 6 rfl) ?_
      refine lv_aload_n hx hb d_Mo_tells_73 rfl (lv_at hl 5 rfl) ?_
      refine mq_get (k := 34) (v := .ref (ad 34)) hx hb hts hown hI hM (by decide) rfl rfl (hts _ tw_1203) d_Mo_tells_74 ?_
      refine lv_iload_n hx hb d_Mo_tells_77 rfl (lv_at hl 4 rfl) ?_
      obtain ⟨x_166, e_167⟩ : ∃ z, σ0.2.2.1 34 ((j1 * 16 + 0)) = z := ⟨_, rfl⟩
      refine mq_iald (k := 34) (j := (j1 * 16 + 0)) (v := x_166) hx hb hI hM (by decide) rfl (by show (j1 * 16 + 0) < 64; omega) (by decide) e_167 d_Mo_tells_78 ?_
      refine sm_iP hI (va_runV (As := [.int (nI j1), .int (x_166)]) (rest := []) ⟨hx, hb, hml, hown, hts⟩ (c_Mo_nextPoint l D ca ad L _ _ _ hM (j1) (by omega) x_166) (kv_Mo_nextPoint hts rfl rfl (hts _ tw_1466) ⟨Nat.le_of_ble_eq_true rfl, Nat.le_of_ble_eq_true rfl⟩) (pv_Mo hI hE hM) rfl rfl hl.1 rfl (lv_room (Nat.le_of_ble_eq_true rfl)) d_Mo_tells_79 ⟨Nat.le_of_ble_eq_true rfl, Nat.le_of_ble_eq_true rfl⟩) (fun x_169 H locs p_168 hI => ?_)
      rcases p_168 with ⟨rfl, h_172⟩ | ⟨n_170, rfl, h_171, h_172⟩
      · exact (h_172 (np_first u0 q1 o0 hz (by omega) hph e_167)).elim
      · refine lv_istore (lv' := [(7, .int (nI n_170)), (6, .int (37)), (5, .int (x_126)), (4, .int (nI (n_112 + n_118))), (3, .int (nI ((j1 * 16 + 0) * 260))), (2, .int (nI (j1 * 16 + 0))), (0, .ref (ad 71)), (1, .int (nI j1))]) hx hb d_Mo_tells_82 hl (by decide) rfl (fun ls hl => ?_)
        refine lv_aload_n hx hb d_Mo_tells_84 rfl (lv_at hl 6 rfl) ?_
        refine mq_get (k := 4) (v := .ref (ad 4)) hx hb hts hown hI hM (by decide) rfl rfl (hts _ tw_1173) d_Mo_tells_85 ?_
        refine lv_iload hx hb d_Mo_tells_88 (lv_at hl 0 rfl) ?_
        obtain ⟨x_173, e_174⟩ : ∃ z, σ0.2.2.1 4 (n_170) = z := ⟨_, rfl⟩
        refine mq_iald (k := 4) (j := n_170) (v := x_173) hx hb hI hM (by decide) rfl (by show n_170 < 32; omega) (by decide) e_174 d_Mo_tells_90 ?_
        refine lv_istore (lv' := [(8, .int (x_173)), (7, .int (nI n_170)), (6, .int (37)), (5, .int (x_126)), (4, .int (nI (n_112 + n_118))), (3, .int (nI ((j1 * 16 + 0) * 260))), (2, .int (nI (j1 * 16 + 0))), (0, .ref (ad 71)), (1, .int (nI j1))]) hx hb d_Mo_tells_91 hl (by decide) rfl (fun ls hl => ?_)
        refine lv_aload_n hx hb d_Mo_tells_93 rfl (lv_at hl 7 rfl) ?_
        refine lv_iload_n hx hb d_Mo_tells_94 rfl (lv_at hl 8 rfl) ?_
        refine lv_iload hx hb d_Mo_tells_95 (lv_at hl 0 rfl) ?_
        refine sm_iP hI (va_runS (As := [.int (x_173)]) (rest := [.int (nI j1), .ref (ad 71)]) ⟨hx, hb, hml, hown, hts⟩ (c_Mo_typeOf l D ca L _ _ x_173) (ks_Mo_typeOf hts rfl rfl (hts _ tw_1470) ⟨Nat.le_of_ble_eq_true rfl, Nat.le_of_ble_eq_true rfl⟩) (sm_preS hI hE) rfl rfl hl.1 rfl (lv_room (Nat.le_of_ble_eq_true rfl)) d_Mo_tells_97 ⟨Nat.le_of_ble_eq_true rfl, Nat.le_of_ble_eq_true rfl⟩) (fun x_176 H locs p_175 hI => ?_)
        refine lv_iconst (v := 0) hx hb d_Mo_tells_100 (by decide) ?_
        refine lv_iload hx hb d_Mo_tells_101 (lv_at hl 2 rfl) ?_
        refine lv_aload_n hx hb d_Mo_tells_103 rfl (lv_at hl 7 rfl) ?_
        refine mq_get (k := 31) (v := .ref (ad 31)) hx hb hts hown hI hM (by decide) rfl rfl (hts _ tw_1200) d_Mo_tells_104 ?_
        refine lv_iload_n hx hb d_Mo_tells_107 rfl (lv_at hl 5 rfl) ?_
        refine lv_iconst (v := 2) hx hb d_Mo_tells_108 (by decide) ?_
        refine lv_iadd hx hb d_Mo_tells_109 ?_
        refine lv_topi (fun x_177 e_178 => ?_)
        obtain rfl : x_177 = nI (((j1 * 16 + 0) * 260) + 2) := by rw [e_178]; exact nI_add _ _
        obtain ⟨x_179, e_180⟩ : ∃ z, σ0.2.2.1 31 ((((j1 * 16 + 0) * 260) + 2)) = z := ⟨_, rfl⟩
        refine mq_iald (k := 31) (j := (((j1 * 16 + 0) * 260) + 2)) (v := x_179) hx hb hI hM (by decide) rfl (by show (((j1 * 16 + 0) * 260) + 2) < 16640; omega) (by decide) e_180 d_Mo_tells_110 ?_
        refine lv_sipush (v := 128) hx hb d_Mo_tells_111 (by decide) ?_
        refine lv_iand hx hb d_Mo_tells_114 ?_
        refine lv_topi (fun x_181 e_182 => ?_)
        refine lv_ior hx hb d_Mo_tells_115 ?_
        refine lv_topi (fun x_183 e_184 => ?_)
        refine lv_aload_n hx hb d_Mo_tells_116 rfl (lv_at hl 7 rfl) ?_
        refine mq_get (k := 31) (v := .ref (ad 31)) hx hb hts hown hI hM (by decide) rfl rfl (hts _ tw_1200) d_Mo_tells_117 ?_
        refine lv_iload_n hx hb d_Mo_tells_120 rfl (lv_at hl 5 rfl) ?_
        refine lv_iconst (v := 3) hx hb d_Mo_tells_121 (by decide) ?_
        refine lv_iadd hx hb d_Mo_tells_122 ?_
        refine lv_topi (fun x_185 e_186 => ?_)
        obtain rfl : x_185 = nI (((j1 * 16 + 0) * 260) + 3) := by rw [e_186]; exact nI_add _ _
        obtain ⟨x_187, e_188⟩ : ∃ z, σ0.2.2.1 31 ((((j1 * 16 + 0) * 260) + 3)) = z := ⟨_, rfl⟩
        refine mq_iald (k := 31) (j := (((j1 * 16 + 0) * 260) + 3)) (v := x_187) hx hb hI hM (by decide) rfl (by show (((j1 * 16 + 0) * 260) + 3) < 16640; omega) (by decide) e_188 d_Mo_tells_123 ?_
        refine sm_vM hI (va_runV (As := [.int (nI j1), .int (x_176), .int (0), .int (x_183), .int (x_187)]) (rest := []) ⟨hx, hb, hml, hown, hts⟩ (c_Mo_begin l D ca ad L _ _ _ hM (nI j1) x_176 0 x_183 x_187) (kv_Mo_begin hts rfl rfl (hts _ tw_1473) ⟨Nat.le_of_ble_eq_true rfl, Nat.le_of_ble_eq_true rfl⟩) (pv_Mo hI hE hM) rfl rfl hl.1 rfl (lv_room (Nat.le_of_ble_eq_true rfl)) d_Mo_tells_124 ⟨Nat.le_of_ble_eq_true rfl, Nat.le_of_ble_eq_true rfl⟩) (fun H locs f σ_190 hI hM hF_191 p_189 => ?_)
        have hF := mq_fr_tr hF hF_191 (by decide)
        have o_192 : σ_190.2.2.1 30 (j1) = nI z1 := mq_fg hF_191 (by decide) o0
        have u_193 := IH_fr hF_191 (by decide) u0
        obtain ⟨⟨n_195, h_196, h_197, o_194⟩, -⟩ := p_189
        exact hJ_127 _ _ _ _ _ _ ((j1 * 16 + 0)) (nI ((j1 * 16 + 0) * 260)) (nI (n_112 + n_118)) x_126 37 (nI n_170) x_173 (n_195) (Nat.le_refl _) hI hM hF (lv_sub hl [7, 8, 6, 5, 4, 3, 2, 1, 0] rfl) (by omega) (by omega) o_194 (IH_s q1 u_193) (by omega) (Or.inr ⟨n_170, rfl, by omega⟩)
  · refine lv_iload hx hb d_Mo_tells_48 (lv_at hl 0 rfl) ?_
    refine lv_goto (tgt := 69) hx hb d_Mo_tells_50 (by decide) ?_
    refine lv_istore (lv' := [(6, .int (x_126)), (5, .int (x_126)), (4, .int (nI (n_112 + n_118))), (3, .int (nI ((j1 * 16 + 0) * 260))), (2, .int (nI (j1 * 16 + 0))), (0, .ref (ad 71)), (1, .int (nI j1))]) hx hb d_Mo_tells_69 hl (by decide) rfl (fun ls hl => ?_)
    refine lv_aload_n hx hb d_Mo_tells_71 rfl (lv_at hl 5 rfl) ?_
    refine lv_iload_n hx hb d_Mo_tells_72 rfl (lv_at hl 6 rfl) ?_
    refine lv_aload_n hx hb d_Mo_tells_73 rfl (lv_at hl 5 rfl) ?_
    refine mq_get (k := 34) (v := .ref (ad 34)) hx hb hts hown hI hM (by decide) rfl rfl (hts _ tw_1203) d_Mo_tells_74 ?_
    refine lv_iload_n hx hb d_Mo_tells_77 rfl (lv_at hl 4 rfl) ?_
    obtain ⟨x_198, e_199⟩ : ∃ z, σ0.2.2.1 34 ((j1 * 16 + 0)) = z := ⟨_, rfl⟩
    refine mq_iald (k := 34) (j := (j1 * 16 + 0)) (v := x_198) hx hb hI hM (by decide) rfl (by show (j1 * 16 + 0) < 64; omega) (by decide) e_199 d_Mo_tells_78 ?_
    refine sm_iP hI (va_runV (As := [.int (nI j1), .int (x_198)]) (rest := []) ⟨hx, hb, hml, hown, hts⟩ (c_Mo_nextPoint l D ca ad L _ _ _ hM (j1) (by omega) x_198) (kv_Mo_nextPoint hts rfl rfl (hts _ tw_1466) ⟨Nat.le_of_ble_eq_true rfl, Nat.le_of_ble_eq_true rfl⟩) (pv_Mo hI hE hM) rfl rfl hl.1 rfl (lv_room (Nat.le_of_ble_eq_true rfl)) d_Mo_tells_79 ⟨Nat.le_of_ble_eq_true rfl, Nat.le_of_ble_eq_true rfl⟩) (fun x_201 H locs p_200 hI => ?_)
    rcases p_200 with ⟨rfl, h_204⟩ | ⟨n_202, rfl, h_203, h_204⟩
    · exact (h_204 (np_first u0 q1 o0 hz (by omega) hph e_199)).elim
    · refine lv_istore (lv' := [(7, .int (nI n_202)), (6, .int (x_126)), (5, .int (x_126)), (4, .int (nI (n_112 + n_118))), (3, .int (nI ((j1 * 16 + 0) * 260))), (2, .int (nI (j1 * 16 + 0))), (0, .ref (ad 71)), (1, .int (nI j1))]) hx hb d_Mo_tells_82 hl (by decide) rfl (fun ls hl => ?_)
      refine lv_aload_n hx hb d_Mo_tells_84 rfl (lv_at hl 6 rfl) ?_
      refine mq_get (k := 4) (v := .ref (ad 4)) hx hb hts hown hI hM (by decide) rfl rfl (hts _ tw_1173) d_Mo_tells_85 ?_
      refine lv_iload hx hb d_Mo_tells_88 (lv_at hl 0 rfl) ?_
      obtain ⟨x_205, e_206⟩ : ∃ z, σ0.2.2.1 4 (n_202) = z := ⟨_, rfl⟩
      refine mq_iald (k := 4) (j := n_202) (v := x_205) hx hb hI hM (by decide) rfl (by show n_202 < 32; omega) (by decide) e_206 d_Mo_tells_90 ?_
      refine lv_istore (lv' := [(8, .int (x_205)), (7, .int (nI n_202)), (6, .int (x_126)), (5, .int (x_126)), (4, .int (nI (n_112 + n_118))), (3, .int (nI ((j1 * 16 + 0) * 260))), (2, .int (nI (j1 * 16 + 0))), (0, .ref (ad 71)), (1, .int (nI j1))]) hx hb d_Mo_tells_91 hl (by decide) rfl (fun ls hl => ?_)
      refine lv_aload_n hx hb d_Mo_tells_93 rfl (lv_at hl 7 rfl) ?_
      refine lv_iload_n hx hb d_Mo_tells_94 rfl (lv_at hl 8 rfl) ?_
      refine lv_iload hx hb d_Mo_tells_95 (lv_at hl 0 rfl) ?_
      refine sm_iP hI (va_runS (As := [.int (x_205)]) (rest := [.int (nI j1), .ref (ad 71)]) ⟨hx, hb, hml, hown, hts⟩ (c_Mo_typeOf l D ca L _ _ x_205) (ks_Mo_typeOf hts rfl rfl (hts _ tw_1470) ⟨Nat.le_of_ble_eq_true rfl, Nat.le_of_ble_eq_true rfl⟩) (sm_preS hI hE) rfl rfl hl.1 rfl (lv_room (Nat.le_of_ble_eq_true rfl)) d_Mo_tells_97 ⟨Nat.le_of_ble_eq_true rfl, Nat.le_of_ble_eq_true rfl⟩) (fun x_208 H locs p_207 hI => ?_)
      refine lv_iconst (v := 0) hx hb d_Mo_tells_100 (by decide) ?_
      refine lv_iload hx hb d_Mo_tells_101 (lv_at hl 2 rfl) ?_
      refine lv_aload_n hx hb d_Mo_tells_103 rfl (lv_at hl 7 rfl) ?_
      refine mq_get (k := 31) (v := .ref (ad 31)) hx hb hts hown hI hM (by decide) rfl rfl (hts _ tw_1200) d_Mo_tells_104 ?_
      refine lv_iload_n hx hb d_Mo_tells_107 rfl (lv_at hl 5 rfl) ?_
      refine lv_iconst (v := 2) hx hb d_Mo_tells_108 (by decide) ?_
      refine lv_iadd hx hb d_Mo_tells_109 ?_
      refine lv_topi (fun x_209 e_210 => ?_)
      obtain rfl : x_209 = nI (((j1 * 16 + 0) * 260) + 2) := by rw [e_210]; exact nI_add _ _
      obtain ⟨x_211, e_212⟩ : ∃ z, σ0.2.2.1 31 ((((j1 * 16 + 0) * 260) + 2)) = z := ⟨_, rfl⟩
      refine mq_iald (k := 31) (j := (((j1 * 16 + 0) * 260) + 2)) (v := x_211) hx hb hI hM (by decide) rfl (by show (((j1 * 16 + 0) * 260) + 2) < 16640; omega) (by decide) e_212 d_Mo_tells_110 ?_
      refine lv_sipush (v := 128) hx hb d_Mo_tells_111 (by decide) ?_
      refine lv_iand hx hb d_Mo_tells_114 ?_
      refine lv_topi (fun x_213 e_214 => ?_)
      refine lv_ior hx hb d_Mo_tells_115 ?_
      refine lv_topi (fun x_215 e_216 => ?_)
      refine lv_aload_n hx hb d_Mo_tells_116 rfl (lv_at hl 7 rfl) ?_
      refine mq_get (k := 31) (v := .ref (ad 31)) hx hb hts hown hI hM (by decide) rfl rfl (hts _ tw_1200) d_Mo_tells_117 ?_
      refine lv_iload_n hx hb d_Mo_tells_120 rfl (lv_at hl 5 rfl) ?_
      refine lv_iconst (v := 3) hx hb d_Mo_tells_121 (by decide) ?_
      refine lv_iadd hx hb d_Mo_tells_122 ?_
      refine lv_topi (fun x_217 e_218 => ?_)
      obtain rfl : x_217 = nI (((j1 * 16 + 0) * 260) + 3) := by rw [e_218]; exact nI_add _ _
      obtain ⟨x_219, e_220⟩ : ∃ z, σ0.2.2.1 31 ((((j1 * 16 + 0) * 260) + 3)) = z := ⟨_, rfl⟩
      refine mq_iald (k := 31) (j := (((j1 * 16 + 0) * 260) + 3)) (v := x_219) hx hb hI hM (by decide) rfl (by show (((j1 * 16 + 0) * 260) + 3) < 16640; omega) (by decide) e_220 d_Mo_tells_123 ?_
      refine sm_vM hI (va_runV (As := [.int (nI j1), .int (x_208), .int (0), .int (x_215), .int (x_219)]) (rest := []) ⟨hx, hb, hml, hown, hts⟩ (c_Mo_begin l D ca ad L _ _ _ hM (nI j1) x_208 0 x_215 x_219) (kv_Mo_begin hts rfl rfl (hts _ tw_1473) ⟨Nat.le_of_ble_eq_true rfl, Nat.le_of_ble_eq_true rfl⟩) (pv_Mo hI hE hM) rfl rfl hl.1 rfl (lv_room (Nat.le_of_ble_eq_true rfl)) d_Mo_tells_124 ⟨Nat.le_of_ble_eq_true rfl, Nat.le_of_ble_eq_true rfl⟩) (fun H locs f σ_222 hI hM hF_223 p_221 => ?_)
      have hF := mq_fr_tr hF hF_223 (by decide)
      have o_224 : σ_222.2.2.1 30 (j1) = nI z1 := mq_fg hF_223 (by decide) o0
      have u_225 := IH_fr hF_223 (by decide) u0
      obtain ⟨⟨n_227, h_228, h_229, o_226⟩, -⟩ := p_221
      exact hJ_127 _ _ _ _ _ _ ((j1 * 16 + 0)) (nI ((j1 * 16 + 0) * 260)) (nI (n_112 + n_118)) x_126 x_126 (nI n_202) x_205 (n_227) (Nat.le_refl _) hI hM hF (lv_sub hl [7, 8, 6, 5, 4, 3, 2, 1, 0] rfl) (by omega) (by omega) o_226 (IH_s q1 u_225) (by omega) (Or.inr ⟨n_202, rfl, by omega⟩)
theorem d_Mo_answers_0 : decode b_Mo_answers 0 = .ok (.aload_n 0, 1) := by decide +kernel
theorem d_Mo_answers_1 : decode b_Mo_answers 1 = .ok (.iload_n 1, 1) := by decide +kernel
theorem d_Mo_answers_2 : decode b_Mo_answers 2 = .ok (.iconst 0, 1) := by decide +kernel
theorem d_Mo_answers_3 : decode b_Mo_answers 3 = .ok (.invokevirtual 290, 3) := by decide +kernel
theorem d_Mo_answers_6 : decode b_Mo_answers 6 = .ok (.istore_n 2, 1) := by decide +kernel
theorem d_Mo_answers_7 : decode b_Mo_answers 7 = .ok (.aload_n 0, 1) := by decide +kernel
theorem d_Mo_answers_8 : decode b_Mo_answers 8 = .ok (.aload_n 0, 1) := by decide +kernel
theorem d_Mo_answers_9 : decode b_Mo_answers 9 = .ok (.getfield 87, 3) := by decide +kernel
theorem d_Mo_answers_12 : decode b_Mo_answers 12 = .ok (.iload_n 2, 1) := by decide +kernel
theorem d_Mo_answers_13 : decode b_Mo_answers 13 = .ok (.iaload, 1) := by decide +kernel
theorem d_Mo_answers_14 : decode b_Mo_answers 14 = .ok (.putfield 219, 3) := by decide +kernel
theorem d_Mo_answers_17 : decode b_Mo_answers 17 = .ok (.iconst 0, 1) := by decide +kernel
theorem d_Mo_answers_18 : decode b_Mo_answers 18 = .ok (.istore_n 3, 1) := by decide +kernel
theorem d_Mo_answers_19 : decode b_Mo_answers 19 = .ok (.iload_n 3, 1) := by decide +kernel
theorem d_Mo_answers_20 : decode b_Mo_answers 20 = .ok (.aload_n 0, 1) := by decide +kernel
theorem d_Mo_answers_21 : decode b_Mo_answers 21 = .ok (.getfield 219, 3) := by decide +kernel
theorem d_Mo_answers_24 : decode b_Mo_answers 24 = .ok (.if_icmp .ge 27, 3) := by decide +kernel
theorem d_Mo_answers_27 : decode b_Mo_answers 27 = .ok (.aload_n 0, 1) := by decide +kernel
theorem d_Mo_answers_28 : decode b_Mo_answers 28 = .ok (.getfield 172, 3) := by decide +kernel
theorem d_Mo_answers_31 : decode b_Mo_answers 31 = .ok (.iload_n 3, 1) := by decide +kernel
theorem d_Mo_answers_32 : decode b_Mo_answers 32 = .ok (.aload_n 0, 1) := by decide +kernel
theorem d_Mo_answers_33 : decode b_Mo_answers 33 = .ok (.getfield 84, 3) := by decide +kernel
theorem d_Mo_answers_36 : decode b_Mo_answers 36 = .ok (.iload_n 2, 1) := by decide +kernel
theorem d_Mo_answers_37 : decode b_Mo_answers 37 = .ok (.sipush 260, 3) := by decide +kernel
theorem d_Mo_answers_40 : decode b_Mo_answers 40 = .ok (.imul, 1) := by decide +kernel
theorem d_Mo_answers_41 : decode b_Mo_answers 41 = .ok (.iload_n 3, 1) := by decide +kernel
theorem d_Mo_answers_42 : decode b_Mo_answers 42 = .ok (.iadd, 1) := by decide +kernel
theorem d_Mo_answers_43 : decode b_Mo_answers 43 = .ok (.iaload, 1) := by decide +kernel
theorem d_Mo_answers_44 : decode b_Mo_answers 44 = .ok (.iastore, 1) := by decide +kernel
theorem d_Mo_answers_45 : decode b_Mo_answers 45 = .ok (.iinc 3 1, 3) := by decide +kernel
theorem d_Mo_answers_48 : decode b_Mo_answers 48 = .ok (.goto (-29), 3) := by decide +kernel
theorem d_Mo_answers_51 : decode b_Mo_answers 51 = .ok (.aload_n 0, 1) := by decide +kernel
theorem d_Mo_answers_52 : decode b_Mo_answers 52 = .ok (.getfield 90, 3) := by decide +kernel
theorem d_Mo_answers_55 : decode b_Mo_answers 55 = .ok (.iload_n 2, 1) := by decide +kernel
theorem d_Mo_answers_56 : decode b_Mo_answers 56 = .ok (.iaload, 1) := by decide +kernel
theorem d_Mo_answers_57 : decode b_Mo_answers 57 = .ok (.iconst 1, 1) := by decide +kernel
theorem d_Mo_answers_58 : decode b_Mo_answers 58 = .ok (.if_icmp .ne 37, 3) := by decide +kernel
theorem d_Mo_answers_61 : decode b_Mo_answers 61 = .ok (.aload_n 0, 1) := by decide +kernel
theorem d_Mo_answers_62 : decode b_Mo_answers 62 = .ok (.getfield 172, 3) := by decide +kernel
theorem d_Mo_answers_65 : decode b_Mo_answers 65 = .ok (.iconst 2, 1) := by decide +kernel
theorem d_Mo_answers_66 : decode b_Mo_answers 66 = .ok (.aload_n 0, 1) := by decide +kernel
theorem d_Mo_answers_67 : decode b_Mo_answers 67 = .ok (.getfield 172, 3) := by decide +kernel
theorem d_Mo_answers_70 : decode b_Mo_answers 70 = .ok (.iconst 2, 1) := by decide +kernel
theorem d_Mo_answers_71 : decode b_Mo_answers 71 = .ok (.iaload, 1) := by decide +kernel
theorem d_Mo_answers_72 : decode b_Mo_answers 72 = .ok (.sipush 128, 3) := by decide +kernel
theorem d_Mo_answers_75 : decode b_Mo_answers 75 = .ok (.iand, 1) := by decide +kernel
theorem d_Mo_answers_76 : decode b_Mo_answers 76 = .ok (.bipush 7, 2) := by decide +kernel
theorem d_Mo_answers_78 : decode b_Mo_answers 78 = .ok (.ior, 1) := by decide +kernel
theorem d_Mo_answers_79 : decode b_Mo_answers 79 = .ok (.iastore, 1) := by decide +kernel
theorem d_Mo_answers_80 : decode b_Mo_answers 80 = .ok (.aload_n 0, 1) := by decide +kernel
theorem d_Mo_answers_81 : decode b_Mo_answers 81 = .ok (.getfield 90, 3) := by decide +kernel
theorem d_Mo_answers_84 : decode b_Mo_answers 84 = .ok (.iload_n 2, 1) := by decide +kernel
theorem d_Mo_answers_85 : decode b_Mo_answers 85 = .ok (.iconst 2, 1) := by decide +kernel
theorem d_Mo_answers_86 : decode b_Mo_answers 86 = .ok (.iastore, 1) := by decide +kernel
theorem d_Mo_answers_87 : decode b_Mo_answers 87 = .ok (.aload_n 0, 1) := by decide +kernel
theorem d_Mo_answers_88 : decode b_Mo_answers 88 = .ok (.iload_n 1, 1) := by decide +kernel
theorem d_Mo_answers_89 : decode b_Mo_answers 89 = .ok (.invokevirtual 316, 3) := by decide +kernel
theorem d_Mo_answers_92 : decode b_Mo_answers 92 = .ok (.goto 45, 3) := by decide +kernel
theorem d_Mo_answers_95 : decode b_Mo_answers 95 = .ok (.aload_n 0, 1) := by decide +kernel
theorem d_Mo_answers_96 : decode b_Mo_answers 96 = .ok (.getfield 90, 3) := by decide +kernel
theorem d_Mo_answers_99 : decode b_Mo_answers 99 = .ok (.iload_n 2, 1) := by decide +kernel
theorem d_Mo_answers_100 : decode b_Mo_answers 100 = .ok (.iaload, 1) := by decide +kernel
theorem d_Mo_answers_101 : decode b_Mo_answers 101 = .ok (.iconst 3, 1) := by decide +kernel
theorem d_Mo_answers_102 : decode b_Mo_answers 102 = .ok (.if_icmp .ne 30, 3) := by decide +kernel
theorem d_Mo_answers_105 : decode b_Mo_answers 105 = .ok (.aload_n 0, 1) := by decide +kernel
theorem d_Mo_answers_106 : decode b_Mo_answers 106 = .ok (.getfield 172, 3) := by decide +kernel
theorem d_Mo_answers_109 : decode b_Mo_answers 109 = .ok (.iconst 2, 1) := by decide +kernel
theorem d_Mo_answers_110 : decode b_Mo_answers 110 = .ok (.aload_n 0, 1) := by decide +kernel
theorem d_Mo_answers_111 : decode b_Mo_answers 111 = .ok (.getfield 172, 3) := by decide +kernel
theorem d_Mo_answers_114 : decode b_Mo_answers 114 = .ok (.iconst 2, 1) := by decide +kernel
theorem d_Mo_answers_115 : decode b_Mo_answers 115 = .ok (.iaload, 1) := by decide +kernel
theorem d_Mo_answers_116 : decode b_Mo_answers 116 = .ok (.sipush 128, 3) := by decide +kernel
theorem d_Mo_answers_119 : decode b_Mo_answers 119 = .ok (.iand, 1) := by decide +kernel
theorem d_Mo_answers_120 : decode b_Mo_answers 120 = .ok (.bipush 10, 2) := by decide +kernel
theorem d_Mo_answers_122 : decode b_Mo_answers 122 = .ok (.ior, 1) := by decide +kernel
theorem d_Mo_answers_123 : decode b_Mo_answers 123 = .ok (.iastore, 1) := by decide +kernel
theorem d_Mo_answers_124 : decode b_Mo_answers 124 = .ok (.aload_n 0, 1) := by decide +kernel
theorem d_Mo_answers_125 : decode b_Mo_answers 125 = .ok (.iload_n 1, 1) := by decide +kernel
theorem d_Mo_answers_126 : decode b_Mo_answers 126 = .ok (.invokevirtual 319, 3) := by decide +kernel
theorem d_Mo_answers_129 : decode b_Mo_answers 129 = .ok (.goto 8, 3) := by decide +kernel
theorem d_Mo_answers_132 : decode b_Mo_answers 132 = .ok (.aload_n 0, 1) := by decide +kernel
theorem d_Mo_answers_133 : decode b_Mo_answers 133 = .ok (.iload_n 1, 1) := by decide +kernel
theorem d_Mo_answers_134 : decode b_Mo_answers 134 = .ok (.invokevirtual 319, 3) := by decide +kernel
theorem d_Mo_answers_137 : decode b_Mo_answers 137 = .ok (.return_, 1) := by decide +kernel
set_option maxRecDepth 100000 in
set_option maxHeartbeats 4000000 in
theorem c_Mo_answers (l : Launch) (D : va_G) (ca : Nat → ClassId) (ad : Nat → Nat) (L : List Nat) (f0 : Nat → va_E) (sz : Nat) (σ0 : mq_S) (hM : mq_B ca ad σ0 L f0) (j1 : Nat) (q1 : j1 ≤ 3) (z1 : Nat) (o0 : σ0.2.2.1 30 (j1) = nI z1) (hz : 0 < z1) (hy : z1 ≤ 16) (u0 : IH σ0) :
    Met l y_Mo_answers (Cond.code y_Mo_answers b_Mo_answers 4 none :: wg) { frames := 4, cells := 0, slots := 0, locals := 94 } (va_Pc [.ref (ad 71), .int (nI j1)] (sm_P D cl_all (ty_s ca) ek L f0 sz)) (sm_Qv D (ty_s ca) L f0 sz (fun u => mq_po ca ad L σ0 [30, 31, 32, 33, 34, 69, 70] (fun σ => IH σ ∧ True) u)) 0 0 (va_A (va_pl L f0) sz) := by
  refine sm_start (by decide) (Nat.le_of_ble_eq_true rfl) ?_
  intro p e s m below meth c ls hx hb hml hr hlk hnm hts hown hsz hE hI hl
  have hl : lv_has ls 4 [(0, .ref (ad 71)), (1, .int (nI j1))] := hl
  have hF : mq_fr [30, 31, 32, 33, 34, 69, 70] σ0 σ0 := mq_fr_rf
  have hJ_19 : ∀ (N k : Nat) (H : Heap) (locs : List Loc) (f : Nat → va_E) (σ : mq_S) (ls : Array Slot) (r : Nat), 260 + 1 - k ≤ N → k ≤ 260 → sw_I D cl_all (ty_s ca) (va_A (va_pl L f0) sz) s H locs L f → mq_B ca ad σ L f → mq_fr [30, 31, 32, 33, 34, 69, 70] σ0 σ → lv_has ls 4 [(0, .ref (ad 71)), (1, .int (nI j1)), (2, .int (nI r)), (3, .int (nI k))] → (σ.2.2.1 30 (j1) = nI (z1)) → (IH σ) → (r = j1 * 16 + 0) → W p l e { frames := 4, cells := 0, slots := 0, locals := 94 } s m ([.ref (ad 71), .int (nI j1)] : List Value).toArray below meth c H locs 0 0 (MQ below (sm_Qv D (ty_s ca) L f0 sz (fun u => mq_po ca ad L σ0 [30, 31, 32, 33, 34, 69, 70] (fun σ => IH σ ∧ True) u)) ([.ref (ad 71), .int (nI j1)] : List Value).toArray s 0 0 (va_A (va_pl L f0) sz)) (F0 m 19 ls []) := by
    intro N
    induction N with
    | zero => intros; omega
    | succ N ih =>
      intro k H locs f σ ls r hN hk hI hM hF hl o90 u90 hrr
      refine lv_iload_n hx hb d_Mo_answers_19 rfl (lv_at hl 3 rfl) ?_
      refine lv_aload_n hx hb d_Mo_answers_20 rfl (lv_at hl 0 rfl) ?_
      obtain ⟨n_1, h_2, h_3, e_4⟩ := hM.2.2.2.2.1 70
      refine mq_get (k := 70) (v := .int (nI n_1)) hx hb hts hown hI hM (by decide) (congrArg (fun z => some (Value.int z)) e_4) rfl (hts _ tw_1239) d_Mo_answers_21 ?_
      refine lv_icmp_ge (tgt := 51) hx hb d_Mo_answers_24 (by decide) (fun c_5 => ?_) (fun c_5 => ?_)
      · have k_6 : n_1 ≤ k := (nI_leI (a := n_1) (b := k) (by omega) (by omega)).mp c_5
        refine lv_aload_n hx hb d_Mo_answers_51 rfl (lv_at hl 0 rfl) ?_
        refine mq_get (k := 33) (v := .ref (ad 33)) hx hb hts hown hI hM (by decide) rfl rfl (hts _ tw_1202) d_Mo_answers_52 ?_
        refine lv_iload_n hx hb d_Mo_answers_55 rfl (lv_at hl 2 rfl) ?_
        obtain ⟨x_7, e_8⟩ : ∃ z, σ.2.2.1 33 (r) = z := ⟨_, rfl⟩
        refine mq_iald (k := 33) (j := r) (v := x_7) hx hb hI hM (by decide) rfl (by show r < 64; omega) (by decide) e_8 d_Mo_answers_56 ?_
        refine lv_iconst (v := 1) hx hb d_Mo_answers_57 (by decide) ?_
        refine lv_icmp_ne (tgt := 95) hx hb d_Mo_answers_58 (by decide) (fun c_9 => ?_) (fun c_9 => ?_)
        · refine lv_aload_n hx hb d_Mo_answers_95 rfl (lv_at hl 0 rfl) ?_
          refine mq_get (k := 33) (v := .ref (ad 33)) hx hb hts hown hI hM (by decide) rfl rfl (hts _ tw_1202) d_Mo_answers_96 ?_
          refine lv_iload_n hx hb d_Mo_answers_99 rfl (lv_at hl 2 rfl) ?_
          obtain ⟨x_10, e_11⟩ : ∃ z, σ.2.2.1 33 (r) = z := ⟨_, rfl⟩
          refine mq_iald (k := 33) (j := r) (v := x_10) hx hb hI hM (by decide) rfl (by show r < 64; omega) (by decide) e_11 d_Mo_answers_100 ?_
          refine lv_iconst (v := 3) hx hb d_Mo_answers_101 (by decide) ?_
          refine lv_icmp_ne (tgt := 132) hx hb d_Mo_answers_102 (by decide) (fun c_12 => ?_) (fun c_12 => ?_)
          · refine lv_aload_n hx hb d_Mo_answers_132 rfl (lv_at hl 0 rfl) ?_
            refine lv_iload_n hx hb d_Mo_answers_133 rfl (lv_at hl 1 rfl) ?_
            refine sm_vM hI (va_runV (As := [.int (nI j1)]) (rest := []) ⟨hx, hb, hml, hown, hts⟩ (c_Mo_firstGoes l D ca ad L _ _ _ hM (j1) (by omega) ((z1)) o90 (by omega) (by omega) u90) (kv_Mo_firstGoes hts rfl rfl (hts _ tw_1500) ⟨Nat.le_of_ble_eq_true rfl, Nat.le_of_ble_eq_true rfl⟩) (pv_Mo hI hE hM) rfl rfl hl.1 rfl (lv_room (Nat.le_of_ble_eq_true rfl)) d_Mo_answers_134 ⟨Nat.le_of_ble_eq_true rfl, Nat.le_of_ble_eq_true rfl⟩) (fun H locs f σ_14 hI hM hF_15 p_13 => ?_)
            have hF := mq_fr_tr hF hF_15 (by decide)
            obtain ⟨o_16, u_17, -⟩ := p_13
            exact sm_vret hx hb hr hlk hI ⟨σ_14, rfl, hM, hF, ⟨u_17, trivial⟩⟩ d_Mo_answers_137
          · refine lv_aload_n hx hb d_Mo_answers_105 rfl (lv_at hl 0 rfl) ?_
            refine mq_get (k := 69) (v := .ref (ad 69)) hx hb hts hown hI hM (by decide) rfl rfl (hts _ tw_1238) d_Mo_answers_106 ?_
            refine lv_iconst (v := 2) hx hb d_Mo_answers_109 (by decide) ?_
            refine lv_aload_n hx hb d_Mo_answers_110 rfl (lv_at hl 0 rfl) ?_
            refine mq_get (k := 69) (v := .ref (ad 69)) hx hb hts hown hI hM (by decide) rfl rfl (hts _ tw_1238) d_Mo_answers_111 ?_
            refine lv_iconst (v := 2) hx hb d_Mo_answers_114 (by decide) ?_
            obtain ⟨x_18, e_19⟩ : ∃ z, σ.2.2.1 69 (2) = z := ⟨_, rfl⟩
            refine mq_iald (k := 69) (j := 2) (v := x_18) hx hb hI hM (by decide) rfl (by show 2 < 260; omega) (by decide) e_19 d_Mo_answers_115 ?_
            refine lv_sipush (v := 128) hx hb d_Mo_answers_116 (by decide) ?_
            refine lv_iand hx hb d_Mo_answers_119 ?_
            refine lv_topi (fun x_20 e_21 => ?_)
            refine lv_bipush (v := 10) hx hb d_Mo_answers_120 (by decide) ?_
            refine lv_ior hx hb d_Mo_answers_122 ?_
            refine lv_topi (fun x_22 e_23 => ?_)
            refine mq_iast (k := 69) (j := 2) (x := x_22) hx hb hI hM (by decide) rfl (by show 2 < 260; omega) (by decide) trivial d_Mo_answers_123 (fun H locs f σ_24 e_25 hI hM => ?_)
            have hF := mq_fr_ug hF e_25 rfl (Or.inl rfl)
            have o_26 : σ_24.2.2.1 30 (j1) = nI (z1) := by rw [e_25]; exact o90
            have u_27 := IH_fr (mq_fr_ug (X := [69]) mq_fr_rf e_25 rfl (Or.inl rfl)) (by decide) u90
            refine lv_aload_n hx hb d_Mo_answers_124 rfl (lv_at hl 0 rfl) ?_
            refine lv_iload_n hx hb d_Mo_answers_125 rfl (lv_at hl 1 rfl) ?_
            refine sm_vM hI (va_runV (As := [.int (nI j1)]) (rest := []) ⟨hx, hb, hml, hown, hts⟩ (c_Mo_firstGoes l D ca ad L _ _ _ hM (j1) (by omega) ((z1)) o_26 (by omega) (by omega) u_27) (kv_Mo_firstGoes hts rfl rfl (hts _ tw_1500) ⟨Nat.le_of_ble_eq_true rfl, Nat.le_of_ble_eq_true rfl⟩) (pv_Mo hI hE hM) rfl rfl hl.1 rfl (lv_room (Nat.le_of_ble_eq_true rfl)) d_Mo_answers_126 ⟨Nat.le_of_ble_eq_true rfl, Nat.le_of_ble_eq_true rfl⟩) (fun H locs f σ_29 hI hM hF_30 p_28 => ?_)
            have hF := mq_fr_tr hF hF_30 (by decide)
            obtain ⟨o_31, u_32, -⟩ := p_28
            refine lv_goto (tgt := 137) hx hb d_Mo_answers_129 (by decide) ?_
            exact sm_vret hx hb hr hlk hI ⟨σ_29, rfl, hM, hF, ⟨u_32, trivial⟩⟩ d_Mo_answers_137
        · refine lv_aload_n hx hb d_Mo_answers_61 rfl (lv_at hl 0 rfl) ?_
          refine mq_get (k := 69) (v := .ref (ad 69)) hx hb hts hown hI hM (by decide) rfl rfl (hts _ tw_1238) d_Mo_answers_62 ?_
          refine lv_iconst (v := 2) hx hb d_Mo_answers_65 (by decide) ?_
          refine lv_aload_n hx hb d_Mo_answers_66 rfl (lv_at hl 0 rfl) ?_
          refine mq_get (k := 69) (v := .ref (ad 69)) hx hb hts hown hI hM (by decide) rfl rfl (hts _ tw_1238) d_Mo_answers_67 ?_
          refine lv_iconst (v := 2) hx hb d_Mo_answers_70 (by decide) ?_
          obtain ⟨x_33, e_34⟩ : ∃ z, σ.2.2.1 69 (2) = z := ⟨_, rfl⟩
          refine mq_iald (k := 69) (j := 2) (v := x_33) hx hb hI hM (by decide) rfl (by show 2 < 260; omega) (by decide) e_34 d_Mo_answers_71 ?_
          refine lv_sipush (v := 128) hx hb d_Mo_answers_72 (by decide) ?_
          refine lv_iand hx hb d_Mo_answers_75 ?_
          refine lv_topi (fun x_35 e_36 => ?_)
          refine lv_bipush (v := 7) hx hb d_Mo_answers_76 (by decide) ?_
          refine lv_ior hx hb d_Mo_answers_78 ?_
          refine lv_topi (fun x_37 e_38 => ?_)
          refine mq_iast (k := 69) (j := 2) (x := x_37) hx hb hI hM (by decide) rfl (by show 2 < 260; omega) (by decide) trivial d_Mo_answers_79 (fun H locs f σ_39 e_40 hI hM => ?_)
          have hF := mq_fr_ug hF e_40 rfl (Or.inl rfl)
          have o_41 : σ_39.2.2.1 30 (j1) = nI (z1) := by rw [e_40]; exact o90
          have u_42 := IH_fr (mq_fr_ug (X := [69]) mq_fr_rf e_40 rfl (Or.inl rfl)) (by decide) u90
          refine lv_aload_n hx hb d_Mo_answers_80 rfl (lv_at hl 0 rfl) ?_
          refine mq_get (k := 33) (v := .ref (ad 33)) hx hb hts hown hI hM (by decide) rfl rfl (hts _ tw_1202) d_Mo_answers_81 ?_
          refine lv_iload_n hx hb d_Mo_answers_84 rfl (lv_at hl 2 rfl) ?_
          refine lv_iconst (v := 2) hx hb d_Mo_answers_85 (by decide) ?_
          have hm9 := hM.2.2.2.2
          refine mq_iast (k := 33) (j := r) (x := 2) hx hb hI hM (by decide) rfl (by show r < 64; omega) (by decide) trivial d_Mo_answers_86 (fun H locs f σ_43 e_44 hI hM => ?_)
          have hF := mq_fr_ug hF e_44 rfl (Or.inl rfl)
          have o_45 : σ_43.2.2.1 30 (j1) = nI (z1) := by rw [e_44]; exact o_41
          have u_46 : IHs σ_43 j1 := IHs_p0 (hrr ▸ e_44) hm9 (IH_s q1 u_42)
          refine lv_aload_n hx hb d_Mo_answers_87 rfl (lv_at hl 0 rfl) ?_
          refine lv_iload_n hx hb d_Mo_answers_88 rfl (lv_at hl 1 rfl) ?_
          refine sm_vM hI (va_runV (As := [.int (nI j1)]) (rest := []) ⟨hx, hb, hml, hown, hts⟩ (c_Mo_settle l D ca ad L _ _ _ hM (j1) (by omega) u_46) (kv_Mo_settle hts rfl rfl (hts _ tw_1492) ⟨Nat.le_of_ble_eq_true rfl, Nat.le_of_ble_eq_true rfl⟩) (pv_Mo hI hE hM) rfl rfl hl.1 rfl (lv_room (Nat.le_of_ble_eq_true rfl)) d_Mo_answers_89 ⟨Nat.le_of_ble_eq_true rfl, Nat.le_of_ble_eq_true rfl⟩) (fun H locs f σ_48 hI hM hF_49 p_47 => ?_)
          have hF := mq_fr_tr hF hF_49 (by decide)
          have o_50 : σ_48.2.2.1 30 (j1) = nI (z1) := mq_fg hF_49 (by decide) o_45
          obtain ⟨u_51, -⟩ := p_47
          refine lv_goto (tgt := 137) hx hb d_Mo_answers_92 (by decide) ?_
          exact sm_vret hx hb hr hlk hI ⟨σ_48, rfl, hM, hF, ⟨u_51, trivial⟩⟩ d_Mo_answers_137
      · have k_52 : k < n_1 := Nat.lt_of_not_le (fun q => c_5 ((nI_leI (a := n_1) (b := k) (by omega) (by omega)).mpr q))
        refine lv_aload_n hx hb d_Mo_answers_27 rfl (lv_at hl 0 rfl) ?_
        refine mq_get (k := 69) (v := .ref (ad 69)) hx hb hts hown hI hM (by decide) rfl rfl (hts _ tw_1238) d_Mo_answers_28 ?_
        refine lv_iload_n hx hb d_Mo_answers_31 rfl (lv_at hl 3 rfl) ?_
        refine lv_aload_n hx hb d_Mo_answers_32 rfl (lv_at hl 0 rfl) ?_
        refine mq_get (k := 31) (v := .ref (ad 31)) hx hb hts hown hI hM (by decide) rfl rfl (hts _ tw_1200) d_Mo_answers_33 ?_
        refine lv_iload_n hx hb d_Mo_answers_36 rfl (lv_at hl 2 rfl) ?_
        refine lv_sipush (v := 260) hx hb d_Mo_answers_37 (by decide) ?_
        refine lv_imul hx hb d_Mo_answers_40 ?_
        refine lv_topi (fun x_53 e_54 => ?_)
        obtain rfl : x_53 = nI (r * 260) := by rw [e_54]; exact pk_mul _ _
        refine lv_iload_n hx hb d_Mo_answers_41 rfl (lv_at hl 3 rfl) ?_
        refine lv_iadd hx hb d_Mo_answers_42 ?_
        refine lv_topi (fun x_55 e_56 => ?_)
        obtain rfl : x_55 = nI ((r * 260) + k) := by rw [e_56]; exact nI_add _ _
        obtain ⟨x_57, e_58⟩ : ∃ z, σ.2.2.1 31 (((r * 260) + k)) = z := ⟨_, rfl⟩
        refine mq_iald (k := 31) (j := ((r * 260) + k)) (v := x_57) hx hb hI hM (by decide) rfl (by show ((r * 260) + k) < 16640; omega) (by decide) e_58 d_Mo_answers_43 ?_
        refine mq_iast (k := 69) (j := k) (x := x_57) hx hb hI hM (by decide) rfl (by show k < 260; omega) (by decide) trivial d_Mo_answers_44 (fun H locs f σ_59 e_60 hI hM => ?_)
        have hF := mq_fr_ug hF e_60 rfl (Or.inl rfl)
        have o_61 : σ_59.2.2.1 30 (j1) = nI (z1) := by rw [e_60]; exact o90
        have u_62 := IH_fr (mq_fr_ug (X := [69]) mq_fr_rf e_60 rfl (Or.inl rfl)) (by decide) u90
        refine lv_iinc (v := nI (k + 1)) (lv' := [(3, .int (nI (k + 1))), (0, .ref (ad 71)), (1, .int (nI j1)), (2, .int (nI r))]) hx hb d_Mo_answers_45 hl (k := 3) rfl (nI_1 _) (by decide) rfl (fun ls hl => ?_)
        refine lv_goto (tgt := 19) hx hb d_Mo_answers_48 (by decide) ?_
        exact ih ((k + 1)) _ _ _ _ _ (r) (by omega) (by omega) hI hM hF (lv_sub hl [1, 2, 3, 0] rfl) (Eq.trans o_61 (congrArg nI (show ((z1) : Nat) = _ by omega))) u_62 (by omega)
  refine lv_aload_n hx hb d_Mo_answers_0 rfl (lv_at hl 0 rfl) ?_
  refine lv_iload_n hx hb d_Mo_answers_1 rfl (lv_at hl 1 rfl) ?_
  refine lv_iconst (v := 0) hx hb d_Mo_answers_2 (by decide) ?_
  refine sm_iP hI (va_runV (As := [.int (nI j1), .int (0)]) (rest := []) ⟨hx, hb, hml, hown, hts⟩ (c_Mo_slot l D ca ad L _ _ _ hM (j1) (by omega) (0) (by omega)) (kv_Mo_slot hts rfl rfl (hts _ tw_1442) ⟨Nat.le_of_ble_eq_true rfl, Nat.le_of_ble_eq_true rfl⟩) (pv_Mo hI hE hM) rfl rfl hl.1 rfl (lv_room (Nat.le_of_ble_eq_true rfl)) d_Mo_answers_3 ⟨Nat.le_of_ble_eq_true rfl, Nat.le_of_ble_eq_true rfl⟩) (fun x_64 H locs p_63 hI => ?_)
  subst p_63
  refine lv_istore_n (lv' := [(2, .int (nI (j1 * 16 + 0))), (0, .ref (ad 71)), (1, .int (nI j1))]) hx hb d_Mo_answers_6 rfl hl (by decide) rfl (fun ls hl => ?_)
  refine lv_aload_n hx hb d_Mo_answers_7 rfl (lv_at hl 1 rfl) ?_
  refine lv_aload_n hx hb d_Mo_answers_8 rfl (lv_at hl 1 rfl) ?_
  refine mq_get (k := 32) (v := .ref (ad 32)) hx hb hts hown hI hM (by decide) rfl rfl (hts _ tw_1201) d_Mo_answers_9 ?_
  refine lv_iload_n hx hb d_Mo_answers_12 rfl (lv_at hl 0 rfl) ?_
  obtain ⟨n_65, h_66, h_67, e_68⟩ := hM.2.2.2.2.2 32 ((j1 * 16 + 0))
  refine mq_iald (k := 32) (j := (j1 * 16 + 0)) (v := nI n_65) hx hb hI hM (by decide) rfl (by show (j1 * 16 + 0) < 64; omega) (by decide) e_68 d_Mo_answers_13 ?_
  refine mq_puti (k := 70) (ty := .int) hx hb hts hown hI hM (by decide) rfl rfl (hts _ tw_1239) rfl (by decide +kernel) rfl rfl ⟨n_65, by omega, by omega, rfl⟩ d_Mo_answers_14 (fun H locs f σ_69 e_70 hI hM => ?_)
  have hF := mq_fr_ui hF e_70 rfl
  have o_71 : σ_69.2.2.1 30 (j1) = nI z1 := by rw [e_70]; exact o0
  have u_72 := IH_fr (mq_fr_ui (X := [70]) mq_fr_rf e_70 rfl) (by decide) u0
  refine lv_iconst (v := 0) hx hb d_Mo_answers_17 (by decide) ?_
  refine lv_istore_n (lv' := [(3, .int (0)), (2, .int (nI (j1 * 16 + 0))), (0, .ref (ad 71)), (1, .int (nI j1))]) hx hb d_Mo_answers_18 rfl hl (by decide) rfl (fun ls hl => ?_)
  exact hJ_19 _ (0) _ _ _ _ _ ((j1 * 16 + 0)) (Nat.le_refl _) (by omega) hI hM hF (lv_sub hl [2, 3, 1, 0] rfl) (Eq.trans o_71 (congrArg nI (show (z1 : Nat) = _ by omega))) u_72 (by omega)
theorem d_Mo_send_0 : decode b_Mo_send 0 = .ok (.aload_n 0, 1) := by decide +kernel
theorem d_Mo_send_1 : decode b_Mo_send 1 = .ok (.getfield 29, 3) := by decide +kernel
theorem d_Mo_send_4 : decode b_Mo_send 4 = .ok (.iload_n 1, 1) := by decide +kernel
theorem d_Mo_send_5 : decode b_Mo_send 5 = .ok (.iaload, 1) := by decide +kernel
theorem d_Mo_send_6 : decode b_Mo_send 6 = .ok (.iconst 2, 1) := by decide +kernel
theorem d_Mo_send_7 : decode b_Mo_send 7 = .ok (.if_icmp .ne 7, 3) := by decide +kernel
theorem d_Mo_send_10 : decode b_Mo_send 10 = .ok (.iconst 1, 1) := by decide +kernel
theorem d_Mo_send_11 : decode b_Mo_send 11 = .ok (.goto 4, 3) := by decide +kernel
theorem d_Mo_send_14 : decode b_Mo_send 14 = .ok (.iconst 0, 1) := by decide +kernel
theorem d_Mo_send_15 : decode b_Mo_send 15 = .ok (.istore_n 2, 1) := by decide +kernel
theorem d_Mo_send_16 : decode b_Mo_send 16 = .ok (.iload_n 2, 1) := by decide +kernel
theorem d_Mo_send_17 : decode b_Mo_send 17 = .ok (.ifCond .eq 149, 3) := by decide +kernel
theorem d_Mo_send_20 : decode b_Mo_send 20 = .ok (.aload_n 0, 1) := by decide +kernel
theorem d_Mo_send_21 : decode b_Mo_send 21 = .ok (.getfield 29, 3) := by decide +kernel
theorem d_Mo_send_24 : decode b_Mo_send 24 = .ok (.iload_n 1, 1) := by decide +kernel
theorem d_Mo_send_25 : decode b_Mo_send 25 = .ok (.iaload, 1) := by decide +kernel
theorem d_Mo_send_26 : decode b_Mo_send 26 = .ok (.iconst 2, 1) := by decide +kernel
theorem d_Mo_send_27 : decode b_Mo_send 27 = .ok (.if_icmp .ne 30, 3) := by decide +kernel
theorem d_Mo_send_30 : decode b_Mo_send 30 = .ok (.aload_n 0, 1) := by decide +kernel
theorem d_Mo_send_31 : decode b_Mo_send 31 = .ok (.getfield 56, 3) := by decide +kernel
theorem d_Mo_send_34 : decode b_Mo_send 34 = .ok (.iload_n 1, 1) := by decide +kernel
theorem d_Mo_send_35 : decode b_Mo_send 35 = .ok (.iaload, 1) := by decide +kernel
theorem d_Mo_send_36 : decode b_Mo_send 36 = .ok (.bipush 12, 2) := by decide +kernel
theorem d_Mo_send_38 : decode b_Mo_send 38 = .ok (.if_icmp .ge 19, 3) := by decide +kernel
theorem d_Mo_send_41 : decode b_Mo_send 41 = .ok (.aload_n 0, 1) := by decide +kernel
theorem d_Mo_send_42 : decode b_Mo_send 42 = .ok (.getfield 38, 3) := by decide +kernel
theorem d_Mo_send_45 : decode b_Mo_send 45 = .ok (.iload_n 1, 1) := by decide +kernel
theorem d_Mo_send_46 : decode b_Mo_send 46 = .ok (.iaload, 1) := by decide +kernel
theorem d_Mo_send_47 : decode b_Mo_send 47 = .ok (.sipush 256, 3) := by decide +kernel
theorem d_Mo_send_50 : decode b_Mo_send 50 = .ok (.if_icmp .ge 7, 3) := by decide +kernel
theorem d_Mo_send_53 : decode b_Mo_send 53 = .ok (.iconst 1, 1) := by decide +kernel
theorem d_Mo_send_54 : decode b_Mo_send 54 = .ok (.goto 4, 3) := by decide +kernel
theorem d_Mo_send_57 : decode b_Mo_send 57 = .ok (.iconst 0, 1) := by decide +kernel
theorem d_Mo_send_58 : decode b_Mo_send 58 = .ok (.istore_n 2, 1) := by decide +kernel
theorem d_Mo_send_59 : decode b_Mo_send 59 = .ok (.aload_n 0, 1) := by decide +kernel
theorem d_Mo_send_60 : decode b_Mo_send 60 = .ok (.getfield 136, 3) := by decide +kernel
theorem d_Mo_send_63 : decode b_Mo_send 63 = .ok (.iload_n 1, 1) := by decide +kernel
theorem d_Mo_send_64 : decode b_Mo_send 64 = .ok (.if_icmp .ne 10, 3) := by decide +kernel
theorem d_Mo_send_67 : decode b_Mo_send 67 = .ok (.aload_n 0, 1) := by decide +kernel
theorem d_Mo_send_68 : decode b_Mo_send 68 = .ok (.invokevirtual 326, 3) := by decide +kernel
theorem d_Mo_send_71 : decode b_Mo_send 71 = .ok (.goto 4, 3) := by decide +kernel
theorem d_Mo_send_74 : decode b_Mo_send 74 = .ok (.iconst (-1), 1) := by decide +kernel
theorem d_Mo_send_75 : decode b_Mo_send 75 = .ok (.istore_n 3, 1) := by decide +kernel
theorem d_Mo_send_76 : decode b_Mo_send 76 = .ok (.iload_n 2, 1) := by decide +kernel
theorem d_Mo_send_77 : decode b_Mo_send 77 = .ok (.ifCond .eq 49, 3) := by decide +kernel
theorem d_Mo_send_80 : decode b_Mo_send 80 = .ok (.aload_n 0, 1) := by decide +kernel
theorem d_Mo_send_81 : decode b_Mo_send 81 = .ok (.getfield 81, 3) := by decide +kernel
theorem d_Mo_send_84 : decode b_Mo_send 84 = .ok (.iload_n 1, 1) := by decide +kernel
theorem d_Mo_send_85 : decode b_Mo_send 85 = .ok (.iaload, 1) := by decide +kernel
theorem d_Mo_send_86 : decode b_Mo_send 86 = .ok (.ifCond .le 40, 3) := by decide +kernel
theorem d_Mo_send_89 : decode b_Mo_send 89 = .ok (.aload_n 0, 1) := by decide +kernel
theorem d_Mo_send_90 : decode b_Mo_send 90 = .ok (.getfield 90, 3) := by decide +kernel
theorem d_Mo_send_93 : decode b_Mo_send 93 = .ok (.aload_n 0, 1) := by decide +kernel
theorem d_Mo_send_94 : decode b_Mo_send 94 = .ok (.iload_n 1, 1) := by decide +kernel
theorem d_Mo_send_95 : decode b_Mo_send 95 = .ok (.iconst 0, 1) := by decide +kernel
theorem d_Mo_send_96 : decode b_Mo_send 96 = .ok (.invokevirtual 290, 3) := by decide +kernel
theorem d_Mo_send_99 : decode b_Mo_send 99 = .ok (.iaload, 1) := by decide +kernel
theorem d_Mo_send_100 : decode b_Mo_send 100 = .ok (.iconst 2, 1) := by decide +kernel
theorem d_Mo_send_101 : decode b_Mo_send 101 = .ok (.if_icmp .ne 11, 3) := by decide +kernel
theorem d_Mo_send_104 : decode b_Mo_send 104 = .ok (.aload_n 0, 1) := by decide +kernel
theorem d_Mo_send_105 : decode b_Mo_send 105 = .ok (.iload_n 1, 1) := by decide +kernel
theorem d_Mo_send_106 : decode b_Mo_send 106 = .ok (.invokevirtual 330, 3) := by decide +kernel
theorem d_Mo_send_109 : decode b_Mo_send 109 = .ok (.goto 8, 3) := by decide +kernel
theorem d_Mo_send_112 : decode b_Mo_send 112 = .ok (.aload_n 0, 1) := by decide +kernel
theorem d_Mo_send_113 : decode b_Mo_send 113 = .ok (.iload_n 1, 1) := by decide +kernel
theorem d_Mo_send_114 : decode b_Mo_send 114 = .ok (.invokevirtual 333, 3) := by decide +kernel
theorem d_Mo_send_117 : decode b_Mo_send 117 = .ok (.aload_n 0, 1) := by decide +kernel
theorem d_Mo_send_118 : decode b_Mo_send 118 = .ok (.iload_n 1, 1) := by decide +kernel
theorem d_Mo_send_119 : decode b_Mo_send 119 = .ok (.iconst (-1), 1) := by decide +kernel
theorem d_Mo_send_120 : decode b_Mo_send 120 = .ok (.invokevirtual 335, 3) := by decide +kernel
theorem d_Mo_send_123 : decode b_Mo_send 123 = .ok (.goto 40, 3) := by decide +kernel
theorem d_Mo_send_126 : decode b_Mo_send 126 = .ok (.iload_n 2, 1) := by decide +kernel
theorem d_Mo_send_127 : decode b_Mo_send 127 = .ok (.ifCond .eq 34, 3) := by decide +kernel
theorem d_Mo_send_130 : decode b_Mo_send 130 = .ok (.iload_n 3, 1) := by decide +kernel
theorem d_Mo_send_131 : decode b_Mo_send 131 = .ok (.ifCond .lt 30, 3) := by decide +kernel
theorem d_Mo_send_134 : decode b_Mo_send 134 = .ok (.aload_n 0, 1) := by decide +kernel
theorem d_Mo_send_135 : decode b_Mo_send 135 = .ok (.iload_n 1, 1) := by decide +kernel
theorem d_Mo_send_136 : decode b_Mo_send 136 = .ok (.iload_n 3, 1) := by decide +kernel
theorem d_Mo_send_137 : decode b_Mo_send 137 = .ok (.invokevirtual 338, 3) := by decide +kernel
theorem d_Mo_send_140 : decode b_Mo_send 140 = .ok (.aload_n 0, 1) := by decide +kernel
theorem d_Mo_send_141 : decode b_Mo_send 141 = .ok (.getfield 133, 3) := by decide +kernel
theorem d_Mo_send_144 : decode b_Mo_send 144 = .ok (.iload_n 3, 1) := by decide +kernel
theorem d_Mo_send_145 : decode b_Mo_send 145 = .ok (.iload_n 1, 1) := by decide +kernel
theorem d_Mo_send_146 : decode b_Mo_send 146 = .ok (.iastore, 1) := by decide +kernel
theorem d_Mo_send_147 : decode b_Mo_send 147 = .ok (.aload_n 0, 1) := by decide +kernel
theorem d_Mo_send_148 : decode b_Mo_send 148 = .ok (.iload_n 1, 1) := by decide +kernel
theorem d_Mo_send_149 : decode b_Mo_send 149 = .ok (.aload_n 0, 1) := by decide +kernel
theorem d_Mo_send_150 : decode b_Mo_send 150 = .ok (.getfield 112, 3) := by decide +kernel
theorem d_Mo_send_153 : decode b_Mo_send 153 = .ok (.iload_n 3, 1) := by decide +kernel
theorem d_Mo_send_154 : decode b_Mo_send 154 = .ok (.iaload, 1) := by decide +kernel
theorem d_Mo_send_155 : decode b_Mo_send 155 = .ok (.invokevirtual 335, 3) := by decide +kernel
theorem d_Mo_send_158 : decode b_Mo_send 158 = .ok (.goto 5, 3) := by decide +kernel
theorem d_Mo_send_161 : decode b_Mo_send 161 = .ok (.iconst 0, 1) := by decide +kernel
theorem d_Mo_send_162 : decode b_Mo_send 162 = .ok (.istore_n 2, 1) := by decide +kernel
theorem d_Mo_send_163 : decode b_Mo_send 163 = .ok (.goto (-147), 3) := by decide +kernel
theorem d_Mo_send_166 : decode b_Mo_send 166 = .ok (.return_, 1) := by decide +kernel
set_option maxRecDepth 100000 in
set_option maxHeartbeats 4000000 in
theorem c_Mo_send (l : Launch) (D : va_G) (ca : Nat → ClassId) (ad : Nat → Nat) (L : List Nat) (f0 : Nat → va_E) (sz : Nat) (σ0 : mq_S) (hM : mq_B ca ad σ0 L f0) (j1 : Nat) (q1 : j1 ≤ 2) (u0 : IH σ0) :
    Met l y_Mo_send (Cond.code y_Mo_send b_Mo_send 4 none :: wg) { frames := 5, cells := 0, slots := 0, locals := 122 } (va_Pc [.ref (ad 71), .int (nI j1)] (sm_P D cl_all (ty_s ca) ek L f0 sz)) (sm_Qv D (ty_s ca) L f0 sz (fun u => mq_po ca ad L σ0 [13, 14, 15, 16, 18, 19, 22, 23, 24, 25, 30, 31, 32, 33, 34, 42, 52, 65, 69, 70] (fun σ => IH σ ∧ True) u)) 0 0 (va_A (va_pl L f0) sz) := by
  refine sm_start (by decide) (Nat.le_of_ble_eq_true rfl) ?_
  intro p e s m below meth c ls hx hb hml hr hlk hnm hts hown hsz hE hI hl
  have hl : lv_has ls 4 [(0, .ref (ad 71)), (1, .int (nI j1))] := hl
  have hF : mq_fr [13, 14, 15, 16, 18, 19, 22, 23, 24, 25, 30, 31, 32, 33, 34, 42, 52, 65, 69, 70] σ0 σ0 := mq_fr_rf
  have hJ_16 : ∀ (N : Nat) (H : Heap) (locs : List Loc) (f : Nat → va_E) (σ : mq_S) (ls : Array Slot) (y2 : Int32) (w : Nat), 13 - w + 1 ≤ N → sw_I D cl_all (ty_s ca) (va_A (va_pl L f0) sz) s H locs L f → mq_B ca ad σ L f → mq_fr [13, 14, 15, 16, 18, 19, 22, 23, 24, 25, 30, 31, 32, 33, 34, 42, 52, 65, 69, 70] σ0 σ → lv_has ls 4 [(0, .ref (ad 71)), (1, .int (nI j1)), (2, .int (y2))] → (y2 = 0 ∨ y2 = 1) → (0 ≤ w) → (w ≤ 12) → (σ.2.2.1 22 (j1) = nI w) → (IH σ) → W p l e { frames := 5, cells := 0, slots := 0, locals := 122 } s m ([.ref (ad 71), .int (nI j1)] : List Value).toArray below meth c H locs 0 0 (MQ below (sm_Qv D (ty_s ca) L f0 sz (fun u => mq_po ca ad L σ0 [13, 14, 15, 16, 18, 19, 22, 23, 24, 25, 30, 31, 32, 33, 34, 42, 52, 65, 69, 70] (fun σ => IH σ ∧ True) u)) ([.ref (ad 71), .int (nI j1)] : List Value).toArray s 0 0 (va_A (va_pl L f0) sz)) (F0 m 16 ls []) := by
    intro N
    induction N with
    | zero => intros; omega
    | succ N ih =>
      intro H locs f σ ls y2 w hN hI hM hF hl py2 h90a h90b o90 u90
      refine lv_iload_n hx hb d_Mo_send_16 rfl (lv_at hl 2 rfl) ?_
      refine lv_if_eq (tgt := 166) hx hb d_Mo_send_17 (by decide) (fun c_1 => ?_) (fun c_1 => ?_)
      · exact sm_vret hx hb hr hlk hI ⟨σ, rfl, hM, hF, ⟨u90, trivial⟩⟩ d_Mo_send_166
      · refine lv_aload_n hx hb d_Mo_send_20 rfl (lv_at hl 0 rfl) ?_
        refine mq_get (k := 13) (v := .ref (ad 13)) hx hb hts hown hI hM (by decide) rfl rfl (hts _ tw_1182) d_Mo_send_21 ?_
        refine lv_iload_n hx hb d_Mo_send_24 rfl (lv_at hl 1 rfl) ?_
        obtain ⟨x_2, e_3⟩ : ∃ z, σ.2.2.1 13 (j1) = z := ⟨_, rfl⟩
        refine mq_iald (k := 13) (j := j1) (v := x_2) hx hb hI hM (by decide) rfl (by show j1 < 4; omega) (by decide) e_3 d_Mo_send_25 ?_
        refine lv_iconst (v := 2) hx hb d_Mo_send_26 (by decide) ?_
        refine lv_icmp_ne (tgt := 57) hx hb d_Mo_send_27 (by decide) (fun c_4 => ?_) (fun c_4 => ?_)
        · refine lv_iconst (v := 0) hx hb d_Mo_send_57 (by decide) ?_
          refine lv_istore_n (lv' := [(2, .int (0)), (0, .ref (ad 71)), (1, .int (nI j1))]) hx hb d_Mo_send_58 rfl hl (by decide) rfl (fun ls hl => ?_)
          refine lv_aload_n hx hb d_Mo_send_59 rfl (lv_at hl 1 rfl) ?_
          obtain ⟨x_5, e_6⟩ : ∃ z, σ.1 54 = z := ⟨_, rfl⟩
          refine mq_get (k := 54) (v := .int (x_5)) hx hb hts hown hI hM (by decide) (congrArg (fun z => some (Value.int z)) e_6) rfl (hts _ tw_1223) d_Mo_send_60 ?_
          refine lv_iload_n hx hb d_Mo_send_63 rfl (lv_at hl 2 rfl) ?_
          refine lv_icmp_ne (tgt := 74) hx hb d_Mo_send_64 (by decide) (fun c_7 => ?_) (fun c_7 => ?_)
          · refine lv_iconst (v := -1) hx hb d_Mo_send_74 (by decide) ?_
            refine lv_istore_n (lv' := [(3, .int (-1)), (2, .int (0)), (0, .ref (ad 71)), (1, .int (nI j1))]) hx hb d_Mo_send_75 rfl hl (by decide) rfl (fun ls hl => ?_)
            refine lv_iload_n hx hb d_Mo_send_76 rfl (lv_at hl 1 rfl) ?_
            refine lv_if_eq (tgt := 126) hx hb d_Mo_send_77 (by decide) (fun c_8 => ?_) (fun c_8 => ?_)
            · refine lv_iload_n hx hb d_Mo_send_126 rfl (lv_at hl 1 rfl) ?_
              refine lv_if_eq (tgt := 161) hx hb d_Mo_send_127 (by decide) (fun c_9 => ?_) (fun c_9 => ?_)
              · refine lv_iconst (v := 0) hx hb d_Mo_send_161 (by decide) ?_
                refine lv_istore_n (lv' := [(2, .int (0)), (3, .int (-1)), (0, .ref (ad 71)), (1, .int (nI j1))]) hx hb d_Mo_send_162 rfl hl (by decide) rfl (fun ls hl => ?_)
                refine lv_goto (tgt := 16) hx hb d_Mo_send_163 (by decide) ?_
                refine lv_iload_n hx hb d_Mo_send_16 rfl (lv_at hl 0 rfl) ?_
                refine lv_if_eq (tgt := 166) hx hb d_Mo_send_17 (by decide) (fun c_10 => ?_) (fun c_10 => ?_)
                · exact sm_vret hx hb hr hlk hI ⟨σ, rfl, hM, hF, ⟨u90, trivial⟩⟩ d_Mo_send_166
                · exact absurd c_10 (by decide)
              · exact absurd c_9 (by decide)
            · exact absurd c_8 (by decide)
          · refine lv_aload_n hx hb d_Mo_send_67 rfl (lv_at hl 1 rfl) ?_
            refine sm_iP hI (va_runV (As := []) (rest := []) ⟨hx, hb, hml, hown, hts⟩ (c_Mo_unsent l D ca ad L _ _ _ hM ) (kv_Mo_unsent hts rfl rfl (hts _ tw_1438) ⟨Nat.le_of_ble_eq_true rfl, Nat.le_of_ble_eq_true rfl⟩) (pv_Mo hI hE hM) rfl rfl hl.1 rfl (lv_room (Nat.le_of_ble_eq_true rfl)) d_Mo_send_68 ⟨Nat.le_of_ble_eq_true rfl, Nat.le_of_ble_eq_true rfl⟩) (fun x_12 H locs p_11 hI => ?_)
            rcases p_11 with rfl | ⟨n_13, rfl, h_14⟩
            · refine lv_goto (tgt := 75) hx hb d_Mo_send_71 (by decide) ?_
              refine lv_istore_n (lv' := [(3, .int (-1)), (2, .int (0)), (0, .ref (ad 71)), (1, .int (nI j1))]) hx hb d_Mo_send_75 rfl hl (by decide) rfl (fun ls hl => ?_)
              refine lv_iload_n hx hb d_Mo_send_76 rfl (lv_at hl 1 rfl) ?_
              refine lv_if_eq (tgt := 126) hx hb d_Mo_send_77 (by decide) (fun c_15 => ?_) (fun c_15 => ?_)
              · refine lv_iload_n hx hb d_Mo_send_126 rfl (lv_at hl 1 rfl) ?_
                refine lv_if_eq (tgt := 161) hx hb d_Mo_send_127 (by decide) (fun c_16 => ?_) (fun c_16 => ?_)
                · refine lv_iconst (v := 0) hx hb d_Mo_send_161 (by decide) ?_
                  refine lv_istore_n (lv' := [(2, .int (0)), (3, .int (-1)), (0, .ref (ad 71)), (1, .int (nI j1))]) hx hb d_Mo_send_162 rfl hl (by decide) rfl (fun ls hl => ?_)
                  refine lv_goto (tgt := 16) hx hb d_Mo_send_163 (by decide) ?_
                  refine lv_iload_n hx hb d_Mo_send_16 rfl (lv_at hl 0 rfl) ?_
                  refine lv_if_eq (tgt := 166) hx hb d_Mo_send_17 (by decide) (fun c_17 => ?_) (fun c_17 => ?_)
                  · exact sm_vret hx hb hr hlk hI ⟨σ, rfl, hM, hF, ⟨u90, trivial⟩⟩ d_Mo_send_166
                  · exact absurd c_17 (by decide)
                · exact absurd c_16 (by decide)
              · exact absurd c_15 (by decide)
            · refine lv_goto (tgt := 75) hx hb d_Mo_send_71 (by decide) ?_
              refine lv_istore_n (lv' := [(3, .int (nI n_13)), (2, .int (0)), (0, .ref (ad 71)), (1, .int (nI j1))]) hx hb d_Mo_send_75 rfl hl (by decide) rfl (fun ls hl => ?_)
              refine lv_iload_n hx hb d_Mo_send_76 rfl (lv_at hl 1 rfl) ?_
              refine lv_if_eq (tgt := 126) hx hb d_Mo_send_77 (by decide) (fun c_18 => ?_) (fun c_18 => ?_)
              · refine lv_iload_n hx hb d_Mo_send_126 rfl (lv_at hl 1 rfl) ?_
                refine lv_if_eq (tgt := 161) hx hb d_Mo_send_127 (by decide) (fun c_19 => ?_) (fun c_19 => ?_)
                · refine lv_iconst (v := 0) hx hb d_Mo_send_161 (by decide) ?_
                  refine lv_istore_n (lv' := [(2, .int (0)), (3, .int (nI n_13)), (0, .ref (ad 71)), (1, .int (nI j1))]) hx hb d_Mo_send_162 rfl hl (by decide) rfl (fun ls hl => ?_)
                  refine lv_goto (tgt := 16) hx hb d_Mo_send_163 (by decide) ?_
                  refine lv_iload_n hx hb d_Mo_send_16 rfl (lv_at hl 0 rfl) ?_
                  refine lv_if_eq (tgt := 166) hx hb d_Mo_send_17 (by decide) (fun c_20 => ?_) (fun c_20 => ?_)
                  · exact sm_vret hx hb hr hlk hI ⟨σ, rfl, hM, hF, ⟨u90, trivial⟩⟩ d_Mo_send_166
                  · exact absurd c_20 (by decide)
                · exact absurd c_19 (by decide)
              · exact absurd c_18 (by decide)
        · refine lv_aload_n hx hb d_Mo_send_30 rfl (lv_at hl 0 rfl) ?_
          refine mq_get (k := 22) (v := .ref (ad 22)) hx hb hts hown hI hM (by decide) rfl rfl (hts _ tw_1191) d_Mo_send_31 ?_
          refine lv_iload_n hx hb d_Mo_send_34 rfl (lv_at hl 1 rfl) ?_
          refine mq_iald (k := 22) (j := j1) (v := nI w) hx hb hI hM (by decide) rfl (by show j1 < 3; omega) (by decide) o90 d_Mo_send_35 ?_
          refine lv_bipush (v := 12) hx hb d_Mo_send_36 (by decide) ?_
          refine lv_icmp_ge (tgt := 57) hx hb d_Mo_send_38 (by decide) (fun c_21 => ?_) (fun c_21 => ?_)
          · have k_22 : 12 ≤ w := (nI_leI (a := 12) (b := w) (by omega) (by omega)).mp c_21
            refine lv_iconst (v := 0) hx hb d_Mo_send_57 (by decide) ?_
            refine lv_istore_n (lv' := [(2, .int (0)), (0, .ref (ad 71)), (1, .int (nI j1))]) hx hb d_Mo_send_58 rfl hl (by decide) rfl (fun ls hl => ?_)
            refine lv_aload_n hx hb d_Mo_send_59 rfl (lv_at hl 1 rfl) ?_
            obtain ⟨x_23, e_24⟩ : ∃ z, σ.1 54 = z := ⟨_, rfl⟩
            refine mq_get (k := 54) (v := .int (x_23)) hx hb hts hown hI hM (by decide) (congrArg (fun z => some (Value.int z)) e_24) rfl (hts _ tw_1223) d_Mo_send_60 ?_
            refine lv_iload_n hx hb d_Mo_send_63 rfl (lv_at hl 2 rfl) ?_
            refine lv_icmp_ne (tgt := 74) hx hb d_Mo_send_64 (by decide) (fun c_25 => ?_) (fun c_25 => ?_)
            · refine lv_iconst (v := -1) hx hb d_Mo_send_74 (by decide) ?_
              refine lv_istore_n (lv' := [(3, .int (-1)), (2, .int (0)), (0, .ref (ad 71)), (1, .int (nI j1))]) hx hb d_Mo_send_75 rfl hl (by decide) rfl (fun ls hl => ?_)
              refine lv_iload_n hx hb d_Mo_send_76 rfl (lv_at hl 1 rfl) ?_
              refine lv_if_eq (tgt := 126) hx hb d_Mo_send_77 (by decide) (fun c_26 => ?_) (fun c_26 => ?_)
              · refine lv_iload_n hx hb d_Mo_send_126 rfl (lv_at hl 1 rfl) ?_
                refine lv_if_eq (tgt := 161) hx hb d_Mo_send_127 (by decide) (fun c_27 => ?_) (fun c_27 => ?_)
                · refine lv_iconst (v := 0) hx hb d_Mo_send_161 (by decide) ?_
                  refine lv_istore_n (lv' := [(2, .int (0)), (3, .int (-1)), (0, .ref (ad 71)), (1, .int (nI j1))]) hx hb d_Mo_send_162 rfl hl (by decide) rfl (fun ls hl => ?_)
                  refine lv_goto (tgt := 16) hx hb d_Mo_send_163 (by decide) ?_
                  refine lv_iload_n hx hb d_Mo_send_16 rfl (lv_at hl 0 rfl) ?_
                  refine lv_if_eq (tgt := 166) hx hb d_Mo_send_17 (by decide) (fun c_28 => ?_) (fun c_28 => ?_)
                  · exact sm_vret hx hb hr hlk hI ⟨σ, rfl, hM, hF, ⟨u90, trivial⟩⟩ d_Mo_send_166
                  · exact absurd c_28 (by decide)
                · exact absurd c_27 (by decide)
              · exact absurd c_26 (by decide)
            · refine lv_aload_n hx hb d_Mo_send_67 rfl (lv_at hl 1 rfl) ?_
              refine sm_iP hI (va_runV (As := []) (rest := []) ⟨hx, hb, hml, hown, hts⟩ (c_Mo_unsent l D ca ad L _ _ _ hM ) (kv_Mo_unsent hts rfl rfl (hts _ tw_1438) ⟨Nat.le_of_ble_eq_true rfl, Nat.le_of_ble_eq_true rfl⟩) (pv_Mo hI hE hM) rfl rfl hl.1 rfl (lv_room (Nat.le_of_ble_eq_true rfl)) d_Mo_send_68 ⟨Nat.le_of_ble_eq_true rfl, Nat.le_of_ble_eq_true rfl⟩) (fun x_30 H locs p_29 hI => ?_)
              rcases p_29 with rfl | ⟨n_31, rfl, h_32⟩
              · refine lv_goto (tgt := 75) hx hb d_Mo_send_71 (by decide) ?_
                refine lv_istore_n (lv' := [(3, .int (-1)), (2, .int (0)), (0, .ref (ad 71)), (1, .int (nI j1))]) hx hb d_Mo_send_75 rfl hl (by decide) rfl (fun ls hl => ?_)
                refine lv_iload_n hx hb d_Mo_send_76 rfl (lv_at hl 1 rfl) ?_
                refine lv_if_eq (tgt := 126) hx hb d_Mo_send_77 (by decide) (fun c_33 => ?_) (fun c_33 => ?_)
                · refine lv_iload_n hx hb d_Mo_send_126 rfl (lv_at hl 1 rfl) ?_
                  refine lv_if_eq (tgt := 161) hx hb d_Mo_send_127 (by decide) (fun c_34 => ?_) (fun c_34 => ?_)
                  · refine lv_iconst (v := 0) hx hb d_Mo_send_161 (by decide) ?_
                    refine lv_istore_n (lv' := [(2, .int (0)), (3, .int (-1)), (0, .ref (ad 71)), (1, .int (nI j1))]) hx hb d_Mo_send_162 rfl hl (by decide) rfl (fun ls hl => ?_)
                    refine lv_goto (tgt := 16) hx hb d_Mo_send_163 (by decide) ?_
                    refine lv_iload_n hx hb d_Mo_send_16 rfl (lv_at hl 0 rfl) ?_
                    refine lv_if_eq (tgt := 166) hx hb d_Mo_send_17 (by decide) (fun c_35 => ?_) (fun c_35 => ?_)
                    · exact sm_vret hx hb hr hlk hI ⟨σ, rfl, hM, hF, ⟨u90, trivial⟩⟩ d_Mo_send_166
                    · exact absurd c_35 (by decide)
                  · exact absurd c_34 (by decide)
                · exact absurd c_33 (by decide)
              · refine lv_goto (tgt := 75) hx hb d_Mo_send_71 (by decide) ?_
                refine lv_istore_n (lv' := [(3, .int (nI n_31)), (2, .int (0)), (0, .ref (ad 71)), (1, .int (nI j1))]) hx hb d_Mo_send_75 rfl hl (by decide) rfl (fun ls hl => ?_)
                refine lv_iload_n hx hb d_Mo_send_76 rfl (lv_at hl 1 rfl) ?_
                refine lv_if_eq (tgt := 126) hx hb d_Mo_send_77 (by decide) (fun c_36 => ?_) (fun c_36 => ?_)
                · refine lv_iload_n hx hb d_Mo_send_126 rfl (lv_at hl 1 rfl) ?_
                  refine lv_if_eq (tgt := 161) hx hb d_Mo_send_127 (by decide) (fun c_37 => ?_) (fun c_37 => ?_)
                  · refine lv_iconst (v := 0) hx hb d_Mo_send_161 (by decide) ?_
                    refine lv_istore_n (lv' := [(2, .int (0)), (3, .int (nI n_31)), (0, .ref (ad 71)), (1, .int (nI j1))]) hx hb d_Mo_send_162 rfl hl (by decide) rfl (fun ls hl => ?_)
                    refine lv_goto (tgt := 16) hx hb d_Mo_send_163 (by decide) ?_
                    refine lv_iload_n hx hb d_Mo_send_16 rfl (lv_at hl 0 rfl) ?_
                    refine lv_if_eq (tgt := 166) hx hb d_Mo_send_17 (by decide) (fun c_38 => ?_) (fun c_38 => ?_)
                    · exact sm_vret hx hb hr hlk hI ⟨σ, rfl, hM, hF, ⟨u90, trivial⟩⟩ d_Mo_send_166
                    · exact absurd c_38 (by decide)
                  · exact absurd c_37 (by decide)
                · exact absurd c_36 (by decide)
          · have k_39 : w < 12 := Nat.lt_of_not_le (fun q => c_21 ((nI_leI (a := 12) (b := w) (by omega) (by omega)).mpr q))
            refine lv_aload_n hx hb d_Mo_send_41 rfl (lv_at hl 0 rfl) ?_
            refine mq_get (k := 16) (v := .ref (ad 16)) hx hb hts hown hI hM (by decide) rfl rfl (hts _ tw_1185) d_Mo_send_42 ?_
            refine lv_iload_n hx hb d_Mo_send_45 rfl (lv_at hl 1 rfl) ?_
            obtain ⟨n_40, h_41, h_42, e_43⟩ := hM.2.2.2.2.2 16 (j1)
            refine mq_iald (k := 16) (j := j1) (v := nI n_40) hx hb hI hM (by decide) rfl (by show j1 < 4; omega) (by decide) e_43 d_Mo_send_46 ?_
            refine lv_sipush (v := 256) hx hb d_Mo_send_47 (by decide) ?_
            refine lv_icmp_ge (tgt := 57) hx hb d_Mo_send_50 (by decide) (fun c_44 => ?_) (fun c_44 => ?_)
            · have k_45 : 256 ≤ n_40 := (nI_leI (a := 256) (b := n_40) (by omega) (by omega)).mp c_44
              refine lv_iconst (v := 0) hx hb d_Mo_send_57 (by decide) ?_
              refine lv_istore_n (lv' := [(2, .int (0)), (0, .ref (ad 71)), (1, .int (nI j1))]) hx hb d_Mo_send_58 rfl hl (by decide) rfl (fun ls hl => ?_)
              refine lv_aload_n hx hb d_Mo_send_59 rfl (lv_at hl 1 rfl) ?_
              obtain ⟨x_46, e_47⟩ : ∃ z, σ.1 54 = z := ⟨_, rfl⟩
              refine mq_get (k := 54) (v := .int (x_46)) hx hb hts hown hI hM (by decide) (congrArg (fun z => some (Value.int z)) e_47) rfl (hts _ tw_1223) d_Mo_send_60 ?_
              refine lv_iload_n hx hb d_Mo_send_63 rfl (lv_at hl 2 rfl) ?_
              refine lv_icmp_ne (tgt := 74) hx hb d_Mo_send_64 (by decide) (fun c_48 => ?_) (fun c_48 => ?_)
              · refine lv_iconst (v := -1) hx hb d_Mo_send_74 (by decide) ?_
                refine lv_istore_n (lv' := [(3, .int (-1)), (2, .int (0)), (0, .ref (ad 71)), (1, .int (nI j1))]) hx hb d_Mo_send_75 rfl hl (by decide) rfl (fun ls hl => ?_)
                refine lv_iload_n hx hb d_Mo_send_76 rfl (lv_at hl 1 rfl) ?_
                refine lv_if_eq (tgt := 126) hx hb d_Mo_send_77 (by decide) (fun c_49 => ?_) (fun c_49 => ?_)
                · refine lv_iload_n hx hb d_Mo_send_126 rfl (lv_at hl 1 rfl) ?_
                  refine lv_if_eq (tgt := 161) hx hb d_Mo_send_127 (by decide) (fun c_50 => ?_) (fun c_50 => ?_)
                  · refine lv_iconst (v := 0) hx hb d_Mo_send_161 (by decide) ?_
                    refine lv_istore_n (lv' := [(2, .int (0)), (3, .int (-1)), (0, .ref (ad 71)), (1, .int (nI j1))]) hx hb d_Mo_send_162 rfl hl (by decide) rfl (fun ls hl => ?_)
                    refine lv_goto (tgt := 16) hx hb d_Mo_send_163 (by decide) ?_
                    refine lv_iload_n hx hb d_Mo_send_16 rfl (lv_at hl 0 rfl) ?_
                    refine lv_if_eq (tgt := 166) hx hb d_Mo_send_17 (by decide) (fun c_51 => ?_) (fun c_51 => ?_)
                    · exact sm_vret hx hb hr hlk hI ⟨σ, rfl, hM, hF, ⟨u90, trivial⟩⟩ d_Mo_send_166
                    · exact absurd c_51 (by decide)
                  · exact absurd c_50 (by decide)
                · exact absurd c_49 (by decide)
              · refine lv_aload_n hx hb d_Mo_send_67 rfl (lv_at hl 1 rfl) ?_
                refine sm_iP hI (va_runV (As := []) (rest := []) ⟨hx, hb, hml, hown, hts⟩ (c_Mo_unsent l D ca ad L _ _ _ hM ) (kv_Mo_unsent hts rfl rfl (hts _ tw_1438) ⟨Nat.le_of_ble_eq_true rfl, Nat.le_of_ble_eq_true rfl⟩) (pv_Mo hI hE hM) rfl rfl hl.1 rfl (lv_room (Nat.le_of_ble_eq_true rfl)) d_Mo_send_68 ⟨Nat.le_of_ble_eq_true rfl, Nat.le_of_ble_eq_true rfl⟩) (fun x_53 H locs p_52 hI => ?_)
                rcases p_52 with rfl | ⟨n_54, rfl, h_55⟩
                · refine lv_goto (tgt := 75) hx hb d_Mo_send_71 (by decide) ?_
                  refine lv_istore_n (lv' := [(3, .int (-1)), (2, .int (0)), (0, .ref (ad 71)), (1, .int (nI j1))]) hx hb d_Mo_send_75 rfl hl (by decide) rfl (fun ls hl => ?_)
                  refine lv_iload_n hx hb d_Mo_send_76 rfl (lv_at hl 1 rfl) ?_
                  refine lv_if_eq (tgt := 126) hx hb d_Mo_send_77 (by decide) (fun c_56 => ?_) (fun c_56 => ?_)
                  · refine lv_iload_n hx hb d_Mo_send_126 rfl (lv_at hl 1 rfl) ?_
                    refine lv_if_eq (tgt := 161) hx hb d_Mo_send_127 (by decide) (fun c_57 => ?_) (fun c_57 => ?_)
                    · refine lv_iconst (v := 0) hx hb d_Mo_send_161 (by decide) ?_
                      refine lv_istore_n (lv' := [(2, .int (0)), (3, .int (-1)), (0, .ref (ad 71)), (1, .int (nI j1))]) hx hb d_Mo_send_162 rfl hl (by decide) rfl (fun ls hl => ?_)
                      refine lv_goto (tgt := 16) hx hb d_Mo_send_163 (by decide) ?_
                      refine lv_iload_n hx hb d_Mo_send_16 rfl (lv_at hl 0 rfl) ?_
                      refine lv_if_eq (tgt := 166) hx hb d_Mo_send_17 (by decide) (fun c_58 => ?_) (fun c_58 => ?_)
                      · exact sm_vret hx hb hr hlk hI ⟨σ, rfl, hM, hF, ⟨u90, trivial⟩⟩ d_Mo_send_166
                      · exact absurd c_58 (by decide)
                    · exact absurd c_57 (by decide)
                  · exact absurd c_56 (by decide)
                · refine lv_goto (tgt := 75) hx hb d_Mo_send_71 (by decide) ?_
                  refine lv_istore_n (lv' := [(3, .int (nI n_54)), (2, .int (0)), (0, .ref (ad 71)), (1, .int (nI j1))]) hx hb d_Mo_send_75 rfl hl (by decide) rfl (fun ls hl => ?_)
                  refine lv_iload_n hx hb d_Mo_send_76 rfl (lv_at hl 1 rfl) ?_
                  refine lv_if_eq (tgt := 126) hx hb d_Mo_send_77 (by decide) (fun c_59 => ?_) (fun c_59 => ?_)
                  · refine lv_iload_n hx hb d_Mo_send_126 rfl (lv_at hl 1 rfl) ?_
                    refine lv_if_eq (tgt := 161) hx hb d_Mo_send_127 (by decide) (fun c_60 => ?_) (fun c_60 => ?_)
                    · refine lv_iconst (v := 0) hx hb d_Mo_send_161 (by decide) ?_
                      refine lv_istore_n (lv' := [(2, .int (0)), (3, .int (nI n_54)), (0, .ref (ad 71)), (1, .int (nI j1))]) hx hb d_Mo_send_162 rfl hl (by decide) rfl (fun ls hl => ?_)
                      refine lv_goto (tgt := 16) hx hb d_Mo_send_163 (by decide) ?_
                      refine lv_iload_n hx hb d_Mo_send_16 rfl (lv_at hl 0 rfl) ?_
                      refine lv_if_eq (tgt := 166) hx hb d_Mo_send_17 (by decide) (fun c_61 => ?_) (fun c_61 => ?_)
                      · exact sm_vret hx hb hr hlk hI ⟨σ, rfl, hM, hF, ⟨u90, trivial⟩⟩ d_Mo_send_166
                      · exact absurd c_61 (by decide)
                    · exact absurd c_60 (by decide)
                  · exact absurd c_59 (by decide)
            · have k_62 : n_40 < 256 := Nat.lt_of_not_le (fun q => c_44 ((nI_leI (a := 256) (b := n_40) (by omega) (by omega)).mpr q))
              refine lv_iconst (v := 1) hx hb d_Mo_send_53 (by decide) ?_
              refine lv_goto (tgt := 58) hx hb d_Mo_send_54 (by decide) ?_
              refine lv_istore_n (lv' := [(2, .int (1)), (0, .ref (ad 71)), (1, .int (nI j1))]) hx hb d_Mo_send_58 rfl hl (by decide) rfl (fun ls hl => ?_)
              refine lv_aload_n hx hb d_Mo_send_59 rfl (lv_at hl 1 rfl) ?_
              obtain ⟨x_63, e_64⟩ : ∃ z, σ.1 54 = z := ⟨_, rfl⟩
              refine mq_get (k := 54) (v := .int (x_63)) hx hb hts hown hI hM (by decide) (congrArg (fun z => some (Value.int z)) e_64) rfl (hts _ tw_1223) d_Mo_send_60 ?_
              refine lv_iload_n hx hb d_Mo_send_63 rfl (lv_at hl 2 rfl) ?_
              refine lv_icmp_ne (tgt := 74) hx hb d_Mo_send_64 (by decide) (fun c_65 => ?_) (fun c_65 => ?_)
              · refine lv_iconst (v := -1) hx hb d_Mo_send_74 (by decide) ?_
                refine lv_istore_n (lv' := [(3, .int (-1)), (2, .int (1)), (0, .ref (ad 71)), (1, .int (nI j1))]) hx hb d_Mo_send_75 rfl hl (by decide) rfl (fun ls hl => ?_)
                refine lv_iload_n hx hb d_Mo_send_76 rfl (lv_at hl 1 rfl) ?_
                refine lv_if_eq (tgt := 126) hx hb d_Mo_send_77 (by decide) (fun c_66 => ?_) (fun c_66 => ?_)
                · exact absurd c_66 (by decide)
                · refine lv_aload_n hx hb d_Mo_send_80 rfl (lv_at hl 2 rfl) ?_
                  refine mq_get (k := 30) (v := .ref (ad 30)) hx hb hts hown hI hM (by decide) rfl rfl (hts _ tw_1199) d_Mo_send_81 ?_
                  refine lv_iload_n hx hb d_Mo_send_84 rfl (lv_at hl 3 rfl) ?_
                  obtain ⟨n_67, h_68, h_69, e_70⟩ := hM.2.2.2.2.2 30 (j1)
                  refine mq_iald (k := 30) (j := j1) (v := nI n_67) hx hb hI hM (by decide) rfl (by show j1 < 4; omega) (by decide) e_70 d_Mo_send_85 ?_
                  refine lv_if_le (tgt := 126) hx hb d_Mo_send_86 (by decide) (fun c_71 => ?_) (fun c_71 => ?_)
                  · have k_73 : n_67 = 0 := nz_le c_71 (by omega)
                    refine lv_iload_n hx hb d_Mo_send_126 rfl (lv_at hl 1 rfl) ?_
                    refine lv_if_eq (tgt := 161) hx hb d_Mo_send_127 (by decide) (fun c_74 => ?_) (fun c_74 => ?_)
                    · exact absurd c_74 (by decide)
                    · refine lv_iload_n hx hb d_Mo_send_130 rfl (lv_at hl 0 rfl) ?_
                      refine lv_if_lt (tgt := 161) hx hb d_Mo_send_131 (by decide) (fun c_75 => ?_) (fun c_75 => ?_)
                      · refine lv_iconst (v := 0) hx hb d_Mo_send_161 (by decide) ?_
                        refine lv_istore_n (lv' := [(2, .int (0)), (3, .int (-1)), (0, .ref (ad 71)), (1, .int (nI j1))]) hx hb d_Mo_send_162 rfl hl (by decide) rfl (fun ls hl => ?_)
                        refine lv_goto (tgt := 16) hx hb d_Mo_send_163 (by decide) ?_
                        refine lv_iload_n hx hb d_Mo_send_16 rfl (lv_at hl 0 rfl) ?_
                        refine lv_if_eq (tgt := 166) hx hb d_Mo_send_17 (by decide) (fun c_76 => ?_) (fun c_76 => ?_)
                        · exact sm_vret hx hb hr hlk hI ⟨σ, rfl, hM, hF, ⟨u90, trivial⟩⟩ d_Mo_send_166
                        · exact absurd c_76 (by decide)
                      · exact absurd c_75 (by decide)
                  · have k_77 : 0 < n_67 := Nat.pos_of_ne_zero (fun q => c_71 (by rw [q]; decide))
                    refine lv_aload_n hx hb d_Mo_send_89 rfl (lv_at hl 2 rfl) ?_
                    refine mq_get (k := 33) (v := .ref (ad 33)) hx hb hts hown hI hM (by decide) rfl rfl (hts _ tw_1202) d_Mo_send_90 ?_
                    refine lv_aload_n hx hb d_Mo_send_93 rfl (lv_at hl 2 rfl) ?_
                    refine lv_iload_n hx hb d_Mo_send_94 rfl (lv_at hl 3 rfl) ?_
                    refine lv_iconst (v := 0) hx hb d_Mo_send_95 (by decide) ?_
                    refine sm_iP hI (va_runV (As := [.int (nI j1), .int (0)]) (rest := [.ref (ad 33)]) ⟨hx, hb, hml, hown, hts⟩ (c_Mo_slot l D ca ad L _ _ _ hM (j1) (by omega) (0) (by omega)) (kv_Mo_slot hts rfl rfl (hts _ tw_1442) ⟨Nat.le_of_ble_eq_true rfl, Nat.le_of_ble_eq_true rfl⟩) (pv_Mo hI hE hM) rfl rfl hl.1 rfl (lv_room (Nat.le_of_ble_eq_true rfl)) d_Mo_send_96 ⟨Nat.le_of_ble_eq_true rfl, Nat.le_of_ble_eq_true rfl⟩) (fun x_79 H locs p_78 hI => ?_)
                    subst p_78
                    obtain ⟨x_80, e_81⟩ : ∃ z, σ.2.2.1 33 ((j1 * 16 + 0)) = z := ⟨_, rfl⟩
                    refine mq_iald (k := 33) (j := (j1 * 16 + 0)) (v := x_80) hx hb hI hM (by decide) rfl (by show (j1 * 16 + 0) < 64; omega) (by decide) e_81 d_Mo_send_99 ?_
                    refine lv_iconst (v := 2) hx hb d_Mo_send_100 (by decide) ?_
                    refine lv_icmp_ne (tgt := 112) hx hb d_Mo_send_101 (by decide) (fun c_82 => ?_) (fun c_82 => ?_)
                    · refine lv_aload_n hx hb d_Mo_send_112 rfl (lv_at hl 2 rfl) ?_
                      refine lv_iload_n hx hb d_Mo_send_113 rfl (lv_at hl 3 rfl) ?_
                      refine sm_vM hI (va_runV (As := [.int (nI j1)]) (rest := []) ⟨hx, hb, hml, hown, hts⟩ (c_Mo_answers l D ca ad L _ _ _ hM (j1) (by omega) (n_67) e_70 (by omega) (by omega) u90) (kv_Mo_answers hts rfl rfl (hts _ tw_1496) ⟨Nat.le_of_ble_eq_true rfl, Nat.le_of_ble_eq_true rfl⟩) (pv_Mo hI hE hM) rfl rfl hl.1 rfl (lv_room (Nat.le_of_ble_eq_true rfl)) d_Mo_send_114 ⟨Nat.le_of_ble_eq_true rfl, Nat.le_of_ble_eq_true rfl⟩) (fun H locs f σ_84 hI hM hF_85 p_83 => ?_)
                      have hF := mq_fr_tr hF hF_85 (by decide)
                      have o_86 : σ_84.2.2.1 22 (j1) = nI w := mq_fg hF_85 (by decide) o90
                      obtain ⟨u_87, -⟩ := p_83
                      refine lv_aload_n hx hb d_Mo_send_117 rfl (lv_at hl 2 rfl) ?_
                      refine lv_iload_n hx hb d_Mo_send_118 rfl (lv_at hl 3 rfl) ?_
                      refine lv_iconst (v := -1) hx hb d_Mo_send_119 (by decide) ?_
                      refine sm_vM hI (va_runV (As := [.int (nI j1), .int (-1)]) (rest := []) ⟨hx, hb, hml, hown, hts⟩ (c_Mo_sendI l D ca ad L _ _ _ hM (j1) (by omega) (-1) (w) o_86 (by omega) u_87) (kv_Mo_sendI hts rfl rfl (hts _ tw_1504) ⟨Nat.le_of_ble_eq_true rfl, Nat.le_of_ble_eq_true rfl⟩) (pv_Mo hI hE hM) rfl rfl hl.1 rfl (lv_room (Nat.le_of_ble_eq_true rfl)) d_Mo_send_120 ⟨Nat.le_of_ble_eq_true rfl, Nat.le_of_ble_eq_true rfl⟩) (fun H locs f σ_89 hI hM hF_90 p_88 => ?_)
                      have hF := mq_fr_tr hF hF_90 (by decide)
                      obtain ⟨o_91, u_92, -⟩ := p_88
                      refine lv_goto (tgt := 163) hx hb d_Mo_send_123 (by decide) ?_
                      refine lv_goto (tgt := 16) hx hb d_Mo_send_163 (by decide) ?_
                      exact ih _ _ _ _ _ 1 ((w + 1)) (by omega) hI hM hF (lv_sub hl [2, 3, 1] rfl) (by decide) (by omega) (by omega) o_91 u_92
                    · refine lv_aload_n hx hb d_Mo_send_104 rfl (lv_at hl 2 rfl) ?_
                      refine lv_iload_n hx hb d_Mo_send_105 rfl (lv_at hl 3 rfl) ?_
                      refine sm_vM hI (va_runV (As := [.int (nI j1)]) (rest := []) ⟨hx, hb, hml, hown, hts⟩ (c_Mo_tells l D ca ad L _ _ _ hM (j1) (by omega) (n_67) e_70 (by omega) (by omega) (Eq.trans e_81 c_82) u90) (kv_Mo_tells hts rfl rfl (hts _ tw_1446) ⟨Nat.le_of_ble_eq_true rfl, Nat.le_of_ble_eq_true rfl⟩) (pv_Mo hI hE hM) rfl rfl hl.1 rfl (lv_room (Nat.le_of_ble_eq_true rfl)) d_Mo_send_106 ⟨Nat.le_of_ble_eq_true rfl, Nat.le_of_ble_eq_true rfl⟩) (fun H locs f σ_94 hI hM hF_95 p_93 => ?_)
                      have hF := mq_fr_tr hF hF_95 (by decide)
                      have o_96 : σ_94.2.2.1 22 (j1) = nI w := mq_fg hF_95 (by decide) o90
                      have o_97 : σ_94.2.2.1 30 (j1) = nI n_67 := mq_fg hF_95 (by decide) e_70
                      obtain ⟨u_98, -⟩ := p_93
                      refine lv_goto (tgt := 117) hx hb d_Mo_send_109 (by decide) ?_
                      refine lv_aload_n hx hb d_Mo_send_117 rfl (lv_at hl 2 rfl) ?_
                      refine lv_iload_n hx hb d_Mo_send_118 rfl (lv_at hl 3 rfl) ?_
                      refine lv_iconst (v := -1) hx hb d_Mo_send_119 (by decide) ?_
                      refine sm_vM hI (va_runV (As := [.int (nI j1), .int (-1)]) (rest := []) ⟨hx, hb, hml, hown, hts⟩ (c_Mo_sendI l D ca ad L _ _ _ hM (j1) (by omega) (-1) (w) o_96 (by omega) u_98) (kv_Mo_sendI hts rfl rfl (hts _ tw_1504) ⟨Nat.le_of_ble_eq_true rfl, Nat.le_of_ble_eq_true rfl⟩) (pv_Mo hI hE hM) rfl rfl hl.1 rfl (lv_room (Nat.le_of_ble_eq_true rfl)) d_Mo_send_120 ⟨Nat.le_of_ble_eq_true rfl, Nat.le_of_ble_eq_true rfl⟩) (fun H locs f σ_100 hI hM hF_101 p_99 => ?_)
                      have hF := mq_fr_tr hF hF_101 (by decide)
                      obtain ⟨o_102, u_103, -⟩ := p_99
                      refine lv_goto (tgt := 163) hx hb d_Mo_send_123 (by decide) ?_
                      refine lv_goto (tgt := 16) hx hb d_Mo_send_163 (by decide) ?_
                      exact ih _ _ _ _ _ 1 ((w + 1)) (by omega) hI hM hF (lv_sub hl [2, 3, 1] rfl) (by decide) (by omega) (by omega) o_102 u_103
              · refine lv_aload_n hx hb d_Mo_send_67 rfl (lv_at hl 1 rfl) ?_
                refine sm_iP hI (va_runV (As := []) (rest := []) ⟨hx, hb, hml, hown, hts⟩ (c_Mo_unsent l D ca ad L _ _ _ hM ) (kv_Mo_unsent hts rfl rfl (hts _ tw_1438) ⟨Nat.le_of_ble_eq_true rfl, Nat.le_of_ble_eq_true rfl⟩) (pv_Mo hI hE hM) rfl rfl hl.1 rfl (lv_room (Nat.le_of_ble_eq_true rfl)) d_Mo_send_68 ⟨Nat.le_of_ble_eq_true rfl, Nat.le_of_ble_eq_true rfl⟩) (fun x_105 H locs p_104 hI => ?_)
                rcases p_104 with rfl | ⟨n_106, rfl, h_107⟩
                · refine lv_goto (tgt := 75) hx hb d_Mo_send_71 (by decide) ?_
                  refine lv_istore_n (lv' := [(3, .int (-1)), (2, .int (1)), (0, .ref (ad 71)), (1, .int (nI j1))]) hx hb d_Mo_send_75 rfl hl (by decide) rfl (fun ls hl => ?_)
                  refine lv_iload_n hx hb d_Mo_send_76 rfl (lv_at hl 1 rfl) ?_
                  refine lv_if_eq (tgt := 126) hx hb d_Mo_send_77 (by decide) (fun c_108 => ?_) (fun c_108 => ?_)
                  · exact absurd c_108 (by decide)
                  · refine lv_aload_n hx hb d_Mo_send_80 rfl (lv_at hl 2 rfl) ?_
                    refine mq_get (k := 30) (v := .ref (ad 30)) hx hb hts hown hI hM (by decide) rfl rfl (hts _ tw_1199) d_Mo_send_81 ?_
                    refine lv_iload_n hx hb d_Mo_send_84 rfl (lv_at hl 3 rfl) ?_
                    obtain ⟨n_109, h_110, h_111, e_112⟩ := hM.2.2.2.2.2 30 (j1)
                    refine mq_iald (k := 30) (j := j1) (v := nI n_109) hx hb hI hM (by decide) rfl (by show j1 < 4; omega) (by decide) e_112 d_Mo_send_85 ?_
                    refine lv_if_le (tgt := 126) hx hb d_Mo_send_86 (by decide) (fun c_113 => ?_) (fun c_113 => ?_)
                    · have k_115 : n_109 = 0 := nz_le c_113 (by omega)
                      refine lv_iload_n hx hb d_Mo_send_126 rfl (lv_at hl 1 rfl) ?_
                      refine lv_if_eq (tgt := 161) hx hb d_Mo_send_127 (by decide) (fun c_116 => ?_) (fun c_116 => ?_)
                      · exact absurd c_116 (by decide)
                      · refine lv_iload_n hx hb d_Mo_send_130 rfl (lv_at hl 0 rfl) ?_
                        refine lv_if_lt (tgt := 161) hx hb d_Mo_send_131 (by decide) (fun c_117 => ?_) (fun c_117 => ?_)
                        · refine lv_iconst (v := 0) hx hb d_Mo_send_161 (by decide) ?_
                          refine lv_istore_n (lv' := [(2, .int (0)), (3, .int (-1)), (0, .ref (ad 71)), (1, .int (nI j1))]) hx hb d_Mo_send_162 rfl hl (by decide) rfl (fun ls hl => ?_)
                          refine lv_goto (tgt := 16) hx hb d_Mo_send_163 (by decide) ?_
                          refine lv_iload_n hx hb d_Mo_send_16 rfl (lv_at hl 0 rfl) ?_
                          refine lv_if_eq (tgt := 166) hx hb d_Mo_send_17 (by decide) (fun c_118 => ?_) (fun c_118 => ?_)
                          · exact sm_vret hx hb hr hlk hI ⟨σ, rfl, hM, hF, ⟨u90, trivial⟩⟩ d_Mo_send_166
                          · exact absurd c_118 (by decide)
                        · exact absurd c_117 (by decide)
                    · have k_119 : 0 < n_109 := Nat.pos_of_ne_zero (fun q => c_113 (by rw [q]; decide))
                      refine lv_aload_n hx hb d_Mo_send_89 rfl (lv_at hl 2 rfl) ?_
                      refine mq_get (k := 33) (v := .ref (ad 33)) hx hb hts hown hI hM (by decide) rfl rfl (hts _ tw_1202) d_Mo_send_90 ?_
                      refine lv_aload_n hx hb d_Mo_send_93 rfl (lv_at hl 2 rfl) ?_
                      refine lv_iload_n hx hb d_Mo_send_94 rfl (lv_at hl 3 rfl) ?_
                      refine lv_iconst (v := 0) hx hb d_Mo_send_95 (by decide) ?_
                      refine sm_iP hI (va_runV (As := [.int (nI j1), .int (0)]) (rest := [.ref (ad 33)]) ⟨hx, hb, hml, hown, hts⟩ (c_Mo_slot l D ca ad L _ _ _ hM (j1) (by omega) (0) (by omega)) (kv_Mo_slot hts rfl rfl (hts _ tw_1442) ⟨Nat.le_of_ble_eq_true rfl, Nat.le_of_ble_eq_true rfl⟩) (pv_Mo hI hE hM) rfl rfl hl.1 rfl (lv_room (Nat.le_of_ble_eq_true rfl)) d_Mo_send_96 ⟨Nat.le_of_ble_eq_true rfl, Nat.le_of_ble_eq_true rfl⟩) (fun x_121 H locs p_120 hI => ?_)
                      subst p_120
                      obtain ⟨x_122, e_123⟩ : ∃ z, σ.2.2.1 33 ((j1 * 16 + 0)) = z := ⟨_, rfl⟩
                      refine mq_iald (k := 33) (j := (j1 * 16 + 0)) (v := x_122) hx hb hI hM (by decide) rfl (by show (j1 * 16 + 0) < 64; omega) (by decide) e_123 d_Mo_send_99 ?_
                      refine lv_iconst (v := 2) hx hb d_Mo_send_100 (by decide) ?_
                      refine lv_icmp_ne (tgt := 112) hx hb d_Mo_send_101 (by decide) (fun c_124 => ?_) (fun c_124 => ?_)
                      · refine lv_aload_n hx hb d_Mo_send_112 rfl (lv_at hl 2 rfl) ?_
                        refine lv_iload_n hx hb d_Mo_send_113 rfl (lv_at hl 3 rfl) ?_
                        refine sm_vM hI (va_runV (As := [.int (nI j1)]) (rest := []) ⟨hx, hb, hml, hown, hts⟩ (c_Mo_answers l D ca ad L _ _ _ hM (j1) (by omega) (n_109) e_112 (by omega) (by omega) u90) (kv_Mo_answers hts rfl rfl (hts _ tw_1496) ⟨Nat.le_of_ble_eq_true rfl, Nat.le_of_ble_eq_true rfl⟩) (pv_Mo hI hE hM) rfl rfl hl.1 rfl (lv_room (Nat.le_of_ble_eq_true rfl)) d_Mo_send_114 ⟨Nat.le_of_ble_eq_true rfl, Nat.le_of_ble_eq_true rfl⟩) (fun H locs f σ_126 hI hM hF_127 p_125 => ?_)
                        have hF := mq_fr_tr hF hF_127 (by decide)
                        have o_128 : σ_126.2.2.1 22 (j1) = nI w := mq_fg hF_127 (by decide) o90
                        obtain ⟨u_129, -⟩ := p_125
                        refine lv_aload_n hx hb d_Mo_send_117 rfl (lv_at hl 2 rfl) ?_
                        refine lv_iload_n hx hb d_Mo_send_118 rfl (lv_at hl 3 rfl) ?_
                        refine lv_iconst (v := -1) hx hb d_Mo_send_119 (by decide) ?_
                        refine sm_vM hI (va_runV (As := [.int (nI j1), .int (-1)]) (rest := []) ⟨hx, hb, hml, hown, hts⟩ (c_Mo_sendI l D ca ad L _ _ _ hM (j1) (by omega) (-1) (w) o_128 (by omega) u_129) (kv_Mo_sendI hts rfl rfl (hts _ tw_1504) ⟨Nat.le_of_ble_eq_true rfl, Nat.le_of_ble_eq_true rfl⟩) (pv_Mo hI hE hM) rfl rfl hl.1 rfl (lv_room (Nat.le_of_ble_eq_true rfl)) d_Mo_send_120 ⟨Nat.le_of_ble_eq_true rfl, Nat.le_of_ble_eq_true rfl⟩) (fun H locs f σ_131 hI hM hF_132 p_130 => ?_)
                        have hF := mq_fr_tr hF hF_132 (by decide)
                        obtain ⟨o_133, u_134, -⟩ := p_130
                        refine lv_goto (tgt := 163) hx hb d_Mo_send_123 (by decide) ?_
                        refine lv_goto (tgt := 16) hx hb d_Mo_send_163 (by decide) ?_
                        exact ih _ _ _ _ _ 1 ((w + 1)) (by omega) hI hM hF (lv_sub hl [2, 3, 1] rfl) (by decide) (by omega) (by omega) o_133 u_134
                      · refine lv_aload_n hx hb d_Mo_send_104 rfl (lv_at hl 2 rfl) ?_
                        refine lv_iload_n hx hb d_Mo_send_105 rfl (lv_at hl 3 rfl) ?_
                        refine sm_vM hI (va_runV (As := [.int (nI j1)]) (rest := []) ⟨hx, hb, hml, hown, hts⟩ (c_Mo_tells l D ca ad L _ _ _ hM (j1) (by omega) (n_109) e_112 (by omega) (by omega) (Eq.trans e_123 c_124) u90) (kv_Mo_tells hts rfl rfl (hts _ tw_1446) ⟨Nat.le_of_ble_eq_true rfl, Nat.le_of_ble_eq_true rfl⟩) (pv_Mo hI hE hM) rfl rfl hl.1 rfl (lv_room (Nat.le_of_ble_eq_true rfl)) d_Mo_send_106 ⟨Nat.le_of_ble_eq_true rfl, Nat.le_of_ble_eq_true rfl⟩) (fun H locs f σ_136 hI hM hF_137 p_135 => ?_)
                        have hF := mq_fr_tr hF hF_137 (by decide)
                        have o_138 : σ_136.2.2.1 22 (j1) = nI w := mq_fg hF_137 (by decide) o90
                        have o_139 : σ_136.2.2.1 30 (j1) = nI n_109 := mq_fg hF_137 (by decide) e_112
                        obtain ⟨u_140, -⟩ := p_135
                        refine lv_goto (tgt := 117) hx hb d_Mo_send_109 (by decide) ?_
                        refine lv_aload_n hx hb d_Mo_send_117 rfl (lv_at hl 2 rfl) ?_
                        refine lv_iload_n hx hb d_Mo_send_118 rfl (lv_at hl 3 rfl) ?_
                        refine lv_iconst (v := -1) hx hb d_Mo_send_119 (by decide) ?_
                        refine sm_vM hI (va_runV (As := [.int (nI j1), .int (-1)]) (rest := []) ⟨hx, hb, hml, hown, hts⟩ (c_Mo_sendI l D ca ad L _ _ _ hM (j1) (by omega) (-1) (w) o_138 (by omega) u_140) (kv_Mo_sendI hts rfl rfl (hts _ tw_1504) ⟨Nat.le_of_ble_eq_true rfl, Nat.le_of_ble_eq_true rfl⟩) (pv_Mo hI hE hM) rfl rfl hl.1 rfl (lv_room (Nat.le_of_ble_eq_true rfl)) d_Mo_send_120 ⟨Nat.le_of_ble_eq_true rfl, Nat.le_of_ble_eq_true rfl⟩) (fun H locs f σ_142 hI hM hF_143 p_141 => ?_)
                        have hF := mq_fr_tr hF hF_143 (by decide)
                        obtain ⟨o_144, u_145, -⟩ := p_141
                        refine lv_goto (tgt := 163) hx hb d_Mo_send_123 (by decide) ?_
                        refine lv_goto (tgt := 16) hx hb d_Mo_send_163 (by decide) ?_
                        exact ih _ _ _ _ _ 1 ((w + 1)) (by omega) hI hM hF (lv_sub hl [2, 3, 1] rfl) (by decide) (by omega) (by omega) o_144 u_145
                · refine lv_goto (tgt := 75) hx hb d_Mo_send_71 (by decide) ?_
                  refine lv_istore_n (lv' := [(3, .int (nI n_106)), (2, .int (1)), (0, .ref (ad 71)), (1, .int (nI j1))]) hx hb d_Mo_send_75 rfl hl (by decide) rfl (fun ls hl => ?_)
                  refine lv_iload_n hx hb d_Mo_send_76 rfl (lv_at hl 1 rfl) ?_
                  refine lv_if_eq (tgt := 126) hx hb d_Mo_send_77 (by decide) (fun c_146 => ?_) (fun c_146 => ?_)
                  · exact absurd c_146 (by decide)
                  · refine lv_aload_n hx hb d_Mo_send_80 rfl (lv_at hl 2 rfl) ?_
                    refine mq_get (k := 30) (v := .ref (ad 30)) hx hb hts hown hI hM (by decide) rfl rfl (hts _ tw_1199) d_Mo_send_81 ?_
                    refine lv_iload_n hx hb d_Mo_send_84 rfl (lv_at hl 3 rfl) ?_
                    obtain ⟨n_147, h_148, h_149, e_150⟩ := hM.2.2.2.2.2 30 (j1)
                    refine mq_iald (k := 30) (j := j1) (v := nI n_147) hx hb hI hM (by decide) rfl (by show j1 < 4; omega) (by decide) e_150 d_Mo_send_85 ?_
                    refine lv_if_le (tgt := 126) hx hb d_Mo_send_86 (by decide) (fun c_151 => ?_) (fun c_151 => ?_)
                    · have k_153 : n_147 = 0 := nz_le c_151 (by omega)
                      refine lv_iload_n hx hb d_Mo_send_126 rfl (lv_at hl 1 rfl) ?_
                      refine lv_if_eq (tgt := 161) hx hb d_Mo_send_127 (by decide) (fun c_154 => ?_) (fun c_154 => ?_)
                      · exact absurd c_154 (by decide)
                      · refine lv_iload_n hx hb d_Mo_send_130 rfl (lv_at hl 0 rfl) ?_
                        refine lv_if_lt (tgt := 161) hx hb d_Mo_send_131 (by decide) (fun c_155 => ?_) (fun c_155 => ?_)
                        · exact absurd c_155 (nI_pos (by omega))
                        · refine lv_aload_n hx hb d_Mo_send_134 rfl (lv_at hl 2 rfl) ?_
                          refine lv_iload_n hx hb d_Mo_send_135 rfl (lv_at hl 3 rfl) ?_
                          refine lv_iload_n hx hb d_Mo_send_136 rfl (lv_at hl 0 rfl) ?_
                          refine sm_vM hI (va_runV (As := [.int (nI j1), .int (nI n_106)]) (rest := []) ⟨hx, hb, hml, hown, hts⟩ (c_Mo_eventAsdu l D ca ad L _ _ _ hM (j1) (by omega) (n_106) (by omega)) (kv_Mo_eventAsdu hts rfl rfl (hts _ tw_1521) ⟨Nat.le_of_ble_eq_true rfl, Nat.le_of_ble_eq_true rfl⟩) (pv_Mo hI hE hM) rfl rfl hl.1 rfl (lv_room (Nat.le_of_ble_eq_true rfl)) d_Mo_send_137 ⟨Nat.le_of_ble_eq_true rfl, Nat.le_of_ble_eq_true rfl⟩) (fun H locs f σ_158 hI hM hF_159 p_157 => ?_)
                          have hF := mq_fr_tr hF hF_159 (by decide)
                          have o_160 : σ_158.2.2.1 22 (j1) = nI w := mq_fg hF_159 (by decide) o90
                          have o_161 : σ_158.2.2.1 30 (j1) = nI n_147 := mq_fg hF_159 (by decide) e_150
                          have u_162 := IH_fr hF_159 (by decide) u90
                          obtain ⟨⟨n_164, h_165, h_166, o_163⟩, -⟩ := p_157
                          refine lv_aload_n hx hb d_Mo_send_140 rfl (lv_at hl 2 rfl) ?_
                          refine mq_get (k := 52) (v := .ref (ad 52)) hx hb hts hown hI hM (by decide) rfl rfl (hts _ tw_1221) d_Mo_send_141 ?_
                          refine lv_iload_n hx hb d_Mo_send_144 rfl (lv_at hl 0 rfl) ?_
                          refine lv_iload_n hx hb d_Mo_send_145 rfl (lv_at hl 3 rfl) ?_
                          refine mq_iast (k := 52) (j := n_106) (x := nI j1) hx hb hI hM (by decide) rfl (by show n_106 < 48; omega) (by decide) trivial d_Mo_send_146 (fun H locs f σ_167 e_168 hI hM => ?_)
                          have hF := mq_fr_ug hF e_168 rfl (Or.inl rfl)
                          have o_169 : σ_167.2.2.1 22 (j1) = nI w := by rw [e_168]; exact o_160
                          have o_170 : σ_167.2.2.1 30 (j1) = nI n_147 := by rw [e_168]; exact o_161
                          have o_171 : σ_167.1 70 = nI n_164 := by rw [e_168]; exact o_163
                          have u_172 := IH_fr (mq_fr_ug (X := [52]) mq_fr_rf e_168 rfl (Or.inl rfl)) (by decide) u_162
                          refine lv_aload_n hx hb d_Mo_send_147 rfl (lv_at hl 2 rfl) ?_
                          refine lv_iload_n hx hb d_Mo_send_148 rfl (lv_at hl 3 rfl) ?_
                          refine lv_aload_n hx hb d_Mo_send_149 rfl (lv_at hl 2 rfl) ?_
                          refine mq_get (k := 45) (v := .ref (ad 45)) hx hb hts hown hI hM (by decide) rfl rfl (hts _ tw_1214) d_Mo_send_150 ?_
                          refine lv_iload_n hx hb d_Mo_send_153 rfl (lv_at hl 0 rfl) ?_
                          obtain ⟨x_173, e_174⟩ : ∃ z, σ_167.2.2.1 45 (n_106) = z := ⟨_, rfl⟩
                          refine mq_iald (k := 45) (j := n_106) (v := x_173) hx hb hI hM (by decide) rfl (by show n_106 < 48; omega) (by decide) e_174 d_Mo_send_154 ?_
                          refine sm_vM hI (va_runV (As := [.int (nI j1), .int (x_173)]) (rest := []) ⟨hx, hb, hml, hown, hts⟩ (c_Mo_sendI l D ca ad L _ _ _ hM (j1) (by omega) x_173 (w) o_169 (by omega) u_172) (kv_Mo_sendI hts rfl rfl (hts _ tw_1504) ⟨Nat.le_of_ble_eq_true rfl, Nat.le_of_ble_eq_true rfl⟩) (pv_Mo hI hE hM) rfl rfl hl.1 rfl (lv_room (Nat.le_of_ble_eq_true rfl)) d_Mo_send_155 ⟨Nat.le_of_ble_eq_true rfl, Nat.le_of_ble_eq_true rfl⟩) (fun H locs f σ_176 hI hM hF_177 p_175 => ?_)
                          have hF := mq_fr_tr hF hF_177 (by decide)
                          have o_178 : σ_176.1 70 = nI n_164 := mq_fi hF_177 (by decide) o_171
                          obtain ⟨o_179, u_180, -⟩ := p_175
                          refine lv_goto (tgt := 163) hx hb d_Mo_send_158 (by decide) ?_
                          refine lv_goto (tgt := 16) hx hb d_Mo_send_163 (by decide) ?_
                          exact ih _ _ _ _ _ 1 ((w + 1)) (by omega) hI hM hF (lv_sub hl [2, 3, 1] rfl) (by decide) (by omega) (by omega) o_179 u_180
                    · have k_181 : 0 < n_147 := Nat.pos_of_ne_zero (fun q => c_151 (by rw [q]; decide))
                      refine lv_aload_n hx hb d_Mo_send_89 rfl (lv_at hl 2 rfl) ?_
                      refine mq_get (k := 33) (v := .ref (ad 33)) hx hb hts hown hI hM (by decide) rfl rfl (hts _ tw_1202) d_Mo_send_90 ?_
                      refine lv_aload_n hx hb d_Mo_send_93 rfl (lv_at hl 2 rfl) ?_
                      refine lv_iload_n hx hb d_Mo_send_94 rfl (lv_at hl 3 rfl) ?_
                      refine lv_iconst (v := 0) hx hb d_Mo_send_95 (by decide) ?_
                      refine sm_iP hI (va_runV (As := [.int (nI j1), .int (0)]) (rest := [.ref (ad 33)]) ⟨hx, hb, hml, hown, hts⟩ (c_Mo_slot l D ca ad L _ _ _ hM (j1) (by omega) (0) (by omega)) (kv_Mo_slot hts rfl rfl (hts _ tw_1442) ⟨Nat.le_of_ble_eq_true rfl, Nat.le_of_ble_eq_true rfl⟩) (pv_Mo hI hE hM) rfl rfl hl.1 rfl (lv_room (Nat.le_of_ble_eq_true rfl)) d_Mo_send_96 ⟨Nat.le_of_ble_eq_true rfl, Nat.le_of_ble_eq_true rfl⟩) (fun x_183 H locs p_182 hI => ?_)
                      subst p_182
                      obtain ⟨x_184, e_185⟩ : ∃ z, σ.2.2.1 33 ((j1 * 16 + 0)) = z := ⟨_, rfl⟩
                      refine mq_iald (k := 33) (j := (j1 * 16 + 0)) (v := x_184) hx hb hI hM (by decide) rfl (by show (j1 * 16 + 0) < 64; omega) (by decide) e_185 d_Mo_send_99 ?_
                      refine lv_iconst (v := 2) hx hb d_Mo_send_100 (by decide) ?_
                      refine lv_icmp_ne (tgt := 112) hx hb d_Mo_send_101 (by decide) (fun c_186 => ?_) (fun c_186 => ?_)
                      · refine lv_aload_n hx hb d_Mo_send_112 rfl (lv_at hl 2 rfl) ?_
                        refine lv_iload_n hx hb d_Mo_send_113 rfl (lv_at hl 3 rfl) ?_
                        refine sm_vM hI (va_runV (As := [.int (nI j1)]) (rest := []) ⟨hx, hb, hml, hown, hts⟩ (c_Mo_answers l D ca ad L _ _ _ hM (j1) (by omega) (n_147) e_150 (by omega) (by omega) u90) (kv_Mo_answers hts rfl rfl (hts _ tw_1496) ⟨Nat.le_of_ble_eq_true rfl, Nat.le_of_ble_eq_true rfl⟩) (pv_Mo hI hE hM) rfl rfl hl.1 rfl (lv_room (Nat.le_of_ble_eq_true rfl)) d_Mo_send_114 ⟨Nat.le_of_ble_eq_true rfl, Nat.le_of_ble_eq_true rfl⟩) (fun H locs f σ_188 hI hM hF_189 p_187 => ?_)
                        have hF := mq_fr_tr hF hF_189 (by decide)
                        have o_190 : σ_188.2.2.1 22 (j1) = nI w := mq_fg hF_189 (by decide) o90
                        obtain ⟨u_191, -⟩ := p_187
                        refine lv_aload_n hx hb d_Mo_send_117 rfl (lv_at hl 2 rfl) ?_
                        refine lv_iload_n hx hb d_Mo_send_118 rfl (lv_at hl 3 rfl) ?_
                        refine lv_iconst (v := -1) hx hb d_Mo_send_119 (by decide) ?_
                        refine sm_vM hI (va_runV (As := [.int (nI j1), .int (-1)]) (rest := []) ⟨hx, hb, hml, hown, hts⟩ (c_Mo_sendI l D ca ad L _ _ _ hM (j1) (by omega) (-1) (w) o_190 (by omega) u_191) (kv_Mo_sendI hts rfl rfl (hts _ tw_1504) ⟨Nat.le_of_ble_eq_true rfl, Nat.le_of_ble_eq_true rfl⟩) (pv_Mo hI hE hM) rfl rfl hl.1 rfl (lv_room (Nat.le_of_ble_eq_true rfl)) d_Mo_send_120 ⟨Nat.le_of_ble_eq_true rfl, Nat.le_of_ble_eq_true rfl⟩) (fun H locs f σ_193 hI hM hF_194 p_192 => ?_)
                        have hF := mq_fr_tr hF hF_194 (by decide)
                        obtain ⟨o_195, u_196, -⟩ := p_192
                        refine lv_goto (tgt := 163) hx hb d_Mo_send_123 (by decide) ?_
                        refine lv_goto (tgt := 16) hx hb d_Mo_send_163 (by decide) ?_
                        exact ih _ _ _ _ _ 1 ((w + 1)) (by omega) hI hM hF (lv_sub hl [2, 3, 1] rfl) (by decide) (by omega) (by omega) o_195 u_196
                      · refine lv_aload_n hx hb d_Mo_send_104 rfl (lv_at hl 2 rfl) ?_
                        refine lv_iload_n hx hb d_Mo_send_105 rfl (lv_at hl 3 rfl) ?_
                        refine sm_vM hI (va_runV (As := [.int (nI j1)]) (rest := []) ⟨hx, hb, hml, hown, hts⟩ (c_Mo_tells l D ca ad L _ _ _ hM (j1) (by omega) (n_147) e_150 (by omega) (by omega) (Eq.trans e_185 c_186) u90) (kv_Mo_tells hts rfl rfl (hts _ tw_1446) ⟨Nat.le_of_ble_eq_true rfl, Nat.le_of_ble_eq_true rfl⟩) (pv_Mo hI hE hM) rfl rfl hl.1 rfl (lv_room (Nat.le_of_ble_eq_true rfl)) d_Mo_send_106 ⟨Nat.le_of_ble_eq_true rfl, Nat.le_of_ble_eq_true rfl⟩) (fun H locs f σ_198 hI hM hF_199 p_197 => ?_)
                        have hF := mq_fr_tr hF hF_199 (by decide)
                        have o_200 : σ_198.2.2.1 22 (j1) = nI w := mq_fg hF_199 (by decide) o90
                        have o_201 : σ_198.2.2.1 30 (j1) = nI n_147 := mq_fg hF_199 (by decide) e_150
                        obtain ⟨u_202, -⟩ := p_197
                        refine lv_goto (tgt := 117) hx hb d_Mo_send_109 (by decide) ?_
                        refine lv_aload_n hx hb d_Mo_send_117 rfl (lv_at hl 2 rfl) ?_
                        refine lv_iload_n hx hb d_Mo_send_118 rfl (lv_at hl 3 rfl) ?_
                        refine lv_iconst (v := -1) hx hb d_Mo_send_119 (by decide) ?_
                        refine sm_vM hI (va_runV (As := [.int (nI j1), .int (-1)]) (rest := []) ⟨hx, hb, hml, hown, hts⟩ (c_Mo_sendI l D ca ad L _ _ _ hM (j1) (by omega) (-1) (w) o_200 (by omega) u_202) (kv_Mo_sendI hts rfl rfl (hts _ tw_1504) ⟨Nat.le_of_ble_eq_true rfl, Nat.le_of_ble_eq_true rfl⟩) (pv_Mo hI hE hM) rfl rfl hl.1 rfl (lv_room (Nat.le_of_ble_eq_true rfl)) d_Mo_send_120 ⟨Nat.le_of_ble_eq_true rfl, Nat.le_of_ble_eq_true rfl⟩) (fun H locs f σ_204 hI hM hF_205 p_203 => ?_)
                        have hF := mq_fr_tr hF hF_205 (by decide)
                        obtain ⟨o_206, u_207, -⟩ := p_203
                        refine lv_goto (tgt := 163) hx hb d_Mo_send_123 (by decide) ?_
                        refine lv_goto (tgt := 16) hx hb d_Mo_send_163 (by decide) ?_
                        exact ih _ _ _ _ _ 1 ((w + 1)) (by omega) hI hM hF (lv_sub hl [2, 3, 1] rfl) (by decide) (by omega) (by omega) o_206 u_207
  refine lv_aload_n hx hb d_Mo_send_0 rfl (lv_at hl 0 rfl) ?_
  refine mq_get (k := 13) (v := .ref (ad 13)) hx hb hts hown hI hM (by decide) rfl rfl (hts _ tw_1182) d_Mo_send_1 ?_
  refine lv_iload_n hx hb d_Mo_send_4 rfl (lv_at hl 1 rfl) ?_
  obtain ⟨x_208, e_209⟩ : ∃ z, σ0.2.2.1 13 (j1) = z := ⟨_, rfl⟩
  refine mq_iald (k := 13) (j := j1) (v := x_208) hx hb hI hM (by decide) rfl (by show j1 < 4; omega) (by decide) e_209 d_Mo_send_5 ?_
  refine lv_iconst (v := 2) hx hb d_Mo_send_6 (by decide) ?_
  refine lv_icmp_ne (tgt := 14) hx hb d_Mo_send_7 (by decide) (fun c_210 => ?_) (fun c_210 => ?_)
  · refine lv_iconst (v := 0) hx hb d_Mo_send_14 (by decide) ?_
    refine lv_istore_n (lv' := [(2, .int (0)), (0, .ref (ad 71)), (1, .int (nI j1))]) hx hb d_Mo_send_15 rfl hl (by decide) rfl (fun ls hl => ?_)
    refine lv_iload_n hx hb d_Mo_send_16 rfl (lv_at hl 0 rfl) ?_
    refine lv_if_eq (tgt := 166) hx hb d_Mo_send_17 (by decide) (fun c_211 => ?_) (fun c_211 => ?_)
    · exact sm_vret hx hb hr hlk hI ⟨σ0, rfl, hM, hF, ⟨u0, trivial⟩⟩ d_Mo_send_166
    · exact absurd c_211 (by decide)
  · refine lv_iconst (v := 1) hx hb d_Mo_send_10 (by decide) ?_
    refine lv_goto (tgt := 15) hx hb d_Mo_send_11 (by decide) ?_
    refine lv_istore_n (lv' := [(2, .int (1)), (0, .ref (ad 71)), (1, .int (nI j1))]) hx hb d_Mo_send_15 rfl hl (by decide) rfl (fun ls hl => ?_)
    obtain ⟨n_212, h_213, h_214, e_215⟩ := hM.2.2.2.2.2 22 (j1)
    exact hJ_16 _ _ _ _ _ _ 1 (n_212) (Nat.le_refl _) hI hM hF (lv_sub hl [1, 2, 0] rfl) (by decide) (by omega) (by omega) e_215 u0
theorem d_Mo_sendAll_0 : decode b_Mo_sendAll 0 = .ok (.aload_n 0, 1) := by decide +kernel
theorem d_Mo_sendAll_1 : decode b_Mo_sendAll 1 = .ok (.invokevirtual 341, 3) := by decide +kernel
theorem d_Mo_sendAll_4 : decode b_Mo_sendAll 4 = .ok (.iconst 0, 1) := by decide +kernel
theorem d_Mo_sendAll_5 : decode b_Mo_sendAll 5 = .ok (.istore_n 1, 1) := by decide +kernel
theorem d_Mo_sendAll_6 : decode b_Mo_sendAll 6 = .ok (.iload_n 1, 1) := by decide +kernel
theorem d_Mo_sendAll_7 : decode b_Mo_sendAll 7 = .ok (.iconst 3, 1) := by decide +kernel
theorem d_Mo_sendAll_8 : decode b_Mo_sendAll 8 = .ok (.if_icmp .ge 14, 3) := by decide +kernel
theorem d_Mo_sendAll_11 : decode b_Mo_sendAll 11 = .ok (.aload_n 0, 1) := by decide +kernel
theorem d_Mo_sendAll_12 : decode b_Mo_sendAll 12 = .ok (.iload_n 1, 1) := by decide +kernel
theorem d_Mo_sendAll_13 : decode b_Mo_sendAll 13 = .ok (.invokevirtual 344, 3) := by decide +kernel
theorem d_Mo_sendAll_16 : decode b_Mo_sendAll 16 = .ok (.iinc 1 1, 3) := by decide +kernel
theorem d_Mo_sendAll_19 : decode b_Mo_sendAll 19 = .ok (.goto (-13), 3) := by decide +kernel
theorem d_Mo_sendAll_22 : decode b_Mo_sendAll 22 = .ok (.return_, 1) := by decide +kernel
set_option maxRecDepth 100000 in
set_option maxHeartbeats 4000000 in
theorem c_Mo_sendAll (l : Launch) (D : va_G) (ca : Nat → ClassId) (ad : Nat → Nat) (L : List Nat) (f0 : Nat → va_E) (sz : Nat) (σ0 : mq_S) (hM : mq_B ca ad σ0 L f0) (u0 : IH σ0) :
    Met l y_Mo_sendAll (Cond.code y_Mo_sendAll b_Mo_sendAll 2 none :: wg) { frames := 6, cells := 0, slots := 0, locals := 145 } (va_Pc [.ref (ad 71)] (sm_P D cl_all (ty_s ca) ek L f0 sz)) (sm_Qv D (ty_s ca) L f0 sz (fun u => mq_po ca ad L σ0 [13, 14, 15, 16, 18, 19, 22, 23, 24, 25, 30, 31, 32, 33, 34, 42, 52, 54, 55, 65, 69, 70] (fun σ => IH σ ∧ True) u)) 0 0 (va_A (va_pl L f0) sz) := by
  refine sm_start (by decide) (Nat.le_of_ble_eq_true rfl) ?_
  intro p e s m below meth c ls hx hb hml hr hlk hnm hts hown hsz hE hI hl
  have hl : lv_has ls 2 [(0, .ref (ad 71))] := hl
  have hF : mq_fr [13, 14, 15, 16, 18, 19, 22, 23, 24, 25, 30, 31, 32, 33, 34, 42, 52, 54, 55, 65, 69, 70] σ0 σ0 := mq_fr_rf
  have hJ_6 : ∀ (N k : Nat) (H : Heap) (locs : List Loc) (f : Nat → va_E) (σ : mq_S) (ls : Array Slot) , 3 + 1 - k ≤ N → k ≤ 3 → sw_I D cl_all (ty_s ca) (va_A (va_pl L f0) sz) s H locs L f → mq_B ca ad σ L f → mq_fr [13, 14, 15, 16, 18, 19, 22, 23, 24, 25, 30, 31, 32, 33, 34, 42, 52, 54, 55, 65, 69, 70] σ0 σ → lv_has ls 2 [(0, .ref (ad 71)), (1, .int (nI k))] → (IH σ) → W p l e { frames := 6, cells := 0, slots := 0, locals := 145 } s m ([.ref (ad 71)] : List Value).toArray below meth c H locs 0 0 (MQ below (sm_Qv D (ty_s ca) L f0 sz (fun u => mq_po ca ad L σ0 [13, 14, 15, 16, 18, 19, 22, 23, 24, 25, 30, 31, 32, 33, 34, 42, 52, 54, 55, 65, 69, 70] (fun σ => IH σ ∧ True) u)) ([.ref (ad 71)] : List Value).toArray s 0 0 (va_A (va_pl L f0) sz)) (F0 m 6 ls []) := by
    intro N
    induction N with
    | zero => intros; omega
    | succ N ih =>
      intro k H locs f σ ls  hN hk hI hM hF hl u90
      refine lv_iload_n hx hb d_Mo_sendAll_6 rfl (lv_at hl 1 rfl) ?_
      refine lv_iconst (v := 3) hx hb d_Mo_sendAll_7 (by decide) ?_
      refine lv_icmp_ge (tgt := 22) hx hb d_Mo_sendAll_8 (by decide) (fun c_1 => ?_) (fun c_1 => ?_)
      · have k_2 : 3 ≤ k := (nI_leI (a := 3) (b := k) (by omega) (by omega)).mp c_1
        exact sm_vret hx hb hr hlk hI ⟨σ, rfl, hM, hF, ⟨u90, trivial⟩⟩ d_Mo_sendAll_22
      · have k_3 : k < 3 := Nat.lt_of_not_le (fun q => c_1 ((nI_leI (a := 3) (b := k) (by omega) (by omega)).mpr q))
        refine lv_aload_n hx hb d_Mo_sendAll_11 rfl (lv_at hl 0 rfl) ?_
        refine lv_iload_n hx hb d_Mo_sendAll_12 rfl (lv_at hl 1 rfl) ?_
        refine sm_vM hI (va_runV (As := [.int (nI k)]) (rest := []) ⟨hx, hb, hml, hown, hts⟩ (c_Mo_send l D ca ad L _ _ _ hM (k) (by omega) u90) (kv_Mo_send hts rfl rfl (hts _ tw_1434) ⟨Nat.le_of_ble_eq_true rfl, Nat.le_of_ble_eq_true rfl⟩) (pv_Mo hI hE hM) rfl rfl hl.1 rfl (lv_room (Nat.le_of_ble_eq_true rfl)) d_Mo_sendAll_13 ⟨Nat.le_of_ble_eq_true rfl, Nat.le_of_ble_eq_true rfl⟩) (fun H locs f σ_5 hI hM hF_6 p_4 => ?_)
        have hF := mq_fr_tr hF hF_6 (by decide)
        obtain ⟨u_7, -⟩ := p_4
        refine lv_iinc (v := nI (k + 1)) (lv' := [(1, .int (nI (k + 1))), (0, .ref (ad 71))]) hx hb d_Mo_sendAll_16 hl (k := 1) rfl (nI_1 _) (by decide) rfl (fun ls hl => ?_)
        refine lv_goto (tgt := 6) hx hb d_Mo_sendAll_19 (by decide) ?_
        exact ih ((k + 1)) _ _ _ _ _  (by omega) (by omega) hI hM hF (lv_sub hl [1, 0] rfl) u_7
  refine lv_aload_n hx hb d_Mo_sendAll_0 rfl (lv_at hl 0 rfl) ?_
  refine sm_vM hI (va_runV (As := []) (rest := []) ⟨hx, hb, hml, hown, hts⟩ (c_Mo_choose l D ca ad L _ _ _ hM ) (kv_Mo_choose hts rfl rfl (hts _ tw_1426) ⟨Nat.le_of_ble_eq_true rfl, Nat.le_of_ble_eq_true rfl⟩) (pv_Mo hI hE hM) rfl rfl hl.1 rfl (lv_room (Nat.le_of_ble_eq_true rfl)) d_Mo_sendAll_1 ⟨Nat.le_of_ble_eq_true rfl, Nat.le_of_ble_eq_true rfl⟩) (fun H locs f σ_9 hI hM hF_10 p_8 => ?_)
  have hF := mq_fr_tr hF hF_10 (by decide)
  have u_11 := IH_fr hF_10 (by decide) u0
  refine lv_iconst (v := 0) hx hb d_Mo_sendAll_4 (by decide) ?_
  refine lv_istore_n (lv' := [(1, .int (0)), (0, .ref (ad 71))]) hx hb d_Mo_sendAll_5 rfl hl (by decide) rfl (fun ls hl => ?_)
  exact hJ_6 _ (0) _ _ _ _ _  (Nat.le_refl _) (by omega) hI hM hF (lv_sub hl [1, 0] rfl) u_11
