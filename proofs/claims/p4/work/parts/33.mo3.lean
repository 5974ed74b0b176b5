/-! the reference: events, times (written by wip/tools) -/
theorem d_Mo_sum_0 : decode b_Mo_sum 0 = .ok (.iconst 0, 1) := by decide +kernel
theorem d_Mo_sum_1 : decode b_Mo_sum 1 = .ok (.istore_n 3, 1) := by decide +kernel
theorem d_Mo_sum_2 : decode b_Mo_sum 2 = .ok (.iload_n 1, 1) := by decide +kernel
theorem d_Mo_sum_3 : decode b_Mo_sum 3 = .ok (.istore 4, 2) := by decide +kernel
theorem d_Mo_sum_5 : decode b_Mo_sum 5 = .ok (.iload 4, 2) := by decide +kernel
theorem d_Mo_sum_7 : decode b_Mo_sum 7 = .ok (.iload_n 2, 1) := by decide +kernel
theorem d_Mo_sum_8 : decode b_Mo_sum 8 = .ok (.if_icmp .ge 19, 3) := by decide +kernel
theorem d_Mo_sum_11 : decode b_Mo_sum 11 = .ok (.iload_n 3, 1) := by decide +kernel
theorem d_Mo_sum_12 : decode b_Mo_sum 12 = .ok (.aload_n 0, 1) := by decide +kernel
theorem d_Mo_sum_13 : decode b_Mo_sum 13 = .ok (.iconst 3, 1) := by decide +kernel
theorem d_Mo_sum_14 : decode b_Mo_sum 14 = .ok (.iload 4, 2) := by decide +kernel
theorem d_Mo_sum_16 : decode b_Mo_sum 16 = .ok (.invokevirtual 369, 3) := by decide +kernel
theorem d_Mo_sum_19 : decode b_Mo_sum 19 = .ok (.iadd, 1) := by decide +kernel
theorem d_Mo_sum_20 : decode b_Mo_sum 20 = .ok (.istore_n 3, 1) := by decide +kernel
theorem d_Mo_sum_21 : decode b_Mo_sum 21 = .ok (.iinc 4 1, 3) := by decide +kernel
theorem d_Mo_sum_24 : decode b_Mo_sum 24 = .ok (.goto (-19), 3) := by decide +kernel
theorem d_Mo_sum_27 : decode b_Mo_sum 27 = .ok (.iload_n 3, 1) := by decide +kernel
theorem d_Mo_sum_28 : decode b_Mo_sum 28 = .ok (.sipush 256, 3) := by decide +kernel
theorem d_Mo_sum_31 : decode b_Mo_sum 31 = .ok (.irem, 1) := by decide +kernel
theorem d_Mo_sum_32 : decode b_Mo_sum 32 = .ok (.ireturn, 1) := by decide +kernel
set_option maxRecDepth 100000 in
set_option maxHeartbeats 4000000 in
theorem c_Mo_sum (l : Launch) (D : va_G) (ca : Nat → ClassId) (ad : Nat → Nat) (L : List Nat) (f0 : Nat → va_E) (sz : Nat) (σ0 : mq_S) (hM : mq_B ca ad σ0 L f0) (j1 : Nat) (q1 : j1 ≤ 4) (j2 : Nat) (q2 : j2 ≤ 269) :
    Met l y_Mo_sum (Cond.code y_Mo_sum b_Mo_sum 5 (some .int) :: wg) { frames := 1, cells := 0, slots := 0, locals := 22 } (va_Pc [.ref (ad 71), .int (nI j1), .int (nI j2)] (sm_P D cl_all (ty_s ca) ek L f0 sz)) (sm_Qi D (ty_s ca) L f0 sz (fun r u => (True) ∧ u = (L, f0))) 0 0 (va_A (va_pl L f0) sz) := by
  refine sm_start (by decide) (Nat.le_of_ble_eq_true rfl) ?_
  intro p e s m below meth c ls hx hb hml hr hlk hnm hts hown hsz hE hI hl
  have hl : lv_has ls 5 [(0, .ref (ad 71)), (1, .int (nI j1)), (2, .int (nI j2))] := hl
  have hJ_5 : ∀ (N k : Nat) (H : Heap) (locs : List Loc) (ls : Array Slot) (y3 : Int32), 270 + 1 - k ≤ N → k ≤ 270 → sw_I D cl_all (ty_s ca) (va_A (va_pl L f0) sz) s H locs L f0 → lv_has ls 5 [(0, .ref (ad 71)), (1, .int (nI j1)), (2, .int (nI j2)), (3, .int (y3)), (4, .int (nI k))] → W p l e { frames := 1, cells := 0, slots := 0, locals := 22 } s m ([.ref (ad 71), .int (nI j1), .int (nI j2)] : List Value).toArray below meth c H locs 0 0 (MQ below (sm_Qi D (ty_s ca) L f0 sz (fun r u => (True) ∧ u = (L, f0))) ([.ref (ad 71), .int (nI j1), .int (nI j2)] : List Value).toArray s 0 0 (va_A (va_pl L f0) sz)) (F0 m 5 ls []) := by
    intro N
    induction N with
    | zero => intros; omega
    | succ N ih =>
      intro k H locs ls y3 hN hk hI hl 
      refine lv_iload hx hb d_Mo_sum_5 (lv_at hl 4 rfl) ?_
      refine lv_iload_n hx hb d_Mo_sum_7 rfl (lv_at hl 2 rfl) ?_
      refine lv_icmp_ge (tgt := 27) hx hb d_Mo_sum_8 (by decide) (fun c_1 => ?_) (fun c_1 => ?_)
      · have k_2 : j2 ≤ k := (nI_leI (a := j2) (b := k) (by omega) (by omega)).mp c_1
        refine lv_iload_n hx hb d_Mo_sum_27 rfl (lv_at hl 3 rfl) ?_
        refine lv_sipush (v := 256) hx hb d_Mo_sum_28 (by decide) ?_
        refine lv_irem hx hb d_Mo_sum_31 (by decide) ?_
        refine lv_topi (fun x_3 e_4 => ?_)
        exact sm_iret hx hb hr hlk hI ⟨trivial, rfl⟩ d_Mo_sum_32
      · have k_5 : k < j2 := Nat.lt_of_not_le (fun q => c_1 ((nI_leI (a := j2) (b := k) (by omega) (by omega)).mpr q))
        refine lv_iload_n hx hb d_Mo_sum_11 rfl (lv_at hl 3 rfl) ?_
        refine lv_aload_n hx hb d_Mo_sum_12 rfl (lv_at hl 0 rfl) ?_
        refine lv_iconst (v := 3) hx hb d_Mo_sum_13 (by decide) ?_
        refine lv_iload hx hb d_Mo_sum_14 (lv_at hl 4 rfl) ?_
        refine sm_iP hI (va_runV (As := [.int (3), .int (nI k)]) (rest := [.int (y3)]) ⟨hx, hb, hml, hown, hts⟩ (c_Mo_byteIn l D ca ad L _ _ _ hM (3) (by omega) (k) (by omega)) (kv_Mo_byteIn hts rfl rfl (hts _ tw_1580) ⟨Nat.le_of_ble_eq_true rfl, Nat.le_of_ble_eq_true rfl⟩) (pv_Mo hI hE hM) rfl rfl hl.1 rfl (lv_room (Nat.le_of_ble_eq_true rfl)) d_Mo_sum_16 ⟨Nat.le_of_ble_eq_true rfl, Nat.le_of_ble_eq_true rfl⟩) (fun x_7 H locs p_6 hI => ?_)
        obtain ⟨n_8, rfl, h_9, h_10, h_11⟩ := p_6
        refine lv_iadd hx hb d_Mo_sum_19 ?_
        refine lv_topi (fun x_12 e_13 => ?_)
        refine lv_istore_n (lv' := [(3, .int (x_12)), (0, .ref (ad 71)), (1, .int (nI j1)), (2, .int (nI j2)), (4, .int (nI k))]) hx hb d_Mo_sum_20 rfl hl (by decide) rfl (fun ls hl => ?_)
        refine lv_iinc (v := nI (k + 1)) (lv' := [(4, .int (nI (k + 1))), (3, .int (x_12)), (0, .ref (ad 71)), (1, .int (nI j1)), (2, .int (nI j2))]) hx hb d_Mo_sum_21 hl (k := 4) rfl (nI_1 _) (by decide) rfl (fun ls hl => ?_)
        refine lv_goto (tgt := 5) hx hb d_Mo_sum_24 (by decide) ?_
        exact ih ((k + 1)) _ _ _ x_12 (by omega) (by omega) hI (lv_sub hl [2, 3, 4, 1, 0] rfl) 
  refine lv_iconst (v := 0) hx hb d_Mo_sum_0 (by decide) ?_
  refine lv_istore_n (lv' := [(3, .int (0)), (0, .ref (ad 71)), (1, .int (nI j1)), (2, .int (nI j2))]) hx hb d_Mo_sum_1 rfl hl (by decide) rfl (fun ls hl => ?_)
  refine lv_iload_n hx hb d_Mo_sum_2 rfl (lv_at hl 2 rfl) ?_
  refine lv_istore (lv' := [(4, .int (nI j1)), (3, .int (0)), (0, .ref (ad 71)), (1, .int (nI j1)), (2, .int (nI j2))]) hx hb d_Mo_sum_3 hl (by decide) rfl (fun ls hl => ?_)
  exact hJ_5 _ (j1) _ _ _ 0 (Nat.le_refl _) (by omega) hI (lv_sub hl [2, 3, 4, 1, 0] rfl) 
theorem d_Mo_numberAt_0 : decode b_Mo_numberAt 0 = .ok (.iconst 0, 1) := by decide +kernel
theorem d_Mo_numberAt_1 : decode b_Mo_numberAt 1 = .ok (.istore_n 3, 1) := by decide +kernel
theorem d_Mo_numberAt_2 : decode b_Mo_numberAt 2 = .ok (.iconst 0, 1) := by decide +kernel
theorem d_Mo_numberAt_3 : decode b_Mo_numberAt 3 = .ok (.istore 4, 2) := by decide +kernel
theorem d_Mo_numberAt_5 : decode b_Mo_numberAt 5 = .ok (.iload 4, 2) := by decide +kernel
theorem d_Mo_numberAt_7 : decode b_Mo_numberAt 7 = .ok (.iload_n 2, 1) := by decide +kernel
theorem d_Mo_numberAt_8 : decode b_Mo_numberAt 8 = .ok (.if_icmp .ge 27, 3) := by decide +kernel
theorem d_Mo_numberAt_11 : decode b_Mo_numberAt 11 = .ok (.iload_n 3, 1) := by decide +kernel
theorem d_Mo_numberAt_12 : decode b_Mo_numberAt 12 = .ok (.aload_n 0, 1) := by decide +kernel
theorem d_Mo_numberAt_13 : decode b_Mo_numberAt 13 = .ok (.getfield 172, 3) := by decide +kernel
theorem d_Mo_numberAt_16 : decode b_Mo_numberAt 16 = .ok (.iload_n 1, 1) := by decide +kernel
theorem d_Mo_numberAt_17 : decode b_Mo_numberAt 17 = .ok (.iload 4, 2) := by decide +kernel
theorem d_Mo_numberAt_19 : decode b_Mo_numberAt 19 = .ok (.iadd, 1) := by decide +kernel
theorem d_Mo_numberAt_20 : decode b_Mo_numberAt 20 = .ok (.iaload, 1) := by decide +kernel
theorem d_Mo_numberAt_21 : decode b_Mo_numberAt 21 = .ok (.bipush 8, 2) := by decide +kernel
theorem d_Mo_numberAt_23 : decode b_Mo_numberAt 23 = .ok (.iload 4, 2) := by decide +kernel
theorem d_Mo_numberAt_25 : decode b_Mo_numberAt 25 = .ok (.imul, 1) := by decide +kernel
theorem d_Mo_numberAt_26 : decode b_Mo_numberAt 26 = .ok (.ishl, 1) := by decide +kernel
theorem d_Mo_numberAt_27 : decode b_Mo_numberAt 27 = .ok (.ior, 1) := by decide +kernel
theorem d_Mo_numberAt_28 : decode b_Mo_numberAt 28 = .ok (.istore_n 3, 1) := by decide +kernel
theorem d_Mo_numberAt_29 : decode b_Mo_numberAt 29 = .ok (.iinc 4 1, 3) := by decide +kernel
theorem d_Mo_numberAt_32 : decode b_Mo_numberAt 32 = .ok (.goto (-27), 3) := by decide +kernel
theorem d_Mo_numberAt_35 : decode b_Mo_numberAt 35 = .ok (.iload_n 3, 1) := by decide +kernel
theorem d_Mo_numberAt_36 : decode b_Mo_numberAt 36 = .ok (.ireturn, 1) := by decide +kernel
set_option maxRecDepth 100000 in
set_option maxHeartbeats 4000000 in
theorem c_Mo_numberAt (l : Launch) (D : va_G) (ca : Nat → ClassId) (ad : Nat → Nat) (L : List Nat) (f0 : Nat → va_E) (sz : Nat) (σ0 : mq_S) (hM : mq_B ca ad σ0 L f0) (j1 : Nat) (q1 : j1 ≤ 250) (j2 : Nat) (q2 : j2 ≤ 4) :
    Met l y_Mo_numberAt (Cond.code y_Mo_numberAt b_Mo_numberAt 5 (some .int) :: wg) { frames := 0, cells := 0, slots := 0, locals := 0 } (va_Pc [.ref (ad 71), .int (nI j1), .int (nI j2)] (sm_P D cl_all (ty_s ca) ek L f0 sz)) (sm_Qi D (ty_s ca) L f0 sz (fun r u => (True) ∧ u = (L, f0))) 0 0 (va_A (va_pl L f0) sz) := by
  refine sm_start (by decide) (Nat.le_of_ble_eq_true rfl) ?_
  intro p e s m below meth c ls hx hb hml hr hlk hnm hts hown hsz hE hI hl
  have hl : lv_has ls 5 [(0, .ref (ad 71)), (1, .int (nI j1)), (2, .int (nI j2))] := hl
  have hJ_5 : ∀ (N k : Nat) (H : Heap) (locs : List Loc) (ls : Array Slot) (y3 : Int32), 4 + 1 - k ≤ N → k ≤ 4 → sw_I D cl_all (ty_s ca) (va_A (va_pl L f0) sz) s H locs L f0 → lv_has ls 5 [(0, .ref (ad 71)), (1, .int (nI j1)), (2, .int (nI j2)), (3, .int (y3)), (4, .int (nI k))] → W p l e { frames := 0, cells := 0, slots := 0, locals := 0 } s m ([.ref (ad 71), .int (nI j1), .int (nI j2)] : List Value).toArray below meth c H locs 0 0 (MQ below (sm_Qi D (ty_s ca) L f0 sz (fun r u => (True) ∧ u = (L, f0))) ([.ref (ad 71), .int (nI j1), .int (nI j2)] : List Value).toArray s 0 0 (va_A (va_pl L f0) sz)) (F0 m 5 ls []) := by
    intro N
    induction N with
    | zero => intros; omega
    | succ N ih =>
      intro k H locs ls y3 hN hk hI hl 
      refine lv_iload hx hb d_Mo_numberAt_5 (lv_at hl 4 rfl) ?_
      refine lv_iload_n hx hb d_Mo_numberAt_7 rfl (lv_at hl 2 rfl) ?_
      refine lv_icmp_ge (tgt := 35) hx hb d_Mo_numberAt_8 (by decide) (fun c_1 => ?_) (fun c_1 => ?_)
      · have k_2 : j2 ≤ k := (nI_leI (a := j2) (b := k) (by omega) (by omega)).mp c_1
        refine lv_iload_n hx hb d_Mo_numberAt_35 rfl (lv_at hl 3 rfl) ?_
        exact sm_iret hx hb hr hlk hI ⟨trivial, rfl⟩ d_Mo_numberAt_36
      · have k_3 : k < j2 := Nat.lt_of_not_le (fun q => c_1 ((nI_leI (a := j2) (b := k) (by omega) (by omega)).mpr q))
        refine lv_iload_n hx hb d_Mo_numberAt_11 rfl (lv_at hl 3 rfl) ?_
        refine lv_aload_n hx hb d_Mo_numberAt_12 rfl (lv_at hl 0 rfl) ?_
        refine mq_get (k := 69) (v := .ref (ad 69)) hx hb hts hown hI hM (by decide) rfl rfl (hts _ tw_1238) d_Mo_numberAt_13 ?_
        refine lv_iload_n hx hb d_Mo_numberAt_16 rfl (lv_at hl 1 rfl) ?_
        refine lv_iload hx hb d_Mo_numberAt_17 (lv_at hl 4 rfl) ?_
        refine lv_iadd hx hb d_Mo_numberAt_19 ?_
        refine lv_topi (fun x_4 e_5 => ?_)
        obtain rfl : x_4 = nI (j1 + k) := by rw [e_5]; exact nI_add _ _
        obtain ⟨x_6, e_7⟩ : ∃ z, σ0.2.2.1 69 ((j1 + k)) = z := ⟨_, rfl⟩
        refine mq_iald (k := 69) (j := (j1 + k)) (v := x_6) hx hb hI hM (by decide) rfl (by show (j1 + k) < 260; omega) (by decide) e_7 d_Mo_numberAt_20 ?_
        refine lv_bipush (v := 8) hx hb d_Mo_numberAt_21 (by decide) ?_
        refine lv_iload hx hb d_Mo_numberAt_23 (lv_at hl 4 rfl) ?_
        refine lv_imul hx hb d_Mo_numberAt_25 ?_
        refine lv_topi (fun x_8 e_9 => ?_)
        obtain rfl : x_8 = nI (8 * k) := by rw [e_9]; exact pk_mul _ _
        refine lv_ishl hx hb d_Mo_numberAt_26 ?_
        refine lv_topi (fun x_10 e_11 => ?_)
        refine lv_ior hx hb d_Mo_numberAt_27 ?_
        refine lv_topi (fun x_12 e_13 => ?_)
        refine lv_istore_n (lv' := [(3, .int (x_12)), (0, .ref (ad 71)), (1, .int (nI j1)), (2, .int (nI j2)), (4, .int (nI k))]) hx hb d_Mo_numberAt_28 rfl hl (by decide) rfl (fun ls hl => ?_)
        refine lv_iinc (v := nI (k + 1)) (lv' := [(4, .int (nI (k + 1))), (3, .int (x_12)), (0, .ref (ad 71)), (1, .int (nI j1)), (2, .int (nI j2))]) hx hb d_Mo_numberAt_29 hl (k := 4) rfl (nI_1 _) (by decide) rfl (fun ls hl => ?_)
        refine lv_goto (tgt := 5) hx hb d_Mo_numberAt_32 (by decide) ?_
        exact ih ((k + 1)) _ _ _ x_12 (by omega) (by omega) hI (lv_sub hl [2, 3, 4, 1, 0] rfl) 
  refine lv_iconst (v := 0) hx hb d_Mo_numberAt_0 (by decide) ?_
  refine lv_istore_n (lv' := [(3, .int (0)), (0, .ref (ad 71)), (1, .int (nI j1)), (2, .int (nI j2))]) hx hb d_Mo_numberAt_1 rfl hl (by decide) rfl (fun ls hl => ?_)
  refine lv_iconst (v := 0) hx hb d_Mo_numberAt_2 (by decide) ?_
  refine lv_istore (lv' := [(4, .int (0)), (3, .int (0)), (0, .ref (ad 71)), (1, .int (nI j1)), (2, .int (nI j2))]) hx hb d_Mo_numberAt_3 hl (by decide) rfl (fun ls hl => ?_)
  exact hJ_5 _ (0) _ _ _ 0 (Nat.le_refl _) (by omega) hI (lv_sub hl [2, 3, 4, 1, 0] rfl) 
theorem d_Mo_unsend_0 : decode b_Mo_unsend 0 = .ok (.iconst 0, 1) := by decide +kernel
theorem d_Mo_unsend_1 : decode b_Mo_unsend 1 = .ok (.istore_n 2, 1) := by decide +kernel
theorem d_Mo_unsend_2 : decode b_Mo_unsend 2 = .ok (.iload_n 2, 1) := by decide +kernel
theorem d_Mo_unsend_3 : decode b_Mo_unsend 3 = .ok (.aload_n 0, 1) := by decide +kernel
theorem d_Mo_unsend_4 : decode b_Mo_unsend 4 = .ok (.getfield 247, 3) := by decide +kernel
theorem d_Mo_unsend_7 : decode b_Mo_unsend 7 = .ok (.if_icmp .ge 26, 3) := by decide +kernel
theorem d_Mo_unsend_10 : decode b_Mo_unsend 10 = .ok (.aload_n 0, 1) := by decide +kernel
theorem d_Mo_unsend_11 : decode b_Mo_unsend 11 = .ok (.getfield 133, 3) := by decide +kernel
theorem d_Mo_unsend_14 : decode b_Mo_unsend 14 = .ok (.iload_n 2, 1) := by decide +kernel
theorem d_Mo_unsend_15 : decode b_Mo_unsend 15 = .ok (.iaload, 1) := by decide +kernel
theorem d_Mo_unsend_16 : decode b_Mo_unsend 16 = .ok (.iload_n 1, 1) := by decide +kernel
theorem d_Mo_unsend_17 : decode b_Mo_unsend 17 = .ok (.if_icmp .ne 10, 3) := by decide +kernel
theorem d_Mo_unsend_20 : decode b_Mo_unsend 20 = .ok (.aload_n 0, 1) := by decide +kernel
theorem d_Mo_unsend_21 : decode b_Mo_unsend 21 = .ok (.getfield 133, 3) := by decide +kernel
theorem d_Mo_unsend_24 : decode b_Mo_unsend 24 = .ok (.iload_n 2, 1) := by decide +kernel
theorem d_Mo_unsend_25 : decode b_Mo_unsend 25 = .ok (.iconst (-1), 1) := by decide +kernel
theorem d_Mo_unsend_26 : decode b_Mo_unsend 26 = .ok (.iastore, 1) := by decide +kernel
theorem d_Mo_unsend_27 : decode b_Mo_unsend 27 = .ok (.iinc 2 1, 3) := by decide +kernel
theorem d_Mo_unsend_30 : decode b_Mo_unsend 30 = .ok (.goto (-28), 3) := by decide +kernel
theorem d_Mo_unsend_33 : decode b_Mo_unsend 33 = .ok (.iload_n 1, 1) := by decide +kernel
theorem d_Mo_unsend_34 : decode b_Mo_unsend 34 = .ok (.iconst 3, 1) := by decide +kernel
theorem d_Mo_unsend_35 : decode b_Mo_unsend 35 = .ok (.if_icmp .ne 8, 3) := by decide +kernel
theorem d_Mo_unsend_38 : decode b_Mo_unsend 38 = .ok (.aload_n 0, 1) := by decide +kernel
theorem d_Mo_unsend_39 : decode b_Mo_unsend 39 = .ok (.iconst (-1), 1) := by decide +kernel
theorem d_Mo_unsend_40 : decode b_Mo_unsend 40 = .ok (.putfield 109, 3) := by decide +kernel
theorem d_Mo_unsend_43 : decode b_Mo_unsend 43 = .ok (.iconst 0, 1) := by decide +kernel
theorem d_Mo_unsend_44 : decode b_Mo_unsend 44 = .ok (.istore_n 2, 1) := by decide +kernel
theorem d_Mo_unsend_45 : decode b_Mo_unsend 45 = .ok (.iload_n 2, 1) := by decide +kernel
theorem d_Mo_unsend_46 : decode b_Mo_unsend 46 = .ok (.bipush 12, 2) := by decide +kernel
theorem d_Mo_unsend_48 : decode b_Mo_unsend 48 = .ok (.if_icmp .ge 26, 3) := by decide +kernel
theorem d_Mo_unsend_51 : decode b_Mo_unsend 51 = .ok (.iload_n 1, 1) := by decide +kernel
theorem d_Mo_unsend_52 : decode b_Mo_unsend 52 = .ok (.iconst 3, 1) := by decide +kernel
theorem d_Mo_unsend_53 : decode b_Mo_unsend 53 = .ok (.if_icmp .ge 21, 3) := by decide +kernel
theorem d_Mo_unsend_56 : decode b_Mo_unsend 56 = .ok (.aload_n 0, 1) := by decide +kernel
theorem d_Mo_unsend_57 : decode b_Mo_unsend 57 = .ok (.getfield 63, 3) := by decide +kernel
theorem d_Mo_unsend_60 : decode b_Mo_unsend 60 = .ok (.iload_n 1, 1) := by decide +kernel
theorem d_Mo_unsend_61 : decode b_Mo_unsend 61 = .ok (.bipush 12, 2) := by decide +kernel
theorem d_Mo_unsend_63 : decode b_Mo_unsend 63 = .ok (.imul, 1) := by decide +kernel
theorem d_Mo_unsend_64 : decode b_Mo_unsend 64 = .ok (.iload_n 2, 1) := by decide +kernel
theorem d_Mo_unsend_65 : decode b_Mo_unsend 65 = .ok (.iadd, 1) := by decide +kernel
theorem d_Mo_unsend_66 : decode b_Mo_unsend 66 = .ok (.iconst (-1), 1) := by decide +kernel
theorem d_Mo_unsend_67 : decode b_Mo_unsend 67 = .ok (.iastore, 1) := by decide +kernel
theorem d_Mo_unsend_68 : decode b_Mo_unsend 68 = .ok (.iinc 2 1, 3) := by decide +kernel
theorem d_Mo_unsend_71 : decode b_Mo_unsend 71 = .ok (.goto (-26), 3) := by decide +kernel
theorem d_Mo_unsend_74 : decode b_Mo_unsend 74 = .ok (.return_, 1) := by decide +kernel
set_option maxRecDepth 100000 in
set_option maxHeartbeats 4000000 in
theorem c_Mo_unsend (l : Launch) (D : va_G) (ca : Nat → ClassId) (ad : Nat → Nat) (L : List Nat) (f0 : Nat → va_E) (sz : Nat) (σ0 : mq_S) (hM : mq_B ca ad σ0 L f0) (j1 : Nat) (q1 : j1 ≤ 3) :
    Met l y_Mo_unsend (Cond.code y_Mo_unsend b_Mo_unsend 3 none :: wg) { frames := 0, cells := 0, slots := 0, locals := 0 } (va_Pc [.ref (ad 71), .int (nI j1)] (sm_P D cl_all (ty_s ca) ek L f0 sz)) (sm_Qv D (ty_s ca) L f0 sz (fun u => mq_po ca ad L σ0 [24, 42, 52] (fun σ => True) u)) 0 0 (va_A (va_pl L f0) sz) := by
  refine sm_start (by decide) (Nat.le_of_ble_eq_true rfl) ?_
  intro p e s m below meth c ls hx hb hml hr hlk hnm hts hown hsz hE hI hl
  have hl : lv_has ls 3 [(0, .ref (ad 71)), (1, .int (nI j1))] := hl
  have hF : mq_fr [24, 42, 52] σ0 σ0 := mq_fr_rf
  have hJ_45 : ∀ (N k : Nat) (H : Heap) (locs : List Loc) (f : Nat → va_E) (σ : mq_S) (ls : Array Slot) , 12 + 1 - k ≤ N → k ≤ 12 → sw_I D cl_all (ty_s ca) (va_A (va_pl L f0) sz) s H locs L f → mq_B ca ad σ L f → mq_fr [24, 42, 52] σ0 σ → lv_has ls 3 [(0, .ref (ad 71)), (1, .int (nI j1)), (2, .int (nI k))] → W p l e { frames := 0, cells := 0, slots := 0, locals := 0 } s m ([.ref (ad 71), .int (nI j1)] : List Value).toArray below meth c H locs 0 0 (MQ below (sm_Qv D (ty_s ca) L f0 sz (fun u => mq_po ca ad L σ0 [24, 42, 52] (fun σ => True) u)) ([.ref (ad 71), .int (nI j1)] : List Value).toArray s 0 0 (va_A (va_pl L f0) sz)) (F0 m 45 ls []) := by
    intro N
    induction N with
    | zero => intros; omega
    | succ N ih =>
      intro k H locs f σ ls  hN hk hI hM hF hl 
      refine lv_iload_n hx hb d_Mo_unsend_45 rfl (lv_at hl 2 rfl) ?_
      refine lv_bipush (v := 12) hx hb d_Mo_unsend_46 (by decide) ?_
      refine lv_icmp_ge (tgt := 74) hx hb d_Mo_unsend_48 (by decide) (fun c_1 => ?_) (fun c_1 => ?_)
      · have k_2 : 12 ≤ k := (nI_leI (a := 12) (b := k) (by omega) (by omega)).mp c_1
        exact sm_vret hx hb hr hlk hI ⟨σ, rfl, hM, hF, trivial⟩ d_Mo_unsend_74
      · have k_3 : k < 12 := Nat.lt_of_not_le (fun q => c_1 ((nI_leI (a := 12) (b := k) (by omega) (by omega)).mpr q))
        refine lv_iload_n hx hb d_Mo_unsend_51 rfl (lv_at hl 1 rfl) ?_
        refine lv_iconst (v := 3) hx hb d_Mo_unsend_52 (by decide) ?_
        refine lv_icmp_ge (tgt := 74) hx hb d_Mo_unsend_53 (by decide) (fun c_4 => ?_) (fun c_4 => ?_)
        · have k_5 : 3 ≤ j1 := (nI_leI (a := 3) (b := j1) (by omega) (by omega)).mp c_4
          exact sm_vret hx hb hr hlk hI ⟨σ, rfl, hM, hF, trivial⟩ d_Mo_unsend_74
        · have k_6 : j1 < 3 := Nat.lt_of_not_le (fun q => c_4 ((nI_leI (a := 3) (b := j1) (by omega) (by omega)).mpr q))
          refine lv_aload_n hx hb d_Mo_unsend_56 rfl (lv_at hl 0 rfl) ?_
          refine mq_get (k := 24) (v := .ref (ad 24)) hx hb hts hown hI hM (by decide) rfl rfl (hts _ tw_1193) d_Mo_unsend_57 ?_
          refine lv_iload_n hx hb d_Mo_unsend_60 rfl (lv_at hl 1 rfl) ?_
          refine lv_bipush (v := 12) hx hb d_Mo_unsend_61 (by decide) ?_
          refine lv_imul hx hb d_Mo_unsend_63 ?_
          refine lv_topi (fun x_7 e_8 => ?_)
          obtain rfl : x_7 = nI (j1 * 12) := by rw [e_8]; exact pk_mul _ _
          refine lv_iload_n hx hb d_Mo_unsend_64 rfl (lv_at hl 2 rfl) ?_
          refine lv_iadd hx hb d_Mo_unsend_65 ?_
          refine lv_topi (fun x_9 e_10 => ?_)
          obtain rfl : x_9 = nI ((j1 * 12) + k) := by rw [e_10]; exact nI_add _ _
          refine lv_iconst (v := -1) hx hb d_Mo_unsend_66 (by decide) ?_
          refine mq_iast (k := 24) (j := ((j1 * 12) + k)) (x := -1) hx hb hI hM (by decide) rfl (by show ((j1 * 12) + k) < 36; omega) (by decide) trivial d_Mo_unsend_67 (fun H locs f σ_11 e_12 hI hM => ?_)
          have hF := mq_fr_ug hF e_12 rfl (Or.inl rfl)
          refine lv_iinc (v := nI (k + 1)) (lv' := [(2, .int (nI (k + 1))), (0, .ref (ad 71)), (1, .int (nI j1))]) hx hb d_Mo_unsend_68 hl (k := 2) rfl (nI_1 _) (by decide) rfl (fun ls hl => ?_)
          refine lv_goto (tgt := 45) hx hb d_Mo_unsend_71 (by decide) ?_
          exact ih ((k + 1)) _ _ _ _ _  (by omega) (by omega) hI hM hF (lv_sub hl [1, 2, 0] rfl) 
  have hJ_43 : ∀ (H : Heap) (locs : List Loc) (f : Nat → va_E) (σ : mq_S) (ls : Array Slot) (y2 : Int32), sw_I D cl_all (ty_s ca) (va_A (va_pl L f0) sz) s H locs L f → mq_B ca ad σ L f → mq_fr [24, 42, 52] σ0 σ → lv_has ls 3 [(0, .ref (ad 71)), (1, .int (nI j1)), (2, .int (y2))] → W p l e { frames := 0, cells := 0, slots := 0, locals := 0 } s m ([.ref (ad 71), .int (nI j1)] : List Value).toArray below meth c H locs 0 0 (MQ below (sm_Qv D (ty_s ca) L f0 sz (fun u => mq_po ca ad L σ0 [24, 42, 52] (fun σ => True) u)) ([.ref (ad 71), .int (nI j1)] : List Value).toArray s 0 0 (va_A (va_pl L f0) sz)) (F0 m 43 ls []) := by
    intro H locs f σ ls y2 hI hM hF hl 
    refine lv_iconst (v := 0) hx hb d_Mo_unsend_43 (by decide) ?_
    refine lv_istore_n (lv' := [(2, .int (0)), (0, .ref (ad 71)), (1, .int (nI j1))]) hx hb d_Mo_unsend_44 rfl hl (by decide) rfl (fun ls hl => ?_)
    exact hJ_45 _ (0) _ _ _ _ _  (Nat.le_refl _) (by omega) hI hM hF (lv_sub hl [1, 2, 0] rfl) 
  have hJ_2 : ∀ (N k : Nat) (H : Heap) (locs : List Loc) (f : Nat → va_E) (σ : mq_S) (ls : Array Slot) , 48 + 1 - k ≤ N → k ≤ 48 → sw_I D cl_all (ty_s ca) (va_A (va_pl L f0) sz) s H locs L f → mq_B ca ad σ L f → mq_fr [24, 42, 52] σ0 σ → lv_has ls 3 [(0, .ref (ad 71)), (1, .int (nI j1)), (2, .int (nI k))] → W p l e { frames := 0, cells := 0, slots := 0, locals := 0 } s m ([.ref (ad 71), .int (nI j1)] : List Value).toArray below meth c H locs 0 0 (MQ below (sm_Qv D (ty_s ca) L f0 sz (fun u => mq_po ca ad L σ0 [24, 42, 52] (fun σ => True) u)) ([.ref (ad 71), .int (nI j1)] : List Value).toArray s 0 0 (va_A (va_pl L f0) sz)) (F0 m 2 ls []) := by
    intro N
    induction N with
    | zero => intros; omega
    | succ N ih =>
      intro k H locs f σ ls  hN hk hI hM hF hl 
      refine lv_iload_n hx hb d_Mo_unsend_2 rfl (lv_at hl 2 rfl) ?_
      refine lv_aload_n hx hb d_Mo_unsend_3 rfl (lv_at hl 0 rfl) ?_
      obtain ⟨n_13, h_14, h_15, e_16⟩ := hM.2.2.2.2.1 43
      refine mq_get (k := 43) (v := .int (nI n_13)) hx hb hts hown hI hM (by decide) (congrArg (fun z => some (Value.int z)) e_16) rfl (hts _ tw_1212) d_Mo_unsend_4 ?_
      refine lv_icmp_ge (tgt := 33) hx hb d_Mo_unsend_7 (by decide) (fun c_17 => ?_) (fun c_17 => ?_)
      · have k_18 : n_13 ≤ k := (nI_leI (a := n_13) (b := k) (by omega) (by omega)).mp c_17
        refine lv_iload_n hx hb d_Mo_unsend_33 rfl (lv_at hl 1 rfl) ?_
        refine lv_iconst (v := 3) hx hb d_Mo_unsend_34 (by decide) ?_
        refine lv_icmp_ne (tgt := 43) hx hb d_Mo_unsend_35 (by decide) (fun c_19 => ?_) (fun c_19 => ?_)
        · have k_20 : ¬ j1 = 3 := (fun q => c_19 ((nI_eq (a := j1) (b := 3) (by omega) (by omega)).mpr q))
          exact hJ_43 _ _ _ _ _ (nI k) hI hM hF (lv_sub hl [0, 1, 2] rfl) 
        · have k_21 : j1 = 3 := (nI_eq (a := j1) (b := 3) (by omega) (by omega)).mp c_19
          refine lv_aload_n hx hb d_Mo_unsend_38 rfl (lv_at hl 0 rfl) ?_
          refine lv_iconst (v := -1) hx hb d_Mo_unsend_39 (by decide) ?_
          refine mq_puti (k := 42) (ty := .int) hx hb hts hown hI hM (by decide) rfl rfl (hts _ tw_1211) rfl (by decide +kernel) rfl rfl trivial d_Mo_unsend_40 (fun H locs f σ_22 e_23 hI hM => ?_)
          have hF := mq_fr_ui hF e_23 rfl
          exact hJ_43 _ _ _ _ _ (nI k) hI hM hF (lv_sub hl [0, 1, 2] rfl) 
      · have k_24 : k < n_13 := Nat.lt_of_not_le (fun q => c_17 ((nI_leI (a := n_13) (b := k) (by omega) (by omega)).mpr q))
        refine lv_aload_n hx hb d_Mo_unsend_10 rfl (lv_at hl 0 rfl) ?_
        refine mq_get (k := 52) (v := .ref (ad 52)) hx hb hts hown hI hM (by decide) rfl rfl (hts _ tw_1221) d_Mo_unsend_11 ?_
        refine lv_iload_n hx hb d_Mo_unsend_14 rfl (lv_at hl 2 rfl) ?_
        obtain ⟨x_25, e_26⟩ : ∃ z, σ.2.2.1 52 (k) = z := ⟨_, rfl⟩
        refine mq_iald (k := 52) (j := k) (v := x_25) hx hb hI hM (by decide) rfl (by show k < 48; omega) (by decide) e_26 d_Mo_unsend_15 ?_
        refine lv_iload_n hx hb d_Mo_unsend_16 rfl (lv_at hl 1 rfl) ?_
        refine lv_icmp_ne (tgt := 27) hx hb d_Mo_unsend_17 (by decide) (fun c_27 => ?_) (fun c_27 => ?_)
        · refine lv_iinc (v := nI (k + 1)) (lv' := [(2, .int (nI (k + 1))), (0, .ref (ad 71)), (1, .int (nI j1))]) hx hb d_Mo_unsend_27 hl (k := 2) rfl (nI_1 _) (by decide) rfl (fun ls hl => ?_)
          refine lv_goto (tgt := 2) hx hb d_Mo_unsend_30 (by decide) ?_
          exact ih ((k + 1)) _ _ _ _ _  (by omega) (by omega) hI hM hF (lv_sub hl [1, 2, 0] rfl) 
        · refine lv_aload_n hx hb d_Mo_unsend_20 rfl (lv_at hl 0 rfl) ?_
          refine mq_get (k := 52) (v := .ref (ad 52)) hx hb hts hown hI hM (by decide) rfl rfl (hts _ tw_1221) d_Mo_unsend_21 ?_
          refine lv_iload_n hx hb d_Mo_unsend_24 rfl (lv_at hl 2 rfl) ?_
          refine lv_iconst (v := -1) hx hb d_Mo_unsend_25 (by decide) ?_
          refine mq_iast (k := 52) (j := k) (x := -1) hx hb hI hM (by decide) rfl (by show k < 48; omega) (by decide) trivial d_Mo_unsend_26 (fun H locs f σ_28 e_29 hI hM => ?_)
          have hF := mq_fr_ug hF e_29 rfl (Or.inl rfl)
          refine lv_iinc (v := nI (k + 1)) (lv' := [(2, .int (nI (k + 1))), (0, .ref (ad 71)), (1, .int (nI j1))]) hx hb d_Mo_unsend_27 hl (k := 2) rfl (nI_1 _) (by decide) rfl (fun ls hl => ?_)
          refine lv_goto (tgt := 2) hx hb d_Mo_unsend_30 (by decide) ?_
          exact ih ((k + 1)) _ _ _ _ _  (by omega) (by omega) hI hM hF (lv_sub hl [1, 2, 0] rfl) 
  refine lv_iconst (v := 0) hx hb d_Mo_unsend_0 (by decide) ?_
  refine lv_istore_n (lv' := [(2, .int (0)), (0, .ref (ad 71)), (1, .int (nI j1))]) hx hb d_Mo_unsend_1 rfl hl (by decide) rfl (fun ls hl => ?_)
  exact hJ_2 _ (0) _ _ _ _ _  (Nat.le_refl _) (by omega) hI hM hF (lv_sub hl [1, 2, 0] rfl) 
theorem d_Mo_choose_0 : decode b_Mo_choose 0 = .ok (.aload_n 0, 1) := by decide +kernel
theorem d_Mo_choose_1 : decode b_Mo_choose 1 = .ok (.iconst (-1), 1) := by decide +kernel
theorem d_Mo_choose_2 : decode b_Mo_choose 2 = .ok (.putfield 136, 3) := by decide +kernel
theorem d_Mo_choose_5 : decode b_Mo_choose 5 = .ok (.iconst 0, 1) := by decide +kernel
theorem d_Mo_choose_6 : decode b_Mo_choose 6 = .ok (.istore_n 1, 1) := by decide +kernel
theorem d_Mo_choose_7 : decode b_Mo_choose 7 = .ok (.iload_n 1, 1) := by decide +kernel
theorem d_Mo_choose_8 : decode b_Mo_choose 8 = .ok (.iconst 3, 1) := by decide +kernel
theorem d_Mo_choose_9 : decode b_Mo_choose 9 = .ok (.if_icmp .ge 31, 3) := by decide +kernel
theorem d_Mo_choose_12 : decode b_Mo_choose 12 = .ok (.aload_n 0, 1) := by decide +kernel
theorem d_Mo_choose_13 : decode b_Mo_choose 13 = .ok (.aload_n 0, 1) := by decide +kernel
theorem d_Mo_choose_14 : decode b_Mo_choose 14 = .ok (.getfield 29, 3) := by decide +kernel
theorem d_Mo_choose_17 : decode b_Mo_choose 17 = .ok (.iload_n 1, 1) := by decide +kernel
theorem d_Mo_choose_18 : decode b_Mo_choose 18 = .ok (.iaload, 1) := by decide +kernel
theorem d_Mo_choose_19 : decode b_Mo_choose 19 = .ok (.iconst 2, 1) := by decide +kernel
theorem d_Mo_choose_20 : decode b_Mo_choose 20 = .ok (.if_icmp .ne 7, 3) := by decide +kernel
theorem d_Mo_choose_23 : decode b_Mo_choose 23 = .ok (.iload_n 1, 1) := by decide +kernel
theorem d_Mo_choose_24 : decode b_Mo_choose 24 = .ok (.goto 7, 3) := by decide +kernel
theorem d_Mo_choose_27 : decode b_Mo_choose 27 = .ok (.aload_n 0, 1) := by decide +kernel
theorem d_Mo_choose_28 : decode b_Mo_choose 28 = .ok (.getfield 136, 3) := by decide +kernel
theorem d_Mo_choose_31 : decode b_Mo_choose 31 = .ok (.putfield 136, 3) := by decide +kernel
theorem d_Mo_choose_34 : decode b_Mo_choose 34 = .ok (.iinc 1 1, 3) := by decide +kernel
theorem d_Mo_choose_37 : decode b_Mo_choose 37 = .ok (.goto (-30), 3) := by decide +kernel
theorem d_Mo_choose_40 : decode b_Mo_choose 40 = .ok (.aload_n 0, 1) := by decide +kernel
theorem d_Mo_choose_41 : decode b_Mo_choose 41 = .ok (.aload_n 0, 1) := by decide +kernel
theorem d_Mo_choose_42 : decode b_Mo_choose 42 = .ok (.getfield 136, 3) := by decide +kernel
theorem d_Mo_choose_45 : decode b_Mo_choose 45 = .ok (.ifCond .ge 17, 3) := by decide +kernel
theorem d_Mo_choose_48 : decode b_Mo_choose 48 = .ok (.aload_n 0, 1) := by decide +kernel
theorem d_Mo_choose_49 : decode b_Mo_choose 49 = .ok (.getfield 29, 3) := by decide +kernel
theorem d_Mo_choose_52 : decode b_Mo_choose 52 = .ok (.iconst 3, 1) := by decide +kernel
theorem d_Mo_choose_53 : decode b_Mo_choose 53 = .ok (.iaload, 1) := by decide +kernel
theorem d_Mo_choose_54 : decode b_Mo_choose 54 = .ok (.iconst 2, 1) := by decide +kernel
theorem d_Mo_choose_55 : decode b_Mo_choose 55 = .ok (.if_icmp .ne 7, 3) := by decide +kernel
theorem d_Mo_choose_58 : decode b_Mo_choose 58 = .ok (.iconst 3, 1) := by decide +kernel
theorem d_Mo_choose_59 : decode b_Mo_choose 59 = .ok (.goto 7, 3) := by decide +kernel
theorem d_Mo_choose_62 : decode b_Mo_choose 62 = .ok (.aload_n 0, 1) := by decide +kernel
theorem d_Mo_choose_63 : decode b_Mo_choose 63 = .ok (.getfield 136, 3) := by decide +kernel
theorem d_Mo_choose_66 : decode b_Mo_choose 66 = .ok (.putfield 136, 3) := by decide +kernel
theorem d_Mo_choose_69 : decode b_Mo_choose 69 = .ok (.aload_n 0, 1) := by decide +kernel
theorem d_Mo_choose_70 : decode b_Mo_choose 70 = .ok (.getfield 136, 3) := by decide +kernel
theorem d_Mo_choose_73 : decode b_Mo_choose 73 = .ok (.ifCond .ge 4, 3) := by decide +kernel
theorem d_Mo_choose_76 : decode b_Mo_choose 76 = .ok (.return_, 1) := by decide +kernel
theorem d_Mo_choose_77 : decode b_Mo_choose 77 = .ok (.iconst 0, 1) := by decide +kernel
theorem d_Mo_choose_78 : decode b_Mo_choose 78 = .ok (.istore_n 1, 1) := by decide +kernel
theorem d_Mo_choose_79 : decode b_Mo_choose 79 = .ok (.iload_n 1, 1) := by decide +kernel
theorem d_Mo_choose_80 : decode b_Mo_choose 80 = .ok (.iconst 4, 1) := by decide +kernel
theorem d_Mo_choose_81 : decode b_Mo_choose 81 = .ok (.if_icmp .ge 33, 3) := by decide +kernel
theorem d_Mo_choose_84 : decode b_Mo_choose 84 = .ok (.iload_n 1, 1) := by decide +kernel
theorem d_Mo_choose_85 : decode b_Mo_choose 85 = .ok (.aload_n 0, 1) := by decide +kernel
theorem d_Mo_choose_86 : decode b_Mo_choose 86 = .ok (.getfield 136, 3) := by decide +kernel
theorem d_Mo_choose_89 : decode b_Mo_choose 89 = .ok (.if_icmp .eq 19, 3) := by decide +kernel
theorem d_Mo_choose_92 : decode b_Mo_choose 92 = .ok (.aload_n 0, 1) := by decide +kernel
theorem d_Mo_choose_93 : decode b_Mo_choose 93 = .ok (.getfield 139, 3) := by decide +kernel
theorem d_Mo_choose_96 : decode b_Mo_choose 96 = .ok (.aload_n 0, 1) := by decide +kernel
theorem d_Mo_choose_97 : decode b_Mo_choose 97 = .ok (.getfield 136, 3) := by decide +kernel
theorem d_Mo_choose_100 : decode b_Mo_choose 100 = .ok (.if_icmp .eq 8, 3) := by decide +kernel
theorem d_Mo_choose_103 : decode b_Mo_choose 103 = .ok (.aload_n 0, 1) := by decide +kernel
theorem d_Mo_choose_104 : decode b_Mo_choose 104 = .ok (.iload_n 1, 1) := by decide +kernel
theorem d_Mo_choose_105 : decode b_Mo_choose 105 = .ok (.invokevirtual 262, 3) := by decide +kernel
theorem d_Mo_choose_108 : decode b_Mo_choose 108 = .ok (.iinc 1 1, 3) := by decide +kernel
theorem d_Mo_choose_111 : decode b_Mo_choose 111 = .ok (.goto (-32), 3) := by decide +kernel
theorem d_Mo_choose_114 : decode b_Mo_choose 114 = .ok (.aload_n 0, 1) := by decide +kernel
theorem d_Mo_choose_115 : decode b_Mo_choose 115 = .ok (.aload_n 0, 1) := by decide +kernel
theorem d_Mo_choose_116 : decode b_Mo_choose 116 = .ok (.getfield 136, 3) := by decide +kernel
theorem d_Mo_choose_119 : decode b_Mo_choose 119 = .ok (.putfield 139, 3) := by decide +kernel
theorem d_Mo_choose_122 : decode b_Mo_choose 122 = .ok (.return_, 1) := by decide +kernel
set_option maxRecDepth 100000 in
set_option maxHeartbeats 4000000 in
theorem c_Mo_choose (l : Launch) (D : va_G) (ca : Nat → ClassId) (ad : Nat → Nat) (L : List Nat) (f0 : Nat → va_E) (sz : Nat) (σ0 : mq_S) (hM : mq_B ca ad σ0 L f0)  :
    Met l y_Mo_choose (Cond.code y_Mo_choose b_Mo_choose 2 none :: wg) { frames := 1, cells := 0, slots := 0, locals := 22 } (va_Pc [.ref (ad 71)] (sm_P D cl_all (ty_s ca) ek L f0 sz)) (sm_Qv D (ty_s ca) L f0 sz (fun u => mq_po ca ad L σ0 [24, 42, 52, 54, 55] (fun σ => True) u)) 0 0 (va_A (va_pl L f0) sz) := by
  refine sm_start (by decide) (Nat.le_of_ble_eq_true rfl) ?_
  intro p e s m below meth c ls hx hb hml hr hlk hnm hts hown hsz hE hI hl
  have hl : lv_has ls 2 [(0, .ref (ad 71))] := hl
  have hF : mq_fr [24, 42, 52, 54, 55] σ0 σ0 := mq_fr_rf
  have hJ_79 : ∀ (N k : Nat) (H : Heap) (locs : List Loc) (f : Nat → va_E) (σ : mq_S) (ls : Array Slot) , 4 + 1 - k ≤ N → k ≤ 4 → sw_I D cl_all (ty_s ca) (va_A (va_pl L f0) sz) s H locs L f → mq_B ca ad σ L f → mq_fr [24, 42, 52, 54, 55] σ0 σ → lv_has ls 2 [(0, .ref (ad 71)), (1, .int (nI k))] → W p l e { frames := 1, cells := 0, slots := 0, locals := 22 } s m ([.ref (ad 71)] : List Value).toArray below meth c H locs 0 0 (MQ below (sm_Qv D (ty_s ca) L f0 sz (fun u => mq_po ca ad L σ0 [24, 42, 52, 54, 55] (fun σ => True) u)) ([.ref (ad 71)] : List Value).toArray s 0 0 (va_A (va_pl L f0) sz)) (F0 m 79 ls []) := by
    intro N
    induction N with
    | zero => intros; omega
    | succ N ih =>
      intro k H locs f σ ls  hN hk hI hM hF hl 
      refine lv_iload_n hx hb d_Mo_choose_79 rfl (lv_at hl 1 rfl) ?_
      refine lv_iconst (v := 4) hx hb d_Mo_choose_80 (by decide) ?_
      refine lv_icmp_ge (tgt := 114) hx hb d_Mo_choose_81 (by decide) (fun c_1 => ?_) (fun c_1 => ?_)
      · have k_2 : 4 ≤ k := (nI_leI (a := 4) (b := k) (by omega) (by omega)).mp c_1
        refine lv_aload_n hx hb d_Mo_choose_114 rfl (lv_at hl 0 rfl) ?_
        refine lv_aload_n hx hb d_Mo_choose_115 rfl (lv_at hl 0 rfl) ?_
        obtain ⟨x_3, e_4⟩ : ∃ z, σ.1 54 = z := ⟨_, rfl⟩
        refine mq_get (k := 54) (v := .int (x_3)) hx hb hts hown hI hM (by decide) (congrArg (fun z => some (Value.int z)) e_4) rfl (hts _ tw_1223) d_Mo_choose_116 ?_
        refine mq_puti (k := 55) (ty := .int) hx hb hts hown hI hM (by decide) rfl rfl (hts _ tw_1224) rfl (by decide +kernel) rfl rfl trivial d_Mo_choose_119 (fun H locs f σ_5 e_6 hI hM => ?_)
        have hF := mq_fr_ui hF e_6 rfl
        exact sm_vret hx hb hr hlk hI ⟨σ_5, rfl, hM, hF, trivial⟩ d_Mo_choose_122
      · have k_7 : k < 4 := Nat.lt_of_not_le (fun q => c_1 ((nI_leI (a := 4) (b := k) (by omega) (by omega)).mpr q))
        refine lv_iload_n hx hb d_Mo_choose_84 rfl (lv_at hl 1 rfl) ?_
        refine lv_aload_n hx hb d_Mo_choose_85 rfl (lv_at hl 0 rfl) ?_
        obtain ⟨x_8, e_9⟩ : ∃ z, σ.1 54 = z := ⟨_, rfl⟩
        refine mq_get (k := 54) (v := .int (x_8)) hx hb hts hown hI hM (by decide) (congrArg (fun z => some (Value.int z)) e_9) rfl (hts _ tw_1223) d_Mo_choose_86 ?_
        refine lv_icmp_eq (tgt := 108) hx hb d_Mo_choose_89 (by decide) (fun c_10 => ?_) (fun c_10 => ?_)
        · refine lv_iinc (v := nI (k + 1)) (lv' := [(1, .int (nI (k + 1))), (0, .ref (ad 71))]) hx hb d_Mo_choose_108 hl (k := 1) rfl (nI_1 _) (by decide) rfl (fun ls hl => ?_)
          refine lv_goto (tgt := 79) hx hb d_Mo_choose_111 (by decide) ?_
          exact ih ((k + 1)) _ _ _ _ _  (by omega) (by omega) hI hM hF (lv_sub hl [1, 0] rfl) 
        · refine lv_aload_n hx hb d_Mo_choose_92 rfl (lv_at hl 0 rfl) ?_
          obtain ⟨x_11, e_12⟩ : ∃ z, σ.1 55 = z := ⟨_, rfl⟩
          refine mq_get (k := 55) (v := .int (x_11)) hx hb hts hown hI hM (by decide) (congrArg (fun z => some (Value.int z)) e_12) rfl (hts _ tw_1224) d_Mo_choose_93 ?_
          refine lv_aload_n hx hb d_Mo_choose_96 rfl (lv_at hl 0 rfl) ?_
          obtain ⟨x_13, e_14⟩ : ∃ z, σ.1 54 = z := ⟨_, rfl⟩
          refine mq_get (k := 54) (v := .int (x_13)) hx hb hts hown hI hM (by decide) (congrArg (fun z => some (Value.int z)) e_14) rfl (hts _ tw_1223) d_Mo_choose_97 ?_
          refine lv_icmp_eq (tgt := 108) hx hb d_Mo_choose_100 (by decide) (fun c_15 => ?_) (fun c_15 => ?_)
          · refine lv_iinc (v := nI (k + 1)) (lv' := [(1, .int (nI (k + 1))), (0, .ref (ad 71))]) hx hb d_Mo_choose_108 hl (k := 1) rfl (nI_1 _) (by decide) rfl (fun ls hl => ?_)
            refine lv_goto (tgt := 79) hx hb d_Mo_choose_111 (by decide) ?_
            exact ih ((k + 1)) _ _ _ _ _  (by omega) (by omega) hI hM hF (lv_sub hl [1, 0] rfl) 
          · refine lv_aload_n hx hb d_Mo_choose_103 rfl (lv_at hl 0 rfl) ?_
            refine lv_iload_n hx hb d_Mo_choose_104 rfl (lv_at hl 1 rfl) ?_
            refine sm_vM hI (va_runV (As := [.int (nI k)]) (rest := []) ⟨hx, hb, hml, hown, hts⟩ (c_Mo_unsend l D ca ad L _ _ _ hM (k) (by omega)) (kv_Mo_unsend hts rfl rfl (hts _ tw_1430) ⟨Nat.le_of_ble_eq_true rfl, Nat.le_of_ble_eq_true rfl⟩) (pv_Mo hI hE hM) rfl rfl hl.1 rfl (lv_room (Nat.le_of_ble_eq_true rfl)) d_Mo_choose_105 ⟨Nat.le_of_ble_eq_true rfl, Nat.le_of_ble_eq_true rfl⟩) (fun H locs f σ_17 hI hM hF_18 p_16 => ?_)
            have hF := mq_fr_tr hF hF_18 (by decide)
            refine lv_iinc (v := nI (k + 1)) (lv' := [(1, .int (nI (k + 1))), (0, .ref (ad 71))]) hx hb d_Mo_choose_108 hl (k := 1) rfl (nI_1 _) (by decide) rfl (fun ls hl => ?_)
            refine lv_goto (tgt := 79) hx hb d_Mo_choose_111 (by decide) ?_
            exact ih ((k + 1)) _ _ _ _ _  (by omega) (by omega) hI hM hF (lv_sub hl [1, 0] rfl) 
  have hJ_66 : ∀ (H : Heap) (locs : List Loc) (f : Nat → va_E) (σ : mq_S) (ls : Array Slot) (y1 : Int32) (z1 : Int32), sw_I D cl_all (ty_s ca) (va_A (va_pl L f0) sz) s H locs L f → mq_B ca ad σ L f → mq_fr [24, 42, 52, 54, 55] σ0 σ → lv_has ls 2 [(0, .ref (ad 71)), (1, .int (y1))] → W p l e { frames := 1, cells := 0, slots := 0, locals := 22 } s m ([.ref (ad 71)] : List Value).toArray below meth c H locs 0 0 (MQ below (sm_Qv D (ty_s ca) L f0 sz (fun u => mq_po ca ad L σ0 [24, 42, 52, 54, 55] (fun σ => True) u)) ([.ref (ad 71)] : List Value).toArray s 0 0 (va_A (va_pl L f0) sz)) (F0 m 66 ls [.int (z1), .ref (ad 71)]) := by
    intro H locs f σ ls y1 z1 hI hM hF hl 
    refine mq_puti (k := 54) (ty := .int) hx hb hts hown hI hM (by decide) rfl rfl (hts _ tw_1223) rfl (by decide +kernel) rfl rfl trivial d_Mo_choose_66 (fun H locs f σ_19 e_20 hI hM => ?_)
    have hF := mq_fr_ui hF e_20 rfl
    refine lv_aload_n hx hb d_Mo_choose_69 rfl (lv_at hl 0 rfl) ?_
    obtain ⟨x_21, e_22⟩ : ∃ z, σ_19.1 54 = z := ⟨_, rfl⟩
    refine mq_get (k := 54) (v := .int (x_21)) hx hb hts hown hI hM (by decide) (congrArg (fun z => some (Value.int z)) e_22) rfl (hts _ tw_1223) d_Mo_choose_70 ?_
    refine lv_if_ge (tgt := 77) hx hb d_Mo_choose_73 (by decide) (fun c_23 => ?_) (fun c_23 => ?_)
    · refine lv_iconst (v := 0) hx hb d_Mo_choose_77 (by decide) ?_
      refine lv_istore_n (lv' := [(1, .int (0)), (0, .ref (ad 71))]) hx hb d_Mo_choose_78 rfl hl (by decide) rfl (fun ls hl => ?_)
      exact hJ_79 _ (0) _ _ _ _ _  (Nat.le_refl _) (by omega) hI hM hF (lv_sub hl [1, 0] rfl) 
    · exact sm_vret hx hb hr hlk hI ⟨σ_19, rfl, hM, hF, trivial⟩ d_Mo_choose_76
  have hJ_62 : ∀ (H : Heap) (locs : List Loc) (f : Nat → va_E) (σ : mq_S) (ls : Array Slot) (y1 : Int32), sw_I D cl_all (ty_s ca) (va_A (va_pl L f0) sz) s H locs L f → mq_B ca ad σ L f → mq_fr [24, 42, 52, 54, 55] σ0 σ → lv_has ls 2 [(0, .ref (ad 71)), (1, .int (y1))] → W p l e { frames := 1, cells := 0, slots := 0, locals := 22 } s m ([.ref (ad 71)] : List Value).toArray below meth c H locs 0 0 (MQ below (sm_Qv D (ty_s ca) L f0 sz (fun u => mq_po ca ad L σ0 [24, 42, 52, 54, 55] (fun σ => True) u)) ([.ref (ad 71)] : List Value).toArray s 0 0 (va_A (va_pl L f0) sz)) (F0 m 62 ls [.ref (ad 71)]) := by
    intro H locs f σ ls y1 hI hM hF hl 
    refine lv_aload_n hx hb d_Mo_choose_62 rfl (lv_at hl 0 rfl) ?_
    obtain ⟨x_24, e_25⟩ : ∃ z, σ.1 54 = z := ⟨_, rfl⟩
    refine mq_get (k := 54) (v := .int (x_24)) hx hb hts hown hI hM (by decide) (congrArg (fun z => some (Value.int z)) e_25) rfl (hts _ tw_1223) d_Mo_choose_63 ?_
    exact hJ_66 _ _ _ _ _ y1 x_24 hI hM hF (lv_sub hl [0, 1] rfl) 
  have hJ_7 : ∀ (N k : Nat) (H : Heap) (locs : List Loc) (f : Nat → va_E) (σ : mq_S) (ls : Array Slot) , 3 + 1 - k ≤ N → k ≤ 3 → sw_I D cl_all (ty_s ca) (va_A (va_pl L f0) sz) s H locs L f → mq_B ca ad σ L f → mq_fr [24, 42, 52, 54, 55] σ0 σ → lv_has ls 2 [(0, .ref (ad 71)), (1, .int (nI k))] → W p l e { frames := 1, cells := 0, slots := 0, locals := 22 } s m ([.ref (ad 71)] : List Value).toArray below meth c H locs 0 0 (MQ below (sm_Qv D (ty_s ca) L f0 sz (fun u => mq_po ca ad L σ0 [24, 42, 52, 54, 55] (fun σ => True) u)) ([.ref (ad 71)] : List Value).toArray s 0 0 (va_A (va_pl L f0) sz)) (F0 m 7 ls []) := by
    intro N
    induction N with
    | zero => intros; omega
    | succ N ih =>
      intro k H locs f σ ls  hN hk hI hM hF hl 
      refine lv_iload_n hx hb d_Mo_choose_7 rfl (lv_at hl 1 rfl) ?_
      refine lv_iconst (v := 3) hx hb d_Mo_choose_8 (by decide) ?_
      refine lv_icmp_ge (tgt := 40) hx hb d_Mo_choose_9 (by decide) (fun c_26 => ?_) (fun c_26 => ?_)
      · have k_27 : 3 ≤ k := (nI_leI (a := 3) (b := k) (by omega) (by omega)).mp c_26
        refine lv_aload_n hx hb d_Mo_choose_40 rfl (lv_at hl 0 rfl) ?_
        refine lv_aload_n hx hb d_Mo_choose_41 rfl (lv_at hl 0 rfl) ?_
        obtain ⟨x_28, e_29⟩ : ∃ z, σ.1 54 = z := ⟨_, rfl⟩
        refine mq_get (k := 54) (v := .int (x_28)) hx hb hts hown hI hM (by decide) (congrArg (fun z => some (Value.int z)) e_29) rfl (hts _ tw_1223) d_Mo_choose_42 ?_
        refine lv_if_ge (tgt := 62) hx hb d_Mo_choose_45 (by decide) (fun c_30 => ?_) (fun c_30 => ?_)
        · exact hJ_62 _ _ _ _ _ (nI k) hI hM hF (lv_sub hl [0, 1] rfl)
        · refine lv_aload_n hx hb d_Mo_choose_48 rfl (lv_at hl 0 rfl) ?_
          refine mq_get (k := 13) (v := .ref (ad 13)) hx hb hts hown hI hM (by decide) rfl rfl (hts _ tw_1182) d_Mo_choose_49 ?_
          refine lv_iconst (v := 3) hx hb d_Mo_choose_52 (by decide) ?_
          obtain ⟨x_31, e_32⟩ : ∃ z, σ.2.2.1 13 (3) = z := ⟨_, rfl⟩
          refine mq_iald (k := 13) (j := 3) (v := x_31) hx hb hI hM (by decide) rfl (by show 3 < 4; omega) (by decide) e_32 d_Mo_choose_53 ?_
          refine lv_iconst (v := 2) hx hb d_Mo_choose_54 (by decide) ?_
          refine lv_icmp_ne (tgt := 62) hx hb d_Mo_choose_55 (by decide) (fun c_33 => ?_) (fun c_33 => ?_)
          · exact hJ_62 _ _ _ _ _ (nI k) hI hM hF (lv_sub hl [0, 1] rfl)
          · refine lv_iconst (v := 3) hx hb d_Mo_choose_58 (by decide) ?_
            refine lv_goto (tgt := 66) hx hb d_Mo_choose_59 (by decide) ?_
            exact hJ_66 _ _ _ _ _ (nI k) 3 hI hM hF (lv_sub hl [0, 1] rfl) 
      · have k_34 : k < 3 := Nat.lt_of_not_le (fun q => c_26 ((nI_leI (a := 3) (b := k) (by omega) (by omega)).mpr q))
        refine lv_aload_n hx hb d_Mo_choose_12 rfl (lv_at hl 0 rfl) ?_
        refine lv_aload_n hx hb d_Mo_choose_13 rfl (lv_at hl 0 rfl) ?_
        refine mq_get (k := 13) (v := .ref (ad 13)) hx hb hts hown hI hM (by decide) rfl rfl (hts _ tw_1182) d_Mo_choose_14 ?_
        refine lv_iload_n hx hb d_Mo_choose_17 rfl (lv_at hl 1 rfl) ?_
        obtain ⟨x_35, e_36⟩ : ∃ z, σ.2.2.1 13 (k) = z := ⟨_, rfl⟩
        refine mq_iald (k := 13) (j := k) (v := x_35) hx hb hI hM (by decide) rfl (by show k < 4; omega) (by decide) e_36 d_Mo_choose_18 ?_
        refine lv_iconst (v := 2) hx hb d_Mo_choose_19 (by decide) ?_
        refine lv_icmp_ne (tgt := 27) hx hb d_Mo_choose_20 (by decide) (fun c_37 => ?_) (fun c_37 => ?_)
        · refine lv_aload_n hx hb d_Mo_choose_27 rfl (lv_at hl 0 rfl) ?_
          obtain ⟨x_38, e_39⟩ : ∃ z, σ.1 54 = z := ⟨_, rfl⟩
          refine mq_get (k := 54) (v := .int (x_38)) hx hb hts hown hI hM (by decide) (congrArg (fun z => some (Value.int z)) e_39) rfl (hts _ tw_1223) d_Mo_choose_28 ?_
          refine mq_puti (k := 54) (ty := .int) hx hb hts hown hI hM (by decide) rfl rfl (hts _ tw_1223) rfl (by decide +kernel) rfl rfl trivial d_Mo_choose_31 (fun H locs f σ_40 e_41 hI hM => ?_)
          have hF := mq_fr_ui hF e_41 rfl
          refine lv_iinc (v := nI (k + 1)) (lv' := [(1, .int (nI (k + 1))), (0, .ref (ad 71))]) hx hb d_Mo_choose_34 hl (k := 1) rfl (nI_1 _) (by decide) rfl (fun ls hl => ?_)
          refine lv_goto (tgt := 7) hx hb d_Mo_choose_37 (by decide) ?_
          exact ih ((k + 1)) _ _ _ _ _  (by omega) (by omega) hI hM hF (lv_sub hl [1, 0] rfl) 
        · refine lv_iload_n hx hb d_Mo_choose_23 rfl (lv_at hl 1 rfl) ?_
          refine lv_goto (tgt := 31) hx hb d_Mo_choose_24 (by decide) ?_
          refine mq_puti (k := 54) (ty := .int) hx hb hts hown hI hM (by decide) rfl rfl (hts _ tw_1223) rfl (by decide +kernel) rfl rfl trivial d_Mo_choose_31 (fun H locs f σ_42 e_43 hI hM => ?_)
          have hF := mq_fr_ui hF e_43 rfl
          refine lv_iinc (v := nI (k + 1)) (lv' := [(1, .int (nI (k + 1))), (0, .ref (ad 71))]) hx hb d_Mo_choose_34 hl (k := 1) rfl (nI_1 _) (by decide) rfl (fun ls hl => ?_)
          refine lv_goto (tgt := 7) hx hb d_Mo_choose_37 (by decide) ?_
          exact ih ((k + 1)) _ _ _ _ _  (by omega) (by omega) hI hM hF (lv_sub hl [1, 0] rfl) 
  refine lv_aload_n hx hb d_Mo_choose_0 rfl (lv_at hl 0 rfl) ?_
  refine lv_iconst (v := -1) hx hb d_Mo_choose_1 (by decide) ?_
  refine mq_puti (k := 54) (ty := .int) hx hb hts hown hI hM (by decide) rfl rfl (hts _ tw_1223) rfl (by decide +kernel) rfl rfl trivial d_Mo_choose_2 (fun H locs f σ_44 e_45 hI hM => ?_)
  have hF := mq_fr_ui hF e_45 rfl
  refine lv_iconst (v := 0) hx hb d_Mo_choose_5 (by decide) ?_
  refine lv_istore_n (lv' := [(1, .int (0)), (0, .ref (ad 71))]) hx hb d_Mo_choose_6 rfl hl (by decide) rfl (fun ls hl => ?_)
  exact hJ_7 _ (0) _ _ _ _ _  (Nat.le_refl _) (by omega) hI hM hF (lv_sub hl [1, 0] rfl) 
theorem d_Mo_removeEvent_0 : decode b_Mo_removeEvent 0 = .ok (.aload_n 0, 1) := by decide +kernel
theorem d_Mo_removeEvent_1 : decode b_Mo_removeEvent 1 = .ok (.dup, 1) := by decide +kernel
theorem d_Mo_removeEvent_2 : decode b_Mo_removeEvent 2 = .ok (.getfield 247, 3) := by decide +kernel
theorem d_Mo_removeEvent_5 : decode b_Mo_removeEvent 5 = .ok (.iconst 1, 1) := by decide +kernel
theorem d_Mo_removeEvent_6 : decode b_Mo_removeEvent 6 = .ok (.isub, 1) := by decide +kernel
theorem d_Mo_removeEvent_7 : decode b_Mo_removeEvent 7 = .ok (.putfield 247, 3) := by decide +kernel
theorem d_Mo_removeEvent_10 : decode b_Mo_removeEvent 10 = .ok (.iload_n 1, 1) := by decide +kernel
theorem d_Mo_removeEvent_11 : decode b_Mo_removeEvent 11 = .ok (.istore_n 2, 1) := by decide +kernel
theorem d_Mo_removeEvent_12 : decode b_Mo_removeEvent 12 = .ok (.iload_n 2, 1) := by decide +kernel
theorem d_Mo_removeEvent_13 : decode b_Mo_removeEvent 13 = .ok (.aload_n 0, 1) := by decide +kernel
theorem d_Mo_removeEvent_14 : decode b_Mo_removeEvent 14 = .ok (.getfield 247, 3) := by decide +kernel
theorem d_Mo_removeEvent_17 : decode b_Mo_removeEvent 17 = .ok (.if_icmp .ge 121, 3) := by decide +kernel
theorem d_Mo_removeEvent_20 : decode b_Mo_removeEvent 20 = .ok (.aload_n 0, 1) := by decide +kernel
theorem d_Mo_removeEvent_21 : decode b_Mo_removeEvent 21 = .ok (.getfield 112, 3) := by decide +kernel
theorem d_Mo_removeEvent_24 : decode b_Mo_removeEvent 24 = .ok (.iload_n 2, 1) := by decide +kernel
theorem d_Mo_removeEvent_25 : decode b_Mo_removeEvent 25 = .ok (.aload_n 0, 1) := by decide +kernel
theorem d_Mo_removeEvent_26 : decode b_Mo_removeEvent 26 = .ok (.getfield 112, 3) := by decide +kernel
theorem d_Mo_removeEvent_29 : decode b_Mo_removeEvent 29 = .ok (.iload_n 2, 1) := by decide +kernel
theorem d_Mo_removeEvent_30 : decode b_Mo_removeEvent 30 = .ok (.iconst 1, 1) := by decide +kernel
theorem d_Mo_removeEvent_31 : decode b_Mo_removeEvent 31 = .ok (.iadd, 1) := by decide +kernel
theorem d_Mo_removeEvent_32 : decode b_Mo_removeEvent 32 = .ok (.iaload, 1) := by decide +kernel
theorem d_Mo_removeEvent_33 : decode b_Mo_removeEvent 33 = .ok (.iastore, 1) := by decide +kernel
theorem d_Mo_removeEvent_34 : decode b_Mo_removeEvent 34 = .ok (.aload_n 0, 1) := by decide +kernel
theorem d_Mo_removeEvent_35 : decode b_Mo_removeEvent 35 = .ok (.getfield 115, 3) := by decide +kernel
theorem d_Mo_removeEvent_38 : decode b_Mo_removeEvent 38 = .ok (.iload_n 2, 1) := by decide +kernel
theorem d_Mo_removeEvent_39 : decode b_Mo_removeEvent 39 = .ok (.aload_n 0, 1) := by decide +kernel
theorem d_Mo_removeEvent_40 : decode b_Mo_removeEvent 40 = .ok (.getfield 115, 3) := by decide +kernel
theorem d_Mo_removeEvent_43 : decode b_Mo_removeEvent 43 = .ok (.iload_n 2, 1) := by decide +kernel
theorem d_Mo_removeEvent_44 : decode b_Mo_removeEvent 44 = .ok (.iconst 1, 1) := by decide +kernel
theorem d_Mo_removeEvent_45 : decode b_Mo_removeEvent 45 = .ok (.iadd, 1) := by decide +kernel
theorem d_Mo_removeEvent_46 : decode b_Mo_removeEvent 46 = .ok (.iaload, 1) := by decide +kernel
theorem d_Mo_removeEvent_47 : decode b_Mo_removeEvent 47 = .ok (.iastore, 1) := by decide +kernel
theorem d_Mo_removeEvent_48 : decode b_Mo_removeEvent 48 = .ok (.aload_n 0, 1) := by decide +kernel
theorem d_Mo_removeEvent_49 : decode b_Mo_removeEvent 49 = .ok (.getfield 118, 3) := by decide +kernel
theorem d_Mo_removeEvent_52 : decode b_Mo_removeEvent 52 = .ok (.iload_n 2, 1) := by decide +kernel
theorem d_Mo_removeEvent_53 : decode b_Mo_removeEvent 53 = .ok (.aload_n 0, 1) := by decide +kernel
theorem d_Mo_removeEvent_54 : decode b_Mo_removeEvent 54 = .ok (.getfield 118, 3) := by decide +kernel
theorem d_Mo_removeEvent_57 : decode b_Mo_removeEvent 57 = .ok (.iload_n 2, 1) := by decide +kernel
theorem d_Mo_removeEvent_58 : decode b_Mo_removeEvent 58 = .ok (.iconst 1, 1) := by decide +kernel
theorem d_Mo_removeEvent_59 : decode b_Mo_removeEvent 59 = .ok (.iadd, 1) := by decide +kernel
theorem d_Mo_removeEvent_60 : decode b_Mo_removeEvent 60 = .ok (.iaload, 1) := by decide +kernel
theorem d_Mo_removeEvent_61 : decode b_Mo_removeEvent 61 = .ok (.iastore, 1) := by decide +kernel
theorem d_Mo_removeEvent_62 : decode b_Mo_removeEvent 62 = .ok (.aload_n 0, 1) := by decide +kernel
theorem d_Mo_removeEvent_63 : decode b_Mo_removeEvent 63 = .ok (.getfield 121, 3) := by decide +kernel
theorem d_Mo_removeEvent_66 : decode b_Mo_removeEvent 66 = .ok (.iload_n 2, 1) := by decide +kernel
theorem d_Mo_removeEvent_67 : decode b_Mo_removeEvent 67 = .ok (.aload_n 0, 1) := by decide +kernel
theorem d_Mo_removeEvent_68 : decode b_Mo_removeEvent 68 = .ok (.getfield 121, 3) := by decide +kernel
theorem d_Mo_removeEvent_71 : decode b_Mo_removeEvent 71 = .ok (.iload_n 2, 1) := by decide +kernel
theorem d_Mo_removeEvent_72 : decode b_Mo_removeEvent 72 = .ok (.iconst 1, 1) := by decide +kernel
theorem d_Mo_removeEvent_73 : decode b_Mo_removeEvent 73 = .ok (.iadd, 1) := by decide +kernel
theorem d_Mo_removeEvent_74 : decode b_Mo_removeEvent 74 = .ok (.iaload, 1) := by decide +kernel
theorem d_Mo_removeEvent_75 : decode b_Mo_removeEvent 75 = .ok (.iastore, 1) := by decide +kernel
theorem d_Mo_removeEvent_76 : decode b_Mo_removeEvent 76 = .ok (.aload_n 0, 1) := by decide +kernel
theorem d_Mo_removeEvent_77 : decode b_Mo_removeEvent 77 = .ok (.getfield 124, 3) := by decide +kernel
theorem d_Mo_removeEvent_80 : decode b_Mo_removeEvent 80 = .ok (.iload_n 2, 1) := by decide +kernel
theorem d_Mo_removeEvent_81 : decode b_Mo_removeEvent 81 = .ok (.aload_n 0, 1) := by decide +kernel
theorem d_Mo_removeEvent_82 : decode b_Mo_removeEvent 82 = .ok (.getfield 124, 3) := by decide +kernel
theorem d_Mo_removeEvent_85 : decode b_Mo_removeEvent 85 = .ok (.iload_n 2, 1) := by decide +kernel
theorem d_Mo_removeEvent_86 : decode b_Mo_removeEvent 86 = .ok (.iconst 1, 1) := by decide +kernel
theorem d_Mo_removeEvent_87 : decode b_Mo_removeEvent 87 = .ok (.iadd, 1) := by decide +kernel
theorem d_Mo_removeEvent_88 : decode b_Mo_removeEvent 88 = .ok (.iaload, 1) := by decide +kernel
theorem d_Mo_removeEvent_89 : decode b_Mo_removeEvent 89 = .ok (.iastore, 1) := by decide +kernel
theorem d_Mo_removeEvent_90 : decode b_Mo_removeEvent 90 = .ok (.aload_n 0, 1) := by decide +kernel
theorem d_Mo_removeEvent_91 : decode b_Mo_removeEvent 91 = .ok (.getfield 127, 3) := by decide +kernel
theorem d_Mo_removeEvent_94 : decode b_Mo_removeEvent 94 = .ok (.iload_n 2, 1) := by decide +kernel
theorem d_Mo_removeEvent_95 : decode b_Mo_removeEvent 95 = .ok (.aload_n 0, 1) := by decide +kernel
theorem d_Mo_removeEvent_96 : decode b_Mo_removeEvent 96 = .ok (.getfield 127, 3) := by decide +kernel
theorem d_Mo_removeEvent_99 : decode b_Mo_removeEvent 99 = .ok (.iload_n 2, 1) := by decide +kernel
theorem d_Mo_removeEvent_100 : decode b_Mo_removeEvent 100 = .ok (.iconst 1, 1) := by decide +kernel
theorem d_Mo_removeEvent_101 : decode b_Mo_removeEvent 101 = .ok (.iadd, 1) := by decide +kernel
theorem d_Mo_removeEvent_102 : decode b_Mo_removeEvent 102 = .ok (.laload, 1) := by decide +kernel
theorem d_Mo_removeEvent_103 : decode b_Mo_removeEvent 103 = .ok (.lastore, 1) := by decide +kernel
theorem d_Mo_removeEvent_104 : decode b_Mo_removeEvent 104 = .ok (.aload_n 0, 1) := by decide +kernel
theorem d_Mo_removeEvent_105 : decode b_Mo_removeEvent 105 = .ok (.getfield 130, 3) := by decide +kernel
theorem d_Mo_removeEvent_108 : decode b_Mo_removeEvent 108 = .ok (.iload_n 2, 1) := by decide +kernel
theorem d_Mo_removeEvent_109 : decode b_Mo_removeEvent 109 = .ok (.aload_n 0, 1) := by decide +kernel
theorem d_Mo_removeEvent_110 : decode b_Mo_removeEvent 110 = .ok (.getfield 130, 3) := by decide +kernel
theorem d_Mo_removeEvent_113 : decode b_Mo_removeEvent 113 = .ok (.iload_n 2, 1) := by decide +kernel
theorem d_Mo_removeEvent_114 : decode b_Mo_removeEvent 114 = .ok (.iconst 1, 1) := by decide +kernel
theorem d_Mo_removeEvent_115 : decode b_Mo_removeEvent 115 = .ok (.iadd, 1) := by decide +kernel
theorem d_Mo_removeEvent_116 : decode b_Mo_removeEvent 116 = .ok (.baload, 1) := by decide +kernel
theorem d_Mo_removeEvent_117 : decode b_Mo_removeEvent 117 = .ok (.bastore, 1) := by decide +kernel
theorem d_Mo_removeEvent_118 : decode b_Mo_removeEvent 118 = .ok (.aload_n 0, 1) := by decide +kernel
theorem d_Mo_removeEvent_119 : decode b_Mo_removeEvent 119 = .ok (.getfield 133, 3) := by decide +kernel
theorem d_Mo_removeEvent_122 : decode b_Mo_removeEvent 122 = .ok (.iload_n 2, 1) := by decide +kernel
theorem d_Mo_removeEvent_123 : decode b_Mo_removeEvent 123 = .ok (.aload_n 0, 1) := by decide +kernel
theorem d_Mo_removeEvent_124 : decode b_Mo_removeEvent 124 = .ok (.getfield 133, 3) := by decide +kernel
theorem d_Mo_removeEvent_127 : decode b_Mo_removeEvent 127 = .ok (.iload_n 2, 1) := by decide +kernel
theorem d_Mo_removeEvent_128 : decode b_Mo_removeEvent 128 = .ok (.iconst 1, 1) := by decide +kernel
theorem d_Mo_removeEvent_129 : decode b_Mo_removeEvent 129 = .ok (.iadd, 1) := by decide +kernel
theorem d_Mo_removeEvent_130 : decode b_Mo_removeEvent 130 = .ok (.iaload, 1) := by decide +kernel
theorem d_Mo_removeEvent_131 : decode b_Mo_removeEvent 131 = .ok (.iastore, 1) := by decide +kernel
theorem d_Mo_removeEvent_132 : decode b_Mo_removeEvent 132 = .ok (.iinc 2 1, 3) := by decide +kernel
theorem d_Mo_removeEvent_135 : decode b_Mo_removeEvent 135 = .ok (.goto (-123), 3) := by decide +kernel
theorem d_Mo_removeEvent_138 : decode b_Mo_removeEvent 138 = .ok (.return_, 1) := by decide +kernel
set_option maxRecDepth 100000 in
set_option maxHeartbeats 4000000 in
theorem c_Mo_removeEvent (l : Launch) (D : va_G) (ca : Nat → ClassId) (ad : Nat → Nat) (L : List Nat) (f0 : Nat → va_E) (sz : Nat) (σ0 : mq_S) (hM : mq_B ca ad σ0 L f0) (j1 : Nat) (q1 : j1 ≤ 47) (z1 : Nat) (o0 : σ0.1 43 = nI z1) (hz : j1 < z1) (hy : z1 ≤ 48) :
    Met l y_Mo_removeEvent (Cond.code y_Mo_removeEvent b_Mo_removeEvent 3 none :: wg) { frames := 0, cells := 0, slots := 0, locals := 0 } (va_Pc [.ref (ad 71), .int (nI j1)] (sm_P D cl_all (ty_s ca) ek L f0 sz)) (sm_Qv D (ty_s ca) L f0 sz (fun u => mq_po ca ad L σ0 [43, 45, 46, 47, 48, 49, 50, 51, 52] (fun σ => σ.1 43 = nI (z1 - 1) ∧ True) u)) 0 0 (va_A (va_pl L f0) sz) := by
  refine sm_start (by decide) (Nat.le_of_ble_eq_true rfl) ?_
  intro p e s m below meth c ls hx hb hml hr hlk hnm hts hown hsz hE hI hl
  have hl : lv_has ls 3 [(0, .ref (ad 71)), (1, .int (nI j1))] := hl
  have hF : mq_fr [43, 45, 46, 47, 48, 49, 50, 51, 52] σ0 σ0 := mq_fr_rf
  have hJ_12 : ∀ (N k : Nat) (H : Heap) (locs : List Loc) (f : Nat → va_E) (σ : mq_S) (ls : Array Slot) , 48 + 1 - k ≤ N → k ≤ 48 → sw_I D cl_all (ty_s ca) (va_A (va_pl L f0) sz) s H locs L f → mq_B ca ad σ L f → mq_fr [43, 45, 46, 47, 48, 49, 50, 51, 52] σ0 σ → lv_has ls 3 [(0, .ref (ad 71)), (1, .int (nI j1)), (2, .int (nI k))] → (σ.1 43 = nI (z1 - 1)) → W p l e { frames := 0, cells := 0, slots := 0, locals := 0 } s m ([.ref (ad 71), .int (nI j1)] : List Value).toArray below meth c H locs 0 0 (MQ below (sm_Qv D (ty_s ca) L f0 sz (fun u => mq_po ca ad L σ0 [43, 45, 46, 47, 48, 49, 50, 51, 52] (fun σ => σ.1 43 = nI (z1 - 1) ∧ True) u)) ([.ref (ad 71), .int (nI j1)] : List Value).toArray s 0 0 (va_A (va_pl L f0) sz)) (F0 m 12 ls []) := by
    intro N
    induction N with
    | zero => intros; omega
    | succ N ih =>
      intro k H locs f σ ls  hN hk hI hM hF hl o90
      refine lv_iload_n hx hb d_Mo_removeEvent_12 rfl (lv_at hl 2 rfl) ?_
      refine lv_aload_n hx hb d_Mo_removeEvent_13 rfl (lv_at hl 0 rfl) ?_
      refine mq_get (k := 43) (v := .int (nI (z1 - 1))) hx hb hts hown hI hM (by decide) (congrArg (fun z => some (Value.int z)) o90) rfl (hts _ tw_1212) d_Mo_removeEvent_14 ?_
      refine lv_icmp_ge (tgt := 138) hx hb d_Mo_removeEvent_17 (by decide) (fun c_1 => ?_) (fun c_1 => ?_)
      · have k_2 : (z1 - 1) ≤ k := (nI_leI (a := (z1 - 1)) (b := k) (by omega) (by omega)).mp c_1
        exact sm_vret hx hb hr hlk hI ⟨σ, rfl, hM, hF, ⟨(Eq.trans o90 (congrArg nI (show ((z1 - 1) : Nat) = z1 - 1 by omega))), trivial⟩⟩ d_Mo_removeEvent_138
      · have k_3 : k < (z1 - 1) := Nat.lt_of_not_le (fun q => c_1 ((nI_leI (a := (z1 - 1)) (b := k) (by omega) (by omega)).mpr q))
        refine lv_aload_n hx hb d_Mo_removeEvent_20 rfl (lv_at hl 0 rfl) ?_
        refine mq_get (k := 45) (v := .ref (ad 45)) hx hb hts hown hI hM (by decide) rfl rfl (hts _ tw_1214) d_Mo_removeEvent_21 ?_
        refine lv_iload_n hx hb d_Mo_removeEvent_24 rfl (lv_at hl 2 rfl) ?_
        refine lv_aload_n hx hb d_Mo_removeEvent_25 rfl (lv_at hl 0 rfl) ?_
        refine mq_get (k := 45) (v := .ref (ad 45)) hx hb hts hown hI hM (by decide) rfl rfl (hts _ tw_1214) d_Mo_removeEvent_26 ?_
        refine lv_iload_n hx hb d_Mo_removeEvent_29 rfl (lv_at hl 2 rfl) ?_
        refine lv_iconst (v := 1) hx hb d_Mo_removeEvent_30 (by decide) ?_
        refine lv_iadd hx hb d_Mo_removeEvent_31 ?_
        refine lv_topi (fun x_4 e_5 => ?_)
        obtain rfl : x_4 = nI (k + 1) := by rw [e_5]; exact nI_add _ _
        obtain ⟨x_6, e_7⟩ : ∃ z, σ.2.2.1 45 ((k + 1)) = z := ⟨_, rfl⟩
        refine mq_iald (k := 45) (j := (k + 1)) (v := x_6) hx hb hI hM (by decide) rfl (by show (k + 1) < 48; omega) (by decide) e_7 d_Mo_removeEvent_32 ?_
        refine mq_iast (k := 45) (j := k) (x := x_6) hx hb hI hM (by decide) rfl (by show k < 48; omega) (by decide) trivial d_Mo_removeEvent_33 (fun H locs f σ_8 e_9 hI hM => ?_)
        have hF := mq_fr_ug hF e_9 rfl (Or.inl rfl)
        have o_10 : σ_8.1 43 = nI (z1 - 1) := by rw [e_9]; exact o90
        refine lv_aload_n hx hb d_Mo_removeEvent_34 rfl (lv_at hl 0 rfl) ?_
        refine mq_get (k := 46) (v := .ref (ad 46)) hx hb hts hown hI hM (by decide) rfl rfl (hts _ tw_1215) d_Mo_removeEvent_35 ?_
        refine lv_iload_n hx hb d_Mo_removeEvent_38 rfl (lv_at hl 2 rfl) ?_
        refine lv_aload_n hx hb d_Mo_removeEvent_39 rfl (lv_at hl 0 rfl) ?_
        refine mq_get (k := 46) (v := .ref (ad 46)) hx hb hts hown hI hM (by decide) rfl rfl (hts _ tw_1215) d_Mo_removeEvent_40 ?_
        refine lv_iload_n hx hb d_Mo_removeEvent_43 rfl (lv_at hl 2 rfl) ?_
        refine lv_iconst (v := 1) hx hb d_Mo_removeEvent_44 (by decide) ?_
        refine lv_iadd hx hb d_Mo_removeEvent_45 ?_
        refine lv_topi (fun x_11 e_12 => ?_)
        obtain rfl : x_11 = nI (k + 1) := by rw [e_12]; exact nI_add _ _
        obtain ⟨n_13, h_14, h_15, e_16⟩ := hM.2.2.2.2.2 46 ((k + 1))
        refine mq_iald (k := 46) (j := (k + 1)) (v := nI n_13) hx hb hI hM (by decide) rfl (by show (k + 1) < 48; omega) (by decide) e_16 d_Mo_removeEvent_46 ?_
        refine mq_iast (k := 46) (j := k) (x := nI n_13) hx hb hI hM (by decide) rfl (by show k < 48; omega) (by decide) ⟨n_13, by omega, by omega, rfl⟩ d_Mo_removeEvent_47 (fun H locs f σ_17 e_18 hI hM => ?_)
        have hF := mq_fr_ug hF e_18 rfl (Or.inl rfl)
        have o_19 : σ_17.1 43 = nI (z1 - 1) := by rw [e_18]; exact o_10
        refine lv_aload_n hx hb d_Mo_removeEvent_48 rfl (lv_at hl 0 rfl) ?_
        refine mq_get (k := 47) (v := .ref (ad 47)) hx hb hts hown hI hM (by decide) rfl rfl (hts _ tw_1216) d_Mo_removeEvent_49 ?_
        refine lv_iload_n hx hb d_Mo_removeEvent_52 rfl (lv_at hl 2 rfl) ?_
        refine lv_aload_n hx hb d_Mo_removeEvent_53 rfl (lv_at hl 0 rfl) ?_
        refine mq_get (k := 47) (v := .ref (ad 47)) hx hb hts hown hI hM (by decide) rfl rfl (hts _ tw_1216) d_Mo_removeEvent_54 ?_
        refine lv_iload_n hx hb d_Mo_removeEvent_57 rfl (lv_at hl 2 rfl) ?_
        refine lv_iconst (v := 1) hx hb d_Mo_removeEvent_58 (by decide) ?_
        refine lv_iadd hx hb d_Mo_removeEvent_59 ?_
        refine lv_topi (fun x_20 e_21 => ?_)
        obtain rfl : x_20 = nI (k + 1) := by rw [e_21]; exact nI_add _ _
        obtain ⟨x_22, e_23⟩ : ∃ z, σ_17.2.2.1 47 ((k + 1)) = z := ⟨_, rfl⟩
        refine mq_iald (k := 47) (j := (k + 1)) (v := x_22) hx hb hI hM (by decide) rfl (by show (k + 1) < 48; omega) (by decide) e_23 d_Mo_removeEvent_60 ?_
        refine mq_iast (k := 47) (j := k) (x := x_22) hx hb hI hM (by decide) rfl (by show k < 48; omega) (by decide) trivial d_Mo_removeEvent_61 (fun H locs f σ_24 e_25 hI hM => ?_)
        have hF := mq_fr_ug hF e_25 rfl (Or.inl rfl)
        have o_26 : σ_24.1 43 = nI (z1 - 1) := by rw [e_25]; exact o_19
        refine lv_aload_n hx hb d_Mo_removeEvent_62 rfl (lv_at hl 0 rfl) ?_
        refine mq_get (k := 48) (v := .ref (ad 48)) hx hb hts hown hI hM (by decide) rfl rfl (hts _ tw_1217) d_Mo_removeEvent_63 ?_
        refine lv_iload_n hx hb d_Mo_removeEvent_66 rfl (lv_at hl 2 rfl) ?_
        refine lv_aload_n hx hb d_Mo_removeEvent_67 rfl (lv_at hl 0 rfl) ?_
        refine mq_get (k := 48) (v := .ref (ad 48)) hx hb hts hown hI hM (by decide) rfl rfl (hts _ tw_1217) d_Mo_removeEvent_68 ?_
        refine lv_iload_n hx hb d_Mo_removeEvent_71 rfl (lv_at hl 2 rfl) ?_
        refine lv_iconst (v := 1) hx hb d_Mo_removeEvent_72 (by decide) ?_
        refine lv_iadd hx hb d_Mo_removeEvent_73 ?_
        refine lv_topi (fun x_27 e_28 => ?_)
        obtain rfl : x_27 = nI (k + 1) := by rw [e_28]; exact nI_add _ _
        obtain ⟨x_29, e_30⟩ : ∃ z, σ_24.2.2.1 48 ((k + 1)) = z := ⟨_, rfl⟩
        refine mq_iald (k := 48) (j := (k + 1)) (v := x_29) hx hb hI hM (by decide) rfl (by show (k + 1) < 48; omega) (by decide) e_30 d_Mo_removeEvent_74 ?_
        refine mq_iast (k := 48) (j := k) (x := x_29) hx hb hI hM (by decide) rfl (by show k < 48; omega) (by decide) trivial d_Mo_removeEvent_75 (fun H locs f σ_31 e_32 hI hM => ?_)
        have hF := mq_fr_ug hF e_32 rfl (Or.inl rfl)
        have o_33 : σ_31.1 43 = nI (z1 - 1) := by rw [e_32]; exact o_26
        refine lv_aload_n hx hb d_Mo_removeEvent_76 rfl (lv_at hl 0 rfl) ?_
        refine mq_get (k := 49) (v := .ref (ad 49)) hx hb hts hown hI hM (by decide) rfl rfl (hts _ tw_1218) d_Mo_removeEvent_77 ?_
        refine lv_iload_n hx hb d_Mo_removeEvent_80 rfl (lv_at hl 2 rfl) ?_
        refine lv_aload_n hx hb d_Mo_removeEvent_81 rfl (lv_at hl 0 rfl) ?_
        refine mq_get (k := 49) (v := .ref (ad 49)) hx hb hts hown hI hM (by decide) rfl rfl (hts _ tw_1218) d_Mo_removeEvent_82 ?_
        refine lv_iload_n hx hb d_Mo_removeEvent_85 rfl (lv_at hl 2 rfl) ?_
        refine lv_iconst (v := 1) hx hb d_Mo_removeEvent_86 (by decide) ?_
        refine lv_iadd hx hb d_Mo_removeEvent_87 ?_
        refine lv_topi (fun x_34 e_35 => ?_)
        obtain rfl : x_34 = nI (k + 1) := by rw [e_35]; exact nI_add _ _
        obtain ⟨x_36, e_37⟩ : ∃ z, σ_31.2.2.1 49 ((k + 1)) = z := ⟨_, rfl⟩
        refine mq_iald (k := 49) (j := (k + 1)) (v := x_36) hx hb hI hM (by decide) rfl (by show (k + 1) < 48; omega) (by decide) e_37 d_Mo_removeEvent_88 ?_
        refine mq_iast (k := 49) (j := k) (x := x_36) hx hb hI hM (by decide) rfl (by show k < 48; omega) (by decide) trivial d_Mo_removeEvent_89 (fun H locs f σ_38 e_39 hI hM => ?_)
        have hF := mq_fr_ug hF e_39 rfl (Or.inl rfl)
        have o_40 : σ_38.1 43 = nI (z1 - 1) := by rw [e_39]; exact o_33
        refine lv_aload_n hx hb d_Mo_removeEvent_90 rfl (lv_at hl 0 rfl) ?_
        refine mq_get (k := 50) (v := .ref (ad 50)) hx hb hts hown hI hM (by decide) rfl rfl (hts _ tw_1219) d_Mo_removeEvent_91 ?_
        refine lv_iload_n hx hb d_Mo_removeEvent_94 rfl (lv_at hl 2 rfl) ?_
        refine lv_aload_n hx hb d_Mo_removeEvent_95 rfl (lv_at hl 0 rfl) ?_
        refine mq_get (k := 50) (v := .ref (ad 50)) hx hb hts hown hI hM (by decide) rfl rfl (hts _ tw_1219) d_Mo_removeEvent_96 ?_
        refine lv_iload_n hx hb d_Mo_removeEvent_99 rfl (lv_at hl 2 rfl) ?_
        refine lv_iconst (v := 1) hx hb d_Mo_removeEvent_100 (by decide) ?_
        refine lv_iadd hx hb d_Mo_removeEvent_101 ?_
        refine lv_topi (fun x_41 e_42 => ?_)
        obtain rfl : x_41 = nI (k + 1) := by rw [e_42]; exact nI_add _ _
        refine mq_lald (k := 50) (j := (k + 1)) hx hb hI hM (by decide) rfl (by show (k + 1) < 48; omega) (by decide) d_Mo_removeEvent_102 ?_
        refine lv_topl (fun x_43 e_44 => ?_)
        refine mq_last (k := 50) (j := k) hx hb hI hM (by decide) rfl (by show k < 48; omega) (by decide) d_Mo_removeEvent_103 (fun H locs f σ_45 e_46 hI hM => ?_)
        have hF := mq_fr_uh hF e_46 rfl
        have o_47 : σ_45.1 43 = nI (z1 - 1) := by rw [e_46]; exact o_40
        refine lv_aload_n hx hb d_Mo_removeEvent_104 rfl (lv_at hl 0 rfl) ?_
        refine mq_get (k := 51) (v := .ref (ad 51)) hx hb hts hown hI hM (by decide) rfl rfl (hts _ tw_1220) d_Mo_removeEvent_105 ?_
        refine lv_iload_n hx hb d_Mo_removeEvent_108 rfl (lv_at hl 2 rfl) ?_
        refine lv_aload_n hx hb d_Mo_removeEvent_109 rfl (lv_at hl 0 rfl) ?_
        refine mq_get (k := 51) (v := .ref (ad 51)) hx hb hts hown hI hM (by decide) rfl rfl (hts _ tw_1220) d_Mo_removeEvent_110 ?_
        refine lv_iload_n hx hb d_Mo_removeEvent_113 rfl (lv_at hl 2 rfl) ?_
        refine lv_iconst (v := 1) hx hb d_Mo_removeEvent_114 (by decide) ?_
        refine lv_iadd hx hb d_Mo_removeEvent_115 ?_
        refine lv_topi (fun x_48 e_49 => ?_)
        obtain rfl : x_48 = nI (k + 1) := by rw [e_49]; exact nI_add _ _
        obtain ⟨n_50, h_51, h_52, e_53⟩ := hM.2.2.2.2.2 51 ((k + 1))
        have p_54 : nI n_50 = 0 ∨ nI n_50 = 1 := mq_zok ⟨n_50, h_51, h_52, rfl⟩
        refine mq_zald (k := 51) (j := (k + 1)) (v := nI n_50) hx hb hI hM (by decide) rfl (by show (k + 1) < 48; omega) (by decide) e_53 d_Mo_removeEvent_116 ?_
        refine mq_zast (k := 51) (j := k) hx hb hI hM (by decide) rfl (by show k < 48; omega) (by decide) rfl p_54 d_Mo_removeEvent_117 (fun H locs f σ_55 e_56 hI hM => ?_)
        have hF := mq_fr_ug hF e_56 rfl (Or.inl rfl)
        have o_57 : σ_55.1 43 = nI (z1 - 1) := by rw [e_56]; exact o_47
        refine lv_aload_n hx hb d_Mo_removeEvent_118 rfl (lv_at hl 0 rfl) ?_
        refine mq_get (k := 52) (v := .ref (ad 52)) hx hb hts hown hI hM (by decide) rfl rfl (hts _ tw_1221) d_Mo_removeEvent_119 ?_
        refine lv_iload_n hx hb d_Mo_removeEvent_122 rfl (lv_at hl 2 rfl) ?_
        refine lv_aload_n hx hb d_Mo_removeEvent_123 rfl (lv_at hl 0 rfl) ?_
        refine mq_get (k := 52) (v := .ref (ad 52)) hx hb hts hown hI hM (by decide) rfl rfl (hts _ tw_1221) d_Mo_removeEvent_124 ?_
        refine lv_iload_n hx hb d_Mo_removeEvent_127 rfl (lv_at hl 2 rfl) ?_
        refine lv_iconst (v := 1) hx hb d_Mo_removeEvent_128 (by decide) ?_
        refine lv_iadd hx hb d_Mo_removeEvent_129 ?_
        refine lv_topi (fun x_58 e_59 => ?_)
        obtain rfl : x_58 = nI (k + 1) := by rw [e_59]; exact nI_add _ _
        obtain ⟨x_60, e_61⟩ : ∃ z, σ_55.2.2.1 52 ((k + 1)) = z := ⟨_, rfl⟩
        refine mq_iald (k := 52) (j := (k + 1)) (v := x_60) hx hb hI hM (by decide) rfl (by show (k + 1) < 48; omega) (by decide) e_61 d_Mo_removeEvent_130 ?_
        refine mq_iast (k := 52) (j := k) (x := x_60) hx hb hI hM (by decide) rfl (by show k < 48; omega) (by decide) trivial d_Mo_removeEvent_131 (fun H locs f σ_62 e_63 hI hM => ?_)
        have hF := mq_fr_ug hF e_63 rfl (Or.inl rfl)
        have o_64 : σ_62.1 43 = nI (z1 - 1) := by rw [e_63]; exact o_57
        refine lv_iinc (v := nI (k + 1)) (lv' := [(2, .int (nI (k + 1))), (0, .ref (ad 71)), (1, .int (nI j1))]) hx hb d_Mo_removeEvent_132 hl (k := 2) rfl (nI_1 _) (by decide) rfl (fun ls hl => ?_)
        refine lv_goto (tgt := 12) hx hb d_Mo_removeEvent_135 (by decide) ?_
        exact ih ((k + 1)) _ _ _ _ _  (by omega) (by omega) hI hM hF (lv_sub hl [1, 2, 0] rfl) (Eq.trans o_64 (congrArg nI (show ((z1 - 1) : Nat) = _ by omega)))
  refine lv_aload_n hx hb d_Mo_removeEvent_0 rfl (lv_at hl 0 rfl) ?_
  refine lv_dup hx hb d_Mo_removeEvent_1 rfl ?_
  refine mq_get (k := 43) (v := .int (nI z1)) hx hb hts hown hI hM (by decide) (congrArg (fun z => some (Value.int z)) o0) rfl (hts _ tw_1212) d_Mo_removeEvent_2 ?_
  refine lv_iconst (v := 1) hx hb d_Mo_removeEvent_5 (by decide) ?_
  refine lv_isub hx hb d_Mo_removeEvent_6 ?_
  refine lv_topi (fun x_65 e_66 => ?_)
  obtain rfl : x_65 = nI (z1 - 1) := by rw [e_66]; exact pk_sub (a := z1) (b := 1) (by omega)
  refine mq_puti (k := 43) (ty := .int) hx hb hts hown hI hM (by decide) rfl rfl (hts _ tw_1212) rfl (by decide +kernel) rfl rfl ⟨(z1 - 1), by omega, by omega, rfl⟩ d_Mo_removeEvent_7 (fun H locs f σ_67 e_68 hI hM => ?_)
  have hF := mq_fr_ui hF e_68 rfl
  have o_69 := mq_uik e_68
  refine lv_iload_n hx hb d_Mo_removeEvent_10 rfl (lv_at hl 1 rfl) ?_
  refine lv_istore_n (lv' := [(2, .int (nI j1)), (0, .ref (ad 71)), (1, .int (nI j1))]) hx hb d_Mo_removeEvent_11 rfl hl (by decide) rfl (fun ls hl => ?_)
  exact hJ_12 _ (j1) _ _ _ _ _  (Nat.le_refl _) (by omega) hI hM hF (lv_sub hl [1, 2, 0] rfl) (Eq.trans o_69 (congrArg nI (show ((z1 - 1) : Nat) = _ by omega)))
theorem d_Mo_newEvent_0 : decode b_Mo_newEvent 0 = .ok (.aload_n 0, 1) := by decide +kernel
theorem d_Mo_newEvent_1 : decode b_Mo_newEvent 1 = .ok (.getfield 247, 3) := by decide +kernel
theorem d_Mo_newEvent_4 : decode b_Mo_newEvent 4 = .ok (.bipush 48, 2) := by decide +kernel
theorem d_Mo_newEvent_6 : decode b_Mo_newEvent 6 = .ok (.if_icmp .ne 52, 3) := by decide +kernel
theorem d_Mo_newEvent_9 : decode b_Mo_newEvent 9 = .ok (.aload_n 0, 1) := by decide +kernel
theorem d_Mo_newEvent_10 : decode b_Mo_newEvent 10 = .ok (.dup, 1) := by decide +kernel
theorem d_Mo_newEvent_11 : decode b_Mo_newEvent 11 = .ok (.getfield 250, 3) := by decide +kernel
theorem d_Mo_newEvent_14 : decode b_Mo_newEvent 14 = .ok (.iconst 1, 1) := by decide +kernel
theorem d_Mo_newEvent_15 : decode b_Mo_newEvent 15 = .ok (.iadd, 1) := by decide +kernel
theorem d_Mo_newEvent_16 : decode b_Mo_newEvent 16 = .ok (.putfield 250, 3) := by decide +kernel
theorem d_Mo_newEvent_19 : decode b_Mo_newEvent 19 = .ok (.iconst 0, 1) := by decide +kernel
theorem d_Mo_newEvent_20 : decode b_Mo_newEvent 20 = .ok (.istore_n 2, 1) := by decide +kernel
theorem d_Mo_newEvent_21 : decode b_Mo_newEvent 21 = .ok (.iload_n 2, 1) := by decide +kernel
theorem d_Mo_newEvent_22 : decode b_Mo_newEvent 22 = .ok (.aload_n 0, 1) := by decide +kernel
theorem d_Mo_newEvent_23 : decode b_Mo_newEvent 23 = .ok (.getfield 247, 3) := by decide +kernel
theorem d_Mo_newEvent_26 : decode b_Mo_newEvent 26 = .ok (.if_icmp .ge 18, 3) := by decide +kernel
theorem d_Mo_newEvent_29 : decode b_Mo_newEvent 29 = .ok (.aload_n 0, 1) := by decide +kernel
theorem d_Mo_newEvent_30 : decode b_Mo_newEvent 30 = .ok (.getfield 133, 3) := by decide +kernel
theorem d_Mo_newEvent_33 : decode b_Mo_newEvent 33 = .ok (.iload_n 2, 1) := by decide +kernel
theorem d_Mo_newEvent_34 : decode b_Mo_newEvent 34 = .ok (.iaload, 1) := by decide +kernel
theorem d_Mo_newEvent_35 : decode b_Mo_newEvent 35 = .ok (.ifCond .lt 9, 3) := by decide +kernel
theorem d_Mo_newEvent_38 : decode b_Mo_newEvent 38 = .ok (.iinc 2 1, 3) := by decide +kernel
theorem d_Mo_newEvent_41 : decode b_Mo_newEvent 41 = .ok (.goto (-20), 3) := by decide +kernel
theorem d_Mo_newEvent_44 : decode b_Mo_newEvent 44 = .ok (.iload_n 2, 1) := by decide +kernel
theorem d_Mo_newEvent_45 : decode b_Mo_newEvent 45 = .ok (.aload_n 0, 1) := by decide +kernel
theorem d_Mo_newEvent_46 : decode b_Mo_newEvent 46 = .ok (.getfield 247, 3) := by decide +kernel
theorem d_Mo_newEvent_49 : decode b_Mo_newEvent 49 = .ok (.if_icmp .ne 4, 3) := by decide +kernel
theorem d_Mo_newEvent_52 : decode b_Mo_newEvent 52 = .ok (.return_, 1) := by decide +kernel
theorem d_Mo_newEvent_53 : decode b_Mo_newEvent 53 = .ok (.aload_n 0, 1) := by decide +kernel
theorem d_Mo_newEvent_54 : decode b_Mo_newEvent 54 = .ok (.iload_n 2, 1) := by decide +kernel
theorem d_Mo_newEvent_55 : decode b_Mo_newEvent 55 = .ok (.invokevirtual 253, 3) := by decide +kernel
theorem d_Mo_newEvent_58 : decode b_Mo_newEvent 58 = .ok (.aload_n 0, 1) := by decide +kernel
theorem d_Mo_newEvent_59 : decode b_Mo_newEvent 59 = .ok (.getfield 247, 3) := by decide +kernel
theorem d_Mo_newEvent_62 : decode b_Mo_newEvent 62 = .ok (.istore_n 2, 1) := by decide +kernel
theorem d_Mo_newEvent_63 : decode b_Mo_newEvent 63 = .ok (.aload_n 0, 1) := by decide +kernel
theorem d_Mo_newEvent_64 : decode b_Mo_newEvent 64 = .ok (.getfield 112, 3) := by decide +kernel
theorem d_Mo_newEvent_67 : decode b_Mo_newEvent 67 = .ok (.iload_n 2, 1) := by decide +kernel
theorem d_Mo_newEvent_68 : decode b_Mo_newEvent 68 = .ok (.aload_n 0, 1) := by decide +kernel
theorem d_Mo_newEvent_69 : decode b_Mo_newEvent 69 = .ok (.getfield 256, 3) := by decide +kernel
theorem d_Mo_newEvent_72 : decode b_Mo_newEvent 72 = .ok (.iastore, 1) := by decide +kernel
theorem d_Mo_newEvent_73 : decode b_Mo_newEvent 73 = .ok (.aload_n 0, 1) := by decide +kernel
theorem d_Mo_newEvent_74 : decode b_Mo_newEvent 74 = .ok (.getfield 115, 3) := by decide +kernel
theorem d_Mo_newEvent_77 : decode b_Mo_newEvent 77 = .ok (.iload_n 2, 1) := by decide +kernel
theorem d_Mo_newEvent_78 : decode b_Mo_newEvent 78 = .ok (.iload_n 1, 1) := by decide +kernel
theorem d_Mo_newEvent_79 : decode b_Mo_newEvent 79 = .ok (.iastore, 1) := by decide +kernel
theorem d_Mo_newEvent_80 : decode b_Mo_newEvent 80 = .ok (.aload_n 0, 1) := by decide +kernel
theorem d_Mo_newEvent_81 : decode b_Mo_newEvent 81 = .ok (.getfield 118, 3) := by decide +kernel
theorem d_Mo_newEvent_84 : decode b_Mo_newEvent 84 = .ok (.iload_n 2, 1) := by decide +kernel
theorem d_Mo_newEvent_85 : decode b_Mo_newEvent 85 = .ok (.aload_n 0, 1) := by decide +kernel
theorem d_Mo_newEvent_86 : decode b_Mo_newEvent 86 = .ok (.getfield 23, 3) := by decide +kernel
theorem d_Mo_newEvent_89 : decode b_Mo_newEvent 89 = .ok (.iload_n 1, 1) := by decide +kernel
theorem d_Mo_newEvent_90 : decode b_Mo_newEvent 90 = .ok (.iaload, 1) := by decide +kernel
theorem d_Mo_newEvent_91 : decode b_Mo_newEvent 91 = .ok (.iastore, 1) := by decide +kernel
theorem d_Mo_newEvent_92 : decode b_Mo_newEvent 92 = .ok (.aload_n 0, 1) := by decide +kernel
theorem d_Mo_newEvent_93 : decode b_Mo_newEvent 93 = .ok (.getfield 121, 3) := by decide +kernel
theorem d_Mo_newEvent_96 : decode b_Mo_newEvent 96 = .ok (.iload_n 2, 1) := by decide +kernel
theorem d_Mo_newEvent_97 : decode b_Mo_newEvent 97 = .ok (.aload_n 0, 1) := by decide +kernel
theorem d_Mo_newEvent_98 : decode b_Mo_newEvent 98 = .ok (.getfield 26, 3) := by decide +kernel
theorem d_Mo_newEvent_101 : decode b_Mo_newEvent 101 = .ok (.iload_n 1, 1) := by decide +kernel
theorem d_Mo_newEvent_102 : decode b_Mo_newEvent 102 = .ok (.iaload, 1) := by decide +kernel
theorem d_Mo_newEvent_103 : decode b_Mo_newEvent 103 = .ok (.iastore, 1) := by decide +kernel
theorem d_Mo_newEvent_104 : decode b_Mo_newEvent 104 = .ok (.aload_n 0, 1) := by decide +kernel
theorem d_Mo_newEvent_105 : decode b_Mo_newEvent 105 = .ok (.getfield 124, 3) := by decide +kernel
theorem d_Mo_newEvent_108 : decode b_Mo_newEvent 108 = .ok (.iload_n 2, 1) := by decide +kernel
theorem d_Mo_newEvent_109 : decode b_Mo_newEvent 109 = .ok (.aload_n 0, 1) := by decide +kernel
theorem d_Mo_newEvent_110 : decode b_Mo_newEvent 110 = .ok (.getfield 259, 3) := by decide +kernel
theorem d_Mo_newEvent_113 : decode b_Mo_newEvent 113 = .ok (.iastore, 1) := by decide +kernel
theorem d_Mo_newEvent_114 : decode b_Mo_newEvent 114 = .ok (.aload_n 0, 1) := by decide +kernel
theorem d_Mo_newEvent_115 : decode b_Mo_newEvent 115 = .ok (.getfield 127, 3) := by decide +kernel
theorem d_Mo_newEvent_118 : decode b_Mo_newEvent 118 = .ok (.iload_n 2, 1) := by decide +kernel
theorem d_Mo_newEvent_119 : decode b_Mo_newEvent 119 = .ok (.aload_n 0, 1) := by decide +kernel
theorem d_Mo_newEvent_120 : decode b_Mo_newEvent 120 = .ok (.getfield 239, 3) := by decide +kernel
theorem d_Mo_newEvent_123 : decode b_Mo_newEvent 123 = .ok (.lastore, 1) := by decide +kernel
theorem d_Mo_newEvent_124 : decode b_Mo_newEvent 124 = .ok (.aload_n 0, 1) := by decide +kernel
theorem d_Mo_newEvent_125 : decode b_Mo_newEvent 125 = .ok (.getfield 130, 3) := by decide +kernel
theorem d_Mo_newEvent_128 : decode b_Mo_newEvent 128 = .ok (.iload_n 2, 1) := by decide +kernel
theorem d_Mo_newEvent_129 : decode b_Mo_newEvent 129 = .ok (.aload_n 0, 1) := by decide +kernel
theorem d_Mo_newEvent_130 : decode b_Mo_newEvent 130 = .ok (.getfield 243, 3) := by decide +kernel
theorem d_Mo_newEvent_133 : decode b_Mo_newEvent 133 = .ok (.bastore, 1) := by decide +kernel
theorem d_Mo_newEvent_134 : decode b_Mo_newEvent 134 = .ok (.aload_n 0, 1) := by decide +kernel
theorem d_Mo_newEvent_135 : decode b_Mo_newEvent 135 = .ok (.getfield 133, 3) := by decide +kernel
theorem d_Mo_newEvent_138 : decode b_Mo_newEvent 138 = .ok (.iload_n 2, 1) := by decide +kernel
theorem d_Mo_newEvent_139 : decode b_Mo_newEvent 139 = .ok (.iconst (-1), 1) := by decide +kernel
theorem d_Mo_newEvent_140 : decode b_Mo_newEvent 140 = .ok (.iastore, 1) := by decide +kernel
theorem d_Mo_newEvent_141 : decode b_Mo_newEvent 141 = .ok (.aload_n 0, 1) := by decide +kernel
theorem d_Mo_newEvent_142 : decode b_Mo_newEvent 142 = .ok (.dup, 1) := by decide +kernel
theorem d_Mo_newEvent_143 : decode b_Mo_newEvent 143 = .ok (.getfield 247, 3) := by decide +kernel
theorem d_Mo_newEvent_146 : decode b_Mo_newEvent 146 = .ok (.iconst 1, 1) := by decide +kernel
theorem d_Mo_newEvent_147 : decode b_Mo_newEvent 147 = .ok (.iadd, 1) := by decide +kernel
theorem d_Mo_newEvent_148 : decode b_Mo_newEvent 148 = .ok (.putfield 247, 3) := by decide +kernel
theorem d_Mo_newEvent_151 : decode b_Mo_newEvent 151 = .ok (.aload_n 0, 1) := by decide +kernel
theorem d_Mo_newEvent_152 : decode b_Mo_newEvent 152 = .ok (.dup, 1) := by decide +kernel
theorem d_Mo_newEvent_153 : decode b_Mo_newEvent 153 = .ok (.getfield 256, 3) := by decide +kernel
theorem d_Mo_newEvent_156 : decode b_Mo_newEvent 156 = .ok (.iconst 1, 1) := by decide +kernel
theorem d_Mo_newEvent_157 : decode b_Mo_newEvent 157 = .ok (.iadd, 1) := by decide +kernel
theorem d_Mo_newEvent_158 : decode b_Mo_newEvent 158 = .ok (.putfield 256, 3) := by decide +kernel
theorem d_Mo_newEvent_161 : decode b_Mo_newEvent 161 = .ok (.return_, 1) := by decide +kernel
set_option maxRecDepth 100000 in
set_option maxHeartbeats 4000000 in
theorem c_Mo_newEvent (l : Launch) (D : va_G) (ca : Nat → ClassId) (ad : Nat → Nat) (L : List Nat) (f0 : Nat → va_E) (sz : Nat) (σ0 : mq_S) (hM : mq_B ca ad σ0 L f0) (j1 : Nat) (q1 : j1 ≤ 31) :
    Met l y_Mo_newEvent (Cond.code y_Mo_newEvent b_Mo_newEvent 3 none :: wg) { frames := 1, cells := 0, slots := 0, locals := 22 } (va_Pc [.ref (ad 71), .int (nI j1)] (sm_P D cl_all (ty_s ca) ek L f0 sz)) (sm_Qv D (ty_s ca) L f0 sz (fun u => mq_po ca ad L σ0 [43, 44, 45, 46, 47, 48, 49, 50, 51, 52, 53] (fun σ => True) u)) 0 0 (va_A (va_pl L f0) sz) := by
  refine sm_start (by decide) (Nat.le_of_ble_eq_true rfl) ?_
  intro p e s m below meth c ls hx hb hml hr hlk hnm hts hown hsz hE hI hl
  have hl : lv_has ls 3 [(0, .ref (ad 71)), (1, .int (nI j1))] := hl
  have hF : mq_fr [43, 44, 45, 46, 47, 48, 49, 50, 51, 52, 53] σ0 σ0 := mq_fr_rf
  have hJ_58 : ∀ (H : Heap) (locs : List Loc) (f : Nat → va_E) (σ : mq_S) (ls : Array Slot) (w : Nat), sw_I D cl_all (ty_s ca) (va_A (va_pl L f0) sz) s H locs L f → mq_B ca ad σ L f → mq_fr [43, 44, 45, 46, 47, 48, 49, 50, 51, 52, 53] σ0 σ → lv_has ls 3 [(0, .ref (ad 71)), (1, .int (nI j1))] → (0 ≤ w) → (w ≤ 47) → (σ.1 43 = nI w) → W p l e { frames := 1, cells := 0, slots := 0, locals := 22 } s m ([.ref (ad 71), .int (nI j1)] : List Value).toArray below meth c H locs 0 0 (MQ below (sm_Qv D (ty_s ca) L f0 sz (fun u => mq_po ca ad L σ0 [43, 44, 45, 46, 47, 48, 49, 50, 51, 52, 53] (fun σ => True) u)) ([.ref (ad 71), .int (nI j1)] : List Value).toArray s 0 0 (va_A (va_pl L f0) sz)) (F0 m 58 ls []) := by
    intro H locs f σ ls w hI hM hF hl h90a h90b o90
    refine lv_aload_n hx hb d_Mo_newEvent_58 rfl (lv_at hl 0 rfl) ?_
    refine mq_get (k := 43) (v := .int (nI w)) hx hb hts hown hI hM (by decide) (congrArg (fun z => some (Value.int z)) o90) rfl (hts _ tw_1212) d_Mo_newEvent_59 ?_
    refine lv_istore_n (lv' := [(2, .int (nI w)), (0, .ref (ad 71)), (1, .int (nI j1))]) hx hb d_Mo_newEvent_62 rfl hl (by decide) rfl (fun ls hl => ?_)
    refine lv_aload_n hx hb d_Mo_newEvent_63 rfl (lv_at hl 1 rfl) ?_
    refine mq_get (k := 45) (v := .ref (ad 45)) hx hb hts hown hI hM (by decide) rfl rfl (hts _ tw_1214) d_Mo_newEvent_64 ?_
    refine lv_iload_n hx hb d_Mo_newEvent_67 rfl (lv_at hl 0 rfl) ?_
    refine lv_aload_n hx hb d_Mo_newEvent_68 rfl (lv_at hl 1 rfl) ?_
    obtain ⟨x_1, e_2⟩ : ∃ z, σ.1 44 = z := ⟨_, rfl⟩
    refine mq_get (k := 44) (v := .int (x_1)) hx hb hts hown hI hM (by decide) (congrArg (fun z => some (Value.int z)) e_2) rfl (hts _ tw_1213) d_Mo_newEvent_69 ?_
    refine mq_iast (k := 45) (j := w) (x := x_1) hx hb hI hM (by decide) rfl (by show w < 48; omega) (by decide) trivial d_Mo_newEvent_72 (fun H locs f σ_3 e_4 hI hM => ?_)
    have hF := mq_fr_ug hF e_4 rfl (Or.inl rfl)
    have o_5 : σ_3.1 43 = nI w := by rw [e_4]; exact o90
    refine lv_aload_n hx hb d_Mo_newEvent_73 rfl (lv_at hl 1 rfl) ?_
    refine mq_get (k := 46) (v := .ref (ad 46)) hx hb hts hown hI hM (by decide) rfl rfl (hts _ tw_1215) d_Mo_newEvent_74 ?_
    refine lv_iload_n hx hb d_Mo_newEvent_77 rfl (lv_at hl 0 rfl) ?_
    refine lv_iload_n hx hb d_Mo_newEvent_78 rfl (lv_at hl 2 rfl) ?_
    refine mq_iast (k := 46) (j := w) (x := nI j1) hx hb hI hM (by decide) rfl (by show w < 48; omega) (by decide) ⟨j1, by omega, by omega, rfl⟩ d_Mo_newEvent_79 (fun H locs f σ_6 e_7 hI hM => ?_)
    have hF := mq_fr_ug hF e_7 rfl (Or.inl rfl)
    have o_8 : σ_6.1 43 = nI w := by rw [e_7]; exact o_5
    refine lv_aload_n hx hb d_Mo_newEvent_80 rfl (lv_at hl 1 rfl) ?_
    refine mq_get (k := 47) (v := .ref (ad 47)) hx hb hts hown hI hM (by decide) rfl rfl (hts _ tw_1216) d_Mo_newEvent_81 ?_
    refine lv_iload_n hx hb d_Mo_newEvent_84 rfl (lv_at hl 0 rfl) ?_
    refine lv_aload_n hx hb d_Mo_newEvent_85 rfl (lv_at hl 1 rfl) ?_
    refine mq_get (k := 7) (v := .ref (ad 7)) hx hb hts hown hI hM (by decide) rfl rfl (hts _ tw_1176) d_Mo_newEvent_86 ?_
    refine lv_iload_n hx hb d_Mo_newEvent_89 rfl (lv_at hl 2 rfl) ?_
    obtain ⟨x_9, e_10⟩ : ∃ z, σ_6.2.2.1 7 (j1) = z := ⟨_, rfl⟩
    refine mq_iald (k := 7) (j := j1) (v := x_9) hx hb hI hM (by decide) rfl (by show j1 < 32; omega) (by decide) e_10 d_Mo_newEvent_90 ?_
    refine mq_iast (k := 47) (j := w) (x := x_9) hx hb hI hM (by decide) rfl (by show w < 48; omega) (by decide) trivial d_Mo_newEvent_91 (fun H locs f σ_11 e_12 hI hM => ?_)
    have hF := mq_fr_ug hF e_12 rfl (Or.inl rfl)
    have o_13 : σ_11.1 43 = nI w := by rw [e_12]; exact o_8
    refine lv_aload_n hx hb d_Mo_newEvent_92 rfl (lv_at hl 1 rfl) ?_
    refine mq_get (k := 48) (v := .ref (ad 48)) hx hb hts hown hI hM (by decide) rfl rfl (hts _ tw_1217) d_Mo_newEvent_93 ?_
    refine lv_iload_n hx hb d_Mo_newEvent_96 rfl (lv_at hl 0 rfl) ?_
    refine lv_aload_n hx hb d_Mo_newEvent_97 rfl (lv_at hl 1 rfl) ?_
    refine mq_get (k := 8) (v := .ref (ad 8)) hx hb hts hown hI hM (by decide) rfl rfl (hts _ tw_1177) d_Mo_newEvent_98 ?_
    refine lv_iload_n hx hb d_Mo_newEvent_101 rfl (lv_at hl 2 rfl) ?_
    obtain ⟨x_14, e_15⟩ : ∃ z, σ_11.2.2.1 8 (j1) = z := ⟨_, rfl⟩
    refine mq_iald (k := 8) (j := j1) (v := x_14) hx hb hI hM (by decide) rfl (by show j1 < 32; omega) (by decide) e_15 d_Mo_newEvent_102 ?_
    refine mq_iast (k := 48) (j := w) (x := x_14) hx hb hI hM (by decide) rfl (by show w < 48; omega) (by decide) trivial d_Mo_newEvent_103 (fun H locs f σ_16 e_17 hI hM => ?_)
    have hF := mq_fr_ug hF e_17 rfl (Or.inl rfl)
    have o_18 : σ_16.1 43 = nI w := by rw [e_17]; exact o_13
    refine lv_aload_n hx hb d_Mo_newEvent_104 rfl (lv_at hl 1 rfl) ?_
    refine mq_get (k := 49) (v := .ref (ad 49)) hx hb hts hown hI hM (by decide) rfl rfl (hts _ tw_1218) d_Mo_newEvent_105 ?_
    refine lv_iload_n hx hb d_Mo_newEvent_108 rfl (lv_at hl 0 rfl) ?_
    refine lv_aload_n hx hb d_Mo_newEvent_109 rfl (lv_at hl 1 rfl) ?_
    obtain ⟨x_19, e_20⟩ : ∃ z, σ_16.1 9 = z := ⟨_, rfl⟩
    refine mq_get (k := 9) (v := .int (x_19)) hx hb hts hown hI hM (by decide) (congrArg (fun z => some (Value.int z)) e_20) rfl (hts _ tw_1178) d_Mo_newEvent_110 ?_
    refine mq_iast (k := 49) (j := w) (x := x_19) hx hb hI hM (by decide) rfl (by show w < 48; omega) (by decide) trivial d_Mo_newEvent_113 (fun H locs f σ_21 e_22 hI hM => ?_)
    have hF := mq_fr_ug hF e_22 rfl (Or.inl rfl)
    have o_23 : σ_21.1 43 = nI w := by rw [e_22]; exact o_18
    refine lv_aload_n hx hb d_Mo_newEvent_114 rfl (lv_at hl 1 rfl) ?_
    refine mq_get (k := 50) (v := .ref (ad 50)) hx hb hts hown hI hM (by decide) rfl rfl (hts _ tw_1219) d_Mo_newEvent_115 ?_
    refine lv_iload_n hx hb d_Mo_newEvent_118 rfl (lv_at hl 0 rfl) ?_
    refine lv_aload_n hx hb d_Mo_newEvent_119 rfl (lv_at hl 1 rfl) ?_
    refine mq_get (k := 10) (v := .long (σ_21.2.1 10)) hx hb hts hown hI hM (by decide) rfl rfl (hts _ tw_1179) d_Mo_newEvent_120 ?_
    refine lv_topl (fun x_24 e_25 => ?_)
    refine mq_last (k := 50) (j := w) hx hb hI hM (by decide) rfl (by show w < 48; omega) (by decide) d_Mo_newEvent_123 (fun H locs f σ_26 e_27 hI hM => ?_)
    have hF := mq_fr_uh hF e_27 rfl
    have o_28 : σ_26.1 43 = nI w := by rw [e_27]; exact o_23
    refine lv_aload_n hx hb d_Mo_newEvent_124 rfl (lv_at hl 1 rfl) ?_
    refine mq_get (k := 51) (v := .ref (ad 51)) hx hb hts hown hI hM (by decide) rfl rfl (hts _ tw_1220) d_Mo_newEvent_125 ?_
    refine lv_iload_n hx hb d_Mo_newEvent_128 rfl (lv_at hl 0 rfl) ?_
    refine lv_aload_n hx hb d_Mo_newEvent_129 rfl (lv_at hl 1 rfl) ?_
    obtain ⟨n_29, h_30, h_31, e_32⟩ := hM.2.2.2.2.1 11
    have p_33 : nI n_29 = 0 ∨ nI n_29 = 1 := mq_zok ⟨n_29, h_30, h_31, rfl⟩
    refine mq_get (k := 11) (v := .int (nI n_29)) hx hb hts hown hI hM (by decide) (congrArg (fun z => some (Value.int z)) e_32) rfl (hts _ tw_1180) d_Mo_newEvent_130 ?_
    refine mq_zast (k := 51) (j := w) hx hb hI hM (by decide) rfl (by show w < 48; omega) (by decide) rfl p_33 d_Mo_newEvent_133 (fun H locs f σ_34 e_35 hI hM => ?_)
    have hF := mq_fr_ug hF e_35 rfl (Or.inl rfl)
    have o_36 : σ_34.1 43 = nI w := by rw [e_35]; exact o_28
    refine lv_aload_n hx hb d_Mo_newEvent_134 rfl (lv_at hl 1 rfl) ?_
    refine mq_get (k := 52) (v := .ref (ad 52)) hx hb hts hown hI hM (by decide) rfl rfl (hts _ tw_1221) d_Mo_newEvent_135 ?_
    refine lv_iload_n hx hb d_Mo_newEvent_138 rfl (lv_at hl 0 rfl) ?_
    refine lv_iconst (v := -1) hx hb d_Mo_newEvent_139 (by decide) ?_
    refine mq_iast (k := 52) (j := w) (x := -1) hx hb hI hM (by decide) rfl (by show w < 48; omega) (by decide) trivial d_Mo_newEvent_140 (fun H locs f σ_37 e_38 hI hM => ?_)
    have hF := mq_fr_ug hF e_38 rfl (Or.inl rfl)
    have o_39 : σ_37.1 43 = nI w := by rw [e_38]; exact o_36
    refine lv_aload_n hx hb d_Mo_newEvent_141 rfl (lv_at hl 1 rfl) ?_
    refine lv_dup hx hb d_Mo_newEvent_142 rfl ?_
    refine mq_get (k := 43) (v := .int (nI w)) hx hb hts hown hI hM (by decide) (congrArg (fun z => some (Value.int z)) o_39) rfl (hts _ tw_1212) d_Mo_newEvent_143 ?_
    refine lv_iconst (v := 1) hx hb d_Mo_newEvent_146 (by decide) ?_
    refine lv_iadd hx hb d_Mo_newEvent_147 ?_
    refine lv_topi (fun x_40 e_41 => ?_)
    obtain rfl : x_40 = nI (w + 1) := by rw [e_41]; exact nI_add _ _
    refine mq_puti (k := 43) (ty := .int) hx hb hts hown hI hM (by decide) rfl rfl (hts _ tw_1212) rfl (by decide +kernel) rfl rfl ⟨(w + 1), by omega, by omega, rfl⟩ d_Mo_newEvent_148 (fun H locs f σ_42 e_43 hI hM => ?_)
    have hF := mq_fr_ui hF e_43 rfl
    have o_44 := mq_uik e_43
    refine lv_aload_n hx hb d_Mo_newEvent_151 rfl (lv_at hl 1 rfl) ?_
    refine lv_dup hx hb d_Mo_newEvent_152 rfl ?_
    obtain ⟨x_45, e_46⟩ : ∃ z, σ_42.1 44 = z := ⟨_, rfl⟩
    refine mq_get (k := 44) (v := .int (x_45)) hx hb hts hown hI hM (by decide) (congrArg (fun z => some (Value.int z)) e_46) rfl (hts _ tw_1213) d_Mo_newEvent_153 ?_
    refine lv_iconst (v := 1) hx hb d_Mo_newEvent_156 (by decide) ?_
    refine lv_iadd hx hb d_Mo_newEvent_157 ?_
    refine lv_topi (fun x_47 e_48 => ?_)
    refine mq_puti (k := 44) (ty := .int) hx hb hts hown hI hM (by decide) rfl rfl (hts _ tw_1213) rfl (by decide +kernel) rfl rfl trivial d_Mo_newEvent_158 (fun H locs f σ_49 e_50 hI hM => ?_)
    have hF := mq_fr_ui hF e_50 rfl
    have o_51 : σ_49.1 43 = nI (w + 1) := by rw [e_50]; exact o_44
    exact sm_vret hx hb hr hlk hI ⟨σ_49, rfl, hM, hF, trivial⟩ d_Mo_newEvent_161
  have hJ_21 : ∀ (N k : Nat) (H : Heap) (locs : List Loc) (f : Nat → va_E) (σ : mq_S) (ls : Array Slot) , 48 + 1 - k ≤ N → k ≤ 48 → sw_I D cl_all (ty_s ca) (va_A (va_pl L f0) sz) s H locs L f → mq_B ca ad σ L f → mq_fr [43, 44, 45, 46, 47, 48, 49, 50, 51, 52, 53] σ0 σ → lv_has ls 3 [(0, .ref (ad 71)), (1, .int (nI j1)), (2, .int (nI k))] → (σ.1 43 = nI (48)) → W p l e { frames := 1, cells := 0, slots := 0, locals := 22 } s m ([.ref (ad 71), .int (nI j1)] : List Value).toArray below meth c H locs 0 0 (MQ below (sm_Qv D (ty_s ca) L f0 sz (fun u => mq_po ca ad L σ0 [43, 44, 45, 46, 47, 48, 49, 50, 51, 52, 53] (fun σ => True) u)) ([.ref (ad 71), .int (nI j1)] : List Value).toArray s 0 0 (va_A (va_pl L f0) sz)) (F0 m 21 ls []) := by
    intro N
    induction N with
    | zero => intros; omega
    | succ N ih =>
      intro k H locs f σ ls  hN hk hI hM hF hl o90
      refine lv_iload_n hx hb d_Mo_newEvent_21 rfl (lv_at hl 2 rfl) ?_
      refine lv_aload_n hx hb d_Mo_newEvent_22 rfl (lv_at hl 0 rfl) ?_
      refine mq_get (k := 43) (v := .int (nI (48))) hx hb hts hown hI hM (by decide) (congrArg (fun z => some (Value.int z)) o90) rfl (hts _ tw_1212) d_Mo_newEvent_23 ?_
      refine lv_icmp_ge (tgt := 44) hx hb d_Mo_newEvent_26 (by decide) (fun c_52 => ?_) (fun c_52 => ?_)
      · have k_53 : (48) ≤ k := (nI_leI (a := (48)) (b := k) (by omega) (by omega)).mp c_52
        refine lv_iload_n hx hb d_Mo_newEvent_44 rfl (lv_at hl 2 rfl) ?_
        refine lv_aload_n hx hb d_Mo_newEvent_45 rfl (lv_at hl 0 rfl) ?_
        refine mq_get (k := 43) (v := .int (nI (48))) hx hb hts hown hI hM (by decide) (congrArg (fun z => some (Value.int z)) o90) rfl (hts _ tw_1212) d_Mo_newEvent_46 ?_
        refine lv_icmp_ne (tgt := 53) hx hb d_Mo_newEvent_49 (by decide) (fun c_54 => ?_) (fun c_54 => ?_)
        · have k_55 : ¬ k = (48) := (fun q => c_54 ((nI_eq (a := k) (b := (48)) (by omega) (by omega)).mpr q))
          refine lv_aload_n hx hb d_Mo_newEvent_53 rfl (lv_at hl 0 rfl) ?_
          refine lv_iload_n hx hb d_Mo_newEvent_54 rfl (lv_at hl 2 rfl) ?_
          refine sm_vM hI (va_runV (As := [.int (nI k)]) (rest := []) ⟨hx, hb, hml, hown, hts⟩ (c_Mo_removeEvent l D ca ad L _ _ _ hM (k) (by omega) ((48)) o90 (by omega) (by omega)) (kv_Mo_removeEvent hts rfl rfl (hts _ tw_1418) ⟨Nat.le_of_ble_eq_true rfl, Nat.le_of_ble_eq_true rfl⟩) (pv_Mo hI hE hM) rfl rfl hl.1 rfl (lv_room (Nat.le_of_ble_eq_true rfl)) d_Mo_newEvent_55 ⟨Nat.le_of_ble_eq_true rfl, Nat.le_of_ble_eq_true rfl⟩) (fun H locs f σ_57 hI hM hF_58 p_56 => ?_)
          have hF := mq_fr_tr hF hF_58 (by decide)
          obtain ⟨o_59, -⟩ := p_56
          exact hJ_58 _ _ _ _ _ ((((48)) - 1)) hI hM hF (lv_sub hl [0, 1] rfl) (by omega) (by omega) o_59
        · have k_60 : k = (48) := (nI_eq (a := k) (b := (48)) (by omega) (by omega)).mp c_54
          exact sm_vret hx hb hr hlk hI ⟨σ, rfl, hM, hF, trivial⟩ d_Mo_newEvent_52
      · have k_61 : k < (48) := Nat.lt_of_not_le (fun q => c_52 ((nI_leI (a := (48)) (b := k) (by omega) (by omega)).mpr q))
        refine lv_aload_n hx hb d_Mo_newEvent_29 rfl (lv_at hl 0 rfl) ?_
        refine mq_get (k := 52) (v := .ref (ad 52)) hx hb hts hown hI hM (by decide) rfl rfl (hts _ tw_1221) d_Mo_newEvent_30 ?_
        refine lv_iload_n hx hb d_Mo_newEvent_33 rfl (lv_at hl 2 rfl) ?_
        obtain ⟨x_62, e_63⟩ : ∃ z, σ.2.2.1 52 (k) = z := ⟨_, rfl⟩
        refine mq_iald (k := 52) (j := k) (v := x_62) hx hb hI hM (by decide) rfl (by show k < 48; omega) (by decide) e_63 d_Mo_newEvent_34 ?_
        refine lv_if_lt (tgt := 44) hx hb d_Mo_newEvent_35 (by decide) (fun c_64 => ?_) (fun c_64 => ?_)
        · refine lv_iload_n hx hb d_Mo_newEvent_44 rfl (lv_at hl 2 rfl) ?_
          refine lv_aload_n hx hb d_Mo_newEvent_45 rfl (lv_at hl 0 rfl) ?_
          refine mq_get (k := 43) (v := .int (nI (48))) hx hb hts hown hI hM (by decide) (congrArg (fun z => some (Value.int z)) o90) rfl (hts _ tw_1212) d_Mo_newEvent_46 ?_
          refine lv_icmp_ne (tgt := 53) hx hb d_Mo_newEvent_49 (by decide) (fun c_65 => ?_) (fun c_65 => ?_)
          · have k_66 : ¬ k = (48) := (fun q => c_65 ((nI_eq (a := k) (b := (48)) (by omega) (by omega)).mpr q))
            refine lv_aload_n hx hb d_Mo_newEvent_53 rfl (lv_at hl 0 rfl) ?_
            refine lv_iload_n hx hb d_Mo_newEvent_54 rfl (lv_at hl 2 rfl) ?_
            refine sm_vM hI (va_runV (As := [.int (nI k)]) (rest := []) ⟨hx, hb, hml, hown, hts⟩ (c_Mo_removeEvent l D ca ad L _ _ _ hM (k) (by omega) ((48)) o90 (by omega) (by omega)) (kv_Mo_removeEvent hts rfl rfl (hts _ tw_1418) ⟨Nat.le_of_ble_eq_true rfl, Nat.le_of_ble_eq_true rfl⟩) (pv_Mo hI hE hM) rfl rfl hl.1 rfl (lv_room (Nat.le_of_ble_eq_true rfl)) d_Mo_newEvent_55 ⟨Nat.le_of_ble_eq_true rfl, Nat.le_of_ble_eq_true rfl⟩) (fun H locs f σ_68 hI hM hF_69 p_67 => ?_)
            have hF := mq_fr_tr hF hF_69 (by decide)
            obtain ⟨o_70, -⟩ := p_67
            exact hJ_58 _ _ _ _ _ ((((48)) - 1)) hI hM hF (lv_sub hl [0, 1] rfl) (by omega) (by omega) o_70
          · have k_71 : k = (48) := (nI_eq (a := k) (b := (48)) (by omega) (by omega)).mp c_65
            exact sm_vret hx hb hr hlk hI ⟨σ, rfl, hM, hF, trivial⟩ d_Mo_newEvent_52
        · refine lv_iinc (v := nI (k + 1)) (lv' := [(2, .int (nI (k + 1))), (0, .ref (ad 71)), (1, .int (nI j1))]) hx hb d_Mo_newEvent_38 hl (k := 2) rfl (nI_1 _) (by decide) rfl (fun ls hl => ?_)
          refine lv_goto (tgt := 21) hx hb d_Mo_newEvent_41 (by decide) ?_
          exact ih ((k + 1)) _ _ _ _ _  (by omega) (by omega) hI hM hF (lv_sub hl [1, 2, 0] rfl) (Eq.trans o90 (congrArg nI (show ((48) : Nat) = _ by omega)))
  refine lv_aload_n hx hb d_Mo_newEvent_0 rfl (lv_at hl 0 rfl) ?_
  obtain ⟨n_72, h_73, h_74, e_75⟩ := hM.2.2.2.2.1 43
  refine mq_get (k := 43) (v := .int (nI n_72)) hx hb hts hown hI hM (by decide) (congrArg (fun z => some (Value.int z)) e_75) rfl (hts _ tw_1212) d_Mo_newEvent_1 ?_
  refine lv_bipush (v := 48) hx hb d_Mo_newEvent_4 (by decide) ?_
  refine lv_icmp_ne (tgt := 58) hx hb d_Mo_newEvent_6 (by decide) (fun c_76 => ?_) (fun c_76 => ?_)
  · have k_77 : ¬ n_72 = 48 := (fun q => c_76 ((nI_eq (a := n_72) (b := 48) (by omega) (by omega)).mpr q))
    exact hJ_58 _ _ _ _ _ (n_72) hI hM hF (lv_sub hl [0, 1] rfl) (by omega) (by omega) e_75
  · have k_78 : n_72 = 48 := (nI_eq (a := n_72) (b := 48) (by omega) (by omega)).mp c_76
    refine lv_aload_n hx hb d_Mo_newEvent_9 rfl (lv_at hl 0 rfl) ?_
    refine lv_dup hx hb d_Mo_newEvent_10 rfl ?_
    obtain ⟨x_79, e_80⟩ : ∃ z, σ0.1 53 = z := ⟨_, rfl⟩
    refine mq_get (k := 53) (v := .int (x_79)) hx hb hts hown hI hM (by decide) (congrArg (fun z => some (Value.int z)) e_80) rfl (hts _ tw_1222) d_Mo_newEvent_11 ?_
    refine lv_iconst (v := 1) hx hb d_Mo_newEvent_14 (by decide) ?_
    refine lv_iadd hx hb d_Mo_newEvent_15 ?_
    refine lv_topi (fun x_81 e_82 => ?_)
    refine mq_puti (k := 53) (ty := .int) hx hb hts hown hI hM (by decide) rfl rfl (hts _ tw_1222) rfl (by decide +kernel) rfl rfl trivial d_Mo_newEvent_16 (fun H locs f σ_83 e_84 hI hM => ?_)
    have hF := mq_fr_ui hF e_84 rfl
    have o_85 : σ_83.1 43 = nI n_72 := by rw [e_84]; exact e_75
    refine lv_iconst (v := 0) hx hb d_Mo_newEvent_19 (by decide) ?_
    refine lv_istore_n (lv' := [(2, .int (0)), (0, .ref (ad 71)), (1, .int (nI j1))]) hx hb d_Mo_newEvent_20 rfl hl (by decide) rfl (fun ls hl => ?_)
    exact hJ_21 _ (0) _ _ _ _ _  (Nat.le_refl _) (by omega) hI hM hF (lv_sub hl [1, 2, 0] rfl) (Eq.trans o_85 (congrArg nI (show (n_72 : Nat) = _ by omega)))
theorem d_Mo_confirmEvent_0 : decode b_Mo_confirmEvent 0 = .ok (.iconst 0, 1) := by decide +kernel
theorem d_Mo_confirmEvent_1 : decode b_Mo_confirmEvent 1 = .ok (.istore_n 3, 1) := by decide +kernel
theorem d_Mo_confirmEvent_2 : decode b_Mo_confirmEvent 2 = .ok (.iload_n 3, 1) := by decide +kernel
theorem d_Mo_confirmEvent_3 : decode b_Mo_confirmEvent 3 = .ok (.aload_n 0, 1) := by decide +kernel
theorem d_Mo_confirmEvent_4 : decode b_Mo_confirmEvent 4 = .ok (.getfield 247, 3) := by decide +kernel
theorem d_Mo_confirmEvent_7 : decode b_Mo_confirmEvent 7 = .ok (.if_icmp .ge 38, 3) := by decide +kernel
theorem d_Mo_confirmEvent_10 : decode b_Mo_confirmEvent 10 = .ok (.aload_n 0, 1) := by decide +kernel
theorem d_Mo_confirmEvent_11 : decode b_Mo_confirmEvent 11 = .ok (.getfield 112, 3) := by decide +kernel
theorem d_Mo_confirmEvent_14 : decode b_Mo_confirmEvent 14 = .ok (.iload_n 3, 1) := by decide +kernel
theorem d_Mo_confirmEvent_15 : decode b_Mo_confirmEvent 15 = .ok (.iaload, 1) := by decide +kernel
theorem d_Mo_confirmEvent_16 : decode b_Mo_confirmEvent 16 = .ok (.iload_n 1, 1) := by decide +kernel
theorem d_Mo_confirmEvent_17 : decode b_Mo_confirmEvent 17 = .ok (.if_icmp .ne 22, 3) := by decide +kernel
theorem d_Mo_confirmEvent_20 : decode b_Mo_confirmEvent 20 = .ok (.aload_n 0, 1) := by decide +kernel
theorem d_Mo_confirmEvent_21 : decode b_Mo_confirmEvent 21 = .ok (.getfield 133, 3) := by decide +kernel
theorem d_Mo_confirmEvent_24 : decode b_Mo_confirmEvent 24 = .ok (.iload_n 3, 1) := by decide +kernel
theorem d_Mo_confirmEvent_25 : decode b_Mo_confirmEvent 25 = .ok (.iaload, 1) := by decide +kernel
theorem d_Mo_confirmEvent_26 : decode b_Mo_confirmEvent 26 = .ok (.iload_n 2, 1) := by decide +kernel
theorem d_Mo_confirmEvent_27 : decode b_Mo_confirmEvent 27 = .ok (.if_icmp .eq 6, 3) := by decide +kernel
theorem d_Mo_confirmEvent_30 : decode b_Mo_confirmEvent 30 = .ok (.goto 9, 3) := by decide +kernel
theorem d_Mo_confirmEvent_33 : decode b_Mo_confirmEvent 33 = .ok (.aload_n 0, 1) := by decide +kernel
theorem d_Mo_confirmEvent_34 : decode b_Mo_confirmEvent 34 = .ok (.iload_n 3, 1) := by decide +kernel
theorem d_Mo_confirmEvent_35 : decode b_Mo_confirmEvent 35 = .ok (.invokevirtual 253, 3) := by decide +kernel
theorem d_Mo_confirmEvent_38 : decode b_Mo_confirmEvent 38 = .ok (.return_, 1) := by decide +kernel
theorem d_Mo_confirmEvent_39 : decode b_Mo_confirmEvent 39 = .ok (.iinc 3 1, 3) := by decide +kernel
theorem d_Mo_confirmEvent_42 : decode b_Mo_confirmEvent 42 = .ok (.goto (-40), 3) := by decide +kernel
theorem d_Mo_confirmEvent_45 : decode b_Mo_confirmEvent 45 = .ok (.return_, 1) := by decide +kernel
set_option maxRecDepth 100000 in
set_option maxHeartbeats 4000000 in
theorem c_Mo_confirmEvent (l : Launch) (D : va_G) (ca : Nat → ClassId) (ad : Nat → Nat) (L : List Nat) (f0 : Nat → va_E) (sz : Nat) (σ0 : mq_S) (hM : mq_B ca ad σ0 L f0) (x1 : Int32) (x2 : Int32) :
    Met l y_Mo_confirmEvent (Cond.code y_Mo_confirmEvent b_Mo_confirmEvent 4 none :: wg) { frames := 1, cells := 0, slots := 0, locals := 22 } (va_Pc [.ref (ad 71), .int (x1), .int (x2)] (sm_P D cl_all (ty_s ca) ek L f0 sz)) (sm_Qv D (ty_s ca) L f0 sz (fun u => mq_po ca ad L σ0 [43, 45, 46, 47, 48, 49, 50, 51, 52] (fun σ => True) u)) 0 0 (va_A (va_pl L f0) sz) := by
  refine sm_start (by decide) (Nat.le_of_ble_eq_true rfl) ?_
  intro p e s m below meth c ls hx hb hml hr hlk hnm hts hown hsz hE hI hl
  have hl : lv_has ls 4 [(0, .ref (ad 71)), (1, .int (x1)), (2, .int (x2))] := hl
  have hF : mq_fr [43, 45, 46, 47, 48, 49, 50, 51, 52] σ0 σ0 := mq_fr_rf
  have hJ_2 : ∀ (N k : Nat) (H : Heap) (locs : List Loc) (f : Nat → va_E) (σ : mq_S) (ls : Array Slot) , 48 + 1 - k ≤ N → k ≤ 48 → sw_I D cl_all (ty_s ca) (va_A (va_pl L f0) sz) s H locs L f → mq_B ca ad σ L f → mq_fr [43, 45, 46, 47, 48, 49, 50, 51, 52] σ0 σ → lv_has ls 4 [(0, .ref (ad 71)), (1, .int (x1)), (2, .int (x2)), (3, .int (nI k))] → W p l e { frames := 1, cells := 0, slots := 0, locals := 22 } s m ([.ref (ad 71), .int (x1), .int (x2)] : List Value).toArray below meth c H locs 0 0 (MQ below (sm_Qv D (ty_s ca) L f0 sz (fun u => mq_po ca ad L σ0 [43, 45, 46, 47, 48, 49, 50, 51, 52] (fun σ => True) u)) ([.ref (ad 71), .int (x1), .int (x2)] : List Value).toArray s 0 0 (va_A (va_pl L f0) sz)) (F0 m 2 ls []) := by
    intro N
    induction N with
    | zero => intros; omega
    | succ N ih =>
      intro k H locs f σ ls  hN hk hI hM hF hl 
      refine lv_iload_n hx hb d_Mo_confirmEvent_2 rfl (lv_at hl 3 rfl) ?_
      refine lv_aload_n hx hb d_Mo_confirmEvent_3 rfl (lv_at hl 0 rfl) ?_
      obtain ⟨n_1, h_2, h_3, e_4⟩ := hM.2.2.2.2.1 43
      refine mq_get (k := 43) (v := .int (nI n_1)) hx hb hts hown hI hM (by decide) (congrArg (fun z => some (Value.int z)) e_4) rfl (hts _ tw_1212) d_Mo_confirmEvent_4 ?_
      refine lv_icmp_ge (tgt := 45) hx hb d_Mo_confirmEvent_7 (by decide) (fun c_5 => ?_) (fun c_5 => ?_)
      · have k_6 : n_1 ≤ k := (nI_leI (a := n_1) (b := k) (by omega) (by omega)).mp c_5
        exact sm_vret hx hb hr hlk hI ⟨σ, rfl, hM, hF, trivial⟩ d_Mo_confirmEvent_45
      · have k_7 : k < n_1 := Nat.lt_of_not_le (fun q => c_5 ((nI_leI (a := n_1) (b := k) (by omega) (by omega)).mpr q))
        refine lv_aload_n hx hb d_Mo_confirmEvent_10 rfl (lv_at hl 0 rfl) ?_
        refine mq_get (k := 45) (v := .ref (ad 45)) hx hb hts hown hI hM (by decide) rfl rfl (hts _ tw_1214) d_Mo_confirmEvent_11 ?_
        refine lv_iload_n hx hb d_Mo_confirmEvent_14 rfl (lv_at hl 3 rfl) ?_
        obtain ⟨x_8, e_9⟩ : ∃ z, σ.2.2.1 45 (k) = z := ⟨_, rfl⟩
        refine mq_iald (k := 45) (j := k) (v := x_8) hx hb hI hM (by decide) rfl (by show k < 48; omega) (by decide) e_9 d_Mo_confirmEvent_15 ?_
        refine lv_iload_n hx hb d_Mo_confirmEvent_16 rfl (lv_at hl 1 rfl) ?_
        refine lv_icmp_ne (tgt := 39) hx hb d_Mo_confirmEvent_17 (by decide) (fun c_10 => ?_) (fun c_10 => ?_)
        · refine lv_iinc (v := nI (k + 1)) (lv' := [(3, .int (nI (k + 1))), (0, .ref (ad 71)), (1, .int (x1)), (2, .int (x2))]) hx hb d_Mo_confirmEvent_39 hl (k := 3) rfl (nI_1 _) (by decide) rfl (fun ls hl => ?_)
          refine lv_goto (tgt := 2) hx hb d_Mo_confirmEvent_42 (by decide) ?_
          exact ih ((k + 1)) _ _ _ _ _  (by omega) (by omega) hI hM hF (lv_sub hl [1, 2, 3, 0] rfl) 
        · refine lv_aload_n hx hb d_Mo_confirmEvent_20 rfl (lv_at hl 0 rfl) ?_
          refine mq_get (k := 52) (v := .ref (ad 52)) hx hb hts hown hI hM (by decide) rfl rfl (hts _ tw_1221) d_Mo_confirmEvent_21 ?_
          refine lv_iload_n hx hb d_Mo_confirmEvent_24 rfl (lv_at hl 3 rfl) ?_
          obtain ⟨x_11, e_12⟩ : ∃ z, σ.2.2.1 52 (k) = z := ⟨_, rfl⟩
          refine mq_iald (k := 52) (j := k) (v := x_11) hx hb hI hM (by decide) rfl (by show k < 48; omega) (by decide) e_12 d_Mo_confirmEvent_25 ?_
          refine lv_iload_n hx hb d_Mo_confirmEvent_26 rfl (lv_at hl 2 rfl) ?_
          refine lv_icmp_eq (tgt := 33) hx hb d_Mo_confirmEvent_27 (by decide) (fun c_13 => ?_) (fun c_13 => ?_)
          · refine lv_aload_n hx hb d_Mo_confirmEvent_33 rfl (lv_at hl 0 rfl) ?_
            refine lv_iload_n hx hb d_Mo_confirmEvent_34 rfl (lv_at hl 3 rfl) ?_
            refine sm_vM hI (va_runV (As := [.int (nI k)]) (rest := []) ⟨hx, hb, hml, hown, hts⟩ (c_Mo_removeEvent l D ca ad L _ _ _ hM (k) (by omega) (n_1) e_4 (by omega) (by omega)) (kv_Mo_removeEvent hts rfl rfl (hts _ tw_1418) ⟨Nat.le_of_ble_eq_true rfl, Nat.le_of_ble_eq_true rfl⟩) (pv_Mo hI hE hM) rfl rfl hl.1 rfl (lv_room (Nat.le_of_ble_eq_true rfl)) d_Mo_confirmEvent_35 ⟨Nat.le_of_ble_eq_true rfl, Nat.le_of_ble_eq_true rfl⟩) (fun H locs f σ_15 hI hM hF_16 p_14 => ?_)
            have hF := mq_fr_tr hF hF_16 (by decide)
            obtain ⟨o_17, -⟩ := p_14
            exact sm_vret hx hb hr hlk hI ⟨σ_15, rfl, hM, hF, trivial⟩ d_Mo_confirmEvent_38
          · refine lv_goto (tgt := 39) hx hb d_Mo_confirmEvent_30 (by decide) ?_
            refine lv_iinc (v := nI (k + 1)) (lv' := [(3, .int (nI (k + 1))), (0, .ref (ad 71)), (1, .int (x1)), (2, .int (x2))]) hx hb d_Mo_confirmEvent_39 hl (k := 3) rfl (nI_1 _) (by decide) rfl (fun ls hl => ?_)
            refine lv_goto (tgt := 2) hx hb d_Mo_confirmEvent_42 (by decide) ?_
            exact ih ((k + 1)) _ _ _ _ _  (by omega) (by omega) hI hM hF (lv_sub hl [1, 2, 3, 0] rfl) 
  refine lv_iconst (v := 0) hx hb d_Mo_confirmEvent_0 (by decide) ?_
  refine lv_istore_n (lv' := [(3, .int (0)), (0, .ref (ad 71)), (1, .int (x1)), (2, .int (x2))]) hx hb d_Mo_confirmEvent_1 rfl hl (by decide) rfl (fun ls hl => ?_)
  exact hJ_2 _ (0) _ _ _ _ _  (Nat.le_refl _) (by omega) hI hM hF (lv_sub hl [1, 2, 3, 0] rfl) 
theorem d_Mo_addTime_0 : decode b_Mo_addTime 0 = .ok (.lload_n 1, 1) := by decide +kernel
theorem d_Mo_addTime_1 : decode b_Mo_addTime 1 = .ok (.ldc2_w 222, 3) := by decide +kernel
theorem d_Mo_addTime_4 : decode b_Mo_addTime 4 = .ok (.lrem, 1) := by decide +kernel
theorem d_Mo_addTime_5 : decode b_Mo_addTime 5 = .ok (.l2i, 1) := by decide +kernel
theorem d_Mo_addTime_6 : decode b_Mo_addTime 6 = .ok (.istore 4, 2) := by decide +kernel
theorem d_Mo_addTime_8 : decode b_Mo_addTime 8 = .ok (.lload_n 1, 1) := by decide +kernel
theorem d_Mo_addTime_9 : decode b_Mo_addTime 9 = .ok (.ldc2_w 222, 3) := by decide +kernel
theorem d_Mo_addTime_12 : decode b_Mo_addTime 12 = .ok (.ldiv, 1) := by decide +kernel
theorem d_Mo_addTime_13 : decode b_Mo_addTime 13 = .ok (.lstore 5, 2) := by decide +kernel
theorem d_Mo_addTime_15 : decode b_Mo_addTime 15 = .ok (.lload 5, 2) := by decide +kernel
theorem d_Mo_addTime_17 : decode b_Mo_addTime 17 = .ok (.ldc2_w 224, 3) := by decide +kernel
theorem d_Mo_addTime_20 : decode b_Mo_addTime 20 = .ok (.ldiv, 1) := by decide +kernel
theorem d_Mo_addTime_21 : decode b_Mo_addTime 21 = .ok (.l2i, 1) := by decide +kernel
theorem d_Mo_addTime_22 : decode b_Mo_addTime 22 = .ok (.istore 7, 2) := by decide +kernel
theorem d_Mo_addTime_24 : decode b_Mo_addTime 24 = .ok (.iload 7, 2) := by decide +kernel
theorem d_Mo_addTime_26 : decode b_Mo_addTime 26 = .ok (.iconst 5, 1) := by decide +kernel
theorem d_Mo_addTime_27 : decode b_Mo_addTime 27 = .ok (.iadd, 1) := by decide +kernel
theorem d_Mo_addTime_28 : decode b_Mo_addTime 28 = .ok (.bipush 7, 2) := by decide +kernel
theorem d_Mo_addTime_30 : decode b_Mo_addTime 30 = .ok (.irem, 1) := by decide +kernel
theorem d_Mo_addTime_31 : decode b_Mo_addTime 31 = .ok (.iconst 1, 1) := by decide +kernel
theorem d_Mo_addTime_32 : decode b_Mo_addTime 32 = .ok (.iadd, 1) := by decide +kernel
theorem d_Mo_addTime_33 : decode b_Mo_addTime 33 = .ok (.istore 8, 2) := by decide +kernel
theorem d_Mo_addTime_35 : decode b_Mo_addTime 35 = .ok (.sipush 2000, 3) := by decide +kernel
theorem d_Mo_addTime_38 : decode b_Mo_addTime 38 = .ok (.istore 9, 2) := by decide +kernel
theorem d_Mo_addTime_40 : decode b_Mo_addTime 40 = .ok (.iload 7, 2) := by decide +kernel
theorem d_Mo_addTime_42 : decode b_Mo_addTime 42 = .ok (.sipush 365, 3) := by decide +kernel
theorem d_Mo_addTime_45 : decode b_Mo_addTime 45 = .ok (.iload 9, 2) := by decide +kernel
theorem d_Mo_addTime_47 : decode b_Mo_addTime 47 = .ok (.iconst 2, 1) := by decide +kernel
theorem d_Mo_addTime_48 : decode b_Mo_addTime 48 = .ok (.invokestatic 226, 3) := by decide +kernel
theorem d_Mo_addTime_51 : decode b_Mo_addTime 51 = .ok (.iadd, 1) := by decide +kernel
theorem d_Mo_addTime_52 : decode b_Mo_addTime 52 = .ok (.bipush 28, 2) := by decide +kernel
theorem d_Mo_addTime_54 : decode b_Mo_addTime 54 = .ok (.isub, 1) := by decide +kernel
theorem d_Mo_addTime_55 : decode b_Mo_addTime 55 = .ok (.if_icmp .lt 27, 3) := by decide +kernel
theorem d_Mo_addTime_58 : decode b_Mo_addTime 58 = .ok (.iload 7, 2) := by decide +kernel
theorem d_Mo_addTime_60 : decode b_Mo_addTime 60 = .ok (.sipush 365, 3) := by decide +kernel
theorem d_Mo_addTime_63 : decode b_Mo_addTime 63 = .ok (.isub, 1) := by decide +kernel
theorem d_Mo_addTime_64 : decode b_Mo_addTime 64 = .ok (.iload 9, 2) := by decide +kernel
theorem d_Mo_addTime_66 : decode b_Mo_addTime 66 = .ok (.iconst 2, 1) := by decide +kernel
theorem d_Mo_addTime_67 : decode b_Mo_addTime 67 = .ok (.invokestatic 226, 3) := by decide +kernel
theorem d_Mo_addTime_70 : decode b_Mo_addTime 70 = .ok (.isub, 1) := by decide +kernel
theorem d_Mo_addTime_71 : decode b_Mo_addTime 71 = .ok (.bipush 28, 2) := by decide +kernel
theorem d_Mo_addTime_73 : decode b_Mo_addTime 73 = .ok (.iadd, 1) := by decide +kernel
theorem d_Mo_addTime_74 : decode b_Mo_addTime 74 = .ok (.istore 7, 2) := by decide +kernel
theorem d_Mo_addTime_76 : decode b_Mo_addTime 76 = .ok (.iinc 9 1, 3) := by decide +kernel
theorem d_Mo_addTime_79 : decode b_Mo_addTime 79 = .ok (.goto (-39), 3) := by decide +kernel
theorem d_Mo_addTime_82 : decode b_Mo_addTime 82 = .ok (.iconst 1, 1) := by decide +kernel
theorem d_Mo_addTime_83 : decode b_Mo_addTime 83 = .ok (.istore 10, 2) := by decide +kernel
theorem d_Mo_addTime_85 : decode b_Mo_addTime 85 = .ok (.iload 7, 2) := by decide +kernel
theorem d_Mo_addTime_87 : decode b_Mo_addTime 87 = .ok (.iload 9, 2) := by decide +kernel
theorem d_Mo_addTime_89 : decode b_Mo_addTime 89 = .ok (.iload 10, 2) := by decide +kernel
theorem d_Mo_addTime_91 : decode b_Mo_addTime 91 = .ok (.invokestatic 226, 3) := by decide +kernel
theorem d_Mo_addTime_94 : decode b_Mo_addTime 94 = .ok (.if_icmp .lt 21, 3) := by decide +kernel
theorem d_Mo_addTime_97 : decode b_Mo_addTime 97 = .ok (.iload 7, 2) := by decide +kernel
theorem d_Mo_addTime_99 : decode b_Mo_addTime 99 = .ok (.iload 9, 2) := by decide +kernel
theorem d_Mo_addTime_101 : decode b_Mo_addTime 101 = .ok (.iload 10, 2) := by decide +kernel
theorem d_Mo_addTime_103 : decode b_Mo_addTime 103 = .ok (.invokestatic 226, 3) := by decide +kernel
theorem d_Mo_addTime_106 : decode b_Mo_addTime 106 = .ok (.isub, 1) := by decide +kernel
theorem d_Mo_addTime_107 : decode b_Mo_addTime 107 = .ok (.istore 7, 2) := by decide +kernel
theorem d_Mo_addTime_109 : decode b_Mo_addTime 109 = .ok (.iinc 10 1, 3) := by decide +kernel
theorem d_Mo_addTime_112 : decode b_Mo_addTime 112 = .ok (.goto (-27), 3) := by decide +kernel
theorem d_Mo_addTime_115 : decode b_Mo_addTime 115 = .ok (.aload_n 0, 1) := by decide +kernel
theorem d_Mo_addTime_116 : decode b_Mo_addTime 116 = .ok (.iload 4, 2) := by decide +kernel
theorem d_Mo_addTime_118 : decode b_Mo_addTime 118 = .ok (.invokevirtual 230, 3) := by decide +kernel
theorem d_Mo_addTime_121 : decode b_Mo_addTime 121 = .ok (.aload_n 0, 1) := by decide +kernel
theorem d_Mo_addTime_122 : decode b_Mo_addTime 122 = .ok (.iload 4, 2) := by decide +kernel
theorem d_Mo_addTime_124 : decode b_Mo_addTime 124 = .ok (.bipush 8, 2) := by decide +kernel
theorem d_Mo_addTime_126 : decode b_Mo_addTime 126 = .ok (.ishr, 1) := by decide +kernel
theorem d_Mo_addTime_127 : decode b_Mo_addTime 127 = .ok (.invokevirtual 230, 3) := by decide +kernel
theorem d_Mo_addTime_130 : decode b_Mo_addTime 130 = .ok (.aload_n 0, 1) := by decide +kernel
theorem d_Mo_addTime_131 : decode b_Mo_addTime 131 = .ok (.lload 5, 2) := by decide +kernel
theorem d_Mo_addTime_133 : decode b_Mo_addTime 133 = .ok (.ldc2_w 233, 3) := by decide +kernel
theorem d_Mo_addTime_136 : decode b_Mo_addTime 136 = .ok (.lrem, 1) := by decide +kernel
theorem d_Mo_addTime_137 : decode b_Mo_addTime 137 = .ok (.l2i, 1) := by decide +kernel
theorem d_Mo_addTime_138 : decode b_Mo_addTime 138 = .ok (.iload_n 3, 1) := by decide +kernel
theorem d_Mo_addTime_139 : decode b_Mo_addTime 139 = .ok (.ifCond .eq 7, 3) := by decide +kernel
theorem d_Mo_addTime_142 : decode b_Mo_addTime 142 = .ok (.iconst 0, 1) := by decide +kernel
theorem d_Mo_addTime_143 : decode b_Mo_addTime 143 = .ok (.goto 6, 3) := by decide +kernel
theorem d_Mo_addTime_146 : decode b_Mo_addTime 146 = .ok (.sipush 128, 3) := by decide +kernel
theorem d_Mo_addTime_149 : decode b_Mo_addTime 149 = .ok (.ior, 1) := by decide +kernel
theorem d_Mo_addTime_150 : decode b_Mo_addTime 150 = .ok (.invokevirtual 230, 3) := by decide +kernel
theorem d_Mo_addTime_153 : decode b_Mo_addTime 153 = .ok (.aload_n 0, 1) := by decide +kernel
theorem d_Mo_addTime_154 : decode b_Mo_addTime 154 = .ok (.lload 5, 2) := by decide +kernel
theorem d_Mo_addTime_156 : decode b_Mo_addTime 156 = .ok (.ldc2_w 233, 3) := by decide +kernel
theorem d_Mo_addTime_159 : decode b_Mo_addTime 159 = .ok (.ldiv, 1) := by decide +kernel
theorem d_Mo_addTime_160 : decode b_Mo_addTime 160 = .ok (.ldc2_w 235, 3) := by decide +kernel
theorem d_Mo_addTime_163 : decode b_Mo_addTime 163 = .ok (.lrem, 1) := by decide +kernel
theorem d_Mo_addTime_164 : decode b_Mo_addTime 164 = .ok (.l2i, 1) := by decide +kernel
theorem d_Mo_addTime_165 : decode b_Mo_addTime 165 = .ok (.invokevirtual 230, 3) := by decide +kernel
theorem d_Mo_addTime_168 : decode b_Mo_addTime 168 = .ok (.aload_n 0, 1) := by decide +kernel
theorem d_Mo_addTime_169 : decode b_Mo_addTime 169 = .ok (.iload 7, 2) := by decide +kernel
theorem d_Mo_addTime_171 : decode b_Mo_addTime 171 = .ok (.iconst 1, 1) := by decide +kernel
theorem d_Mo_addTime_172 : decode b_Mo_addTime 172 = .ok (.iadd, 1) := by decide +kernel
theorem d_Mo_addTime_173 : decode b_Mo_addTime 173 = .ok (.iload 8, 2) := by decide +kernel
theorem d_Mo_addTime_175 : decode b_Mo_addTime 175 = .ok (.iconst 5, 1) := by decide +kernel
theorem d_Mo_addTime_176 : decode b_Mo_addTime 176 = .ok (.ishl, 1) := by decide +kernel
theorem d_Mo_addTime_177 : decode b_Mo_addTime 177 = .ok (.ior, 1) := by decide +kernel
theorem d_Mo_addTime_178 : decode b_Mo_addTime 178 = .ok (.invokevirtual 230, 3) := by decide +kernel
theorem d_Mo_addTime_181 : decode b_Mo_addTime 181 = .ok (.aload_n 0, 1) := by decide +kernel
theorem d_Mo_addTime_182 : decode b_Mo_addTime 182 = .ok (.iload 10, 2) := by decide +kernel
theorem d_Mo_addTime_184 : decode b_Mo_addTime 184 = .ok (.invokevirtual 230, 3) := by decide +kernel
theorem d_Mo_addTime_187 : decode b_Mo_addTime 187 = .ok (.aload_n 0, 1) := by decide +kernel
theorem d_Mo_addTime_188 : decode b_Mo_addTime 188 = .ok (.iload 9, 2) := by decide +kernel
theorem d_Mo_addTime_190 : decode b_Mo_addTime 190 = .ok (.bipush 100, 2) := by decide +kernel
theorem d_Mo_addTime_192 : decode b_Mo_addTime 192 = .ok (.irem, 1) := by decide +kernel
theorem d_Mo_addTime_193 : decode b_Mo_addTime 193 = .ok (.invokevirtual 230, 3) := by decide +kernel
theorem d_Mo_addTime_196 : decode b_Mo_addTime 196 = .ok (.return_, 1) := by decide +kernel
set_option maxRecDepth 100000 in
set_option maxHeartbeats 4000000 in
theorem c_Mo_addTime (l : Launch) (D : va_G) (ca : Nat → ClassId) (ad : Nat → Nat) (L : List Nat) (f0 : Nat → va_E) (sz : Nat) (σ0 : mq_S) (hM : mq_B ca ad σ0 L f0) (x1 : Int64) (x2 : Int32) (p2 : x2 = 0 ∨ x2 = 1) (z1 : Nat) (o0 : σ0.1 70 = nI z1) (hz : z1 + 7 ≤ 260) :
    Met l y_Mo_addTime (Cond.code y_Mo_addTime b_Mo_addTime 11 none :: wg) { frames := 1, cells := 0, slots := 0, locals := 21 } (va_Pc [.ref (ad 71), .long (x1), .int (x2)] (sm_P D cl_all (ty_s ca) ek L f0 sz)) (sm_Qv D (ty_s ca) L f0 sz (fun u => mq_po ca ad L σ0 [69, 70] (fun σ => σ.1 70 = nI (z1 + 7) ∧ True) u)) 0 0 (va_A (va_pl L f0) sz) := by
  refine sm_start (by decide) (Nat.le_of_ble_eq_true rfl) ?_
  intro p e s m below meth c ls hx hb hml hr hlk hnm hts hown hsz hE hI hl
  have hl : lv_has ls 11 [(0, .ref (ad 71)), (1, .long (x1)), (3, .int (x2))] := hl
  have hF : mq_fr [69, 70] σ0 σ0 := mq_fr_rf
  have hJ_85 : ∀ (N : Nat) (k : Int32) (H : Heap) (locs : List Loc) (f : Nat → va_E) (σ : mq_S) (ls : Array Slot) (y4 : Int32) (y5 : Int64) (y8 : Int32) (y9 : Int32) (y10 : Int32), k.toInt.toNat + 1 ≤ N → sw_I D cl_all (ty_s ca) (va_A (va_pl L f0) sz) s H locs L f → mq_B ca ad σ L f → mq_fr [69, 70] σ0 σ → lv_has ls 11 [(0, .ref (ad 71)), (1, .long (x1)), (3, .int (x2)), (4, .int (y4)), (5, .long (y5)), (7, .int (k)), (8, .int (y8)), (9, .int (y9)), (10, .int (y10))] → (σ.1 70 = nI (z1)) → W p l e { frames := 1, cells := 0, slots := 0, locals := 21 } s m ([.ref (ad 71), .long (x1), .int (x2)] : List Value).toArray below meth c H locs 0 0 (MQ below (sm_Qv D (ty_s ca) L f0 sz (fun u => mq_po ca ad L σ0 [69, 70] (fun σ => σ.1 70 = nI (z1 + 7) ∧ True) u)) ([.ref (ad 71), .long (x1), .int (x2)] : List Value).toArray s 0 0 (va_A (va_pl L f0) sz)) (F0 m 85 ls []) := by
    intro N
    induction N with
    | zero => intros; omega
    | succ N ih =>
      intro k H locs f σ ls y4 y5 y8 y9 y10 hN hI hM hF hl o90
      refine lv_iload hx hb d_Mo_addTime_85 (lv_at hl 5 rfl) ?_
      refine lv_iload hx hb d_Mo_addTime_87 (lv_at hl 7 rfl) ?_
      refine lv_iload hx hb d_Mo_addTime_89 (lv_at hl 8 rfl) ?_
      refine sm_iP hI (va_runS (As := [.int (y9), .int (y10)]) (rest := [.int (k)]) ⟨hx, hb, hml, hown, hts⟩ (c_Mo_daysOf l D ca L _ _ y9 y10) (ks_Mo_daysOf hts rfl rfl (hts _ tw_1531) ⟨Nat.le_of_ble_eq_true rfl, Nat.le_of_ble_eq_true rfl⟩) (sm_preS hI hE) rfl rfl hl.1 rfl (lv_room (Nat.le_of_ble_eq_true rfl)) d_Mo_addTime_91 ⟨Nat.le_of_ble_eq_true rfl, Nat.le_of_ble_eq_true rfl⟩) (fun x_2 H locs p_1 hI => ?_)
      obtain ⟨n_3, rfl, h_4, h_5⟩ := p_1
      refine lv_icmp_lt (tgt := 115) hx hb d_Mo_addTime_94 (by decide) (fun c_6 => ?_) (fun c_6 => ?_)
      · refine lv_aload_n hx hb d_Mo_addTime_115 rfl (lv_at hl 0 rfl) ?_
        refine lv_iload hx hb d_Mo_addTime_116 (lv_at hl 3 rfl) ?_
        refine sm_vM hI (va_runV (As := [.int (y4)]) (rest := []) ⟨hx, hb, hml, hown, hts⟩ (c_Mo_add l D ca ad L _ _ _ hM y4 ((z1)) o90 (by omega)) (kv_Mo_add hts rfl rfl (hts _ tw_1477) ⟨Nat.le_of_ble_eq_true rfl, Nat.le_of_ble_eq_true rfl⟩) (pv_Mo hI hE hM) rfl rfl hl.1 rfl (lv_room (Nat.le_of_ble_eq_true rfl)) d_Mo_addTime_118 ⟨Nat.le_of_ble_eq_true rfl, Nat.le_of_ble_eq_true rfl⟩) (fun H locs f σ_8 hI hM hF_9 p_7 => ?_)
        have hF := mq_fr_tr hF hF_9 (by decide)
        obtain ⟨o_10, -⟩ := p_7
        refine lv_aload_n hx hb d_Mo_addTime_121 rfl (lv_at hl 0 rfl) ?_
        refine lv_iload hx hb d_Mo_addTime_122 (lv_at hl 3 rfl) ?_
        refine lv_bipush (v := 8) hx hb d_Mo_addTime_124 (by decide) ?_
        refine lv_ishr hx hb d_Mo_addTime_126 ?_
        refine lv_topi (fun x_11 e_12 => ?_)
        refine sm_vM hI (va_runV (As := [.int (x_11)]) (rest := []) ⟨hx, hb, hml, hown, hts⟩ (c_Mo_add l D ca ad L _ _ _ hM x_11 ((((z1)) + 1)) o_10 (by omega)) (kv_Mo_add hts rfl rfl (hts _ tw_1477) ⟨Nat.le_of_ble_eq_true rfl, Nat.le_of_ble_eq_true rfl⟩) (pv_Mo hI hE hM) rfl rfl hl.1 rfl (lv_room (Nat.le_of_ble_eq_true rfl)) d_Mo_addTime_127 ⟨Nat.le_of_ble_eq_true rfl, Nat.le_of_ble_eq_true rfl⟩) (fun H locs f σ_14 hI hM hF_15 p_13 => ?_)
        have hF := mq_fr_tr hF hF_15 (by decide)
        obtain ⟨o_16, -⟩ := p_13
        refine lv_aload_n hx hb d_Mo_addTime_130 rfl (lv_at hl 0 rfl) ?_
        refine lv_lload hx hb d_Mo_addTime_131 (lv_at hl 4 rfl) ?_
        refine lv_ldc2 (v := 60) hx hb hown (hts _ tw_1534) d_Mo_addTime_133 ?_
        refine lv_lrem hx hb d_Mo_addTime_136 (by decide) ?_
        refine lv_topl (fun x_17 e_18 => ?_)
        refine lv_l2i hx hb d_Mo_addTime_137 rfl ?_
        refine lv_topi (fun x_19 e_20 => ?_)
        refine lv_iload_n hx hb d_Mo_addTime_138 rfl (lv_at hl 2 rfl) ?_
        refine lv_if_eq (tgt := 146) hx hb d_Mo_addTime_139 (by decide) (fun c_21 => ?_) (fun c_21 => ?_)
        · refine lv_sipush (v := 128) hx hb d_Mo_addTime_146 (by decide) ?_
          refine lv_ior hx hb d_Mo_addTime_149 ?_
          refine lv_topi (fun x_22 e_23 => ?_)
          refine sm_vM hI (va_runV (As := [.int (x_22)]) (rest := []) ⟨hx, hb, hml, hown, hts⟩ (c_Mo_add l D ca ad L _ _ _ hM x_22 ((((((z1)) + 1)) + 1)) o_16 (by omega)) (kv_Mo_add hts rfl rfl (hts _ tw_1477) ⟨Nat.le_of_ble_eq_true rfl, Nat.le_of_ble_eq_true rfl⟩) (pv_Mo hI hE hM) rfl rfl hl.1 rfl (lv_room (Nat.le_of_ble_eq_true rfl)) d_Mo_addTime_150 ⟨Nat.le_of_ble_eq_true rfl, Nat.le_of_ble_eq_true rfl⟩) (fun H locs f σ_25 hI hM hF_26 p_24 => ?_)
          have hF := mq_fr_tr hF hF_26 (by decide)
          obtain ⟨o_27, -⟩ := p_24
          refine lv_aload_n hx hb d_Mo_addTime_153 rfl (lv_at hl 0 rfl) ?_
          refine lv_lload hx hb d_Mo_addTime_154 (lv_at hl 4 rfl) ?_
          refine lv_ldc2 (v := 60) hx hb hown (hts _ tw_1534) d_Mo_addTime_156 ?_
          refine lv_ldiv hx hb d_Mo_addTime_159 (by decide) ?_
          refine lv_topl (fun x_28 e_29 => ?_)
          refine lv_ldc2 (v := 24) hx hb hown (hts _ tw_1535) d_Mo_addTime_160 ?_
          refine lv_lrem hx hb d_Mo_addTime_163 (by decide) ?_
          refine lv_topl (fun x_30 e_31 => ?_)
          refine lv_l2i hx hb d_Mo_addTime_164 rfl ?_
          refine lv_topi (fun x_32 e_33 => ?_)
          refine sm_vM hI (va_runV (As := [.int (x_32)]) (rest := []) ⟨hx, hb, hml, hown, hts⟩ (c_Mo_add l D ca ad L _ _ _ hM x_32 ((((((((z1)) + 1)) + 1)) + 1)) o_27 (by omega)) (kv_Mo_add hts rfl rfl (hts _ tw_1477) ⟨Nat.le_of_ble_eq_true rfl, Nat.le_of_ble_eq_true rfl⟩) (pv_Mo hI hE hM) rfl rfl hl.1 rfl (lv_room (Nat.le_of_ble_eq_true rfl)) d_Mo_addTime_165 ⟨Nat.le_of_ble_eq_true rfl, Nat.le_of_ble_eq_true rfl⟩) (fun H locs f σ_35 hI hM hF_36 p_34 => ?_)
          have hF := mq_fr_tr hF hF_36 (by decide)
          obtain ⟨o_37, -⟩ := p_34
          refine lv_aload_n hx hb d_Mo_addTime_168 rfl (lv_at hl 0 rfl) ?_
          refine lv_iload hx hb d_Mo_addTime_169 (lv_at hl 5 rfl) ?_
          refine lv_iconst (v := 1) hx hb d_Mo_addTime_171 (by decide) ?_
          refine lv_iadd hx hb d_Mo_addTime_172 ?_
          refine lv_topi (fun x_38 e_39 => ?_)
          refine lv_iload hx hb d_Mo_addTime_173 (lv_at hl 6 rfl) ?_
          refine lv_iconst (v := 5) hx hb d_Mo_addTime_175 (by decide) ?_
          refine lv_ishl hx hb d_Mo_addTime_176 ?_
          refine lv_topi (fun x_40 e_41 => ?_)
          refine lv_ior hx hb d_Mo_addTime_177 ?_
          refine lv_topi (fun x_42 e_43 => ?_)
          refine sm_vM hI (va_runV (As := [.int (x_42)]) (rest := []) ⟨hx, hb, hml, hown, hts⟩ (c_Mo_add l D ca ad L _ _ _ hM x_42 ((((((((((z1)) + 1)) + 1)) + 1)) + 1)) o_37 (by omega)) (kv_Mo_add hts rfl rfl (hts _ tw_1477) ⟨Nat.le_of_ble_eq_true rfl, Nat.le_of_ble_eq_true rfl⟩) (pv_Mo hI hE hM) rfl rfl hl.1 rfl (lv_room (Nat.le_of_ble_eq_true rfl)) d_Mo_addTime_178 ⟨Nat.le_of_ble_eq_true rfl, Nat.le_of_ble_eq_true rfl⟩) (fun H locs f σ_45 hI hM hF_46 p_44 => ?_)
          have hF := mq_fr_tr hF hF_46 (by decide)
          obtain ⟨o_47, -⟩ := p_44
          refine lv_aload_n hx hb d_Mo_addTime_181 rfl (lv_at hl 0 rfl) ?_
          refine lv_iload hx hb d_Mo_addTime_182 (lv_at hl 8 rfl) ?_
          refine sm_vM hI (va_runV (As := [.int (y10)]) (rest := []) ⟨hx, hb, hml, hown, hts⟩ (c_Mo_add l D ca ad L _ _ _ hM y10 ((((((((((((z1)) + 1)) + 1)) + 1)) + 1)) + 1)) o_47 (by omega)) (kv_Mo_add hts rfl rfl (hts _ tw_1477) ⟨Nat.le_of_ble_eq_true rfl, Nat.le_of_ble_eq_true rfl⟩) (pv_Mo hI hE hM) rfl rfl hl.1 rfl (lv_room (Nat.le_of_ble_eq_true rfl)) d_Mo_addTime_184 ⟨Nat.le_of_ble_eq_true rfl, Nat.le_of_ble_eq_true rfl⟩) (fun H locs f σ_49 hI hM hF_50 p_48 => ?_)
          have hF := mq_fr_tr hF hF_50 (by decide)
          obtain ⟨o_51, -⟩ := p_48
          refine lv_aload_n hx hb d_Mo_addTime_187 rfl (lv_at hl 0 rfl) ?_
          refine lv_iload hx hb d_Mo_addTime_188 (lv_at hl 7 rfl) ?_
          refine lv_bipush (v := 100) hx hb d_Mo_addTime_190 (by decide) ?_
          refine lv_irem hx hb d_Mo_addTime_192 (by decide) ?_
          refine lv_topi (fun x_52 e_53 => ?_)
          refine sm_vM hI (va_runV (As := [.int (x_52)]) (rest := []) ⟨hx, hb, hml, hown, hts⟩ (c_Mo_add l D ca ad L _ _ _ hM x_52 ((((((((((((((z1)) + 1)) + 1)) + 1)) + 1)) + 1)) + 1)) o_51 (by omega)) (kv_Mo_add hts rfl rfl (hts _ tw_1477) ⟨Nat.le_of_ble_eq_true rfl, Nat.le_of_ble_eq_true rfl⟩) (pv_Mo hI hE hM) rfl rfl hl.1 rfl (lv_room (Nat.le_of_ble_eq_true rfl)) d_Mo_addTime_193 ⟨Nat.le_of_ble_eq_true rfl, Nat.le_of_ble_eq_true rfl⟩) (fun H locs f σ_55 hI hM hF_56 p_54 => ?_)
          have hF := mq_fr_tr hF hF_56 (by decide)
          obtain ⟨o_57, -⟩ := p_54
          exact sm_vret hx hb hr hlk hI ⟨σ_55, rfl, hM, hF, ⟨(Eq.trans o_57 (congrArg nI (show ((((((((((((((((z1)) + 1)) + 1)) + 1)) + 1)) + 1)) + 1)) + 1) : Nat) = z1 + 7 by omega))), trivial⟩⟩ d_Mo_addTime_196
        · refine lv_iconst (v := 0) hx hb d_Mo_addTime_142 (by decide) ?_
          refine lv_goto (tgt := 149) hx hb d_Mo_addTime_143 (by decide) ?_
          refine lv_ior hx hb d_Mo_addTime_149 ?_
          refine lv_topi (fun x_58 e_59 => ?_)
          refine sm_vM hI (va_runV (As := [.int (x_58)]) (rest := []) ⟨hx, hb, hml, hown, hts⟩ (c_Mo_add l D ca ad L _ _ _ hM x_58 ((((((z1)) + 1)) + 1)) o_16 (by omega)) (kv_Mo_add hts rfl rfl (hts _ tw_1477) ⟨Nat.le_of_ble_eq_true rfl, Nat.le_of_ble_eq_true rfl⟩) (pv_Mo hI hE hM) rfl rfl hl.1 rfl (lv_room (Nat.le_of_ble_eq_true rfl)) d_Mo_addTime_150 ⟨Nat.le_of_ble_eq_true rfl, Nat.le_of_ble_eq_true rfl⟩) (fun H locs f σ_61 hI hM hF_62 p_60 => ?_)
          have hF := mq_fr_tr hF hF_62 (by decide)
          obtain ⟨o_63, -⟩ := p_60
          refine lv_aload_n hx hb d_Mo_addTime_153 rfl (lv_at hl 0 rfl) ?_
          refine lv_lload hx hb d_Mo_addTime_154 (lv_at hl 4 rfl) ?_
          refine lv_ldc2 (v := 60) hx hb hown (hts _ tw_1534) d_Mo_addTime_156 ?_
          refine lv_ldiv hx hb d_Mo_addTime_159 (by decide) ?_
          refine lv_topl (fun x_64 e_65 => ?_)
          refine lv_ldc2 (v := 24) hx hb hown (hts _ tw_1535) d_Mo_addTime_160 ?_
          refine lv_lrem hx hb d_Mo_addTime_163 (by decide) ?_
          refine lv_topl (fun x_66 e_67 => ?_)
          refine lv_l2i hx hb d_Mo_addTime_164 rfl ?_
          refine lv_topi (fun x_68 e_69 => ?_)
          refine sm_vM hI (va_runV (As := [.int (x_68)]) (rest := []) ⟨hx, hb, hml, hown, hts⟩ (c_Mo_add l D ca ad L _ _ _ hM x_68 ((((((((z1)) + 1)) + 1)) + 1)) o_63 (by omega)) (kv_Mo_add hts rfl rfl (hts _ tw_1477) ⟨Nat.le_of_ble_eq_true rfl, Nat.le_of_ble_eq_true rfl⟩) (pv_Mo hI hE hM) rfl rfl hl.1 rfl (lv_room (Nat.le_of_ble_eq_true rfl)) d_Mo_addTime_165 ⟨Nat.le_of_ble_eq_true rfl, Nat.le_of_ble_eq_true rfl⟩) (fun H locs f σ_71 hI hM hF_72 p_70 => ?_)
          have hF := mq_fr_tr hF hF_72 (by decide)
          obtain ⟨o_73, -⟩ := p_70
          refine lv_aload_n hx hb d_Mo_addTime_168 rfl (lv_at hl 0 rfl) ?_
          refine lv_iload hx hb d_Mo_addTime_169 (lv_at hl 5 rfl) ?_
          refine lv_iconst (v := 1) hx hb d_Mo_addTime_171 (by decide) ?_
          refine lv_iadd hx hb d_Mo_addTime_172 ?_
          refine lv_topi (fun x_74 e_75 => ?_)
          refine lv_iload hx hb d_Mo_addTime_173 (lv_at hl 6 rfl) ?_
          refine lv_iconst (v := 5) hx hb d_Mo_addTime_175 (by decide) ?_
          refine lv_ishl hx hb d_Mo_addTime_176 ?_
          refine lv_topi (fun x_76 e_77 => ?_)
          refine lv_ior hx hb d_Mo_addTime_177 ?_
          refine lv_topi (fun x_78 e_79 => ?_)
          refine sm_vM hI (va_runV (As := [.int (x_78)]) (rest := []) ⟨hx, hb, hml, hown, hts⟩ (c_Mo_add l D ca ad L _ _ _ hM x_78 ((((((((((z1)) + 1)) + 1)) + 1)) + 1)) o_73 (by omega)) (kv_Mo_add hts rfl rfl (hts _ tw_1477) ⟨Nat.le_of_ble_eq_true rfl, Nat.le_of_ble_eq_true rfl⟩) (pv_Mo hI hE hM) rfl rfl hl.1 rfl (lv_room (Nat.le_of_ble_eq_true rfl)) d_Mo_addTime_178 ⟨Nat.le_of_ble_eq_true rfl, Nat.le_of_ble_eq_true rfl⟩) (fun H locs f σ_81 hI hM hF_82 p_80 => ?_)
          have hF := mq_fr_tr hF hF_82 (by decide)
          obtain ⟨o_83, -⟩ := p_80
          refine lv_aload_n hx hb d_Mo_addTime_181 rfl (lv_at hl 0 rfl) ?_
          refine lv_iload hx hb d_Mo_addTime_182 (lv_at hl 8 rfl) ?_
          refine sm_vM hI (va_runV (As := [.int (y10)]) (rest := []) ⟨hx, hb, hml, hown, hts⟩ (c_Mo_add l D ca ad L _ _ _ hM y10 ((((((((((((z1)) + 1)) + 1)) + 1)) + 1)) + 1)) o_83 (by omega)) (kv_Mo_add hts rfl rfl (hts _ tw_1477) ⟨Nat.le_of_ble_eq_true rfl, Nat.le_of_ble_eq_true rfl⟩) (pv_Mo hI hE hM) rfl rfl hl.1 rfl (lv_room (Nat.le_of_ble_eq_true rfl)) d_Mo_addTime_184 ⟨Nat.le_of_ble_eq_true rfl, Nat.le_of_ble_eq_true rfl⟩) (fun H locs f σ_85 hI hM hF_86 p_84 => ?_)
          have hF := mq_fr_tr hF hF_86 (by decide)
          obtain ⟨o_87, -⟩ := p_84
          refine lv_aload_n hx hb d_Mo_addTime_187 rfl (lv_at hl 0 rfl) ?_
          refine lv_iload hx hb d_Mo_addTime_188 (lv_at hl 7 rfl) ?_
          refine lv_bipush (v := 100) hx hb d_Mo_addTime_190 (by decide) ?_
          refine lv_irem hx hb d_Mo_addTime_192 (by decide) ?_
          refine lv_topi (fun x_88 e_89 => ?_)
          refine sm_vM hI (va_runV (As := [.int (x_88)]) (rest := []) ⟨hx, hb, hml, hown, hts⟩ (c_Mo_add l D ca ad L _ _ _ hM x_88 ((((((((((((((z1)) + 1)) + 1)) + 1)) + 1)) + 1)) + 1)) o_87 (by omega)) (kv_Mo_add hts rfl rfl (hts _ tw_1477) ⟨Nat.le_of_ble_eq_true rfl, Nat.le_of_ble_eq_true rfl⟩) (pv_Mo hI hE hM) rfl rfl hl.1 rfl (lv_room (Nat.le_of_ble_eq_true rfl)) d_Mo_addTime_193 ⟨Nat.le_of_ble_eq_true rfl, Nat.le_of_ble_eq_true rfl⟩) (fun H locs f σ_91 hI hM hF_92 p_90 => ?_)
          have hF := mq_fr_tr hF hF_92 (by decide)
          obtain ⟨o_93, -⟩ := p_90
          exact sm_vret hx hb hr hlk hI ⟨σ_91, rfl, hM, hF, ⟨(Eq.trans o_93 (congrArg nI (show ((((((((((((((((z1)) + 1)) + 1)) + 1)) + 1)) + 1)) + 1)) + 1) : Nat) = z1 + 7 by omega))), trivial⟩⟩ d_Mo_addTime_196
      · refine lv_iload hx hb d_Mo_addTime_97 (lv_at hl 5 rfl) ?_
        refine lv_iload hx hb d_Mo_addTime_99 (lv_at hl 7 rfl) ?_
        refine lv_iload hx hb d_Mo_addTime_101 (lv_at hl 8 rfl) ?_
        refine sm_iP hI (va_runS (As := [.int (y9), .int (y10)]) (rest := [.int (k)]) ⟨hx, hb, hml, hown, hts⟩ (c_Mo_daysOf l D ca L _ _ y9 y10) (ks_Mo_daysOf hts rfl rfl (hts _ tw_1531) ⟨Nat.le_of_ble_eq_true rfl, Nat.le_of_ble_eq_true rfl⟩) (sm_preS hI hE) rfl rfl hl.1 rfl (lv_room (Nat.le_of_ble_eq_true rfl)) d_Mo_addTime_103 ⟨Nat.le_of_ble_eq_true rfl, Nat.le_of_ble_eq_true rfl⟩) (fun x_95 H locs p_94 hI => ?_)
        obtain ⟨n_96, rfl, h_97, h_98⟩ := p_94
        refine lv_isub hx hb d_Mo_addTime_106 ?_
        refine lv_topi (fun x_99 e_100 => ?_)
        refine lv_istore (lv' := [(7, .int (x_99)), (0, .ref (ad 71)), (1, .long (x1)), (3, .int (x2)), (4, .int (y4)), (5, .long (y5)), (8, .int (y8)), (9, .int (y9)), (10, .int (y10))]) hx hb d_Mo_addTime_107 hl (by decide) rfl (fun ls hl => ?_)
        obtain ⟨x_101, hx_x_101⟩ : ∃ z, z = y10 + Int32.ofInt (1) := ⟨_, rfl⟩
        refine lv_iinc (v := x_101) (lv' := [(10, .int (x_101)), (7, .int (x_99)), (0, .ref (ad 71)), (1, .long (x1)), (3, .int (x2)), (4, .int (y4)), (5, .long (y5)), (8, .int (y8)), (9, .int (y9))]) hx hb d_Mo_addTime_109 hl (k := 8) rfl hx_x_101.symm (by decide) rfl (fun ls hl => ?_)
        refine lv_goto (tgt := 85) hx hb d_Mo_addTime_112 (by decide) ?_
        exact ih (x_99) _ _ _ _ _ y4 y5 y8 y9 x_101 (dy_2 c_6 (by omega) (by omega) e_100 (by omega) (by omega) hN) hI hM hF (lv_sub hl [2, 3, 4, 5, 6, 1, 7, 8, 0] rfl) (Eq.trans o90 (congrArg nI (show ((z1) : Nat) = _ by omega)))
  have hJ_40 : ∀ (N : Nat) (k : Int32) (H : Heap) (locs : List Loc) (f : Nat → va_E) (σ : mq_S) (ls : Array Slot) (y4 : Int32) (y5 : Int64) (y8 : Int32) (y9 : Int32), k.toInt.toNat + 1 ≤ N → sw_I D cl_all (ty_s ca) (va_A (va_pl L f0) sz) s H locs L f → mq_B ca ad σ L f → mq_fr [69, 70] σ0 σ → lv_has ls 11 [(0, .ref (ad 71)), (1, .long (x1)), (3, .int (x2)), (4, .int (y4)), (5, .long (y5)), (7, .int (k)), (8, .int (y8)), (9, .int (y9))] → (σ.1 70 = nI (z1)) → W p l e { frames := 1, cells := 0, slots := 0, locals := 21 } s m ([.ref (ad 71), .long (x1), .int (x2)] : List Value).toArray below meth c H locs 0 0 (MQ below (sm_Qv D (ty_s ca) L f0 sz (fun u => mq_po ca ad L σ0 [69, 70] (fun σ => σ.1 70 = nI (z1 + 7) ∧ True) u)) ([.ref (ad 71), .long (x1), .int (x2)] : List Value).toArray s 0 0 (va_A (va_pl L f0) sz)) (F0 m 40 ls []) := by
    intro N
    induction N with
    | zero => intros; omega
    | succ N ih =>
      intro k H locs f σ ls y4 y5 y8 y9 hN hI hM hF hl o90
      refine lv_iload hx hb d_Mo_addTime_40 (lv_at hl 5 rfl) ?_
      refine lv_sipush (v := 365) hx hb d_Mo_addTime_42 (by decide) ?_
      refine lv_iload hx hb d_Mo_addTime_45 (lv_at hl 7 rfl) ?_
      refine lv_iconst (v := 2) hx hb d_Mo_addTime_47 (by decide) ?_
      refine sm_iP hI (va_runS (As := [.int (y9), .int (2)]) (rest := [.int (365), .int (k)]) ⟨hx, hb, hml, hown, hts⟩ (c_Mo_daysOf l D ca L _ _ y9 2) (ks_Mo_daysOf hts rfl rfl (hts _ tw_1531) ⟨Nat.le_of_ble_eq_true rfl, Nat.le_of_ble_eq_true rfl⟩) (sm_preS hI hE) rfl rfl hl.1 rfl (lv_room (Nat.le_of_ble_eq_true rfl)) d_Mo_addTime_48 ⟨Nat.le_of_ble_eq_true rfl, Nat.le_of_ble_eq_true rfl⟩) (fun x_103 H locs p_102 hI => ?_)
      obtain ⟨n_104, rfl, h_105, h_106⟩ := p_102
      refine lv_iadd hx hb d_Mo_addTime_51 ?_
      refine lv_topi (fun x_107 e_108 => ?_)
      obtain rfl : x_107 = nI (365 + n_104) := by rw [e_108]; exact nI_add _ _
      refine lv_bipush (v := 28) hx hb d_Mo_addTime_52 (by decide) ?_
      refine lv_isub hx hb d_Mo_addTime_54 ?_
      refine lv_topi (fun x_109 e_110 => ?_)
      obtain rfl : x_109 = nI ((365 + n_104) - 28) := by rw [e_110]; exact pk_sub (a := (365 + n_104)) (b := 28) (by omega)
      refine lv_icmp_lt (tgt := 82) hx hb d_Mo_addTime_55 (by decide) (fun c_111 => ?_) (fun c_111 => ?_)
      · refine lv_iconst (v := 1) hx hb d_Mo_addTime_82 (by decide) ?_
        refine lv_istore (lv' := [(10, .int (1)), (0, .ref (ad 71)), (1, .long (x1)), (3, .int (x2)), (4, .int (y4)), (5, .long (y5)), (7, .int (k)), (8, .int (y8)), (9, .int (y9))]) hx hb d_Mo_addTime_83 hl (by decide) rfl (fun ls hl => ?_)
        exact hJ_85 _ (k) _ _ _ _ _ y4 y5 y8 y9 1 (Nat.le_refl _) hI hM hF (lv_sub hl [1, 2, 3, 4, 5, 6, 7, 8, 0] rfl) (Eq.trans o90 (congrArg nI (show ((z1) : Nat) = _ by omega)))
      · refine lv_iload hx hb d_Mo_addTime_58 (lv_at hl 5 rfl) ?_
        refine lv_sipush (v := 365) hx hb d_Mo_addTime_60 (by decide) ?_
        refine lv_isub hx hb d_Mo_addTime_63 ?_
        refine lv_topi (fun x_112 e_113 => ?_)
        refine lv_iload hx hb d_Mo_addTime_64 (lv_at hl 7 rfl) ?_
        refine lv_iconst (v := 2) hx hb d_Mo_addTime_66 (by decide) ?_
        refine sm_iP hI (va_runS (As := [.int (y9), .int (2)]) (rest := [.int (x_112)]) ⟨hx, hb, hml, hown, hts⟩ (c_Mo_daysOf l D ca L _ _ y9 2) (ks_Mo_daysOf hts rfl rfl (hts _ tw_1531) ⟨Nat.le_of_ble_eq_true rfl, Nat.le_of_ble_eq_true rfl⟩) (sm_preS hI hE) rfl rfl hl.1 rfl (lv_room (Nat.le_of_ble_eq_true rfl)) d_Mo_addTime_67 ⟨Nat.le_of_ble_eq_true rfl, Nat.le_of_ble_eq_true rfl⟩) (fun x_115 H locs p_114 hI => ?_)
        obtain ⟨n_116, rfl, h_117, h_118⟩ := p_114
        refine lv_isub hx hb d_Mo_addTime_70 ?_
        refine lv_topi (fun x_119 e_120 => ?_)
        refine lv_bipush (v := 28) hx hb d_Mo_addTime_71 (by decide) ?_
        refine lv_iadd hx hb d_Mo_addTime_73 ?_
        refine lv_topi (fun x_121 e_122 => ?_)
        refine lv_istore (lv' := [(7, .int (x_121)), (0, .ref (ad 71)), (1, .long (x1)), (3, .int (x2)), (4, .int (y4)), (5, .long (y5)), (8, .int (y8)), (9, .int (y9))]) hx hb d_Mo_addTime_74 hl (by decide) rfl (fun ls hl => ?_)
        obtain ⟨x_123, hx_x_123⟩ : ∃ z, z = y9 + Int32.ofInt (1) := ⟨_, rfl⟩
        refine lv_iinc (v := x_123) (lv' := [(9, .int (x_123)), (7, .int (x_121)), (0, .ref (ad 71)), (1, .long (x1)), (3, .int (x2)), (4, .int (y4)), (5, .long (y5)), (8, .int (y8))]) hx hb d_Mo_addTime_76 hl (k := 7) rfl hx_x_123.symm (by decide) rfl (fun ls hl => ?_)
        refine lv_goto (tgt := 40) hx hb d_Mo_addTime_79 (by decide) ?_
        exact ih (x_121) _ _ _ _ _ y4 y5 y8 x_123 (dy_1 c_111 (by omega) (by omega) e_113 e_120 e_122 (by omega) (by omega) hN) hI hM hF (lv_sub hl [2, 3, 4, 5, 6, 1, 7, 0] rfl) (Eq.trans o90 (congrArg nI (show ((z1) : Nat) = _ by omega)))
  refine lv_lload_n hx hb d_Mo_addTime_0 rfl (lv_at hl 1 rfl) ?_
  refine lv_ldc2 (v := 60000) hx hb hown (hts _ tw_1529) d_Mo_addTime_1 ?_
  refine lv_lrem hx hb d_Mo_addTime_4 (by decide) ?_
  refine lv_topl (fun x_124 e_125 => ?_)
  refine lv_l2i hx hb d_Mo_addTime_5 rfl ?_
  refine lv_topi (fun x_126 e_127 => ?_)
  refine lv_istore (lv' := [(4, .int (x_126)), (0, .ref (ad 71)), (1, .long (x1)), (3, .int (x2))]) hx hb d_Mo_addTime_6 hl (by decide) rfl (fun ls hl => ?_)
  refine lv_lload_n hx hb d_Mo_addTime_8 rfl (lv_at hl 2 rfl) ?_
  refine lv_ldc2 (v := 60000) hx hb hown (hts _ tw_1529) d_Mo_addTime_9 ?_
  refine lv_ldiv hx hb d_Mo_addTime_12 (by decide) ?_
  refine lv_topl (fun x_128 e_129 => ?_)
  refine lv_lstore (lv' := [(5, .long (x_128)), (4, .int (x_126)), (0, .ref (ad 71)), (1, .long (x1)), (3, .int (x2))]) hx hb d_Mo_addTime_13 hl (by decide) rfl (fun ls hl => ?_)
  refine lv_lload hx hb d_Mo_addTime_15 (lv_at hl 0 rfl) ?_
  refine lv_ldc2 (v := 1440) hx hb hown (hts _ tw_1530) d_Mo_addTime_17 ?_
  refine lv_ldiv hx hb d_Mo_addTime_20 (by decide) ?_
  refine lv_topl (fun x_130 e_131 => ?_)
  refine lv_l2i hx hb d_Mo_addTime_21 rfl ?_
  refine lv_topi (fun x_132 e_133 => ?_)
  refine lv_istore (lv' := [(7, .int (x_132)), (5, .long (x_128)), (4, .int (x_126)), (0, .ref (ad 71)), (1, .long (x1)), (3, .int (x2))]) hx hb d_Mo_addTime_22 hl (by decide) rfl (fun ls hl => ?_)
  refine lv_iload hx hb d_Mo_addTime_24 (lv_at hl 0 rfl) ?_
  refine lv_iconst (v := 5) hx hb d_Mo_addTime_26 (by decide) ?_
  refine lv_iadd hx hb d_Mo_addTime_27 ?_
  refine lv_topi (fun x_134 e_135 => ?_)
  refine lv_bipush (v := 7) hx hb d_Mo_addTime_28 (by decide) ?_
  refine lv_irem hx hb d_Mo_addTime_30 (by decide) ?_
  refine lv_topi (fun x_136 e_137 => ?_)
  refine lv_iconst (v := 1) hx hb d_Mo_addTime_31 (by decide) ?_
  refine lv_iadd hx hb d_Mo_addTime_32 ?_
  refine lv_topi (fun x_138 e_139 => ?_)
  refine lv_istore (lv' := [(8, .int (x_138)), (7, .int (x_132)), (5, .long (x_128)), (4, .int (x_126)), (0, .ref (ad 71)), (1, .long (x1)), (3, .int (x2))]) hx hb d_Mo_addTime_33 hl (by decide) rfl (fun ls hl => ?_)
  refine lv_sipush (v := 2000) hx hb d_Mo_addTime_35 (by decide) ?_
  refine lv_istore (lv' := [(9, .int (2000)), (8, .int (x_138)), (7, .int (x_132)), (5, .long (x_128)), (4, .int (x_126)), (0, .ref (ad 71)), (1, .long (x1)), (3, .int (x2))]) hx hb d_Mo_addTime_38 hl (by decide) rfl (fun ls hl => ?_)
  exact hJ_40 _ (x_132) _ _ _ _ _ x_126 x_128 x_138 2000 (Nat.le_refl _) hI hM hF (lv_sub hl [5, 6, 7, 4, 3, 2, 1, 0] rfl) (Eq.trans o0 (congrArg nI (show (z1 : Nat) = _ by omega)))
theorem d_Mo_eventAsdu_0 : decode b_Mo_eventAsdu 0 = .ok (.aload_n 0, 1) := by decide +kernel
theorem d_Mo_eventAsdu_1 : decode b_Mo_eventAsdu 1 = .ok (.getfield 13, 3) := by decide +kernel
theorem d_Mo_eventAsdu_4 : decode b_Mo_eventAsdu 4 = .ok (.aload_n 0, 1) := by decide +kernel
theorem d_Mo_eventAsdu_5 : decode b_Mo_eventAsdu 5 = .ok (.getfield 115, 3) := by decide +kernel
theorem d_Mo_eventAsdu_8 : decode b_Mo_eventAsdu 8 = .ok (.iload_n 2, 1) := by decide +kernel
theorem d_Mo_eventAsdu_9 : decode b_Mo_eventAsdu 9 = .ok (.iaload, 1) := by decide +kernel
theorem d_Mo_eventAsdu_10 : decode b_Mo_eventAsdu 10 = .ok (.iaload, 1) := by decide +kernel
theorem d_Mo_eventAsdu_11 : decode b_Mo_eventAsdu 11 = .ok (.istore_n 3, 1) := by decide +kernel
theorem d_Mo_eventAsdu_12 : decode b_Mo_eventAsdu 12 = .ok (.iload_n 3, 1) := by decide +kernel
theorem d_Mo_eventAsdu_13 : decode b_Mo_eventAsdu 13 = .ok (.invokestatic 302, 3) := by decide +kernel
theorem d_Mo_eventAsdu_16 : decode b_Mo_eventAsdu 16 = .ok (.istore 4, 2) := by decide +kernel
theorem d_Mo_eventAsdu_18 : decode b_Mo_eventAsdu 18 = .ok (.aload_n 0, 1) := by decide +kernel
theorem d_Mo_eventAsdu_19 : decode b_Mo_eventAsdu 19 = .ok (.iload_n 1, 1) := by decide +kernel
theorem d_Mo_eventAsdu_20 : decode b_Mo_eventAsdu 20 = .ok (.iload 4, 2) := by decide +kernel
theorem d_Mo_eventAsdu_22 : decode b_Mo_eventAsdu 22 = .ok (.bipush 7, 2) := by decide +kernel
theorem d_Mo_eventAsdu_24 : decode b_Mo_eventAsdu 24 = .ok (.if_icmp .ge 15, 3) := by decide +kernel
theorem d_Mo_eventAsdu_27 : decode b_Mo_eventAsdu 27 = .ok (.iload 4, 2) := by decide +kernel
theorem d_Mo_eventAsdu_29 : decode b_Mo_eventAsdu 29 = .ok (.iconst 1, 1) := by decide +kernel
theorem d_Mo_eventAsdu_30 : decode b_Mo_eventAsdu 30 = .ok (.isub, 1) := by decide +kernel
theorem d_Mo_eventAsdu_31 : decode b_Mo_eventAsdu 31 = .ok (.iconst 2, 1) := by decide +kernel
theorem d_Mo_eventAsdu_32 : decode b_Mo_eventAsdu 32 = .ok (.idiv, 1) := by decide +kernel
theorem d_Mo_eventAsdu_33 : decode b_Mo_eventAsdu 33 = .ok (.bipush 30, 2) := by decide +kernel
theorem d_Mo_eventAsdu_35 : decode b_Mo_eventAsdu 35 = .ok (.iadd, 1) := by decide +kernel
theorem d_Mo_eventAsdu_36 : decode b_Mo_eventAsdu 36 = .ok (.goto 37, 3) := by decide +kernel
theorem d_Mo_eventAsdu_39 : decode b_Mo_eventAsdu 39 = .ok (.iload 4, 2) := by decide +kernel
theorem d_Mo_eventAsdu_41 : decode b_Mo_eventAsdu 41 = .ok (.bipush 13, 2) := by decide +kernel
theorem d_Mo_eventAsdu_43 : decode b_Mo_eventAsdu 43 = .ok (.if_icmp .ge 16, 3) := by decide +kernel
theorem d_Mo_eventAsdu_46 : decode b_Mo_eventAsdu 46 = .ok (.iload 4, 2) := by decide +kernel
theorem d_Mo_eventAsdu_48 : decode b_Mo_eventAsdu 48 = .ok (.bipush 9, 2) := by decide +kernel
theorem d_Mo_eventAsdu_50 : decode b_Mo_eventAsdu 50 = .ok (.isub, 1) := by decide +kernel
theorem d_Mo_eventAsdu_51 : decode b_Mo_eventAsdu 51 = .ok (.iconst 2, 1) := by decide +kernel
theorem d_Mo_eventAsdu_52 : decode b_Mo_eventAsdu 52 = .ok (.idiv, 1) := by decide +kernel
theorem d_Mo_eventAsdu_53 : decode b_Mo_eventAsdu 53 = .ok (.bipush 34, 2) := by decide +kernel
theorem d_Mo_eventAsdu_55 : decode b_Mo_eventAsdu 55 = .ok (.iadd, 1) := by decide +kernel
theorem d_Mo_eventAsdu_56 : decode b_Mo_eventAsdu 56 = .ok (.goto 17, 3) := by decide +kernel
theorem d_Mo_eventAsdu_59 : decode b_Mo_eventAsdu 59 = .ok (.iload 4, 2) := by decide +kernel
theorem d_Mo_eventAsdu_61 : decode b_Mo_eventAsdu 61 = .ok (.bipush 13, 2) := by decide +kernel
theorem d_Mo_eventAsdu_63 : decode b_Mo_eventAsdu 63 = .ok (.if_icmp .ne 8, 3) := by decide +kernel
theorem d_Mo_eventAsdu_66 : decode b_Mo_eventAsdu 66 = .ok (.bipush 36, 2) := by decide +kernel
theorem d_Mo_eventAsdu_68 : decode b_Mo_eventAsdu 68 = .ok (.goto 5, 3) := by decide +kernel
theorem d_Mo_eventAsdu_71 : decode b_Mo_eventAsdu 71 = .ok (.bipush 37, 2) := by decide +kernel
theorem d_Mo_eventAsdu_73 : decode b_Mo_eventAsdu 73 = .ok (.iconst 1, 1) := by decide +kernel
theorem d_Mo_eventAsdu_74 : decode b_Mo_eventAsdu 74 = .ok (.iconst 3, 1) := by decide +kernel
theorem d_Mo_eventAsdu_75 : decode b_Mo_eventAsdu 75 = .ok (.iconst 0, 1) := by decide +kernel
theorem d_Mo_eventAsdu_76 : decode b_Mo_eventAsdu 76 = .ok (.invokevirtual 305, 3) := by decide +kernel
theorem d_Mo_eventAsdu_79 : decode b_Mo_eventAsdu 79 = .ok (.aload_n 0, 1) := by decide +kernel
theorem d_Mo_eventAsdu_80 : decode b_Mo_eventAsdu 80 = .ok (.aload_n 0, 1) := by decide +kernel
theorem d_Mo_eventAsdu_81 : decode b_Mo_eventAsdu 81 = .ok (.getfield 7, 3) := by decide +kernel
theorem d_Mo_eventAsdu_84 : decode b_Mo_eventAsdu 84 = .ok (.aload_n 0, 1) := by decide +kernel
theorem d_Mo_eventAsdu_85 : decode b_Mo_eventAsdu 85 = .ok (.getfield 115, 3) := by decide +kernel
theorem d_Mo_eventAsdu_88 : decode b_Mo_eventAsdu 88 = .ok (.iload_n 2, 1) := by decide +kernel
theorem d_Mo_eventAsdu_89 : decode b_Mo_eventAsdu 89 = .ok (.iaload, 1) := by decide +kernel
theorem d_Mo_eventAsdu_90 : decode b_Mo_eventAsdu 90 = .ok (.iaload, 1) := by decide +kernel
theorem d_Mo_eventAsdu_91 : decode b_Mo_eventAsdu 91 = .ok (.aload_n 0, 1) := by decide +kernel
theorem d_Mo_eventAsdu_92 : decode b_Mo_eventAsdu 92 = .ok (.iload_n 1, 1) := by decide +kernel
theorem d_Mo_eventAsdu_93 : decode b_Mo_eventAsdu 93 = .ok (.invokevirtual 296, 3) := by decide +kernel
theorem d_Mo_eventAsdu_96 : decode b_Mo_eventAsdu 96 = .ok (.invokevirtual 272, 3) := by decide +kernel
theorem d_Mo_eventAsdu_99 : decode b_Mo_eventAsdu 99 = .ok (.aload_n 0, 1) := by decide +kernel
theorem d_Mo_eventAsdu_100 : decode b_Mo_eventAsdu 100 = .ok (.iload_n 3, 1) := by decide +kernel
theorem d_Mo_eventAsdu_101 : decode b_Mo_eventAsdu 101 = .ok (.aload_n 0, 1) := by decide +kernel
theorem d_Mo_eventAsdu_102 : decode b_Mo_eventAsdu 102 = .ok (.getfield 118, 3) := by decide +kernel
theorem d_Mo_eventAsdu_105 : decode b_Mo_eventAsdu 105 = .ok (.iload_n 2, 1) := by decide +kernel
theorem d_Mo_eventAsdu_106 : decode b_Mo_eventAsdu 106 = .ok (.iaload, 1) := by decide +kernel
theorem d_Mo_eventAsdu_107 : decode b_Mo_eventAsdu 107 = .ok (.aload_n 0, 1) := by decide +kernel
theorem d_Mo_eventAsdu_108 : decode b_Mo_eventAsdu 108 = .ok (.getfield 121, 3) := by decide +kernel
theorem d_Mo_eventAsdu_111 : decode b_Mo_eventAsdu 111 = .ok (.iload_n 2, 1) := by decide +kernel
theorem d_Mo_eventAsdu_112 : decode b_Mo_eventAsdu 112 = .ok (.iaload, 1) := by decide +kernel
theorem d_Mo_eventAsdu_113 : decode b_Mo_eventAsdu 113 = .ok (.aload_n 0, 1) := by decide +kernel
theorem d_Mo_eventAsdu_114 : decode b_Mo_eventAsdu 114 = .ok (.getfield 124, 3) := by decide +kernel
theorem d_Mo_eventAsdu_117 : decode b_Mo_eventAsdu 117 = .ok (.iload_n 2, 1) := by decide +kernel
theorem d_Mo_eventAsdu_118 : decode b_Mo_eventAsdu 118 = .ok (.iaload, 1) := by decide +kernel
theorem d_Mo_eventAsdu_119 : decode b_Mo_eventAsdu 119 = .ok (.invokevirtual 312, 3) := by decide +kernel
theorem d_Mo_eventAsdu_122 : decode b_Mo_eventAsdu 122 = .ok (.aload_n 0, 1) := by decide +kernel
theorem d_Mo_eventAsdu_123 : decode b_Mo_eventAsdu 123 = .ok (.aload_n 0, 1) := by decide +kernel
theorem d_Mo_eventAsdu_124 : decode b_Mo_eventAsdu 124 = .ok (.getfield 127, 3) := by decide +kernel
theorem d_Mo_eventAsdu_127 : decode b_Mo_eventAsdu 127 = .ok (.iload_n 2, 1) := by decide +kernel
theorem d_Mo_eventAsdu_128 : decode b_Mo_eventAsdu 128 = .ok (.laload, 1) := by decide +kernel
theorem d_Mo_eventAsdu_129 : decode b_Mo_eventAsdu 129 = .ok (.aload_n 0, 1) := by decide +kernel
theorem d_Mo_eventAsdu_130 : decode b_Mo_eventAsdu 130 = .ok (.getfield 130, 3) := by decide +kernel
theorem d_Mo_eventAsdu_133 : decode b_Mo_eventAsdu 133 = .ok (.iload_n 2, 1) := by decide +kernel
theorem d_Mo_eventAsdu_134 : decode b_Mo_eventAsdu 134 = .ok (.baload, 1) := by decide +kernel
theorem d_Mo_eventAsdu_135 : decode b_Mo_eventAsdu 135 = .ok (.invokevirtual 322, 3) := by decide +kernel
theorem d_Mo_eventAsdu_138 : decode b_Mo_eventAsdu 138 = .ok (.return_, 1) := by decide +kernel
set_option maxRecDepth 100000 in
set_option maxHeartbeats 4000000 in
theorem c_Mo_eventAsdu (l : Launch) (D : va_G) (ca : Nat → ClassId) (ad : Nat → Nat) (L : List Nat) (f0 : Nat → va_E) (sz : Nat) (σ0 : mq_S) (hM : mq_B ca ad σ0 L f0) (j1 : Nat) (q1 : j1 ≤ 3) (j2 : Nat) (q2 : j2 ≤ 47) :
    Met l y_Mo_eventAsdu (Cond.code y_Mo_eventAsdu b_Mo_eventAsdu 5 none :: wg) { frames := 3, cells := 0, slots := 0, locals := 69 } (va_Pc [.ref (ad 71), .int (nI j1), .int (nI j2)] (sm_P D cl_all (ty_s ca) ek L f0 sz)) (sm_Qv D (ty_s ca) L f0 sz (fun u => mq_po ca ad L σ0 [69, 70] (fun σ => (∃ n : Nat, 0 ≤ n ∧ n ≤ 30 ∧ σ.1 70 = nI n) ∧ True) u)) 0 0 (va_A (va_pl L f0) sz) := by
  refine sm_start (by decide) (Nat.le_of_ble_eq_true rfl) ?_
  intro p e s m below meth c ls hx hb hml hr hlk hnm hts hown hsz hE hI hl
  have hl : lv_has ls 5 [(0, .ref (ad 71)), (1, .int (nI j1)), (2, .int (nI j2))] := hl
  have hF : mq_fr [69, 70] σ0 σ0 := mq_fr_rf
  have hJ_73 : ∀ (H : Heap) (locs : List Loc) (f : Nat → va_E) (σ : mq_S) (ls : Array Slot) (y3 : Int32) (y4 : Int32) (z2 : Int32), sw_I D cl_all (ty_s ca) (va_A (va_pl L f0) sz) s H locs L f → mq_B ca ad σ L f → mq_fr [69, 70] σ0 σ → lv_has ls 5 [(0, .ref (ad 71)), (1, .int (nI j1)), (2, .int (nI j2)), (3, .int (y3)), (4, .int (y4))] → W p l e { frames := 3, cells := 0, slots := 0, locals := 69 } s m ([.ref (ad 71), .int (nI j1), .int (nI j2)] : List Value).toArray below meth c H locs 0 0 (MQ below (sm_Qv D (ty_s ca) L f0 sz (fun u => mq_po ca ad L σ0 [69, 70] (fun σ => (∃ n : Nat, 0 ≤ n ∧ n ≤ 30 ∧ σ.1 70 = nI n) ∧ True) u)) ([.ref (ad 71), .int (nI j1), .int (nI j2)] : List Value).toArray s 0 0 (va_A (va_pl L f0) sz)) (F0 m 73 ls [.int (z2), .int (nI j1), .ref (ad 71)]) := by
    intro H locs f σ ls y3 y4 z2 hI hM hF hl 
    refine lv_iconst (v := 1) hx hb d_Mo_eventAsdu_73 (by decide) ?_
    refine lv_iconst (v := 3) hx hb d_Mo_eventAsdu_74 (by decide) ?_
    refine lv_iconst (v := 0) hx hb d_Mo_eventAsdu_75 (by decide) ?_
    refine sm_vM hI (va_runV (As := [.int (nI j1), .int (z2), .int (1), .int (3), .int (0)]) (rest := []) ⟨hx, hb, hml, hown, hts⟩ (c_Mo_begin l D ca ad L _ _ _ hM (nI j1) z2 1 3 0) (kv_Mo_begin hts rfl rfl (hts _ tw_1473) ⟨Nat.le_of_ble_eq_true rfl, Nat.le_of_ble_eq_true rfl⟩) (pv_Mo hI hE hM) rfl rfl hl.1 rfl (lv_room (Nat.le_of_ble_eq_true rfl)) d_Mo_eventAsdu_76 ⟨Nat.le_of_ble_eq_true rfl, Nat.le_of_ble_eq_true rfl⟩) (fun H locs f σ_2 hI hM hF_3 p_1 => ?_)
    have hF := mq_fr_tr hF hF_3 (by decide)
    obtain ⟨⟨n_5, h_6, h_7, o_4⟩, -⟩ := p_1
    refine lv_aload_n hx hb d_Mo_eventAsdu_79 rfl (lv_at hl 0 rfl) ?_
    refine lv_aload_n hx hb d_Mo_eventAsdu_80 rfl (lv_at hl 0 rfl) ?_
    refine mq_get (k := 3) (v := .ref (ad 3)) hx hb hts hown hI hM (by decide) rfl rfl (hts _ tw_1172) d_Mo_eventAsdu_81 ?_
    refine lv_aload_n hx hb d_Mo_eventAsdu_84 rfl (lv_at hl 0 rfl) ?_
    refine mq_get (k := 46) (v := .ref (ad 46)) hx hb hts hown hI hM (by decide) rfl rfl (hts _ tw_1215) d_Mo_eventAsdu_85 ?_
    refine lv_iload_n hx hb d_Mo_eventAsdu_88 rfl (lv_at hl 2 rfl) ?_
    obtain ⟨n_8, h_9, h_10, e_11⟩ := hM.2.2.2.2.2 46 (j2)
    refine mq_iald (k := 46) (j := j2) (v := nI n_8) hx hb hI hM (by decide) rfl (by show j2 < 48; omega) (by decide) e_11 d_Mo_eventAsdu_89 ?_
    obtain ⟨x_12, e_13⟩ : ∃ z, σ_2.2.2.1 3 (n_8) = z := ⟨_, rfl⟩
    refine mq_iald (k := 3) (j := n_8) (v := x_12) hx hb hI hM (by decide) rfl (by show n_8 < 32; omega) (by decide) e_13 d_Mo_eventAsdu_90 ?_
    refine lv_aload_n hx hb d_Mo_eventAsdu_91 rfl (lv_at hl 0 rfl) ?_
    refine lv_iload_n hx hb d_Mo_eventAsdu_92 rfl (lv_at hl 1 rfl) ?_
    refine sm_iP hI (va_runV (As := [.int (nI j1)]) (rest := [.int (x_12), .ref (ad 71)]) ⟨hx, hb, hml, hown, hts⟩ (c_Mo_objectBytes l D ca ad L _ _ _ hM (nI j1)) (kv_Mo_objectBytes hts rfl rfl (hts _ tw_1462) ⟨Nat.le_of_ble_eq_true rfl, Nat.le_of_ble_eq_true rfl⟩) (pv_Mo hI hE hM) rfl rfl hl.1 rfl (lv_room (Nat.le_of_ble_eq_true rfl)) d_Mo_eventAsdu_93 ⟨Nat.le_of_ble_eq_true rfl, Nat.le_of_ble_eq_true rfl⟩) (fun x_15 H locs p_14 hI => ?_)
    obtain ⟨n_16, rfl, h_17, h_18, h_19⟩ := p_14
    refine sm_vM hI (va_runV (As := [.int (x_12), .int (nI n_16)]) (rest := []) ⟨hx, hb, hml, hown, hts⟩ (c_Mo_addNumber l D ca ad L _ _ _ hM x_12 (n_16) (by omega) (n_5) o_4 (by omega)) (kv_Mo_addNumber hts rfl rfl (hts _ tw_1481) ⟨Nat.le_of_ble_eq_true rfl, Nat.le_of_ble_eq_true rfl⟩) (pv_Mo hI hE hM) rfl rfl hl.1 rfl (lv_room (Nat.le_of_ble_eq_true rfl)) d_Mo_eventAsdu_96 ⟨Nat.le_of_ble_eq_true rfl, Nat.le_of_ble_eq_true rfl⟩) (fun H locs f σ_21 hI hM hF_22 p_20 => ?_)
    have hF := mq_fr_tr hF hF_22 (by decide)
    obtain ⟨o_23, -⟩ := p_20
    refine lv_aload_n hx hb d_Mo_eventAsdu_99 rfl (lv_at hl 0 rfl) ?_
    refine lv_iload_n hx hb d_Mo_eventAsdu_100 rfl (lv_at hl 3 rfl) ?_
    refine lv_aload_n hx hb d_Mo_eventAsdu_101 rfl (lv_at hl 0 rfl) ?_
    refine mq_get (k := 47) (v := .ref (ad 47)) hx hb hts hown hI hM (by decide) rfl rfl (hts _ tw_1216) d_Mo_eventAsdu_102 ?_
    refine lv_iload_n hx hb d_Mo_eventAsdu_105 rfl (lv_at hl 2 rfl) ?_
    obtain ⟨x_24, e_25⟩ : ∃ z, σ_21.2.2.1 47 (j2) = z := ⟨_, rfl⟩
    refine mq_iald (k := 47) (j := j2) (v := x_24) hx hb hI hM (by decide) rfl (by show j2 < 48; omega) (by decide) e_25 d_Mo_eventAsdu_106 ?_
    refine lv_aload_n hx hb d_Mo_eventAsdu_107 rfl (lv_at hl 0 rfl) ?_
    refine mq_get (k := 48) (v := .ref (ad 48)) hx hb hts hown hI hM (by decide) rfl rfl (hts _ tw_1217) d_Mo_eventAsdu_108 ?_
    refine lv_iload_n hx hb d_Mo_eventAsdu_111 rfl (lv_at hl 2 rfl) ?_
    obtain ⟨x_26, e_27⟩ : ∃ z, σ_21.2.2.1 48 (j2) = z := ⟨_, rfl⟩
    refine mq_iald (k := 48) (j := j2) (v := x_26) hx hb hI hM (by decide) rfl (by show j2 < 48; omega) (by decide) e_27 d_Mo_eventAsdu_112 ?_
    refine lv_aload_n hx hb d_Mo_eventAsdu_113 rfl (lv_at hl 0 rfl) ?_
    refine mq_get (k := 49) (v := .ref (ad 49)) hx hb hts hown hI hM (by decide) rfl rfl (hts _ tw_1218) d_Mo_eventAsdu_114 ?_
    refine lv_iload_n hx hb d_Mo_eventAsdu_117 rfl (lv_at hl 2 rfl) ?_
    obtain ⟨x_28, e_29⟩ : ∃ z, σ_21.2.2.1 49 (j2) = z := ⟨_, rfl⟩
    refine mq_iald (k := 49) (j := j2) (v := x_28) hx hb hI hM (by decide) rfl (by show j2 < 48; omega) (by decide) e_29 d_Mo_eventAsdu_118 ?_
    refine sm_vM hI (va_runV (As := [.int (y3), .int (x_24), .int (x_26), .int (x_28)]) (rest := []) ⟨hx, hb, hml, hown, hts⟩ (c_Mo_addObject l D ca ad L _ _ _ hM y3 x_24 x_26 x_28 ((n_5 + n_16)) o_23 (by omega)) (kv_Mo_addObject hts rfl rfl (hts _ tw_1488) ⟨Nat.le_of_ble_eq_true rfl, Nat.le_of_ble_eq_true rfl⟩) (pv_Mo hI hE hM) rfl rfl hl.1 rfl (lv_room (Nat.le_of_ble_eq_true rfl)) d_Mo_eventAsdu_119 ⟨Nat.le_of_ble_eq_true rfl, Nat.le_of_ble_eq_true rfl⟩) (fun H locs f σ_31 hI hM hF_32 p_30 => ?_)
    have hF := mq_fr_tr hF hF_32 (by decide)
    obtain ⟨⟨n_34, h_35, h_36, o_33⟩, -⟩ := p_30
    refine lv_aload_n hx hb d_Mo_eventAsdu_122 rfl (lv_at hl 0 rfl) ?_
    refine lv_aload_n hx hb d_Mo_eventAsdu_123 rfl (lv_at hl 0 rfl) ?_
    refine mq_get (k := 50) (v := .ref (ad 50)) hx hb hts hown hI hM (by decide) rfl rfl (hts _ tw_1219) d_Mo_eventAsdu_124 ?_
    refine lv_iload_n hx hb d_Mo_eventAsdu_127 rfl (lv_at hl 2 rfl) ?_
    refine mq_lald (k := 50) (j := j2) hx hb hI hM (by decide) rfl (by show j2 < 48; omega) (by decide) d_Mo_eventAsdu_128 ?_
    refine lv_topl (fun x_37 e_38 => ?_)
    refine lv_aload_n hx hb d_Mo_eventAsdu_129 rfl (lv_at hl 0 rfl) ?_
    refine mq_get (k := 51) (v := .ref (ad 51)) hx hb hts hown hI hM (by decide) rfl rfl (hts _ tw_1220) d_Mo_eventAsdu_130 ?_
    refine lv_iload_n hx hb d_Mo_eventAsdu_133 rfl (lv_at hl 2 rfl) ?_
    obtain ⟨n_39, h_40, h_41, e_42⟩ := hM.2.2.2.2.2 51 (j2)
    have p_43 : nI n_39 = 0 ∨ nI n_39 = 1 := mq_zok ⟨n_39, h_40, h_41, rfl⟩
    refine mq_zald (k := 51) (j := j2) (v := nI n_39) hx hb hI hM (by decide) rfl (by show j2 < 48; omega) (by decide) e_42 d_Mo_eventAsdu_134 ?_
    refine sm_vM hI (va_runV (As := [.long (x_37), .int (nI n_39)]) (rest := []) ⟨hx, hb, hml, hown, hts⟩ (c_Mo_addTime l D ca ad L _ _ _ hM x_37 (nI n_39) p_43 (n_34) o_33 (by omega)) (kv_Mo_addTime hts rfl rfl (hts _ tw_1525) ⟨Nat.le_of_ble_eq_true rfl, Nat.le_of_ble_eq_true rfl⟩) (pv_Mo hI hE hM) rfl rfl hl.1 rfl (lv_room (Nat.le_of_ble_eq_true rfl)) d_Mo_eventAsdu_135 ⟨Nat.le_of_ble_eq_true rfl, Nat.le_of_ble_eq_true rfl⟩) (fun H locs f σ_45 hI hM hF_46 p_44 => ?_)
    have hF := mq_fr_tr hF hF_46 (by decide)
    obtain ⟨o_47, -⟩ := p_44
    exact sm_vret hx hb hr hlk hI ⟨σ_45, rfl, hM, hF, ⟨⟨(n_34 + 7), by omega, by omega, o_47⟩, trivial⟩⟩ d_Mo_eventAsdu_138
  refine lv_aload_n hx hb d_Mo_eventAsdu_0 rfl (lv_at hl 0 rfl) ?_
  refine mq_get (k := 4) (v := .ref (ad 4)) hx hb hts hown hI hM (by decide) rfl rfl (hts _ tw_1173) d_Mo_eventAsdu_1 ?_
  refine lv_aload_n hx hb d_Mo_eventAsdu_4 rfl (lv_at hl 0 rfl) ?_
  refine mq_get (k := 46) (v := .ref (ad 46)) hx hb hts hown hI hM (by decide) rfl rfl (hts _ tw_1215) d_Mo_eventAsdu_5 ?_
  refine lv_iload_n hx hb d_Mo_eventAsdu_8 rfl (lv_at hl 2 rfl) ?_
  obtain ⟨n_48, h_49, h_50, e_51⟩ := hM.2.2.2.2.2 46 (j2)
  refine mq_iald (k := 46) (j := j2) (v := nI n_48) hx hb hI hM (by decide) rfl (by show j2 < 48; omega) (by decide) e_51 d_Mo_eventAsdu_9 ?_
  obtain ⟨x_52, e_53⟩ : ∃ z, σ0.2.2.1 4 (n_48) = z := ⟨_, rfl⟩
  refine mq_iald (k := 4) (j := n_48) (v := x_52) hx hb hI hM (by decide) rfl (by show n_48 < 32; omega) (by decide) e_53 d_Mo_eventAsdu_10 ?_
  refine lv_istore_n (lv' := [(3, .int (x_52)), (0, .ref (ad 71)), (1, .int (nI j1)), (2, .int (nI j2))]) hx hb d_Mo_eventAsdu_11 rfl hl (by decide) rfl (fun ls hl => ?_)
  refine lv_iload_n hx hb d_Mo_eventAsdu_12 rfl (lv_at hl 0 rfl) ?_
  refine sm_iP hI (va_runS (As := [.int (x_52)]) (rest := []) ⟨hx, hb, hml, hown, hts⟩ (c_Mo_typeOf l D ca L _ _ x_52) (ks_Mo_typeOf hts rfl rfl (hts _ tw_1470) ⟨Nat.le_of_ble_eq_true rfl, Nat.le_of_ble_eq_true rfl⟩) (sm_preS hI hE) rfl rfl hl.1 rfl (lv_room (Nat.le_of_ble_eq_true rfl)) d_Mo_eventAsdu_13 ⟨Nat.le_of_ble_eq_true rfl, Nat.le_of_ble_eq_true rfl⟩) (fun x_55 H locs p_54 hI => ?_)
  refine lv_istore (lv' := [(4, .int (x_55)), (3, .int (x_52)), (0, .ref (ad 71)), (1, .int (nI j1)), (2, .int (nI j2))]) hx hb d_Mo_eventAsdu_16 hl (by decide) rfl (fun ls hl => ?_)
  refine lv_aload_n hx hb d_Mo_eventAsdu_18 rfl (lv_at hl 2 rfl) ?_
  refine lv_iload_n hx hb d_Mo_eventAsdu_19 rfl (lv_at hl 3 rfl) ?_
  refine lv_iload hx hb d_Mo_eventAsdu_20 (lv_at hl 0 rfl) ?_
  refine lv_bipush (v := 7) hx hb d_Mo_eventAsdu_22 (by decide) ?_
  refine lv_icmp_ge (tgt := 39) hx hb d_Mo_eventAsdu_24 (by decide) (fun c_56 => ?_) (fun c_56 => ?_)
  · refine lv_iload hx hb d_Mo_eventAsdu_39 (lv_at hl 0 rfl) ?_
    refine lv_bipush (v := 13) hx hb d_Mo_eventAsdu_41 (by decide) ?_
    refine lv_icmp_ge (tgt := 59) hx hb d_Mo_eventAsdu_43 (by decide) (fun c_57 => ?_) (fun c_57 => ?_)
    · refine lv_iload hx hb d_Mo_eventAsdu_59 (lv_at hl 0 rfl) ?_
      refine lv_bipush (v := 13) hx hb d_Mo_eventAsdu_61 (by decide) ?_
      refine lv_icmp_ne (tgt := 71) hx hb d_Mo_eventAsdu_63 (by decide) (fun c_58 => ?_) (fun c_58 => ?_)
      · refine lv_bipush (v := 37) hx hb d_Mo_eventAsdu_71 (by decide) ?_
        exact hJ_73 _ _ _ _ _ x_52 x_55 37 hI hM hF (lv_sub hl [2, 3, 4, 1, 0] rfl) 
      · refine lv_bipush (v := 36) hx hb d_Mo_eventAsdu_66 (by decide) ?_
        refine lv_goto (tgt := 73) hx hb d_Mo_eventAsdu_68 (by decide) ?_
        exact hJ_73 _ _ _ _ _ x_52 x_55 36 hI hM hF (lv_sub hl [2, 3, 4, 1, 0] rfl) 
    · refine lv_iload hx hb d_Mo_eventAsdu_46 (lv_at hl 0 rfl) ?_
      refine lv_bipush (v := 9) hx hb d_Mo_eventAsdu_48 (by decide) ?_
      refine lv_isub hx hb d_Mo_eventAsdu_50 ?_
      refine lv_topi (fun x_59 e_60 => ?_)
      refine lv_iconst (v := 2) hx hb d_Mo_eventAsdu_51 (by decide) ?_
      refine lv_idiv hx hb d_Mo_eventAsdu_52 (by decide) ?_
      refine lv_topi (fun x_61 e_62 => ?_)
      refine lv_bipush (v := 34) hx hb d_Mo_eventAsdu_53 (by decide) ?_
      refine lv_iadd hx hb d_Mo_eventAsdu_55 ?_
      refine lv_topi (fun x_63 e_64 => ?_)
      refine lv_goto (tgt := 73) hx hb d_Mo_eventAsdu_56 (by decide) ?_
      exact hJ_73 _ _ _ _ _ x_52 x_55 x_63 hI hM hF (lv_sub hl [2, 3, 4, 1, 0] rfl) 
  · refine lv_iload hx hb d_Mo_eventAsdu_27 (lv_at hl 0 rfl) ?_
    refine lv_iconst (v := 1) hx hb d_Mo_eventAsdu_29 (by decide) ?_
    refine lv_isub hx hb d_Mo_eventAsdu_30 ?_
    refine lv_topi (fun x_65 e_66 => ?_)
    refine lv_iconst (v := 2) hx hb d_Mo_eventAsdu_31 (by decide) ?_
    refine lv_idiv hx hb d_Mo_eventAsdu_32 (by decide) ?_
    refine lv_topi (fun x_67 e_68 => ?_)
    refine lv_bipush (v := 30) hx hb d_Mo_eventAsdu_33 (by decide) ?_
    refine lv_iadd hx hb d_Mo_eventAsdu_35 ?_
    refine lv_topi (fun x_69 e_70 => ?_)
    refine lv_goto (tgt := 73) hx hb d_Mo_eventAsdu_36 (by decide) ?_
    exact hJ_73 _ _ _ _ _ x_52 x_55 x_69 hI hM hF (lv_sub hl [2, 3, 4, 1, 0] rfl) 
