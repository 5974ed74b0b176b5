/-! TelecontrolPost: lines, events, control frames (written by wip/tools) -/
theorem d_Sr_setUp_0 : decode b_Sr_setUp 0 = .ok (.aload_n 0, 1) := by decide +kernel
theorem d_Sr_setUp_1 : decode b_Sr_setUp 1 = .ok (.invokevirtual 23, 3) := by decide +kernel
theorem d_Sr_setUp_4 : decode b_Sr_setUp 4 = .ok (.aload_n 0, 1) := by decide +kernel
theorem d_Sr_setUp_5 : decode b_Sr_setUp 5 = .ok (.iconst 1, 1) := by decide +kernel
theorem d_Sr_setUp_6 : decode b_Sr_setUp 6 = .ok (.putfield 27, 3) := by decide +kernel
theorem d_Sr_setUp_9 : decode b_Sr_setUp 9 = .ok (.aload_n 0, 1) := by decide +kernel
theorem d_Sr_setUp_10 : decode b_Sr_setUp 10 = .ok (.iload_n 1, 1) := by decide +kernel
theorem d_Sr_setUp_11 : decode b_Sr_setUp 11 = .ok (.putfield 31, 3) := by decide +kernel
theorem d_Sr_setUp_14 : decode b_Sr_setUp 14 = .ok (.aload_n 0, 1) := by decide +kernel
theorem d_Sr_setUp_15 : decode b_Sr_setUp 15 = .ok (.iload_n 2, 1) := by decide +kernel
theorem d_Sr_setUp_16 : decode b_Sr_setUp 16 = .ok (.putfield 34, 3) := by decide +kernel
theorem d_Sr_setUp_19 : decode b_Sr_setUp 19 = .ok (.aload_n 0, 1) := by decide +kernel
theorem d_Sr_setUp_20 : decode b_Sr_setUp 20 = .ok (.iload_n 3, 1) := by decide +kernel
theorem d_Sr_setUp_21 : decode b_Sr_setUp 21 = .ok (.putfield 37, 3) := by decide +kernel
theorem d_Sr_setUp_24 : decode b_Sr_setUp 24 = .ok (.aload_n 0, 1) := by decide +kernel
theorem d_Sr_setUp_25 : decode b_Sr_setUp 25 = .ok (.iload 4, 2) := by decide +kernel
theorem d_Sr_setUp_27 : decode b_Sr_setUp 27 = .ok (.putfield 40, 3) := by decide +kernel
theorem d_Sr_setUp_30 : decode b_Sr_setUp 30 = .ok (.return_, 1) := by decide +kernel
set_option maxRecDepth 100000 in
set_option maxHeartbeats 4000000 in
theorem c_Sr_setUp (l : Launch) (D : va_G) (ca : Nat → ClassId) (T : ty_e) (L : List Nat) (f0 : Nat → va_E) (sz : Nat) (hT : ok_T ca T L f0) (h0 : Nat) (t0 : T h0 = some (ty_sr)) (x1 : Int32) (j2 : Nat) (q2 : j2 ≤ 2) (j3 : Nat) (q3 : j3 ≤ 2) (j4 : Nat) (q4 : j4 ≤ 3) :
    Met l y_Sr_setUp (Cond.code y_Sr_setUp b_Sr_setUp 5 none :: wg) { frames := 2, cells := 0, slots := 0, locals := 40 } (va_Pc [.ref h0, .int (x1), .int (nI j2), .int (nI j3), .int (nI j4)] (sm_P D cl_all (ty_s ca) ek L f0 sz)) (sm_Qv D (ty_s ca) L f0 sz (fun u => po_m ca T L u)) 0 0 (va_A (va_pl L f0) sz) := by
  refine sm_start (by decide) (Nat.le_of_ble_eq_true rfl) ?_
  intro p e s m below meth c ls hx hb hml hr hlk hnm hts hown hsz hE hI hl
  have hl : lv_has ls 5 [(0, .ref h0), (1, .int (x1)), (2, .int (nI j2)), (3, .int (nI j3)), (4, .int (nI j4))] := hl
  refine lv_aload_n hx hb d_Sr_setUp_0 rfl (lv_at hl 0 rfl) ?_
  refine sm_v hI (va_runU (As := []) (rest := []) ⟨hx, hb, hml, hown, hts⟩ (c_Li_clearRows l D ca _ _ _ _ hT h0 (Or.inr t0)) (cu_of (owner := R_Li) hts tw_563 tw_2 (by decide) (by decide +kernel) tw_558 tw_559 (hE.1 _ tn_560 rfl) tw_561 tw_562 rfl rfl ⟨Nat.le_of_ble_eq_true rfl, Nat.le_of_ble_eq_true rfl⟩) (pv_Sr hI hE hT t0) rfl rfl hl.1 rfl (lv_room (Nat.le_of_ble_eq_true rfl)) d_Sr_setUp_1 ⟨Nat.le_of_ble_eq_true rfl, Nat.le_of_ble_eq_true rfl⟩) (fun H locs f hI hT => ?_)
  refine lv_aload_n hx hb d_Sr_setUp_4 rfl (lv_at hl 0 rfl) ?_
  refine lv_iconst (v := 1) hx hb d_Sr_setUp_5 (by decide) ?_
  refine fp_Sr_state hx hb hts hown hI hT t0 (hts _ tw_144) (fun x9 h9 => u_same (hts _ tw_145) x9 h9) d_Sr_setUp_6 (fun H locs f hI hT => ?_)
  refine lv_aload_n hx hb d_Sr_setUp_9 rfl (lv_at hl 0 rfl) ?_
  refine lv_iload_n hx hb d_Sr_setUp_10 rfl (lv_at hl 1 rfl) ?_
  refine fp_Sr_address hx hb hts hown hI hT t0 (hts _ tw_111) (fun _ h9 => h9) d_Sr_setUp_11 (fun H locs f hI hT => ?_)
  refine lv_aload_n hx hb d_Sr_setUp_14 rfl (lv_at hl 0 rfl) ?_
  refine lv_iload_n hx hb d_Sr_setUp_15 rfl (lv_at hl 2 rfl) ?_
  refine fp_Sr_causeSize hx hb hts hown hI hT t0 (hts _ tw_152) (fun x9 h9 => u_same (hts _ tw_153) x9 h9) (v := j2) (by omega) d_Sr_setUp_16 (fun H locs f hI hT => ?_)
  refine lv_aload_n hx hb d_Sr_setUp_19 rfl (lv_at hl 0 rfl) ?_
  refine lv_iload_n hx hb d_Sr_setUp_20 rfl (lv_at hl 3 rfl) ?_
  refine fp_Sr_stationSize hx hb hts hown hI hT t0 (hts _ tw_156) (fun x9 h9 => u_same (hts _ tw_157) x9 h9) (v := j3) (by omega) d_Sr_setUp_21 (fun H locs f hI hT => ?_)
  refine lv_aload_n hx hb d_Sr_setUp_24 rfl (lv_at hl 0 rfl) ?_
  refine lv_iload hx hb d_Sr_setUp_25 (lv_at hl 4 rfl) ?_
  refine fp_Sr_objectSize hx hb hts hown hI hT t0 (hts _ tw_160) (fun x9 h9 => u_same (hts _ tw_161) x9 h9) (v := j4) (by omega) d_Sr_setUp_27 (fun H locs f hI hT => ?_)
  exact sm_vret hx hb hr hlk hI ⟨rfl, hT⟩ d_Sr_setUp_30
theorem d_Po_lineOf_0 : decode b_Po_lineOf 0 = .ok (.iload_n 1, 1) := by decide +kernel
theorem d_Po_lineOf_1 : decode b_Po_lineOf 1 = .ok (.ifCond .lt 17, 3) := by decide +kernel
theorem d_Po_lineOf_4 : decode b_Po_lineOf 4 = .ok (.iload_n 1, 1) := by decide +kernel
theorem d_Po_lineOf_5 : decode b_Po_lineOf 5 = .ok (.iconst 3, 1) := by decide +kernel
theorem d_Po_lineOf_6 : decode b_Po_lineOf 6 = .ok (.if_icmp .ge 12, 3) := by decide +kernel
theorem d_Po_lineOf_9 : decode b_Po_lineOf 9 = .ok (.aload_n 0, 1) := by decide +kernel
theorem d_Po_lineOf_10 : decode b_Po_lineOf 10 = .ok (.getfield 17, 3) := by decide +kernel
theorem d_Po_lineOf_13 : decode b_Po_lineOf 13 = .ok (.iload_n 1, 1) := by decide +kernel
theorem d_Po_lineOf_14 : decode b_Po_lineOf 14 = .ok (.aaload, 1) := by decide +kernel
theorem d_Po_lineOf_15 : decode b_Po_lineOf 15 = .ok (.goto 7, 3) := by decide +kernel
theorem d_Po_lineOf_18 : decode b_Po_lineOf 18 = .ok (.aload_n 0, 1) := by decide +kernel
theorem d_Po_lineOf_19 : decode b_Po_lineOf 19 = .ok (.getfield 24, 3) := by decide +kernel
theorem d_Po_lineOf_22 : decode b_Po_lineOf 22 = .ok (.areturn, 1) := by decide +kernel
set_option maxRecDepth 100000 in
set_option maxHeartbeats 4000000 in
theorem c_Po_lineOf (l : Launch) (D : va_G) (ca : Nat → ClassId) (T : ty_e) (L : List Nat) (f0 : Nat → va_E) (sz : Nat) (hT : ok_T ca T L f0) {g0 : List (Int32 × Int32)} (h0 : Nat) (t0 : T h0 = some (ty_po g0)) (x1 : Int32) :
    Met l y_Po_lineOf (Cond.code y_Po_lineOf b_Po_lineOf 2 (some (.object "TelecontrolPost$Line")) :: wg) { frames := 0, cells := 0, slots := 0, locals := 0 } (va_Pc [.ref h0, .int (x1)] (sm_P D cl_all (ty_s ca) ek L f0 sz)) (sm_Qq D (ty_s ca) L f0 sz (fun r u => (∃ b : Nat, r = some b ∧ is_li T b) ∧ u = (L, f0))) 0 0 (va_A (va_pl L f0) sz) := by
  refine sm_start (by decide) (Nat.le_of_ble_eq_true rfl) ?_
  intro p e s m below meth c ls hx hb hml hr hlk hnm hts hown hsz hE hI hl
  have hl : lv_has ls 2 [(0, .ref h0), (1, .int (x1))] := hl
  refine lv_iload_n hx hb d_Po_lineOf_0 rfl (lv_at hl 1 rfl) ?_
  refine lv_if_lt (tgt := 18) hx hb d_Po_lineOf_1 (by decide) (fun c_1 => ?_) (fun c_1 => ?_)
  · refine lv_aload_n hx hb d_Po_lineOf_18 rfl (lv_at hl 0 rfl) ?_
    refine fg_Po_serialLine hx hb hts hown hI hT t0 (hts _ tw_366) (fun _ h9 => h9) d_Po_lineOf_19 (fun r_2 t_3 => ?_)
    exact sm_qret (v := some r_2) hx hb hr (Or.inl ⟨_, rfl⟩) hlk hI ⟨⟨_, rfl, (Or.inr t_3)⟩, rfl⟩ d_Po_lineOf_22
  · refine lv_iload_n hx hb d_Po_lineOf_4 rfl (lv_at hl 1 rfl) ?_
    refine lv_iconst (v := 3) hx hb d_Po_lineOf_5 (by decide) ?_
    refine lv_icmp_ge (tgt := 18) hx hb d_Po_lineOf_6 (by decide) (fun c_4 => ?_) (fun c_4 => ?_)
    · refine lv_aload_n hx hb d_Po_lineOf_18 rfl (lv_at hl 0 rfl) ?_
      refine fg_Po_serialLine hx hb hts hown hI hT t0 (hts _ tw_366) (fun _ h9 => h9) d_Po_lineOf_19 (fun r_5 t_6 => ?_)
      exact sm_qret (v := some r_5) hx hb hr (Or.inl ⟨_, rfl⟩) hlk hI ⟨⟨_, rfl, (Or.inr t_6)⟩, rfl⟩ d_Po_lineOf_22
    · refine lv_aload_n hx hb d_Po_lineOf_9 rfl (lv_at hl 0 rfl) ?_
      refine fg_Po_connections hx hb hts hown hI hT t0 (hts _ tw_365) (fun _ h9 => h9) d_Po_lineOf_10 (fun r_7 t_8 => ?_)
      refine lv_iload_n hx hb d_Po_lineOf_13 rfl (lv_at hl 1 rfl) ?_
      refine lv_topi (fun x_9 e_10 => ?_)
      obtain ⟨j_11, h_12, rfl⟩ : ∃ j : Nat, j < 3 ∧ x_9 = nI j := ix_of (by rw [e_10]; exact c_1) (by rw [e_10]; exact c_4) (by decide)
      refine fa_cns (j := j_11) hx hb hI hT t_8 (by omega) d_Po_lineOf_14 (fun r_13 t_14 => ?_)
      refine lv_goto (tgt := 22) hx hb d_Po_lineOf_15 (by decide) ?_
      exact sm_qret (v := some r_13) hx hb hr (Or.inl ⟨_, rfl⟩) hlk hI ⟨⟨_, rfl, (Or.inl ⟨_, t_14⟩)⟩, rfl⟩ d_Po_lineOf_22
theorem d_Po_findPoint_0 : decode b_Po_findPoint 0 = .ok (.iconst 0, 1) := by decide +kernel
theorem d_Po_findPoint_1 : decode b_Po_findPoint 1 = .ok (.istore_n 2, 1) := by decide +kernel
theorem d_Po_findPoint_2 : decode b_Po_findPoint 2 = .ok (.iload_n 2, 1) := by decide +kernel
theorem d_Po_findPoint_3 : decode b_Po_findPoint 3 = .ok (.aload_n 0, 1) := by decide +kernel
theorem d_Po_findPoint_4 : decode b_Po_findPoint 4 = .ok (.getfield 77, 3) := by decide +kernel
theorem d_Po_findPoint_7 : decode b_Po_findPoint 7 = .ok (.if_icmp .ge 24, 3) := by decide +kernel
theorem d_Po_findPoint_10 : decode b_Po_findPoint 10 = .ok (.aload_n 0, 1) := by decide +kernel
theorem d_Po_findPoint_11 : decode b_Po_findPoint 11 = .ok (.getfield 11, 3) := by decide +kernel
theorem d_Po_findPoint_14 : decode b_Po_findPoint 14 = .ok (.iload_n 2, 1) := by decide +kernel
theorem d_Po_findPoint_15 : decode b_Po_findPoint 15 = .ok (.aaload, 1) := by decide +kernel
theorem d_Po_findPoint_16 : decode b_Po_findPoint 16 = .ok (.getfield 289, 3) := by decide +kernel
theorem d_Po_findPoint_19 : decode b_Po_findPoint 19 = .ok (.iload_n 1, 1) := by decide +kernel
theorem d_Po_findPoint_20 : decode b_Po_findPoint 20 = .ok (.if_icmp .ne 5, 3) := by decide +kernel
theorem d_Po_findPoint_23 : decode b_Po_findPoint 23 = .ok (.iload_n 2, 1) := by decide +kernel
theorem d_Po_findPoint_24 : decode b_Po_findPoint 24 = .ok (.ireturn, 1) := by decide +kernel
theorem d_Po_findPoint_25 : decode b_Po_findPoint 25 = .ok (.iinc 2 1, 3) := by decide +kernel
theorem d_Po_findPoint_28 : decode b_Po_findPoint 28 = .ok (.goto (-26), 3) := by decide +kernel
theorem d_Po_findPoint_31 : decode b_Po_findPoint 31 = .ok (.iconst (-1), 1) := by decide +kernel
theorem d_Po_findPoint_32 : decode b_Po_findPoint 32 = .ok (.ireturn, 1) := by decide +kernel
set_option maxRecDepth 100000 in
set_option maxHeartbeats 4000000 in
theorem c_Po_findPoint (l : Launch) (D : va_G) (ca : Nat → ClassId) (T : ty_e) (L : List Nat) (f0 : Nat → va_E) (sz : Nat) (hT : ok_T ca T L f0) {g0 : List (Int32 × Int32)} (h0 : Nat) (t0 : T h0 = some (ty_po g0)) (x1 : Int32) :
    Met l y_Po_findPoint (Cond.code y_Po_findPoint b_Po_findPoint 3 (some .int) :: wg) { frames := 0, cells := 0, slots := 0, locals := 0 } (va_Pc [.ref h0, .int (x1)] (sm_P D cl_all (ty_s ca) ek L f0 sz)) (sm_Qi D (ty_s ca) L f0 sz (fun r u => (r = fp_of g0 x1) ∧ u = (L, f0))) 0 0 (va_A (va_pl L f0) sz) := by
  refine sm_start (by decide) (Nat.le_of_ble_eq_true rfl) ?_
  intro p e s m below meth c ls hx hb hml hr hlk hnm hts hown hsz hE hI hl
  have hl : lv_has ls 3 [(0, .ref h0), (1, .int (x1))] := hl
  have hJ_2 : ∀ (N k : Nat) (H : Heap) (locs : List Loc) (ls : Array Slot) , 32 + 1 - k ≤ N → k ≤ 32 → sw_I D cl_all (ty_s ca) (va_A (va_pl L f0) sz) s H locs L f0 → lv_has ls 3 [(0, .ref h0), (1, .int (x1)), (2, .int (nI k))] → (∀ (i : Nat) (q : Int32 × Int32), i < k → g0[i]? = some q → ¬ q.1 = x1) → W p l e { frames := 0, cells := 0, slots := 0, locals := 0 } s m ([.ref h0, .int (x1)] : List Value).toArray below meth c H locs 0 0 (MQ below (sm_Qi D (ty_s ca) L f0 sz (fun r u => (r = fp_of g0 x1) ∧ u = (L, f0))) ([.ref h0, .int (x1)] : List Value).toArray s 0 0 (va_A (va_pl L f0) sz)) (F0 m 2 ls []) := by
    intro N
    induction N with
    | zero => intros; omega
    | succ N ih =>
      intro k H locs ls  hN hk hI hl hv
      refine lv_iload_n hx hb d_Po_findPoint_2 rfl (lv_at hl 2 rfl) ?_
      refine lv_aload_n hx hb d_Po_findPoint_3 rfl (lv_at hl 0 rfl) ?_
      refine fg_Po_pointCount hx hb hts hown hI hT t0 (hts _ tw_364) (fun _ h9 => h9) d_Po_findPoint_4 (fun h_1 => ?_)
      refine lv_icmp_ge (tgt := 31) hx hb d_Po_findPoint_7 (by decide) (fun c_2 => ?_) (fun c_2 => ?_)
      · have k_3 : g0.length ≤ k := (nI_leI (a := g0.length) (b := k) (by omega) (by omega)).mp c_2
        refine lv_iconst (v := -1) hx hb d_Po_findPoint_31 (by decide) ?_
        exact sm_iret hx hb hr hlk hI ⟨(fp_none (fun i q hi => hv i q (by have := (List.getElem?_eq_some_iff.mp hi).1; omega) hi)), rfl⟩ d_Po_findPoint_32
      · have k_4 : k < g0.length := Nat.lt_of_not_le (fun q => c_2 ((nI_leI (a := g0.length) (b := k) (by omega) (by omega)).mpr q))
        refine lv_aload_n hx hb d_Po_findPoint_10 rfl (lv_at hl 0 rfl) ?_
        refine fg_Po_points hx hb hts hown hI hT t0 (hts _ tw_363) (fun _ h9 => h9) d_Po_findPoint_11 (fun r_5 t_6 => ?_)
        refine lv_iload_n hx hb d_Po_findPoint_14 rfl (lv_at hl 2 rfl) ?_
        obtain ⟨q_7, h_8⟩ : ∃ z, g0[k]? = some z := ⟨_, List.getElem?_eq_getElem (by omega)⟩
        refine fa_pts (j := k) hx hb hI hT t_6 h_8 (by omega) d_Po_findPoint_15 (fun r_9 t_10 => ?_)
        refine fgN_Pt_address hx hb hts hown hI hT t_10 (va_Nw.use rfl (hE.1 _ tn_519 rfl)) (fun _ h9 => h9) d_Po_findPoint_16 (fun h_11 => ?_)
        refine lv_iload_n hx hb d_Po_findPoint_19 rfl (lv_at hl 1 rfl) ?_
        refine lv_icmp_ne (tgt := 25) hx hb d_Po_findPoint_20 (by decide) (fun c_12 => ?_) (fun c_12 => ?_)
        · refine lv_iinc (v := nI (k + 1)) (lv' := [(2, .int (nI (k + 1))), (0, .ref h0), (1, .int (x1))]) hx hb d_Po_findPoint_25 hl (k := 2) rfl (nI_1 _) (by decide) rfl (fun ls hl => ?_)
          refine lv_goto (tgt := 2) hx hb d_Po_findPoint_28 (by decide) ?_
          exact ih ((k + 1)) _ _ _  (by omega) (by omega) hI (lv_sub hl [1, 2, 0] rfl) (fp_step hv h_8 c_12)
        · refine lv_iload_n hx hb d_Po_findPoint_23 rfl (lv_at hl 2 rfl) ?_
          exact sm_iret hx hb hr hlk hI ⟨(fp_some hv h_8 c_12), rfl⟩ d_Po_findPoint_24
  refine lv_iconst (v := 0) hx hb d_Po_findPoint_0 (by decide) ?_
  refine lv_istore_n (lv' := [(2, .int (0)), (0, .ref h0), (1, .int (x1))]) hx hb d_Po_findPoint_1 rfl hl (by decide) rfl (fun ls hl => ?_)
  exact hJ_2 _ (0) _ _ _  (Nat.le_refl _) (by omega) hI (lv_sub hl [1, 2, 0] rfl) (fun i q hi => absurd hi (by omega))
theorem d_Po_activeLine_0 : decode b_Po_activeLine 0 = .ok (.iconst 0, 1) := by decide +kernel
theorem d_Po_activeLine_1 : decode b_Po_activeLine 1 = .ok (.istore_n 1, 1) := by decide +kernel
theorem d_Po_activeLine_2 : decode b_Po_activeLine 2 = .ok (.iload_n 1, 1) := by decide +kernel
theorem d_Po_activeLine_3 : decode b_Po_activeLine 3 = .ok (.iconst 3, 1) := by decide +kernel
theorem d_Po_activeLine_4 : decode b_Po_activeLine 4 = .ok (.if_icmp .ge 24, 3) := by decide +kernel
theorem d_Po_activeLine_7 : decode b_Po_activeLine 7 = .ok (.aload_n 0, 1) := by decide +kernel
theorem d_Po_activeLine_8 : decode b_Po_activeLine 8 = .ok (.getfield 17, 3) := by decide +kernel
theorem d_Po_activeLine_11 : decode b_Po_activeLine 11 = .ok (.iload_n 1, 1) := by decide +kernel
theorem d_Po_activeLine_12 : decode b_Po_activeLine 12 = .ok (.aaload, 1) := by decide +kernel
theorem d_Po_activeLine_13 : decode b_Po_activeLine 13 = .ok (.getfield 150, 3) := by decide +kernel
theorem d_Po_activeLine_16 : decode b_Po_activeLine 16 = .ok (.iconst 2, 1) := by decide +kernel
theorem d_Po_activeLine_17 : decode b_Po_activeLine 17 = .ok (.if_icmp .ne 5, 3) := by decide +kernel
theorem d_Po_activeLine_20 : decode b_Po_activeLine 20 = .ok (.iload_n 1, 1) := by decide +kernel
theorem d_Po_activeLine_21 : decode b_Po_activeLine 21 = .ok (.ireturn, 1) := by decide +kernel
theorem d_Po_activeLine_22 : decode b_Po_activeLine 22 = .ok (.iinc 1 1, 3) := by decide +kernel
theorem d_Po_activeLine_25 : decode b_Po_activeLine 25 = .ok (.goto (-23), 3) := by decide +kernel
theorem d_Po_activeLine_28 : decode b_Po_activeLine 28 = .ok (.aload_n 0, 1) := by decide +kernel
theorem d_Po_activeLine_29 : decode b_Po_activeLine 29 = .ok (.getfield 24, 3) := by decide +kernel
theorem d_Po_activeLine_32 : decode b_Po_activeLine 32 = .ok (.getfield 292, 3) := by decide +kernel
theorem d_Po_activeLine_35 : decode b_Po_activeLine 35 = .ok (.iconst 2, 1) := by decide +kernel
theorem d_Po_activeLine_36 : decode b_Po_activeLine 36 = .ok (.if_icmp .ne 7, 3) := by decide +kernel
theorem d_Po_activeLine_39 : decode b_Po_activeLine 39 = .ok (.iconst 3, 1) := by decide +kernel
theorem d_Po_activeLine_40 : decode b_Po_activeLine 40 = .ok (.goto 4, 3) := by decide +kernel
theorem d_Po_activeLine_43 : decode b_Po_activeLine 43 = .ok (.iconst (-1), 1) := by decide +kernel
theorem d_Po_activeLine_44 : decode b_Po_activeLine 44 = .ok (.ireturn, 1) := by decide +kernel
set_option maxRecDepth 100000 in
set_option maxHeartbeats 4000000 in
theorem c_Po_activeLine (l : Launch) (D : va_G) (ca : Nat → ClassId) (T : ty_e) (L : List Nat) (f0 : Nat → va_E) (sz : Nat) (hT : ok_T ca T L f0) {g0 : List (Int32 × Int32)} (h0 : Nat) (t0 : T h0 = some (ty_po g0)) :
    Met l y_Po_activeLine (Cond.code y_Po_activeLine b_Po_activeLine 2 (some .int) :: wg) { frames := 0, cells := 0, slots := 0, locals := 0 } (va_Pc [.ref h0] (sm_P D cl_all (ty_s ca) ek L f0 sz)) (sm_Qi D (ty_s ca) L f0 sz (fun r u => (True) ∧ u = (L, f0))) 0 0 (va_A (va_pl L f0) sz) := by
  refine sm_start (by decide) (Nat.le_of_ble_eq_true rfl) ?_
  intro p e s m below meth c ls hx hb hml hr hlk hnm hts hown hsz hE hI hl
  have hl : lv_has ls 2 [(0, .ref h0)] := hl
  have hJ_2 : ∀ (N k : Nat) (H : Heap) (locs : List Loc) (ls : Array Slot) , 3 + 1 - k ≤ N → k ≤ 3 → sw_I D cl_all (ty_s ca) (va_A (va_pl L f0) sz) s H locs L f0 → lv_has ls 2 [(0, .ref h0), (1, .int (nI k))] → W p l e { frames := 0, cells := 0, slots := 0, locals := 0 } s m ([.ref h0] : List Value).toArray below meth c H locs 0 0 (MQ below (sm_Qi D (ty_s ca) L f0 sz (fun r u => (True) ∧ u = (L, f0))) ([.ref h0] : List Value).toArray s 0 0 (va_A (va_pl L f0) sz)) (F0 m 2 ls []) := by
    intro N
    induction N with
    | zero => intros; omega
    | succ N ih =>
      intro k H locs ls  hN hk hI hl 
      refine lv_iload_n hx hb d_Po_activeLine_2 rfl (lv_at hl 1 rfl) ?_
      refine lv_iconst (v := 3) hx hb d_Po_activeLine_3 (by decide) ?_
      refine lv_icmp_ge (tgt := 28) hx hb d_Po_activeLine_4 (by decide) (fun c_1 => ?_) (fun c_1 => ?_)
      · have k_2 : 3 ≤ k := (nI_leI (a := 3) (b := k) (by omega) (by omega)).mp c_1
        refine lv_aload_n hx hb d_Po_activeLine_28 rfl (lv_at hl 0 rfl) ?_
        refine fg_Po_serialLine hx hb hts hown hI hT t0 (hts _ tw_366) (fun _ h9 => h9) d_Po_activeLine_29 (fun r_3 t_4 => ?_)
        refine fg_Sr_state hx hb hts hown hI hT t_4 (hts _ tw_150) (fun x9 h9 => u_same (hts _ tw_145) x9 h9) d_Po_activeLine_32 (fun x_5 => ?_)
        refine lv_iconst (v := 2) hx hb d_Po_activeLine_35 (by decide) ?_
        refine lv_icmp_ne (tgt := 43) hx hb d_Po_activeLine_36 (by decide) (fun c_6 => ?_) (fun c_6 => ?_)
        · refine lv_iconst (v := -1) hx hb d_Po_activeLine_43 (by decide) ?_
          exact sm_iret hx hb hr hlk hI ⟨trivial, rfl⟩ d_Po_activeLine_44
        · refine lv_iconst (v := 3) hx hb d_Po_activeLine_39 (by decide) ?_
          refine lv_goto (tgt := 44) hx hb d_Po_activeLine_40 (by decide) ?_
          exact sm_iret hx hb hr hlk hI ⟨trivial, rfl⟩ d_Po_activeLine_44
      · have k_7 : k < 3 := Nat.lt_of_not_le (fun q => c_1 ((nI_leI (a := 3) (b := k) (by omega) (by omega)).mpr q))
        refine lv_aload_n hx hb d_Po_activeLine_7 rfl (lv_at hl 0 rfl) ?_
        refine fg_Po_connections hx hb hts hown hI hT t0 (hts _ tw_365) (fun _ h9 => h9) d_Po_activeLine_8 (fun r_8 t_9 => ?_)
        refine lv_iload_n hx hb d_Po_activeLine_11 rfl (lv_at hl 1 rfl) ?_
        refine fa_cns (j := k) hx hb hI hT t_9 (by omega) d_Po_activeLine_12 (fun r_10 t_11 => ?_)
        refine fg_Cn_state hx hb hts hown hI hT t_11 (hts _ tw_148) (fun x9 h9 => u_same (hts _ tw_147) x9 h9) d_Po_activeLine_13 (fun x_12 => ?_)
        refine lv_iconst (v := 2) hx hb d_Po_activeLine_16 (by decide) ?_
        refine lv_icmp_ne (tgt := 22) hx hb d_Po_activeLine_17 (by decide) (fun c_13 => ?_) (fun c_13 => ?_)
        · refine lv_iinc (v := nI (k + 1)) (lv' := [(1, .int (nI (k + 1))), (0, .ref h0)]) hx hb d_Po_activeLine_22 hl (k := 1) rfl (nI_1 _) (by decide) rfl (fun ls hl => ?_)
          refine lv_goto (tgt := 2) hx hb d_Po_activeLine_25 (by decide) ?_
          exact ih ((k + 1)) _ _ _  (by omega) (by omega) hI (lv_sub hl [1, 0] rfl) 
        · refine lv_iload_n hx hb d_Po_activeLine_20 rfl (lv_at hl 1 rfl) ?_
          exact sm_iret hx hb hr hlk hI ⟨trivial, rfl⟩ d_Po_activeLine_21
  refine lv_iconst (v := 0) hx hb d_Po_activeLine_0 (by decide) ?_
  refine lv_istore_n (lv' := [(1, .int (0)), (0, .ref h0)]) hx hb d_Po_activeLine_1 rfl hl (by decide) rfl (fun ls hl => ?_)
  exact hJ_2 _ (0) _ _ _  (Nat.le_refl _) (by omega) hI (lv_sub hl [1, 0] rfl) 
theorem d_Po_takeEventsToActiveLine_0 : decode b_Po_takeEventsToActiveLine 0 = .ok (.aload_n 0, 1) := by decide +kernel
theorem d_Po_takeEventsToActiveLine_1 : decode b_Po_takeEventsToActiveLine 1 = .ok (.invokevirtual 127, 3) := by decide +kernel
theorem d_Po_takeEventsToActiveLine_4 : decode b_Po_takeEventsToActiveLine 4 = .ok (.istore_n 1, 1) := by decide +kernel
theorem d_Po_takeEventsToActiveLine_5 : decode b_Po_takeEventsToActiveLine 5 = .ok (.iload_n 1, 1) := by decide +kernel
theorem d_Po_takeEventsToActiveLine_6 : decode b_Po_takeEventsToActiveLine 6 = .ok (.ifCond .lt 11, 3) := by decide +kernel
theorem d_Po_takeEventsToActiveLine_9 : decode b_Po_takeEventsToActiveLine 9 = .ok (.aload_n 0, 1) := by decide +kernel
theorem d_Po_takeEventsToActiveLine_10 : decode b_Po_takeEventsToActiveLine 10 = .ok (.getfield 31, 3) := by decide +kernel
theorem d_Po_takeEventsToActiveLine_13 : decode b_Po_takeEventsToActiveLine 13 = .ok (.iload_n 1, 1) := by decide +kernel
theorem d_Po_takeEventsToActiveLine_14 : decode b_Po_takeEventsToActiveLine 14 = .ok (.invokevirtual 293, 3) := by decide +kernel
theorem d_Po_takeEventsToActiveLine_17 : decode b_Po_takeEventsToActiveLine 17 = .ok (.return_, 1) := by decide +kernel
set_option maxRecDepth 100000 in
set_option maxHeartbeats 4000000 in
theorem c_Po_takeEventsToActiveLine (l : Launch) (D : va_G) (ca : Nat → ClassId) (T : ty_e) (L : List Nat) (f0 : Nat → va_E) (sz : Nat) (hT : ok_T ca T L f0) {g0 : List (Int32 × Int32)} (h0 : Nat) (t0 : T h0 = some (ty_po g0)) :
    Met l y_Po_takeEventsToActiveLine (Cond.code y_Po_takeEventsToActiveLine b_Po_takeEventsToActiveLine 2 none :: wg) { frames := 1, cells := 0, slots := 0, locals := 22 } (va_Pc [.ref h0] (sm_P D cl_all (ty_s ca) ek L f0 sz)) (sm_Qv D (ty_s ca) L f0 sz (fun u => po_m ca T L u)) 0 0 (va_A (va_pl L f0) sz) := by
  refine sm_start (by decide) (Nat.le_of_ble_eq_true rfl) ?_
  intro p e s m below meth c ls hx hb hml hr hlk hnm hts hown hsz hE hI hl
  have hl : lv_has ls 2 [(0, .ref h0)] := hl
  refine lv_aload_n hx hb d_Po_takeEventsToActiveLine_0 rfl (lv_at hl 0 rfl) ?_
  refine sm_iP hI (va_runV (As := []) (rest := []) ⟨hx, hb, hml, hown, hts⟩ (c_Po_activeLine l D ca _ _ _ _ hT h0 t0) (kv_Po_activeLine hts rfl rfl (hts _ tw_653) ⟨Nat.le_of_ble_eq_true rfl, Nat.le_of_ble_eq_true rfl⟩) (pv_Po hI hE hT t0) rfl rfl hl.1 rfl (lv_room (Nat.le_of_ble_eq_true rfl)) d_Po_takeEventsToActiveLine_1 ⟨Nat.le_of_ble_eq_true rfl, Nat.le_of_ble_eq_true rfl⟩) (fun x_1 H locs p_2 hI => ?_)
  refine lv_istore_n (lv' := [(1, .int (x_1)), (0, .ref h0)]) hx hb d_Po_takeEventsToActiveLine_4 rfl hl (by decide) rfl (fun ls hl => ?_)
  refine lv_iload_n hx hb d_Po_takeEventsToActiveLine_5 rfl (lv_at hl 0 rfl) ?_
  refine lv_if_lt (tgt := 17) hx hb d_Po_takeEventsToActiveLine_6 (by decide) (fun c_3 => ?_) (fun c_3 => ?_)
  · exact sm_vret hx hb hr hlk hI ⟨rfl, hT⟩ d_Po_takeEventsToActiveLine_17
  · refine lv_aload_n hx hb d_Po_takeEventsToActiveLine_9 rfl (lv_at hl 1 rfl) ?_
    refine fg_Po_events hx hb hts hown hI hT t0 (hts _ tw_367) (fun _ h9 => h9) d_Po_takeEventsToActiveLine_10 (fun r_4 t_5 => ?_)
    refine lv_iload_n hx hb d_Po_takeEventsToActiveLine_13 rfl (lv_at hl 0 rfl) ?_
    refine sm_v hI (va_runV (As := [.int (x_1)]) (rest := []) ⟨hx, hb, hml, hown, hts⟩ (c_Es_unsendAllBut l D ca _ _ _ _ hT r_4 t_5 x_1) (kv_Es_unsendAllBut hts rfl rfl (hts _ tw_919) ⟨Nat.le_of_ble_eq_true rfl, Nat.le_of_ble_eq_true rfl⟩) (pv_Es hI hE hT t_5) rfl rfl hl.1 rfl (lv_room (Nat.le_of_ble_eq_true rfl)) d_Po_takeEventsToActiveLine_14 ⟨Nat.le_of_ble_eq_true rfl, Nat.le_of_ble_eq_true rfl⟩) (fun H locs f hI hT => ?_)
    exact sm_vret hx hb hr hlk hI ⟨rfl, hT⟩ d_Po_takeEventsToActiveLine_17
theorem d_Po_shut_0 : decode b_Po_shut 0 = .ok (.aload_n 1, 1) := by decide +kernel
theorem d_Po_shut_1 : decode b_Po_shut 1 = .ok (.invokevirtual 296, 3) := by decide +kernel
theorem d_Po_shut_4 : decode b_Po_shut 4 = .ok (.aload_n 1, 1) := by decide +kernel
theorem d_Po_shut_5 : decode b_Po_shut 5 = .ok (.invokevirtual 299, 3) := by decide +kernel
theorem d_Po_shut_8 : decode b_Po_shut 8 = .ok (.aload_n 1, 1) := by decide +kernel
theorem d_Po_shut_9 : decode b_Po_shut 9 = .ok (.iconst 0, 1) := by decide +kernel
theorem d_Po_shut_10 : decode b_Po_shut 10 = .ok (.putfield 150, 3) := by decide +kernel
theorem d_Po_shut_13 : decode b_Po_shut 13 = .ok (.aload_n 1, 1) := by decide +kernel
theorem d_Po_shut_14 : decode b_Po_shut 14 = .ok (.dup, 1) := by decide +kernel
theorem d_Po_shut_15 : decode b_Po_shut 15 = .ok (.getfield 302, 3) := by decide +kernel
theorem d_Po_shut_18 : decode b_Po_shut 18 = .ok (.iconst 1, 1) := by decide +kernel
theorem d_Po_shut_19 : decode b_Po_shut 19 = .ok (.iadd, 1) := by decide +kernel
theorem d_Po_shut_20 : decode b_Po_shut 20 = .ok (.putfield 302, 3) := by decide +kernel
theorem d_Po_shut_23 : decode b_Po_shut 23 = .ok (.aload_n 0, 1) := by decide +kernel
theorem d_Po_shut_24 : decode b_Po_shut 24 = .ok (.getfield 44, 3) := by decide +kernel
theorem d_Po_shut_27 : decode b_Po_shut 27 = .ok (.aload_n 1, 1) := by decide +kernel
theorem d_Po_shut_28 : decode b_Po_shut 28 = .ok (.getfield 303, 3) := by decide +kernel
theorem d_Po_shut_31 : decode b_Po_shut 31 = .ok (.invokevirtual 102, 3) := by decide +kernel
theorem d_Po_shut_34 : decode b_Po_shut 34 = .ok (.aload_n 0, 1) := by decide +kernel
theorem d_Po_shut_35 : decode b_Po_shut 35 = .ok (.getfield 31, 3) := by decide +kernel
theorem d_Po_shut_38 : decode b_Po_shut 38 = .ok (.aload_n 1, 1) := by decide +kernel
theorem d_Po_shut_39 : decode b_Po_shut 39 = .ok (.getfield 303, 3) := by decide +kernel
theorem d_Po_shut_42 : decode b_Po_shut 42 = .ok (.invokevirtual 304, 3) := by decide +kernel
theorem d_Po_shut_45 : decode b_Po_shut 45 = .ok (.return_, 1) := by decide +kernel
set_option maxRecDepth 100000 in
set_option maxHeartbeats 4000000 in
theorem c_Po_shut (l : Launch) (D : va_G) (ca : Nat → ClassId) (T : ty_e) (L : List Nat) (f0 : Nat → va_E) (sz : Nat) (hT : ok_T ca T L f0) {g0 : List (Int32 × Int32)} (h0 : Nat) (t0 : T h0 = some (ty_po g0)) {k1 : Nat} (x1 : Nat) (t1 : T x1 = some (ty_cn k1)) :
    Met l y_Po_shut (Cond.code y_Po_shut b_Po_shut 2 none :: wg) { frames := 2, cells := 0, slots := 0, locals := 41 } (va_Pc [.ref h0, .ref x1] (sm_P D cl_all (ty_s ca) ek L f0 sz)) (sm_Qv D (ty_s ca) L f0 sz (fun u => po_m ca T L u)) 0 0 (va_A (va_pl L f0) sz) := by
  refine sm_start (by decide) (Nat.le_of_ble_eq_true rfl) ?_
  intro p e s m below meth c ls hx hb hml hr hlk hnm hts hown hsz hE hI hl
  have hl : lv_has ls 2 [(0, .ref h0), (1, .ref x1)] := hl
  refine lv_aload_n hx hb d_Po_shut_0 rfl (lv_at hl 1 rfl) ?_
  refine sm_v hI (va_runU (As := []) (rest := []) ⟨hx, hb, hml, hown, hts⟩ (c_Li_clearRows l D ca _ _ _ _ hT x1 (Or.inl ⟨_, t1⟩)) (cu_of (owner := R_Li) hts tw_563 tw_2 (by decide) (by decide +kernel) tw_782 tw_783 (hE.1 _ tn_560 rfl) tw_784 tw_562 rfl rfl ⟨Nat.le_of_ble_eq_true rfl, Nat.le_of_ble_eq_true rfl⟩) (pv_Cn hI hE hT t1) rfl rfl hl.1 rfl (lv_room (Nat.le_of_ble_eq_true rfl)) d_Po_shut_1 ⟨Nat.le_of_ble_eq_true rfl, Nat.le_of_ble_eq_true rfl⟩) (fun H locs f hI hT => ?_)
  refine lv_aload_n hx hb d_Po_shut_4 rfl (lv_at hl 1 rfl) ?_
  refine sm_v hI (va_runV (As := []) (rest := []) ⟨hx, hb, hml, hown, hts⟩ (c_Cn_forgetNumbers l D ca _ _ _ _ hT x1 t1) (kv_Cn_forgetNumbers hts rfl rfl (hts _ tw_785) ⟨Nat.le_of_ble_eq_true rfl, Nat.le_of_ble_eq_true rfl⟩) (pv_Cn hI hE hT t1) rfl rfl hl.1 rfl (lv_room (Nat.le_of_ble_eq_true rfl)) d_Po_shut_5 ⟨Nat.le_of_ble_eq_true rfl, Nat.le_of_ble_eq_true rfl⟩) (fun H locs f hI hT => ?_)
  refine lv_aload_n hx hb d_Po_shut_8 rfl (lv_at hl 1 rfl) ?_
  refine lv_iconst (v := 0) hx hb d_Po_shut_9 (by decide) ?_
  refine fp_Cn_state hx hb hts hown hI hT t1 (hts _ tw_148) (fun x9 h9 => u_same (hts _ tw_147) x9 h9) d_Po_shut_10 (fun H locs f hI hT => ?_)
  refine lv_aload_n hx hb d_Po_shut_13 rfl (lv_at hl 1 rfl) ?_
  refine lv_dup hx hb d_Po_shut_14 rfl ?_
  refine fg_Cn_closings hx hb hts hown hI hT t1 (hts _ tw_167) (fun x9 h9 => u_same (hts _ tw_168) x9 h9) d_Po_shut_15 (fun x_1 => ?_)
  refine lv_iconst (v := 1) hx hb d_Po_shut_18 (by decide) ?_
  refine lv_iadd hx hb d_Po_shut_19 ?_
  refine lv_topi (fun x_2 e_3 => ?_)
  refine fp_Cn_closings hx hb hts hown hI hT t1 (hts _ tw_167) (fun x9 h9 => u_same (hts _ tw_168) x9 h9) d_Po_shut_20 (fun H locs f hI hT => ?_)
  refine lv_aload_n hx hb d_Po_shut_23 rfl (lv_at hl 0 rfl) ?_
  refine fg_Po_selection hx hb hts hown hI hT t0 (hts _ tw_374) (fun _ h9 => h9) d_Po_shut_24 (fun r_4 t_5 => ?_)
  refine lv_aload_n hx hb d_Po_shut_27 rfl (lv_at hl 1 rfl) ?_
  refine fg_Cn_index hx hb hts hown hI hT t1 (hts _ tw_121) (fun x9 h9 => u_same (hts _ tw_122) x9 h9) d_Po_shut_28 (fun h_6 => ?_)
  refine sm_v hI (va_runV (As := [.int (nI k1)]) (rest := []) ⟨hx, hb, hml, hown, hts⟩ (c_Se_leave l D ca _ _ _ _ hT r_4 t_5 (nI k1)) (kv_Se_leave hts rfl rfl (hts _ tw_572) ⟨Nat.le_of_ble_eq_true rfl, Nat.le_of_ble_eq_true rfl⟩) (pv_Se hI hE hT t_5) rfl rfl hl.1 rfl (lv_room (Nat.le_of_ble_eq_true rfl)) d_Po_shut_31 ⟨Nat.le_of_ble_eq_true rfl, Nat.le_of_ble_eq_true rfl⟩) (fun H locs f hI hT => ?_)
  refine lv_aload_n hx hb d_Po_shut_34 rfl (lv_at hl 0 rfl) ?_
  refine fg_Po_events hx hb hts hown hI hT t0 (hts _ tw_367) (fun _ h9 => h9) d_Po_shut_35 (fun r_7 t_8 => ?_)
  refine lv_aload_n hx hb d_Po_shut_38 rfl (lv_at hl 1 rfl) ?_
  refine fg_Cn_index hx hb hts hown hI hT t1 (hts _ tw_121) (fun x9 h9 => u_same (hts _ tw_122) x9 h9) d_Po_shut_39 (fun h_9 => ?_)
  refine sm_v hI (va_runV (As := [.int (nI k1)]) (rest := []) ⟨hx, hb, hml, hown, hts⟩ (c_Es_unsend l D ca _ _ _ _ hT r_7 t_8 (nI k1)) (kv_Es_unsend hts rfl rfl (hts _ tw_789) ⟨Nat.le_of_ble_eq_true rfl, Nat.le_of_ble_eq_true rfl⟩) (pv_Es hI hE hT t_8) rfl rfl hl.1 rfl (lv_room (Nat.le_of_ble_eq_true rfl)) d_Po_shut_42 ⟨Nat.le_of_ble_eq_true rfl, Nat.le_of_ble_eq_true rfl⟩) (fun H locs f hI hT => ?_)
  exact sm_vret hx hb hr hlk hI ⟨rfl, hT⟩ d_Po_shut_45
theorem d_Po_refuse_0 : decode b_Po_refuse 0 = .ok (.aload_n 1, 1) := by decide +kernel
theorem d_Po_refuse_1 : decode b_Po_refuse 1 = .ok (.getfield 246, 3) := by decide +kernel
theorem d_Po_refuse_4 : decode b_Po_refuse 4 = .ok (.iconst 3, 1) := by decide +kernel
theorem d_Po_refuse_5 : decode b_Po_refuse 5 = .ok (.if_icmp .ge 16, 3) := by decide +kernel
theorem d_Po_refuse_8 : decode b_Po_refuse 8 = .ok (.aload_n 0, 1) := by decide +kernel
theorem d_Po_refuse_9 : decode b_Po_refuse 9 = .ok (.aload_n 0, 1) := by decide +kernel
theorem d_Po_refuse_10 : decode b_Po_refuse 10 = .ok (.getfield 17, 3) := by decide +kernel
theorem d_Po_refuse_13 : decode b_Po_refuse 13 = .ok (.aload_n 1, 1) := by decide +kernel
theorem d_Po_refuse_14 : decode b_Po_refuse 14 = .ok (.getfield 246, 3) := by decide +kernel
theorem d_Po_refuse_17 : decode b_Po_refuse 17 = .ok (.aaload, 1) := by decide +kernel
theorem d_Po_refuse_18 : decode b_Po_refuse 18 = .ok (.invokevirtual 166, 3) := by decide +kernel
theorem d_Po_refuse_21 : decode b_Po_refuse 21 = .ok (.return_, 1) := by decide +kernel
set_option maxRecDepth 100000 in
set_option maxHeartbeats 4000000 in
theorem c_Po_refuse (l : Launch) (D : va_G) (ca : Nat → ClassId) (T : ty_e) (L : List Nat) (f0 : Nat → va_E) (sz : Nat) (hT : ok_T ca T L f0) {g0 : List (Int32 × Int32)} (h0 : Nat) (t0 : T h0 = some (ty_po g0)) (x1 : Nat) (t1 : is_li T x1) :
    Met l y_Po_refuse (Cond.code y_Po_refuse b_Po_refuse 2 none :: wg) { frames := 3, cells := 0, slots := 0, locals := 62 } (va_Pc [.ref h0, .ref x1] (sm_P D cl_all (ty_s ca) ek L f0 sz)) (sm_Qv D (ty_s ca) L f0 sz (fun u => po_m ca T L u)) 0 0 (va_A (va_pl L f0) sz) := by
  refine sm_start (by decide) (Nat.le_of_ble_eq_true rfl) ?_
  intro p e s m below meth c ls hx hb hml hr hlk hnm hts hown hsz hE hI hl
  have hl : lv_has ls 2 [(0, .ref h0), (1, .ref x1)] := hl
  refine lv_aload_n hx hb d_Po_refuse_0 rfl (lv_at hl 1 rfl) ?_
  refine fg_Li_index hx hb hts hown hI hT t1 (hts _ tw_120) (fun _ h9 => h9) d_Po_refuse_1 (fun n_1 h_3 => ?_)
  have h_2 := li_le h_3
  refine lv_iconst (v := 3) hx hb d_Po_refuse_4 (by decide) ?_
  refine lv_icmp_ge (tgt := 21) hx hb d_Po_refuse_5 (by decide) (fun c_4 => ?_) (fun c_4 => ?_)
  · have k_5 : 3 ≤ n_1 := (nI_leI (a := 3) (b := n_1) (by omega) (by omega)).mp c_4
    exact sm_vret hx hb hr hlk hI ⟨rfl, hT⟩ d_Po_refuse_21
  · have k_6 : n_1 < 3 := Nat.lt_of_not_le (fun q => c_4 ((nI_leI (a := 3) (b := n_1) (by omega) (by omega)).mpr q))
    refine lv_aload_n hx hb d_Po_refuse_8 rfl (lv_at hl 0 rfl) ?_
    refine lv_aload_n hx hb d_Po_refuse_9 rfl (lv_at hl 0 rfl) ?_
    refine fg_Po_connections hx hb hts hown hI hT t0 (hts _ tw_365) (fun _ h9 => h9) d_Po_refuse_10 (fun r_7 t_8 => ?_)
    refine lv_aload_n hx hb d_Po_refuse_13 rfl (lv_at hl 1 rfl) ?_
    refine fg_Li_index hx hb hts hown hI hT t1 (hts _ tw_120) (fun _ h9 => h9) d_Po_refuse_14 (fun n_9 h_11 => ?_)
    obtain rfl := li_un h_3 h_11
    refine fa_cns (j := n_1) hx hb hI hT t_8 (by omega) d_Po_refuse_17 (fun r_12 t_13 => ?_)
    refine sm_v hI (va_runV (As := [.ref r_12]) (rest := []) ⟨hx, hb, hml, hown, hts⟩ (c_Po_shut l D ca _ _ _ _ hT h0 t0 r_12 t_13) (kv_Po_shut hts rfl rfl (hts _ tw_778) ⟨Nat.le_of_ble_eq_true rfl, Nat.le_of_ble_eq_true rfl⟩) (pv_Po hI hE hT t0) rfl rfl hl.1 rfl (lv_room (Nat.le_of_ble_eq_true rfl)) d_Po_refuse_18 ⟨Nat.le_of_ble_eq_true rfl, Nat.le_of_ble_eq_true rfl⟩) (fun H locs f hI hT => ?_)
    exact sm_vret hx hb hr hlk hI ⟨rfl, hT⟩ d_Po_refuse_21
theorem d_Po_shutIfTooMany_0 : decode b_Po_shutIfTooMany 0 = .ok (.aload_n 1, 1) := by decide +kernel
theorem d_Po_shutIfTooMany_1 : decode b_Po_shutIfTooMany 1 = .ok (.getfield 307, 3) := by decide +kernel
theorem d_Po_shutIfTooMany_4 : decode b_Po_shutIfTooMany 4 = .ok (.ifCond .eq 24, 3) := by decide +kernel
theorem d_Po_shutIfTooMany_7 : decode b_Po_shutIfTooMany 7 = .ok (.aload_n 1, 1) := by decide +kernel
theorem d_Po_shutIfTooMany_8 : decode b_Po_shutIfTooMany 8 = .ok (.getfield 246, 3) := by decide +kernel
theorem d_Po_shutIfTooMany_11 : decode b_Po_shutIfTooMany 11 = .ok (.iconst 3, 1) := by decide +kernel
theorem d_Po_shutIfTooMany_12 : decode b_Po_shutIfTooMany 12 = .ok (.if_icmp .ge 16, 3) := by decide +kernel
theorem d_Po_shutIfTooMany_15 : decode b_Po_shutIfTooMany 15 = .ok (.aload_n 0, 1) := by decide +kernel
theorem d_Po_shutIfTooMany_16 : decode b_Po_shutIfTooMany 16 = .ok (.aload_n 0, 1) := by decide +kernel
theorem d_Po_shutIfTooMany_17 : decode b_Po_shutIfTooMany 17 = .ok (.getfield 17, 3) := by decide +kernel
theorem d_Po_shutIfTooMany_20 : decode b_Po_shutIfTooMany 20 = .ok (.aload_n 1, 1) := by decide +kernel
theorem d_Po_shutIfTooMany_21 : decode b_Po_shutIfTooMany 21 = .ok (.getfield 246, 3) := by decide +kernel
theorem d_Po_shutIfTooMany_24 : decode b_Po_shutIfTooMany 24 = .ok (.aaload, 1) := by decide +kernel
theorem d_Po_shutIfTooMany_25 : decode b_Po_shutIfTooMany 25 = .ok (.invokevirtual 166, 3) := by decide +kernel
theorem d_Po_shutIfTooMany_28 : decode b_Po_shutIfTooMany 28 = .ok (.aload_n 1, 1) := by decide +kernel
theorem d_Po_shutIfTooMany_29 : decode b_Po_shutIfTooMany 29 = .ok (.iconst 0, 1) := by decide +kernel
theorem d_Po_shutIfTooMany_30 : decode b_Po_shutIfTooMany 30 = .ok (.putfield 307, 3) := by decide +kernel
theorem d_Po_shutIfTooMany_33 : decode b_Po_shutIfTooMany 33 = .ok (.return_, 1) := by decide +kernel
set_option maxRecDepth 100000 in
set_option maxHeartbeats 4000000 in
theorem c_Po_shutIfTooMany (l : Launch) (D : va_G) (ca : Nat → ClassId) (T : ty_e) (L : List Nat) (f0 : Nat → va_E) (sz : Nat) (hT : ok_T ca T L f0) {g0 : List (Int32 × Int32)} (h0 : Nat) (t0 : T h0 = some (ty_po g0)) (x1 : Nat) (t1 : is_li T x1) :
    Met l y_Po_shutIfTooMany (Cond.code y_Po_shutIfTooMany b_Po_shutIfTooMany 2 none :: wg) { frames := 3, cells := 0, slots := 0, locals := 62 } (va_Pc [.ref h0, .ref x1] (sm_P D cl_all (ty_s ca) ek L f0 sz)) (sm_Qv D (ty_s ca) L f0 sz (fun u => po_m ca T L u)) 0 0 (va_A (va_pl L f0) sz) := by
  refine sm_start (by decide) (Nat.le_of_ble_eq_true rfl) ?_
  intro p e s m below meth c ls hx hb hml hr hlk hnm hts hown hsz hE hI hl
  have hl : lv_has ls 2 [(0, .ref h0), (1, .ref x1)] := hl
  refine lv_aload_n hx hb d_Po_shutIfTooMany_0 rfl (lv_at hl 1 rfl) ?_
  refine fg_Li_tooManyAnswers hx hb hts hown hI hT t1 (hts _ tw_170) (fun _ h9 => h9) d_Po_shutIfTooMany_1 (fun x_1 p_2 => ?_)
  refine lv_if_eq (tgt := 28) hx hb d_Po_shutIfTooMany_4 (by decide) (fun c_3 => ?_) (fun c_3 => ?_)
  · refine lv_aload_n hx hb d_Po_shutIfTooMany_28 rfl (lv_at hl 1 rfl) ?_
    refine lv_iconst (v := 0) hx hb d_Po_shutIfTooMany_29 (by decide) ?_
    refine fp_Li_tooManyAnswers hx hb hts hown hI hT t1 (hts _ tw_170) (fun _ h9 => h9) (by decide) d_Po_shutIfTooMany_30 (fun H locs f hI hT => ?_)
    exact sm_vret hx hb hr hlk hI ⟨rfl, hT⟩ d_Po_shutIfTooMany_33
  · refine lv_aload_n hx hb d_Po_shutIfTooMany_7 rfl (lv_at hl 1 rfl) ?_
    refine fg_Li_index hx hb hts hown hI hT t1 (hts _ tw_120) (fun _ h9 => h9) d_Po_shutIfTooMany_8 (fun n_4 h_6 => ?_)
    have h_5 := li_le h_6
    refine lv_iconst (v := 3) hx hb d_Po_shutIfTooMany_11 (by decide) ?_
    refine lv_icmp_ge (tgt := 28) hx hb d_Po_shutIfTooMany_12 (by decide) (fun c_7 => ?_) (fun c_7 => ?_)
    · have k_8 : 3 ≤ n_4 := (nI_leI (a := 3) (b := n_4) (by omega) (by omega)).mp c_7
      refine lv_aload_n hx hb d_Po_shutIfTooMany_28 rfl (lv_at hl 1 rfl) ?_
      refine lv_iconst (v := 0) hx hb d_Po_shutIfTooMany_29 (by decide) ?_
      refine fp_Li_tooManyAnswers hx hb hts hown hI hT t1 (hts _ tw_170) (fun _ h9 => h9) (by decide) d_Po_shutIfTooMany_30 (fun H locs f hI hT => ?_)
      exact sm_vret hx hb hr hlk hI ⟨rfl, hT⟩ d_Po_shutIfTooMany_33
    · have k_9 : n_4 < 3 := Nat.lt_of_not_le (fun q => c_7 ((nI_leI (a := 3) (b := n_4) (by omega) (by omega)).mpr q))
      refine lv_aload_n hx hb d_Po_shutIfTooMany_15 rfl (lv_at hl 0 rfl) ?_
      refine lv_aload_n hx hb d_Po_shutIfTooMany_16 rfl (lv_at hl 0 rfl) ?_
      refine fg_Po_connections hx hb hts hown hI hT t0 (hts _ tw_365) (fun _ h9 => h9) d_Po_shutIfTooMany_17 (fun r_10 t_11 => ?_)
      refine lv_aload_n hx hb d_Po_shutIfTooMany_20 rfl (lv_at hl 1 rfl) ?_
      refine fg_Li_index hx hb hts hown hI hT t1 (hts _ tw_120) (fun _ h9 => h9) d_Po_shutIfTooMany_21 (fun n_12 h_14 => ?_)
      obtain rfl := li_un h_6 h_14
      refine fa_cns (j := n_4) hx hb hI hT t_11 (by omega) d_Po_shutIfTooMany_24 (fun r_15 t_16 => ?_)
      refine sm_v hI (va_runV (As := [.ref r_15]) (rest := []) ⟨hx, hb, hml, hown, hts⟩ (c_Po_shut l D ca _ _ _ _ hT h0 t0 r_15 t_16) (kv_Po_shut hts rfl rfl (hts _ tw_778) ⟨Nat.le_of_ble_eq_true rfl, Nat.le_of_ble_eq_true rfl⟩) (pv_Po hI hE hT t0) rfl rfl hl.1 rfl (lv_room (Nat.le_of_ble_eq_true rfl)) d_Po_shutIfTooMany_25 ⟨Nat.le_of_ble_eq_true rfl, Nat.le_of_ble_eq_true rfl⟩) (fun H locs f hI hT => ?_)
      refine lv_aload_n hx hb d_Po_shutIfTooMany_28 rfl (lv_at hl 1 rfl) ?_
      refine lv_iconst (v := 0) hx hb d_Po_shutIfTooMany_29 (by decide) ?_
      refine fp_Li_tooManyAnswers hx hb hts hown hI hT t1 (hts _ tw_170) (fun _ h9 => h9) (by decide) d_Po_shutIfTooMany_30 (fun H locs f hI hT => ?_)
      exact sm_vret hx hb hr hlk hI ⟨rfl, hT⟩ d_Po_shutIfTooMany_33
theorem d_Po_sendControl_0 : decode b_Po_sendControl 0 = .ok (.aload_n 1, 1) := by decide +kernel
theorem d_Po_sendControl_1 : decode b_Po_sendControl 1 = .ok (.getfield 424, 3) := by decide +kernel
theorem d_Po_sendControl_4 : decode b_Po_sendControl 4 = .ok (.getfield 207, 3) := by decide +kernel
theorem d_Po_sendControl_7 : decode b_Po_sendControl 7 = .ok (.bipush 6, 2) := by decide +kernel
theorem d_Po_sendControl_9 : decode b_Po_sendControl 9 = .ok (.iadd, 1) := by decide +kernel
theorem d_Po_sendControl_10 : decode b_Po_sendControl 10 = .ok (.sipush 1000, 3) := by decide +kernel
theorem d_Po_sendControl_13 : decode b_Po_sendControl 13 = .ok (.if_icmp .le 9, 3) := by decide +kernel
theorem d_Po_sendControl_16 : decode b_Po_sendControl 16 = .ok (.aload_n 0, 1) := by decide +kernel
theorem d_Po_sendControl_17 : decode b_Po_sendControl 17 = .ok (.aload_n 1, 1) := by decide +kernel
theorem d_Po_sendControl_18 : decode b_Po_sendControl 18 = .ok (.invokevirtual 166, 3) := by decide +kernel
theorem d_Po_sendControl_21 : decode b_Po_sendControl 21 = .ok (.return_, 1) := by decide +kernel
theorem d_Po_sendControl_22 : decode b_Po_sendControl 22 = .ok (.aload_n 1, 1) := by decide +kernel
theorem d_Po_sendControl_23 : decode b_Po_sendControl 23 = .ok (.getfield 424, 3) := by decide +kernel
theorem d_Po_sendControl_26 : decode b_Po_sendControl 26 = .ok (.bipush 104, 2) := by decide +kernel
theorem d_Po_sendControl_28 : decode b_Po_sendControl 28 = .ok (.invokevirtual 182, 3) := by decide +kernel
theorem d_Po_sendControl_31 : decode b_Po_sendControl 31 = .ok (.aload_n 1, 1) := by decide +kernel
theorem d_Po_sendControl_32 : decode b_Po_sendControl 32 = .ok (.getfield 424, 3) := by decide +kernel
theorem d_Po_sendControl_35 : decode b_Po_sendControl 35 = .ok (.iconst 4, 1) := by decide +kernel
theorem d_Po_sendControl_36 : decode b_Po_sendControl 36 = .ok (.invokevirtual 182, 3) := by decide +kernel
theorem d_Po_sendControl_39 : decode b_Po_sendControl 39 = .ok (.aload_n 1, 1) := by decide +kernel
theorem d_Po_sendControl_40 : decode b_Po_sendControl 40 = .ok (.getfield 424, 3) := by decide +kernel
theorem d_Po_sendControl_43 : decode b_Po_sendControl 43 = .ok (.iload_n 2, 1) := by decide +kernel
theorem d_Po_sendControl_44 : decode b_Po_sendControl 44 = .ok (.iconst 2, 1) := by decide +kernel
theorem d_Po_sendControl_45 : decode b_Po_sendControl 45 = .ok (.invokevirtual 425, 3) := by decide +kernel
theorem d_Po_sendControl_48 : decode b_Po_sendControl 48 = .ok (.aload_n 1, 1) := by decide +kernel
theorem d_Po_sendControl_49 : decode b_Po_sendControl 49 = .ok (.getfield 424, 3) := by decide +kernel
theorem d_Po_sendControl_52 : decode b_Po_sendControl 52 = .ok (.iconst 2, 1) := by decide +kernel
theorem d_Po_sendControl_53 : decode b_Po_sendControl 53 = .ok (.iload_n 3, 1) := by decide +kernel
theorem d_Po_sendControl_54 : decode b_Po_sendControl 54 = .ok (.imul, 1) := by decide +kernel
theorem d_Po_sendControl_55 : decode b_Po_sendControl 55 = .ok (.iconst 2, 1) := by decide +kernel
theorem d_Po_sendControl_56 : decode b_Po_sendControl 56 = .ok (.invokevirtual 425, 3) := by decide +kernel
theorem d_Po_sendControl_59 : decode b_Po_sendControl 59 = .ok (.return_, 1) := by decide +kernel
set_option maxRecDepth 100000 in
set_option maxHeartbeats 4000000 in
theorem c_Po_sendControl (l : Launch) (D : va_G) (ca : Nat → ClassId) (T : ty_e) (L : List Nat) (f0 : Nat → va_E) (sz : Nat) (hT : ok_T ca T L f0) {g0 : List (Int32 × Int32)} (h0 : Nat) (t0 : T h0 = some (ty_po g0)) {k1 : Nat} (x1 : Nat) (t1 : T x1 = some (ty_cn k1)) (x2 : Int32) (x3 : Int32) :
    Met l y_Po_sendControl (Cond.code y_Po_sendControl b_Po_sendControl 4 none :: wg) { frames := 3, cells := 0, slots := 0, locals := 62 } (va_Pc [.ref h0, .ref x1, .int (x2), .int (x3)] (sm_P D cl_all (ty_s ca) ek L f0 sz)) (sm_Qv D (ty_s ca) L f0 sz (fun u => po_m ca T L u)) 0 0 (va_A (va_pl L f0) sz) := by
  refine sm_start (by decide) (Nat.le_of_ble_eq_true rfl) ?_
  intro p e s m below meth c ls hx hb hml hr hlk hnm hts hown hsz hE hI hl
  have hl : lv_has ls 4 [(0, .ref h0), (1, .ref x1), (2, .int (x2)), (3, .int (x3))] := hl
  refine lv_aload_n hx hb d_Po_sendControl_0 rfl (lv_at hl 1 rfl) ?_
  refine fg_Cn_waiting hx hb hts hown hI hT t1 (hts _ tw_129) (fun x9 h9 => u_same (hts _ tw_126) x9 h9) d_Po_sendControl_1 (fun r_1 t_2 => ?_)
  refine fgN_Br_length hx hb hts hown hI hT t_2 (va_Nw.use rfl (hE.1 _ tn_51 rfl)) (fun _ h9 => h9) d_Po_sendControl_4 (fun n_3 h_4 => ?_)
  refine lv_bipush (v := 6) hx hb d_Po_sendControl_7 (by decide) ?_
  refine lv_iadd hx hb d_Po_sendControl_9 ?_
  refine lv_topi (fun x_5 e_6 => ?_)
  obtain rfl : x_5 = nI (n_3 + 6) := by rw [e_6]; exact nI_add _ _
  refine lv_sipush (v := 1000) hx hb d_Po_sendControl_10 (by decide) ?_
  refine lv_icmp_le (tgt := 22) hx hb d_Po_sendControl_13 (by decide) (fun c_7 => ?_) (fun c_7 => ?_)
  · have k_8 : (n_3 + 6) ≤ 1000 := (nI_leI (a := (n_3 + 6)) (b := 1000) (by omega) (by omega)).mp c_7
    refine lv_aload_n hx hb d_Po_sendControl_22 rfl (lv_at hl 1 rfl) ?_
    refine fg_Cn_waiting hx hb hts hown hI hT t1 (hts _ tw_129) (fun x9 h9 => u_same (hts _ tw_126) x9 h9) d_Po_sendControl_23 (fun r_9 t_10 => ?_)
    refine lv_bipush (v := 104) hx hb d_Po_sendControl_26 (by decide) ?_
    refine sm_v hI (va_runV (As := [.int (104)]) (rest := []) ⟨hx, hb, hml, hown, hts⟩ (c_Br_put l D ca _ _ _ _ hT r_9 t_10 104) (kv_Br_put hts rfl rfl (hts _ tw_651) ⟨Nat.le_of_ble_eq_true rfl, Nat.le_of_ble_eq_true rfl⟩) (pv_Br hI hE hT t_10) rfl rfl hl.1 rfl (lv_room (Nat.le_of_ble_eq_true rfl)) d_Po_sendControl_28 ⟨Nat.le_of_ble_eq_true rfl, Nat.le_of_ble_eq_true rfl⟩) (fun H locs f hI hT => ?_)
    refine lv_aload_n hx hb d_Po_sendControl_31 rfl (lv_at hl 1 rfl) ?_
    refine fg_Cn_waiting hx hb hts hown hI hT t1 (hts _ tw_129) (fun x9 h9 => u_same (hts _ tw_126) x9 h9) d_Po_sendControl_32 (fun r_11 t_12 => ?_)
    refine lv_iconst (v := 4) hx hb d_Po_sendControl_35 (by decide) ?_
    refine sm_v hI (va_runV (As := [.int (4)]) (rest := []) ⟨hx, hb, hml, hown, hts⟩ (c_Br_put l D ca _ _ _ _ hT r_11 t_12 4) (kv_Br_put hts rfl rfl (hts _ tw_651) ⟨Nat.le_of_ble_eq_true rfl, Nat.le_of_ble_eq_true rfl⟩) (pv_Br hI hE hT t_12) rfl rfl hl.1 rfl (lv_room (Nat.le_of_ble_eq_true rfl)) d_Po_sendControl_36 ⟨Nat.le_of_ble_eq_true rfl, Nat.le_of_ble_eq_true rfl⟩) (fun H locs f hI hT => ?_)
    refine lv_aload_n hx hb d_Po_sendControl_39 rfl (lv_at hl 1 rfl) ?_
    refine fg_Cn_waiting hx hb hts hown hI hT t1 (hts _ tw_129) (fun x9 h9 => u_same (hts _ tw_126) x9 h9) d_Po_sendControl_40 (fun r_13 t_14 => ?_)
    refine lv_iload_n hx hb d_Po_sendControl_43 rfl (lv_at hl 2 rfl) ?_
    refine lv_iconst (v := 2) hx hb d_Po_sendControl_44 (by decide) ?_
    refine sm_v hI (va_runV (As := [.int (x2), .int (2)]) (rest := []) ⟨hx, hb, hml, hown, hts⟩ (c_Br_putNumber l D ca _ _ _ _ hT r_13 t_14 x2 (2) (by omega)) (kv_Br_putNumber hts rfl rfl (hts _ tw_650) ⟨Nat.le_of_ble_eq_true rfl, Nat.le_of_ble_eq_true rfl⟩) (pv_Br hI hE hT t_14) rfl rfl hl.1 rfl (lv_room (Nat.le_of_ble_eq_true rfl)) d_Po_sendControl_45 ⟨Nat.le_of_ble_eq_true rfl, Nat.le_of_ble_eq_true rfl⟩) (fun H locs f hI hT => ?_)
    refine lv_aload_n hx hb d_Po_sendControl_48 rfl (lv_at hl 1 rfl) ?_
    refine fg_Cn_waiting hx hb hts hown hI hT t1 (hts _ tw_129) (fun x9 h9 => u_same (hts _ tw_126) x9 h9) d_Po_sendControl_49 (fun r_15 t_16 => ?_)
    refine lv_iconst (v := 2) hx hb d_Po_sendControl_52 (by decide) ?_
    refine lv_iload_n hx hb d_Po_sendControl_53 rfl (lv_at hl 3 rfl) ?_
    refine lv_imul hx hb d_Po_sendControl_54 ?_
    refine lv_topi (fun x_17 e_18 => ?_)
    refine lv_iconst (v := 2) hx hb d_Po_sendControl_55 (by decide) ?_
    refine sm_v hI (va_runV (As := [.int (x_17), .int (2)]) (rest := []) ⟨hx, hb, hml, hown, hts⟩ (c_Br_putNumber l D ca _ _ _ _ hT r_15 t_16 x_17 (2) (by omega)) (kv_Br_putNumber hts rfl rfl (hts _ tw_650) ⟨Nat.le_of_ble_eq_true rfl, Nat.le_of_ble_eq_true rfl⟩) (pv_Br hI hE hT t_16) rfl rfl hl.1 rfl (lv_room (Nat.le_of_ble_eq_true rfl)) d_Po_sendControl_56 ⟨Nat.le_of_ble_eq_true rfl, Nat.le_of_ble_eq_true rfl⟩) (fun H locs f hI hT => ?_)
    exact sm_vret hx hb hr hlk hI ⟨rfl, hT⟩ d_Po_sendControl_59
  · have k_19 : 1000 < (n_3 + 6) := Nat.lt_of_not_le (fun q => c_7 ((nI_leI (a := (n_3 + 6)) (b := 1000) (by omega) (by omega)).mpr q))
    refine lv_aload_n hx hb d_Po_sendControl_16 rfl (lv_at hl 0 rfl) ?_
    refine lv_aload_n hx hb d_Po_sendControl_17 rfl (lv_at hl 1 rfl) ?_
    refine sm_v hI (va_runV (As := [.ref x1]) (rest := []) ⟨hx, hb, hml, hown, hts⟩ (c_Po_shut l D ca _ _ _ _ hT h0 t0 x1 t1) (kv_Po_shut hts rfl rfl (hts _ tw_778) ⟨Nat.le_of_ble_eq_true rfl, Nat.le_of_ble_eq_true rfl⟩) (pv_Po hI hE hT t0) rfl rfl hl.1 rfl (lv_room (Nat.le_of_ble_eq_true rfl)) d_Po_sendControl_18 ⟨Nat.le_of_ble_eq_true rfl, Nat.le_of_ble_eq_true rfl⟩) (fun H locs f hI hT => ?_)
    exact sm_vret hx hb hr hlk hI ⟨rfl, hT⟩ d_Po_sendControl_21
theorem d_Po_sendSupervisory_0 : decode b_Po_sendSupervisory 0 = .ok (.aload_n 1, 1) := by decide +kernel
theorem d_Po_sendSupervisory_1 : decode b_Po_sendSupervisory 1 = .ok (.iconst 0, 1) := by decide +kernel
theorem d_Po_sendSupervisory_2 : decode b_Po_sendSupervisory 2 = .ok (.putfield 371, 3) := by decide +kernel
theorem d_Po_sendSupervisory_5 : decode b_Po_sendSupervisory 5 = .ok (.aload_n 0, 1) := by decide +kernel
theorem d_Po_sendSupervisory_6 : decode b_Po_sendSupervisory 6 = .ok (.aload_n 1, 1) := by decide +kernel
theorem d_Po_sendSupervisory_7 : decode b_Po_sendSupervisory 7 = .ok (.iconst 1, 1) := by decide +kernel
theorem d_Po_sendSupervisory_8 : decode b_Po_sendSupervisory 8 = .ok (.aload_n 1, 1) := by decide +kernel
theorem d_Po_sendSupervisory_9 : decode b_Po_sendSupervisory 9 = .ok (.getfield 421, 3) := by decide +kernel
theorem d_Po_sendSupervisory_12 : decode b_Po_sendSupervisory 12 = .ok (.invokevirtual 398, 3) := by decide +kernel
theorem d_Po_sendSupervisory_15 : decode b_Po_sendSupervisory 15 = .ok (.return_, 1) := by decide +kernel
set_option maxRecDepth 100000 in
set_option maxHeartbeats 4000000 in
theorem c_Po_sendSupervisory (l : Launch) (D : va_G) (ca : Nat → ClassId) (T : ty_e) (L : List Nat) (f0 : Nat → va_E) (sz : Nat) (hT : ok_T ca T L f0) {g0 : List (Int32 × Int32)} (h0 : Nat) (t0 : T h0 = some (ty_po g0)) {k1 : Nat} (x1 : Nat) (t1 : T x1 = some (ty_cn k1)) :
    Met l y_Po_sendSupervisory (Cond.code y_Po_sendSupervisory b_Po_sendSupervisory 2 none :: wg) { frames := 4, cells := 0, slots := 0, locals := 85 } (va_Pc [.ref h0, .ref x1] (sm_P D cl_all (ty_s ca) ek L f0 sz)) (sm_Qv D (ty_s ca) L f0 sz (fun u => po_m ca T L u)) 0 0 (va_A (va_pl L f0) sz) := by
  refine sm_start (by decide) (Nat.le_of_ble_eq_true rfl) ?_
  intro p e s m below meth c ls hx hb hml hr hlk hnm hts hown hsz hE hI hl
  have hl : lv_has ls 2 [(0, .ref h0), (1, .ref x1)] := hl
  refine lv_aload_n hx hb d_Po_sendSupervisory_0 rfl (lv_at hl 1 rfl) ?_
  refine lv_iconst (v := 0) hx hb d_Po_sendSupervisory_1 (by decide) ?_
  refine fpN_Cn_came hx hb hts hown hI hT t1 (va_Nw.use rfl (hE.1 _ tn_292 rfl)) (fun _ h9 => h9) d_Po_sendSupervisory_2 (fun H locs f hI hT => ?_)
  refine lv_aload_n hx hb d_Po_sendSupervisory_5 rfl (lv_at hl 0 rfl) ?_
  refine lv_aload_n hx hb d_Po_sendSupervisory_6 rfl (lv_at hl 1 rfl) ?_
  refine lv_iconst (v := 1) hx hb d_Po_sendSupervisory_7 (by decide) ?_
  refine lv_aload_n hx hb d_Po_sendSupervisory_8 rfl (lv_at hl 1 rfl) ?_
  refine fgN_Cn_nextToCome hx hb hts hown hI hT t1 (va_Nw.use rfl (hE.1 _ tn_290 rfl)) (fun _ h9 => h9) d_Po_sendSupervisory_9 (fun x_1 => ?_)
  refine sm_v hI (va_runV (As := [.ref x1, .int (1), .int (x_1)]) (rest := []) ⟨hx, hb, hml, hown, hts⟩ (c_Po_sendControl l D ca _ _ _ _ hT h0 t0 x1 t1 1 x_1) (kv_Po_sendControl hts rfl rfl (hts _ tw_798) ⟨Nat.le_of_ble_eq_true rfl, Nat.le_of_ble_eq_true rfl⟩) (pv_Po hI hE hT t0) rfl rfl hl.1 rfl (lv_room (Nat.le_of_ble_eq_true rfl)) d_Po_sendSupervisory_12 ⟨Nat.le_of_ble_eq_true rfl, Nat.le_of_ble_eq_true rfl⟩) (fun H locs f hI hT => ?_)
  exact sm_vret hx hb hr hlk hI ⟨rfl, hT⟩ d_Po_sendSupervisory_15
theorem d_Po_stopWhenConfirmed_0 : decode b_Po_stopWhenConfirmed 0 = .ok (.aload_n 1, 1) := by decide +kernel
theorem d_Po_stopWhenConfirmed_1 : decode b_Po_stopWhenConfirmed 1 = .ok (.getfield 150, 3) := by decide +kernel
theorem d_Po_stopWhenConfirmed_4 : decode b_Po_stopWhenConfirmed 4 = .ok (.iconst 3, 1) := by decide +kernel
theorem d_Po_stopWhenConfirmed_5 : decode b_Po_stopWhenConfirmed 5 = .ok (.if_icmp .ne 23, 3) := by decide +kernel
theorem d_Po_stopWhenConfirmed_8 : decode b_Po_stopWhenConfirmed 8 = .ok (.aload_n 1, 1) := by decide +kernel
theorem d_Po_stopWhenConfirmed_9 : decode b_Po_stopWhenConfirmed 9 = .ok (.getfield 389, 3) := by decide +kernel
theorem d_Po_stopWhenConfirmed_12 : decode b_Po_stopWhenConfirmed 12 = .ok (.ifCond .ne 16, 3) := by decide +kernel
theorem d_Po_stopWhenConfirmed_15 : decode b_Po_stopWhenConfirmed 15 = .ok (.aload_n 1, 1) := by decide +kernel
theorem d_Po_stopWhenConfirmed_16 : decode b_Po_stopWhenConfirmed 16 = .ok (.iconst 1, 1) := by decide +kernel
theorem d_Po_stopWhenConfirmed_17 : decode b_Po_stopWhenConfirmed 17 = .ok (.putfield 150, 3) := by decide +kernel
theorem d_Po_stopWhenConfirmed_20 : decode b_Po_stopWhenConfirmed 20 = .ok (.aload_n 0, 1) := by decide +kernel
theorem d_Po_stopWhenConfirmed_21 : decode b_Po_stopWhenConfirmed 21 = .ok (.aload_n 1, 1) := by decide +kernel
theorem d_Po_stopWhenConfirmed_22 : decode b_Po_stopWhenConfirmed 22 = .ok (.bipush 35, 2) := by decide +kernel
theorem d_Po_stopWhenConfirmed_24 : decode b_Po_stopWhenConfirmed 24 = .ok (.iconst 0, 1) := by decide +kernel
theorem d_Po_stopWhenConfirmed_25 : decode b_Po_stopWhenConfirmed 25 = .ok (.invokevirtual 398, 3) := by decide +kernel
theorem d_Po_stopWhenConfirmed_28 : decode b_Po_stopWhenConfirmed 28 = .ok (.return_, 1) := by decide +kernel
set_option maxRecDepth 100000 in
set_option maxHeartbeats 4000000 in
theorem c_Po_stopWhenConfirmed (l : Launch) (D : va_G) (ca : Nat → ClassId) (T : ty_e) (L : List Nat) (f0 : Nat → va_E) (sz : Nat) (hT : ok_T ca T L f0) {g0 : List (Int32 × Int32)} (h0 : Nat) (t0 : T h0 = some (ty_po g0)) {k1 : Nat} (x1 : Nat) (t1 : T x1 = some (ty_cn k1)) :
    Met l y_Po_stopWhenConfirmed (Cond.code y_Po_stopWhenConfirmed b_Po_stopWhenConfirmed 2 none :: wg) { frames := 4, cells := 0, slots := 0, locals := 85 } (va_Pc [.ref h0, .ref x1] (sm_P D cl_all (ty_s ca) ek L f0 sz)) (sm_Qv D (ty_s ca) L f0 sz (fun u => po_m ca T L u)) 0 0 (va_A (va_pl L f0) sz) := by
  refine sm_start (by decide) (Nat.le_of_ble_eq_true rfl) ?_
  intro p e s m below meth c ls hx hb hml hr hlk hnm hts hown hsz hE hI hl
  have hl : lv_has ls 2 [(0, .ref h0), (1, .ref x1)] := hl
  refine lv_aload_n hx hb d_Po_stopWhenConfirmed_0 rfl (lv_at hl 1 rfl) ?_
  refine fg_Cn_state hx hb hts hown hI hT t1 (hts _ tw_148) (fun x9 h9 => u_same (hts _ tw_147) x9 h9) d_Po_stopWhenConfirmed_1 (fun x_1 => ?_)
  refine lv_iconst (v := 3) hx hb d_Po_stopWhenConfirmed_4 (by decide) ?_
  refine lv_icmp_ne (tgt := 28) hx hb d_Po_stopWhenConfirmed_5 (by decide) (fun c_2 => ?_) (fun c_2 => ?_)
  · exact sm_vret hx hb hr hlk hI ⟨rfl, hT⟩ d_Po_stopWhenConfirmed_28
  · refine lv_aload_n hx hb d_Po_stopWhenConfirmed_8 rfl (lv_at hl 1 rfl) ?_
    refine fgN_Cn_unconfirmed hx hb hts hown hI hT t1 (va_Nw.use rfl (hE.1 _ tn_287 rfl)) (fun _ h9 => h9) d_Po_stopWhenConfirmed_9 (fun x_3 => ?_)
    refine lv_if_ne (tgt := 28) hx hb d_Po_stopWhenConfirmed_12 (by decide) (fun c_4 => ?_) (fun c_4 => ?_)
    · exact sm_vret hx hb hr hlk hI ⟨rfl, hT⟩ d_Po_stopWhenConfirmed_28
    · refine lv_aload_n hx hb d_Po_stopWhenConfirmed_15 rfl (lv_at hl 1 rfl) ?_
      refine lv_iconst (v := 1) hx hb d_Po_stopWhenConfirmed_16 (by decide) ?_
      refine fp_Cn_state hx hb hts hown hI hT t1 (hts _ tw_148) (fun x9 h9 => u_same (hts _ tw_147) x9 h9) d_Po_stopWhenConfirmed_17 (fun H locs f hI hT => ?_)
      refine lv_aload_n hx hb d_Po_stopWhenConfirmed_20 rfl (lv_at hl 0 rfl) ?_
      refine lv_aload_n hx hb d_Po_stopWhenConfirmed_21 rfl (lv_at hl 1 rfl) ?_
      refine lv_bipush (v := 35) hx hb d_Po_stopWhenConfirmed_22 (by decide) ?_
      refine lv_iconst (v := 0) hx hb d_Po_stopWhenConfirmed_24 (by decide) ?_
      refine sm_v hI (va_runV (As := [.ref x1, .int (35), .int (0)]) (rest := []) ⟨hx, hb, hml, hown, hts⟩ (c_Po_sendControl l D ca _ _ _ _ hT h0 t0 x1 t1 35 0) (kv_Po_sendControl hts rfl rfl (hts _ tw_798) ⟨Nat.le_of_ble_eq_true rfl, Nat.le_of_ble_eq_true rfl⟩) (pv_Po hI hE hT t0) rfl rfl hl.1 rfl (lv_room (Nat.le_of_ble_eq_true rfl)) d_Po_stopWhenConfirmed_25 ⟨Nat.le_of_ble_eq_true rfl, Nat.le_of_ble_eq_true rfl⟩) (fun H locs f hI hT => ?_)
      exact sm_vret hx hb hr hlk hI ⟨rfl, hT⟩ d_Po_stopWhenConfirmed_28
theorem d_Po_stop_0 : decode b_Po_stop 0 = .ok (.aload_n 1, 1) := by decide +kernel
theorem d_Po_stop_1 : decode b_Po_stop 1 = .ok (.getfield 150, 3) := by decide +kernel
theorem d_Po_stop_4 : decode b_Po_stop 4 = .ok (.iconst 1, 1) := by decide +kernel
theorem d_Po_stop_5 : decode b_Po_stop 5 = .ok (.if_icmp .ne 14, 3) := by decide +kernel
theorem d_Po_stop_8 : decode b_Po_stop 8 = .ok (.aload_n 0, 1) := by decide +kernel
theorem d_Po_stop_9 : decode b_Po_stop 9 = .ok (.aload_n 1, 1) := by decide +kernel
theorem d_Po_stop_10 : decode b_Po_stop 10 = .ok (.bipush 35, 2) := by decide +kernel
theorem d_Po_stop_12 : decode b_Po_stop 12 = .ok (.iconst 0, 1) := by decide +kernel
theorem d_Po_stop_13 : decode b_Po_stop 13 = .ok (.invokevirtual 398, 3) := by decide +kernel
theorem d_Po_stop_16 : decode b_Po_stop 16 = .ok (.goto 20, 3) := by decide +kernel
theorem d_Po_stop_19 : decode b_Po_stop 19 = .ok (.aload_n 1, 1) := by decide +kernel
theorem d_Po_stop_20 : decode b_Po_stop 20 = .ok (.getfield 150, 3) := by decide +kernel
theorem d_Po_stop_23 : decode b_Po_stop 23 = .ok (.iconst 2, 1) := by decide +kernel
theorem d_Po_stop_24 : decode b_Po_stop 24 = .ok (.if_icmp .ne 12, 3) := by decide +kernel
theorem d_Po_stop_27 : decode b_Po_stop 27 = .ok (.aload_n 1, 1) := by decide +kernel
theorem d_Po_stop_28 : decode b_Po_stop 28 = .ok (.iconst 3, 1) := by decide +kernel
theorem d_Po_stop_29 : decode b_Po_stop 29 = .ok (.putfield 150, 3) := by decide +kernel
theorem d_Po_stop_32 : decode b_Po_stop 32 = .ok (.aload_n 0, 1) := by decide +kernel
theorem d_Po_stop_33 : decode b_Po_stop 33 = .ok (.invokevirtual 405, 3) := by decide +kernel
theorem d_Po_stop_36 : decode b_Po_stop 36 = .ok (.return_, 1) := by decide +kernel
set_option maxRecDepth 100000 in
set_option maxHeartbeats 4000000 in
theorem c_Po_stop (l : Launch) (D : va_G) (ca : Nat → ClassId) (T : ty_e) (L : List Nat) (f0 : Nat → va_E) (sz : Nat) (hT : ok_T ca T L f0) {g0 : List (Int32 × Int32)} (h0 : Nat) (t0 : T h0 = some (ty_po g0)) {k1 : Nat} (x1 : Nat) (t1 : T x1 = some (ty_cn k1)) :
    Met l y_Po_stop (Cond.code y_Po_stop b_Po_stop 2 none :: wg) { frames := 4, cells := 0, slots := 0, locals := 85 } (va_Pc [.ref h0, .ref x1] (sm_P D cl_all (ty_s ca) ek L f0 sz)) (sm_Qv D (ty_s ca) L f0 sz (fun u => po_m ca T L u)) 0 0 (va_A (va_pl L f0) sz) := by
  refine sm_start (by decide) (Nat.le_of_ble_eq_true rfl) ?_
  intro p e s m below meth c ls hx hb hml hr hlk hnm hts hown hsz hE hI hl
  have hl : lv_has ls 2 [(0, .ref h0), (1, .ref x1)] := hl
  refine lv_aload_n hx hb d_Po_stop_0 rfl (lv_at hl 1 rfl) ?_
  refine fg_Cn_state hx hb hts hown hI hT t1 (hts _ tw_148) (fun x9 h9 => u_same (hts _ tw_147) x9 h9) d_Po_stop_1 (fun x_1 => ?_)
  refine lv_iconst (v := 1) hx hb d_Po_stop_4 (by decide) ?_
  refine lv_icmp_ne (tgt := 19) hx hb d_Po_stop_5 (by decide) (fun c_2 => ?_) (fun c_2 => ?_)
  · refine lv_aload_n hx hb d_Po_stop_19 rfl (lv_at hl 1 rfl) ?_
    refine fg_Cn_state hx hb hts hown hI hT t1 (hts _ tw_148) (fun x9 h9 => u_same (hts _ tw_147) x9 h9) d_Po_stop_20 (fun x_3 => ?_)
    refine lv_iconst (v := 2) hx hb d_Po_stop_23 (by decide) ?_
    refine lv_icmp_ne (tgt := 36) hx hb d_Po_stop_24 (by decide) (fun c_4 => ?_) (fun c_4 => ?_)
    · exact sm_vret hx hb hr hlk hI ⟨rfl, hT⟩ d_Po_stop_36
    · refine lv_aload_n hx hb d_Po_stop_27 rfl (lv_at hl 1 rfl) ?_
      refine lv_iconst (v := 3) hx hb d_Po_stop_28 (by decide) ?_
      refine fp_Cn_state hx hb hts hown hI hT t1 (hts _ tw_148) (fun x9 h9 => u_same (hts _ tw_147) x9 h9) d_Po_stop_29 (fun H locs f hI hT => ?_)
      refine lv_aload_n hx hb d_Po_stop_32 rfl (lv_at hl 0 rfl) ?_
      refine sm_v hI (va_runV (As := []) (rest := []) ⟨hx, hb, hml, hown, hts⟩ (c_Po_takeEventsToActiveLine l D ca _ _ _ _ hT h0 t0) (kv_Po_takeEventsToActiveLine hts rfl rfl (hts _ tw_915) ⟨Nat.le_of_ble_eq_true rfl, Nat.le_of_ble_eq_true rfl⟩) (pv_Po hI hE hT t0) rfl rfl hl.1 rfl (lv_room (Nat.le_of_ble_eq_true rfl)) d_Po_stop_33 ⟨Nat.le_of_ble_eq_true rfl, Nat.le_of_ble_eq_true rfl⟩) (fun H locs f hI hT => ?_)
      exact sm_vret hx hb hr hlk hI ⟨rfl, hT⟩ d_Po_stop_36
  · refine lv_aload_n hx hb d_Po_stop_8 rfl (lv_at hl 0 rfl) ?_
    refine lv_aload_n hx hb d_Po_stop_9 rfl (lv_at hl 1 rfl) ?_
    refine lv_bipush (v := 35) hx hb d_Po_stop_10 (by decide) ?_
    refine lv_iconst (v := 0) hx hb d_Po_stop_12 (by decide) ?_
    refine sm_v hI (va_runV (As := [.ref x1, .int (35), .int (0)]) (rest := []) ⟨hx, hb, hml, hown, hts⟩ (c_Po_sendControl l D ca _ _ _ _ hT h0 t0 x1 t1 35 0) (kv_Po_sendControl hts rfl rfl (hts _ tw_798) ⟨Nat.le_of_ble_eq_true rfl, Nat.le_of_ble_eq_true rfl⟩) (pv_Po hI hE hT t0) rfl rfl hl.1 rfl (lv_room (Nat.le_of_ble_eq_true rfl)) d_Po_stop_13 ⟨Nat.le_of_ble_eq_true rfl, Nat.le_of_ble_eq_true rfl⟩) (fun H locs f hI hT => ?_)
    refine lv_goto (tgt := 36) hx hb d_Po_stop_16 (by decide) ?_
    exact sm_vret hx hb hr hlk hI ⟨rfl, hT⟩ d_Po_stop_36
theorem d_Po_start_0 : decode b_Po_start 0 = .ok (.iconst 0, 1) := by decide +kernel
theorem d_Po_start_1 : decode b_Po_start 1 = .ok (.istore_n 2, 1) := by decide +kernel
theorem d_Po_start_2 : decode b_Po_start 2 = .ok (.iload_n 2, 1) := by decide +kernel
theorem d_Po_start_3 : decode b_Po_start 3 = .ok (.iconst 3, 1) := by decide +kernel
theorem d_Po_start_4 : decode b_Po_start 4 = .ok (.if_icmp .ge 32, 3) := by decide +kernel
theorem d_Po_start_7 : decode b_Po_start 7 = .ok (.aload_n 0, 1) := by decide +kernel
theorem d_Po_start_8 : decode b_Po_start 8 = .ok (.getfield 17, 3) := by decide +kernel
theorem d_Po_start_11 : decode b_Po_start 11 = .ok (.iload_n 2, 1) := by decide +kernel
theorem d_Po_start_12 : decode b_Po_start 12 = .ok (.aaload, 1) := by decide +kernel
theorem d_Po_start_13 : decode b_Po_start 13 = .ok (.getfield 150, 3) := by decide +kernel
theorem d_Po_start_16 : decode b_Po_start 16 = .ok (.iconst 2, 1) := by decide +kernel
theorem d_Po_start_17 : decode b_Po_start 17 = .ok (.if_icmp .ne 13, 3) := by decide +kernel
theorem d_Po_start_20 : decode b_Po_start 20 = .ok (.aload_n 0, 1) := by decide +kernel
theorem d_Po_start_21 : decode b_Po_start 21 = .ok (.getfield 17, 3) := by decide +kernel
theorem d_Po_start_24 : decode b_Po_start 24 = .ok (.iload_n 2, 1) := by decide +kernel
theorem d_Po_start_25 : decode b_Po_start 25 = .ok (.aaload, 1) := by decide +kernel
theorem d_Po_start_26 : decode b_Po_start 26 = .ok (.iconst 1, 1) := by decide +kernel
theorem d_Po_start_27 : decode b_Po_start 27 = .ok (.putfield 150, 3) := by decide +kernel
theorem d_Po_start_30 : decode b_Po_start 30 = .ok (.iinc 2 1, 3) := by decide +kernel
theorem d_Po_start_33 : decode b_Po_start 33 = .ok (.goto (-31), 3) := by decide +kernel
theorem d_Po_start_36 : decode b_Po_start 36 = .ok (.aload_n 1, 1) := by decide +kernel
theorem d_Po_start_37 : decode b_Po_start 37 = .ok (.iconst 2, 1) := by decide +kernel
theorem d_Po_start_38 : decode b_Po_start 38 = .ok (.putfield 150, 3) := by decide +kernel
theorem d_Po_start_41 : decode b_Po_start 41 = .ok (.aload_n 0, 1) := by decide +kernel
theorem d_Po_start_42 : decode b_Po_start 42 = .ok (.invokevirtual 405, 3) := by decide +kernel
theorem d_Po_start_45 : decode b_Po_start 45 = .ok (.aload_n 0, 1) := by decide +kernel
theorem d_Po_start_46 : decode b_Po_start 46 = .ok (.aload_n 1, 1) := by decide +kernel
theorem d_Po_start_47 : decode b_Po_start 47 = .ok (.bipush 11, 2) := by decide +kernel
theorem d_Po_start_49 : decode b_Po_start 49 = .ok (.iconst 0, 1) := by decide +kernel
theorem d_Po_start_50 : decode b_Po_start 50 = .ok (.invokevirtual 398, 3) := by decide +kernel
theorem d_Po_start_53 : decode b_Po_start 53 = .ok (.return_, 1) := by decide +kernel
set_option maxRecDepth 100000 in
set_option maxHeartbeats 4000000 in
theorem c_Po_start (l : Launch) (D : va_G) (ca : Nat → ClassId) (T : ty_e) (L : List Nat) (f0 : Nat → va_E) (sz : Nat) (hT : ok_T ca T L f0) {g0 : List (Int32 × Int32)} (h0 : Nat) (t0 : T h0 = some (ty_po g0)) {k1 : Nat} (x1 : Nat) (t1 : T x1 = some (ty_cn k1)) :
    Met l y_Po_start (Cond.code y_Po_start b_Po_start 3 none :: wg) { frames := 4, cells := 0, slots := 0, locals := 85 } (va_Pc [.ref h0, .ref x1] (sm_P D cl_all (ty_s ca) ek L f0 sz)) (sm_Qv D (ty_s ca) L f0 sz (fun u => po_m ca T L u)) 0 0 (va_A (va_pl L f0) sz) := by
  refine sm_start (by decide) (Nat.le_of_ble_eq_true rfl) ?_
  intro p e s m below meth c ls hx hb hml hr hlk hnm hts hown hsz hE hI hl
  have hl : lv_has ls 3 [(0, .ref h0), (1, .ref x1)] := hl
  have hJ_2 : ∀ (N k : Nat) (H : Heap) (locs : List Loc) (f : Nat → va_E) (ls : Array Slot) , 3 + 1 - k ≤ N → k ≤ 3 → sw_I D cl_all (ty_s ca) (va_A (va_pl L f0) sz) s H locs L f → ok_T ca T L f → lv_has ls 3 [(0, .ref h0), (1, .ref x1), (2, .int (nI k))] → W p l e { frames := 4, cells := 0, slots := 0, locals := 85 } s m ([.ref h0, .ref x1] : List Value).toArray below meth c H locs 0 0 (MQ below (sm_Qv D (ty_s ca) L f0 sz (fun u => po_m ca T L u)) ([.ref h0, .ref x1] : List Value).toArray s 0 0 (va_A (va_pl L f0) sz)) (F0 m 2 ls []) := by
    intro N
    induction N with
    | zero => intros; omega
    | succ N ih =>
      intro k H locs f ls  hN hk hI hT hl 
      refine lv_iload_n hx hb d_Po_start_2 rfl (lv_at hl 2 rfl) ?_
      refine lv_iconst (v := 3) hx hb d_Po_start_3 (by decide) ?_
      refine lv_icmp_ge (tgt := 36) hx hb d_Po_start_4 (by decide) (fun c_1 => ?_) (fun c_1 => ?_)
      · have k_2 : 3 ≤ k := (nI_leI (a := 3) (b := k) (by omega) (by omega)).mp c_1
        refine lv_aload_n hx hb d_Po_start_36 rfl (lv_at hl 1 rfl) ?_
        refine lv_iconst (v := 2) hx hb d_Po_start_37 (by decide) ?_
        refine fp_Cn_state hx hb hts hown hI hT t1 (hts _ tw_148) (fun x9 h9 => u_same (hts _ tw_147) x9 h9) d_Po_start_38 (fun H locs f hI hT => ?_)
        refine lv_aload_n hx hb d_Po_start_41 rfl (lv_at hl 0 rfl) ?_
        refine sm_v hI (va_runV (As := []) (rest := []) ⟨hx, hb, hml, hown, hts⟩ (c_Po_takeEventsToActiveLine l D ca _ _ _ _ hT h0 t0) (kv_Po_takeEventsToActiveLine hts rfl rfl (hts _ tw_915) ⟨Nat.le_of_ble_eq_true rfl, Nat.le_of_ble_eq_true rfl⟩) (pv_Po hI hE hT t0) rfl rfl hl.1 rfl (lv_room (Nat.le_of_ble_eq_true rfl)) d_Po_start_42 ⟨Nat.le_of_ble_eq_true rfl, Nat.le_of_ble_eq_true rfl⟩) (fun H locs f hI hT => ?_)
        refine lv_aload_n hx hb d_Po_start_45 rfl (lv_at hl 0 rfl) ?_
        refine lv_aload_n hx hb d_Po_start_46 rfl (lv_at hl 1 rfl) ?_
        refine lv_bipush (v := 11) hx hb d_Po_start_47 (by decide) ?_
        refine lv_iconst (v := 0) hx hb d_Po_start_49 (by decide) ?_
        refine sm_v hI (va_runV (As := [.ref x1, .int (11), .int (0)]) (rest := []) ⟨hx, hb, hml, hown, hts⟩ (c_Po_sendControl l D ca _ _ _ _ hT h0 t0 x1 t1 11 0) (kv_Po_sendControl hts rfl rfl (hts _ tw_798) ⟨Nat.le_of_ble_eq_true rfl, Nat.le_of_ble_eq_true rfl⟩) (pv_Po hI hE hT t0) rfl rfl hl.1 rfl (lv_room (Nat.le_of_ble_eq_true rfl)) d_Po_start_50 ⟨Nat.le_of_ble_eq_true rfl, Nat.le_of_ble_eq_true rfl⟩) (fun H locs f hI hT => ?_)
        exact sm_vret hx hb hr hlk hI ⟨rfl, hT⟩ d_Po_start_53
      · have k_3 : k < 3 := Nat.lt_of_not_le (fun q => c_1 ((nI_leI (a := 3) (b := k) (by omega) (by omega)).mpr q))
        refine lv_aload_n hx hb d_Po_start_7 rfl (lv_at hl 0 rfl) ?_
        refine fg_Po_connections hx hb hts hown hI hT t0 (hts _ tw_365) (fun _ h9 => h9) d_Po_start_8 (fun r_4 t_5 => ?_)
        refine lv_iload_n hx hb d_Po_start_11 rfl (lv_at hl 2 rfl) ?_
        refine fa_cns (j := k) hx hb hI hT t_5 (by omega) d_Po_start_12 (fun r_6 t_7 => ?_)
        refine fg_Cn_state hx hb hts hown hI hT t_7 (hts _ tw_148) (fun x9 h9 => u_same (hts _ tw_147) x9 h9) d_Po_start_13 (fun x_8 => ?_)
        refine lv_iconst (v := 2) hx hb d_Po_start_16 (by decide) ?_
        refine lv_icmp_ne (tgt := 30) hx hb d_Po_start_17 (by decide) (fun c_9 => ?_) (fun c_9 => ?_)
        · refine lv_iinc (v := nI (k + 1)) (lv' := [(2, .int (nI (k + 1))), (0, .ref h0), (1, .ref x1)]) hx hb d_Po_start_30 hl (k := 2) rfl (nI_1 _) (by decide) rfl (fun ls hl => ?_)
          refine lv_goto (tgt := 2) hx hb d_Po_start_33 (by decide) ?_
          exact ih ((k + 1)) _ _ _ _  (by omega) (by omega) hI hT (lv_sub hl [1, 2, 0] rfl) 
        · refine lv_aload_n hx hb d_Po_start_20 rfl (lv_at hl 0 rfl) ?_
          refine fg_Po_connections hx hb hts hown hI hT t0 (hts _ tw_365) (fun _ h9 => h9) d_Po_start_21 (fun r_10 t_11 => ?_)
          refine lv_iload_n hx hb d_Po_start_24 rfl (lv_at hl 2 rfl) ?_
          refine fa_cns (j := k) hx hb hI hT t_11 (by omega) d_Po_start_25 (fun r_12 t_13 => ?_)
          refine lv_iconst (v := 1) hx hb d_Po_start_26 (by decide) ?_
          refine fp_Cn_state hx hb hts hown hI hT t_13 (hts _ tw_148) (fun x9 h9 => u_same (hts _ tw_147) x9 h9) d_Po_start_27 (fun H locs f hI hT => ?_)
          refine lv_iinc (v := nI (k + 1)) (lv' := [(2, .int (nI (k + 1))), (0, .ref h0), (1, .ref x1)]) hx hb d_Po_start_30 hl (k := 2) rfl (nI_1 _) (by decide) rfl (fun ls hl => ?_)
          refine lv_goto (tgt := 2) hx hb d_Po_start_33 (by decide) ?_
          exact ih ((k + 1)) _ _ _ _  (by omega) (by omega) hI hT (lv_sub hl [1, 2, 0] rfl) 
  refine lv_iconst (v := 0) hx hb d_Po_start_0 (by decide) ?_
  refine lv_istore_n (lv' := [(2, .int (0)), (0, .ref h0), (1, .ref x1)]) hx hb d_Po_start_1 rfl hl (by decide) rfl (fun ls hl => ?_)
  exact hJ_2 _ (0) _ _ _ _  (Nat.le_refl _) (by omega) hI hT (lv_sub hl [1, 2, 0] rfl) 
theorem d_Po_lookAtTimers_0 : decode b_Po_lookAtTimers 0 = .ok (.aload_n 1, 1) := by decide +kernel
theorem d_Po_lookAtTimers_1 : decode b_Po_lookAtTimers 1 = .ok (.aload_n 0, 1) := by decide +kernel
theorem d_Po_lookAtTimers_2 : decode b_Po_lookAtTimers 2 = .ok (.getfield 147, 3) := by decide +kernel
theorem d_Po_lookAtTimers_5 : decode b_Po_lookAtTimers 5 = .ok (.invokevirtual 408, 3) := by decide +kernel
theorem d_Po_lookAtTimers_8 : decode b_Po_lookAtTimers 8 = .ok (.ifCond .eq 9, 3) := by decide +kernel
theorem d_Po_lookAtTimers_11 : decode b_Po_lookAtTimers 11 = .ok (.aload_n 0, 1) := by decide +kernel
theorem d_Po_lookAtTimers_12 : decode b_Po_lookAtTimers 12 = .ok (.aload_n 1, 1) := by decide +kernel
theorem d_Po_lookAtTimers_13 : decode b_Po_lookAtTimers 13 = .ok (.invokevirtual 166, 3) := by decide +kernel
theorem d_Po_lookAtTimers_16 : decode b_Po_lookAtTimers 16 = .ok (.return_, 1) := by decide +kernel
theorem d_Po_lookAtTimers_17 : decode b_Po_lookAtTimers 17 = .ok (.aload_n 1, 1) := by decide +kernel
theorem d_Po_lookAtTimers_18 : decode b_Po_lookAtTimers 18 = .ok (.getfield 371, 3) := by decide +kernel
theorem d_Po_lookAtTimers_21 : decode b_Po_lookAtTimers 21 = .ok (.ifCond .le 24, 3) := by decide +kernel
theorem d_Po_lookAtTimers_24 : decode b_Po_lookAtTimers 24 = .ok (.aload_n 0, 1) := by decide +kernel
theorem d_Po_lookAtTimers_25 : decode b_Po_lookAtTimers 25 = .ok (.getfield 147, 3) := by decide +kernel
theorem d_Po_lookAtTimers_28 : decode b_Po_lookAtTimers 28 = .ok (.aload_n 1, 1) := by decide +kernel
theorem d_Po_lookAtTimers_29 : decode b_Po_lookAtTimers 29 = .ok (.getfield 411, 3) := by decide +kernel
theorem d_Po_lookAtTimers_32 : decode b_Po_lookAtTimers 32 = .ok (.lsub, 1) := by decide +kernel
theorem d_Po_lookAtTimers_33 : decode b_Po_lookAtTimers 33 = .ok (.ldc2_w 414, 3) := by decide +kernel
theorem d_Po_lookAtTimers_36 : decode b_Po_lookAtTimers 36 = .ok (.lcmp, 1) := by decide +kernel
theorem d_Po_lookAtTimers_37 : decode b_Po_lookAtTimers 37 = .ok (.ifCond .lt 8, 3) := by decide +kernel
theorem d_Po_lookAtTimers_40 : decode b_Po_lookAtTimers 40 = .ok (.aload_n 0, 1) := by decide +kernel
theorem d_Po_lookAtTimers_41 : decode b_Po_lookAtTimers 41 = .ok (.aload_n 1, 1) := by decide +kernel
theorem d_Po_lookAtTimers_42 : decode b_Po_lookAtTimers 42 = .ok (.invokevirtual 374, 3) := by decide +kernel
theorem d_Po_lookAtTimers_45 : decode b_Po_lookAtTimers 45 = .ok (.aload_n 1, 1) := by decide +kernel
theorem d_Po_lookAtTimers_46 : decode b_Po_lookAtTimers 46 = .ok (.getfield 150, 3) := by decide +kernel
theorem d_Po_lookAtTimers_49 : decode b_Po_lookAtTimers 49 = .ok (.ifCond .eq 47, 3) := by decide +kernel
theorem d_Po_lookAtTimers_52 : decode b_Po_lookAtTimers 52 = .ok (.aload_n 1, 1) := by decide +kernel
theorem d_Po_lookAtTimers_53 : decode b_Po_lookAtTimers 53 = .ok (.getfield 402, 3) := by decide +kernel
theorem d_Po_lookAtTimers_56 : decode b_Po_lookAtTimers 56 = .ok (.ifCond .ne 40, 3) := by decide +kernel
theorem d_Po_lookAtTimers_59 : decode b_Po_lookAtTimers 59 = .ok (.aload_n 0, 1) := by decide +kernel
theorem d_Po_lookAtTimers_60 : decode b_Po_lookAtTimers 60 = .ok (.getfield 147, 3) := by decide +kernel
theorem d_Po_lookAtTimers_63 : decode b_Po_lookAtTimers 63 = .ok (.aload_n 1, 1) := by decide +kernel
theorem d_Po_lookAtTimers_64 : decode b_Po_lookAtTimers 64 = .ok (.getfield 161, 3) := by decide +kernel
theorem d_Po_lookAtTimers_67 : decode b_Po_lookAtTimers 67 = .ok (.lsub, 1) := by decide +kernel
theorem d_Po_lookAtTimers_68 : decode b_Po_lookAtTimers 68 = .ok (.ldc2_w 416, 3) := by decide +kernel
theorem d_Po_lookAtTimers_71 : decode b_Po_lookAtTimers 71 = .ok (.lcmp, 1) := by decide +kernel
theorem d_Po_lookAtTimers_72 : decode b_Po_lookAtTimers 72 = .ok (.ifCond .lt 24, 3) := by decide +kernel
theorem d_Po_lookAtTimers_75 : decode b_Po_lookAtTimers 75 = .ok (.aload_n 1, 1) := by decide +kernel
theorem d_Po_lookAtTimers_76 : decode b_Po_lookAtTimers 76 = .ok (.iconst 1, 1) := by decide +kernel
theorem d_Po_lookAtTimers_77 : decode b_Po_lookAtTimers 77 = .ok (.putfield 402, 3) := by decide +kernel
theorem d_Po_lookAtTimers_80 : decode b_Po_lookAtTimers 80 = .ok (.aload_n 1, 1) := by decide +kernel
theorem d_Po_lookAtTimers_81 : decode b_Po_lookAtTimers 81 = .ok (.aload_n 0, 1) := by decide +kernel
theorem d_Po_lookAtTimers_82 : decode b_Po_lookAtTimers 82 = .ok (.getfield 147, 3) := by decide +kernel
theorem d_Po_lookAtTimers_85 : decode b_Po_lookAtTimers 85 = .ok (.putfield 418, 3) := by decide +kernel
theorem d_Po_lookAtTimers_88 : decode b_Po_lookAtTimers 88 = .ok (.aload_n 0, 1) := by decide +kernel
theorem d_Po_lookAtTimers_89 : decode b_Po_lookAtTimers 89 = .ok (.aload_n 1, 1) := by decide +kernel
theorem d_Po_lookAtTimers_90 : decode b_Po_lookAtTimers 90 = .ok (.bipush 67, 2) := by decide +kernel
theorem d_Po_lookAtTimers_92 : decode b_Po_lookAtTimers 92 = .ok (.iconst 0, 1) := by decide +kernel
theorem d_Po_lookAtTimers_93 : decode b_Po_lookAtTimers 93 = .ok (.invokevirtual 398, 3) := by decide +kernel
theorem d_Po_lookAtTimers_96 : decode b_Po_lookAtTimers 96 = .ok (.return_, 1) := by decide +kernel
set_option maxRecDepth 100000 in
set_option maxHeartbeats 4000000 in
theorem c_Po_lookAtTimers (l : Launch) (D : va_G) (ca : Nat → ClassId) (T : ty_e) (L : List Nat) (f0 : Nat → va_E) (sz : Nat) (hT : ok_T ca T L f0) {g0 : List (Int32 × Int32)} (h0 : Nat) (t0 : T h0 = some (ty_po g0)) {k1 : Nat} (x1 : Nat) (t1 : T x1 = some (ty_cn k1)) :
    Met l y_Po_lookAtTimers (Cond.code y_Po_lookAtTimers b_Po_lookAtTimers 2 none :: wg) { frames := 5, cells := 0, slots := 0, locals := 106 } (va_Pc [.ref h0, .ref x1] (sm_P D cl_all (ty_s ca) ek L f0 sz)) (sm_Qv D (ty_s ca) L f0 sz (fun u => po_m ca T L u)) 0 0 (va_A (va_pl L f0) sz) := by
  refine sm_start (by decide) (Nat.le_of_ble_eq_true rfl) ?_
  intro p e s m below meth c ls hx hb hml hr hlk hnm hts hown hsz hE hI hl
  have hl : lv_has ls 2 [(0, .ref h0), (1, .ref x1)] := hl
  have hJ_45 : ∀ (H : Heap) (locs : List Loc) (f : Nat → va_E) (ls : Array Slot) , sw_I D cl_all (ty_s ca) (va_A (va_pl L f0) sz) s H locs L f → ok_T ca T L f → lv_has ls 2 [(0, .ref h0), (1, .ref x1)] → W p l e { frames := 5, cells := 0, slots := 0, locals := 106 } s m ([.ref h0, .ref x1] : List Value).toArray below meth c H locs 0 0 (MQ below (sm_Qv D (ty_s ca) L f0 sz (fun u => po_m ca T L u)) ([.ref h0, .ref x1] : List Value).toArray s 0 0 (va_A (va_pl L f0) sz)) (F0 m 45 ls []) := by
    intro H locs f ls  hI hT hl 
    refine lv_aload_n hx hb d_Po_lookAtTimers_45 rfl (lv_at hl 1 rfl) ?_
    refine fg_Cn_state hx hb hts hown hI hT t1 (hts _ tw_148) (fun x9 h9 => u_same (hts _ tw_147) x9 h9) d_Po_lookAtTimers_46 (fun x_1 => ?_)
    refine lv_if_eq (tgt := 96) hx hb d_Po_lookAtTimers_49 (by decide) (fun c_2 => ?_) (fun c_2 => ?_)
    · exact sm_vret hx hb hr hlk hI ⟨rfl, hT⟩ d_Po_lookAtTimers_96
    · refine lv_aload_n hx hb d_Po_lookAtTimers_52 rfl (lv_at hl 1 rfl) ?_
      refine fgN_Cn_testIsOut hx hb hts hown hI hT t1 (va_Nw.use rfl (hE.1 _ tn_296 rfl)) (fun _ h9 => h9) d_Po_lookAtTimers_53 (fun x_3 p_4 => ?_)
      refine lv_if_ne (tgt := 96) hx hb d_Po_lookAtTimers_56 (by decide) (fun c_5 => ?_) (fun c_5 => ?_)
      · exact sm_vret hx hb hr hlk hI ⟨rfl, hT⟩ d_Po_lookAtTimers_96
      · refine lv_aload_n hx hb d_Po_lookAtTimers_59 rfl (lv_at hl 0 rfl) ?_
        refine fg_Po_now hx hb hts hown hI hT t0 (hts _ tw_373) (fun _ h9 => h9) d_Po_lookAtTimers_60 (fun x_6 => ?_)
        refine lv_aload_n hx hb d_Po_lookAtTimers_63 rfl (lv_at hl 1 rfl) ?_
        refine fg_Cn_heardAt hx hb hts hown hI hT t1 (hts _ tw_163) (fun x9 h9 => u_same (hts _ tw_164) x9 h9) d_Po_lookAtTimers_64 (fun x_7 => ?_)
        refine lv_lsub hx hb d_Po_lookAtTimers_67 ?_
        refine lv_topl (fun x_8 e_9 => ?_)
        refine lv_ldc2 (v := 20000) hx hb hown (hts _ tw_802) d_Po_lookAtTimers_68 ?_
        refine W.lcmp hx hb d_Po_lookAtTimers_71 ?_
        refine lv_topi (fun x_10 e_11 => ?_)
        refine lv_if_lt (tgt := 96) hx hb d_Po_lookAtTimers_72 (by decide) (fun c_12 => ?_) (fun c_12 => ?_)
        · exact sm_vret hx hb hr hlk hI ⟨rfl, hT⟩ d_Po_lookAtTimers_96
        · refine lv_aload_n hx hb d_Po_lookAtTimers_75 rfl (lv_at hl 1 rfl) ?_
          refine lv_iconst (v := 1) hx hb d_Po_lookAtTimers_76 (by decide) ?_
          refine fpN_Cn_testIsOut hx hb hts hown hI hT t1 (va_Nw.use rfl (hE.1 _ tn_296 rfl)) (fun _ h9 => h9) (by decide) d_Po_lookAtTimers_77 (fun H locs f hI hT => ?_)
          refine lv_aload_n hx hb d_Po_lookAtTimers_80 rfl (lv_at hl 1 rfl) ?_
          refine lv_aload_n hx hb d_Po_lookAtTimers_81 rfl (lv_at hl 0 rfl) ?_
          refine fg_Po_now hx hb hts hown hI hT t0 (hts _ tw_373) (fun _ h9 => h9) d_Po_lookAtTimers_82 (fun x_13 => ?_)
          refine fpN_Cn_testAt hx hb hts hown hI hT t1 (va_Nw.use rfl (hE.1 _ tn_298 rfl)) (fun _ h9 => h9) d_Po_lookAtTimers_85 (fun H locs f hI hT => ?_)
          refine lv_aload_n hx hb d_Po_lookAtTimers_88 rfl (lv_at hl 0 rfl) ?_
          refine lv_aload_n hx hb d_Po_lookAtTimers_89 rfl (lv_at hl 1 rfl) ?_
          refine lv_bipush (v := 67) hx hb d_Po_lookAtTimers_90 (by decide) ?_
          refine lv_iconst (v := 0) hx hb d_Po_lookAtTimers_92 (by decide) ?_
          refine sm_v hI (va_runV (As := [.ref x1, .int (67), .int (0)]) (rest := []) ⟨hx, hb, hml, hown, hts⟩ (c_Po_sendControl l D ca _ _ _ _ hT h0 t0 x1 t1 67 0) (kv_Po_sendControl hts rfl rfl (hts _ tw_798) ⟨Nat.le_of_ble_eq_true rfl, Nat.le_of_ble_eq_true rfl⟩) (pv_Po hI hE hT t0) rfl rfl hl.1 rfl (lv_room (Nat.le_of_ble_eq_true rfl)) d_Po_lookAtTimers_93 ⟨Nat.le_of_ble_eq_true rfl, Nat.le_of_ble_eq_true rfl⟩) (fun H locs f hI hT => ?_)
          exact sm_vret hx hb hr hlk hI ⟨rfl, hT⟩ d_Po_lookAtTimers_96
  refine lv_aload_n hx hb d_Po_lookAtTimers_0 rfl (lv_at hl 1 rfl) ?_
  refine lv_aload_n hx hb d_Po_lookAtTimers_1 rfl (lv_at hl 0 rfl) ?_
  refine fg_Po_now hx hb hts hown hI hT t0 (hts _ tw_373) (fun _ h9 => h9) d_Po_lookAtTimers_2 (fun x_14 => ?_)
  refine sm_iP hI (va_runV (As := [.long (x_14)]) (rest := []) ⟨hx, hb, hml, hown, hts⟩ (c_Cn_isLate l D ca _ _ _ _ hT x1 t1 x_14) (kv_Cn_isLate hts rfl rfl (hts _ tw_769) ⟨Nat.le_of_ble_eq_true rfl, Nat.le_of_ble_eq_true rfl⟩) (pv_Cn hI hE hT t1) rfl rfl hl.1 rfl (lv_room (Nat.le_of_ble_eq_true rfl)) d_Po_lookAtTimers_5 ⟨Nat.le_of_ble_eq_true rfl, Nat.le_of_ble_eq_true rfl⟩) (fun x_15 H locs p_16 hI => ?_)
  refine lv_if_eq (tgt := 17) hx hb d_Po_lookAtTimers_8 (by decide) (fun c_17 => ?_) (fun c_17 => ?_)
  · refine lv_aload_n hx hb d_Po_lookAtTimers_17 rfl (lv_at hl 1 rfl) ?_
    refine fgN_Cn_came hx hb hts hown hI hT t1 (va_Nw.use rfl (hE.1 _ tn_292 rfl)) (fun _ h9 => h9) d_Po_lookAtTimers_18 (fun x_18 => ?_)
    refine lv_if_le (tgt := 45) hx hb d_Po_lookAtTimers_21 (by decide) (fun c_19 => ?_) (fun c_19 => ?_)
    · exact hJ_45 _ _ _ _  hI hT (lv_sub hl [0, 1] rfl)
    · refine lv_aload_n hx hb d_Po_lookAtTimers_24 rfl (lv_at hl 0 rfl) ?_
      refine fg_Po_now hx hb hts hown hI hT t0 (hts _ tw_373) (fun _ h9 => h9) d_Po_lookAtTimers_25 (fun x_20 => ?_)
      refine lv_aload_n hx hb d_Po_lookAtTimers_28 rfl (lv_at hl 1 rfl) ?_
      refine fgN_Cn_cameAt hx hb hts hown hI hT t1 (va_Nw.use rfl (hE.1 _ tn_294 rfl)) (fun _ h9 => h9) d_Po_lookAtTimers_29 (fun x_21 => ?_)
      refine lv_lsub hx hb d_Po_lookAtTimers_32 ?_
      refine lv_topl (fun x_22 e_23 => ?_)
      refine lv_ldc2 (v := 10000) hx hb hown (hts _ tw_793) d_Po_lookAtTimers_33 ?_
      refine W.lcmp hx hb d_Po_lookAtTimers_36 ?_
      refine lv_topi (fun x_24 e_25 => ?_)
      refine lv_if_lt (tgt := 45) hx hb d_Po_lookAtTimers_37 (by decide) (fun c_26 => ?_) (fun c_26 => ?_)
      · exact hJ_45 _ _ _ _  hI hT (lv_sub hl [0, 1] rfl)
      · refine lv_aload_n hx hb d_Po_lookAtTimers_40 rfl (lv_at hl 0 rfl) ?_
        refine lv_aload_n hx hb d_Po_lookAtTimers_41 rfl (lv_at hl 1 rfl) ?_
        refine sm_v hI (va_runV (As := [.ref x1]) (rest := []) ⟨hx, hb, hml, hown, hts⟩ (c_Po_sendSupervisory l D ca _ _ _ _ hT h0 t0 x1 t1) (kv_Po_sendSupervisory hts rfl rfl (hts _ tw_794) ⟨Nat.le_of_ble_eq_true rfl, Nat.le_of_ble_eq_true rfl⟩) (pv_Po hI hE hT t0) rfl rfl hl.1 rfl (lv_room (Nat.le_of_ble_eq_true rfl)) d_Po_lookAtTimers_42 ⟨Nat.le_of_ble_eq_true rfl, Nat.le_of_ble_eq_true rfl⟩) (fun H locs f hI hT => ?_)
        exact hJ_45 _ _ _ _  hI hT (lv_sub hl [0, 1] rfl) 
  · refine lv_aload_n hx hb d_Po_lookAtTimers_11 rfl (lv_at hl 0 rfl) ?_
    refine lv_aload_n hx hb d_Po_lookAtTimers_12 rfl (lv_at hl 1 rfl) ?_
    refine sm_v hI (va_runV (As := [.ref x1]) (rest := []) ⟨hx, hb, hml, hown, hts⟩ (c_Po_shut l D ca _ _ _ _ hT h0 t0 x1 t1) (kv_Po_shut hts rfl rfl (hts _ tw_778) ⟨Nat.le_of_ble_eq_true rfl, Nat.le_of_ble_eq_true rfl⟩) (pv_Po hI hE hT t0) rfl rfl hl.1 rfl (lv_room (Nat.le_of_ble_eq_true rfl)) d_Po_lookAtTimers_13 ⟨Nat.le_of_ble_eq_true rfl, Nat.le_of_ble_eq_true rfl⟩) (fun H locs f hI hT => ?_)
    exact sm_vret hx hb hr hlk hI ⟨rfl, hT⟩ d_Po_lookAtTimers_16
