/-! Events (written by wip/tools) -/
theorem d_Es_firstUnsentAt_0 : decode b_Es_firstUnsentAt 0 = .ok (.iconst 0, 1) := by decide +kernel
theorem d_Es_firstUnsentAt_1 : decode b_Es_firstUnsentAt 1 = .ok (.istore_n 1, 1) := by decide +kernel
theorem d_Es_firstUnsentAt_2 : decode b_Es_firstUnsentAt 2 = .ok (.iload_n 1, 1) := by decide +kernel
theorem d_Es_firstUnsentAt_3 : decode b_Es_firstUnsentAt 3 = .ok (.aload_n 0, 1) := by decide +kernel
theorem d_Es_firstUnsentAt_4 : decode b_Es_firstUnsentAt 4 = .ok (.getfield 18, 3) := by decide +kernel
theorem d_Es_firstUnsentAt_7 : decode b_Es_firstUnsentAt 7 = .ok (.if_icmp .ge 23, 3) := by decide +kernel
theorem d_Es_firstUnsentAt_10 : decode b_Es_firstUnsentAt 10 = .ok (.aload_n 0, 1) := by decide +kernel
theorem d_Es_firstUnsentAt_11 : decode b_Es_firstUnsentAt 11 = .ok (.getfield 11, 3) := by decide +kernel
theorem d_Es_firstUnsentAt_14 : decode b_Es_firstUnsentAt 14 = .ok (.iload_n 1, 1) := by decide +kernel
theorem d_Es_firstUnsentAt_15 : decode b_Es_firstUnsentAt 15 = .ok (.aaload, 1) := by decide +kernel
theorem d_Es_firstUnsentAt_16 : decode b_Es_firstUnsentAt 16 = .ok (.getfield 42, 3) := by decide +kernel
theorem d_Es_firstUnsentAt_19 : decode b_Es_firstUnsentAt 19 = .ok (.ifCond .ge 5, 3) := by decide +kernel
theorem d_Es_firstUnsentAt_22 : decode b_Es_firstUnsentAt 22 = .ok (.iload_n 1, 1) := by decide +kernel
theorem d_Es_firstUnsentAt_23 : decode b_Es_firstUnsentAt 23 = .ok (.ireturn, 1) := by decide +kernel
theorem d_Es_firstUnsentAt_24 : decode b_Es_firstUnsentAt 24 = .ok (.iinc 1 1, 3) := by decide +kernel
theorem d_Es_firstUnsentAt_27 : decode b_Es_firstUnsentAt 27 = .ok (.goto (-25), 3) := by decide +kernel
theorem d_Es_firstUnsentAt_30 : decode b_Es_firstUnsentAt 30 = .ok (.iconst (-1), 1) := by decide +kernel
theorem d_Es_firstUnsentAt_31 : decode b_Es_firstUnsentAt 31 = .ok (.ireturn, 1) := by decide +kernel
set_option maxRecDepth 100000 in
set_option maxHeartbeats 4000000 in
theorem c_Es_firstUnsentAt (l : Launch) (D : va_G) (ca : Nat → ClassId) (T : ty_e) (L : List Nat) (f0 : Nat → va_E) (sz : Nat) (hT : ok_T ca T L f0) (h0 : Nat) (t0 : T h0 = some (ty_es)) :
    Met l y_Es_firstUnsentAt (Cond.code y_Es_firstUnsentAt b_Es_firstUnsentAt 2 (some .int) :: wg) { frames := 0, cells := 0, slots := 0, locals := 0 } (va_Pc [.ref h0] (sm_P D cl_all (ty_s ca) ek L f0 sz)) (sm_Qi D (ty_s ca) L f0 sz (fun r u => (r = -1 ∨ ∃ j : Nat, r = nI j ∧ j < 48) ∧ u = (L, f0))) 0 0 (va_A (va_pl L f0) sz) := by
  refine sm_start (by decide) (Nat.le_of_ble_eq_true rfl) ?_
  intro p e s m below meth c ls hx hb hml hr hlk hnm hts hown hsz hE hI hl
  have hl : lv_has ls 2 [(0, .ref h0)] := hl
  have hJ_2 : ∀ (N k : Nat) (H : Heap) (locs : List Loc) (ls : Array Slot) , 48 + 1 - k ≤ N → k ≤ 48 → sw_I D cl_all (ty_s ca) (va_A (va_pl L f0) sz) s H locs L f0 → lv_has ls 2 [(0, .ref h0), (1, .int (nI k))] → W p l e { frames := 0, cells := 0, slots := 0, locals := 0 } s m ([.ref h0] : List Value).toArray below meth c H locs 0 0 (MQ below (sm_Qi D (ty_s ca) L f0 sz (fun r u => (r = -1 ∨ ∃ j : Nat, r = nI j ∧ j < 48) ∧ u = (L, f0))) ([.ref h0] : List Value).toArray s 0 0 (va_A (va_pl L f0) sz)) (F0 m 2 ls []) := by
    intro N
    induction N with
    | zero => intros; omega
    | succ N ih =>
      intro k H locs ls  hN hk hI hl 
      refine lv_iload_n hx hb d_Es_firstUnsentAt_2 rfl (lv_at hl 1 rfl) ?_
      refine lv_aload_n hx hb d_Es_firstUnsentAt_3 rfl (lv_at hl 0 rfl) ?_
      refine fg_Es_many hx hb hts hown hI hT t0 (hts _ tw_238) (fun _ h9 => h9) d_Es_firstUnsentAt_4 (fun n_1 h_2 => ?_)
      refine lv_icmp_ge (tgt := 30) hx hb d_Es_firstUnsentAt_7 (by decide) (fun c_3 => ?_) (fun c_3 => ?_)
      · have k_4 : n_1 ≤ k := (nI_leI (a := n_1) (b := k) (by omega) (by omega)).mp c_3
        refine lv_iconst (v := -1) hx hb d_Es_firstUnsentAt_30 (by decide) ?_
        exact sm_iret hx hb hr hlk hI ⟨(Or.inl rfl), rfl⟩ d_Es_firstUnsentAt_31
      · have k_5 : k < n_1 := Nat.lt_of_not_le (fun q => c_3 ((nI_leI (a := n_1) (b := k) (by omega) (by omega)).mpr q))
        refine lv_aload_n hx hb d_Es_firstUnsentAt_10 rfl (lv_at hl 0 rfl) ?_
        refine fg_Es_rows hx hb hts hown hI hT t0 (hts _ tw_237) (fun _ h9 => h9) d_Es_firstUnsentAt_11 (fun r_6 t_7 => ?_)
        refine lv_iload_n hx hb d_Es_firstUnsentAt_14 rfl (lv_at hl 1 rfl) ?_
        refine fa_evs (j := k) hx hb hI hT t_7 (by omega) d_Es_firstUnsentAt_15 (fun r_8 t_9 => ?_)
        refine fgN_Ev_line hx hb hts hown hI hT t_9 (va_Nw.use rfl (hE.1 _ tn_222 rfl)) (fun _ h9 => h9) d_Es_firstUnsentAt_16 (fun x_10 => ?_)
        refine lv_if_ge (tgt := 24) hx hb d_Es_firstUnsentAt_19 (by decide) (fun c_11 => ?_) (fun c_11 => ?_)
        · refine lv_iinc (v := nI (k + 1)) (lv' := [(1, .int (nI (k + 1))), (0, .ref h0)]) hx hb d_Es_firstUnsentAt_24 hl (k := 1) rfl (nI_1 _) (by decide) rfl (fun ls hl => ?_)
          refine lv_goto (tgt := 2) hx hb d_Es_firstUnsentAt_27 (by decide) ?_
          exact ih ((k + 1)) _ _ _  (by omega) (by omega) hI (lv_sub hl [1, 0] rfl) 
        · refine lv_iload_n hx hb d_Es_firstUnsentAt_22 rfl (lv_at hl 1 rfl) ?_
          exact sm_iret hx hb hr hlk hI ⟨(Or.inr ⟨k, rfl, by omega⟩), rfl⟩ d_Es_firstUnsentAt_23
  refine lv_iconst (v := 0) hx hb d_Es_firstUnsentAt_0 (by decide) ?_
  refine lv_istore_n (lv' := [(1, .int (0)), (0, .ref h0)]) hx hb d_Es_firstUnsentAt_1 rfl hl (by decide) rfl (fun ls hl => ?_)
  exact hJ_2 _ (0) _ _ _  (Nat.le_refl _) (by omega) hI (lv_sub hl [1, 0] rfl) 
theorem d_Es_sent_0 : decode b_Es_sent 0 = .ok (.iconst 0, 1) := by decide +kernel
theorem d_Es_sent_1 : decode b_Es_sent 1 = .ok (.istore_n 1, 1) := by decide +kernel
theorem d_Es_sent_2 : decode b_Es_sent 2 = .ok (.iconst 0, 1) := by decide +kernel
theorem d_Es_sent_3 : decode b_Es_sent 3 = .ok (.istore_n 2, 1) := by decide +kernel
theorem d_Es_sent_4 : decode b_Es_sent 4 = .ok (.iload_n 2, 1) := by decide +kernel
theorem d_Es_sent_5 : decode b_Es_sent 5 = .ok (.aload_n 0, 1) := by decide +kernel
theorem d_Es_sent_6 : decode b_Es_sent 6 = .ok (.getfield 18, 3) := by decide +kernel
theorem d_Es_sent_9 : decode b_Es_sent 9 = .ok (.if_icmp .ge 29, 3) := by decide +kernel
theorem d_Es_sent_12 : decode b_Es_sent 12 = .ok (.iload_n 1, 1) := by decide +kernel
theorem d_Es_sent_13 : decode b_Es_sent 13 = .ok (.aload_n 0, 1) := by decide +kernel
theorem d_Es_sent_14 : decode b_Es_sent 14 = .ok (.getfield 11, 3) := by decide +kernel
theorem d_Es_sent_17 : decode b_Es_sent 17 = .ok (.iload_n 2, 1) := by decide +kernel
theorem d_Es_sent_18 : decode b_Es_sent 18 = .ok (.aaload, 1) := by decide +kernel
theorem d_Es_sent_19 : decode b_Es_sent 19 = .ok (.getfield 42, 3) := by decide +kernel
theorem d_Es_sent_22 : decode b_Es_sent 22 = .ok (.ifCond .lt 7, 3) := by decide +kernel
theorem d_Es_sent_25 : decode b_Es_sent 25 = .ok (.iconst 1, 1) := by decide +kernel
theorem d_Es_sent_26 : decode b_Es_sent 26 = .ok (.goto 4, 3) := by decide +kernel
theorem d_Es_sent_29 : decode b_Es_sent 29 = .ok (.iconst 0, 1) := by decide +kernel
theorem d_Es_sent_30 : decode b_Es_sent 30 = .ok (.iadd, 1) := by decide +kernel
theorem d_Es_sent_31 : decode b_Es_sent 31 = .ok (.istore_n 1, 1) := by decide +kernel
theorem d_Es_sent_32 : decode b_Es_sent 32 = .ok (.iinc 2 1, 3) := by decide +kernel
theorem d_Es_sent_35 : decode b_Es_sent 35 = .ok (.goto (-31), 3) := by decide +kernel
theorem d_Es_sent_38 : decode b_Es_sent 38 = .ok (.iload_n 1, 1) := by decide +kernel
theorem d_Es_sent_39 : decode b_Es_sent 39 = .ok (.ireturn, 1) := by decide +kernel
set_option maxRecDepth 100000 in
set_option maxHeartbeats 4000000 in
theorem c_Es_sent (l : Launch) (D : va_G) (ca : Nat → ClassId) (T : ty_e) (L : List Nat) (f0 : Nat → va_E) (sz : Nat) (hT : ok_T ca T L f0) (h0 : Nat) (t0 : T h0 = some (ty_es)) :
    Met l y_Es_sent (Cond.code y_Es_sent b_Es_sent 3 (some .int) :: wg) { frames := 0, cells := 0, slots := 0, locals := 0 } (va_Pc [.ref h0] (sm_P D cl_all (ty_s ca) ek L f0 sz)) (sm_Qi D (ty_s ca) L f0 sz (fun r u => (True) ∧ u = (L, f0))) 0 0 (va_A (va_pl L f0) sz) := by
  refine sm_start (by decide) (Nat.le_of_ble_eq_true rfl) ?_
  intro p e s m below meth c ls hx hb hml hr hlk hnm hts hown hsz hE hI hl
  have hl : lv_has ls 3 [(0, .ref h0)] := hl
  have hJ_4 : ∀ (N k : Nat) (H : Heap) (locs : List Loc) (ls : Array Slot) (y1 : Int32), 48 + 1 - k ≤ N → k ≤ 48 → sw_I D cl_all (ty_s ca) (va_A (va_pl L f0) sz) s H locs L f0 → lv_has ls 3 [(0, .ref h0), (1, .int (y1)), (2, .int (nI k))] → W p l e { frames := 0, cells := 0, slots := 0, locals := 0 } s m ([.ref h0] : List Value).toArray below meth c H locs 0 0 (MQ below (sm_Qi D (ty_s ca) L f0 sz (fun r u => (True) ∧ u = (L, f0))) ([.ref h0] : List Value).toArray s 0 0 (va_A (va_pl L f0) sz)) (F0 m 4 ls []) := by
    intro N
    induction N with
    | zero => intros; omega
    | succ N ih =>
      intro k H locs ls y1 hN hk hI hl 
      refine lv_iload_n hx hb d_Es_sent_4 rfl (lv_at hl 2 rfl) ?_
      refine lv_aload_n hx hb d_Es_sent_5 rfl (lv_at hl 0 rfl) ?_
      refine fg_Es_many hx hb hts hown hI hT t0 (hts _ tw_238) (fun _ h9 => h9) d_Es_sent_6 (fun n_1 h_2 => ?_)
      refine lv_icmp_ge (tgt := 38) hx hb d_Es_sent_9 (by decide) (fun c_3 => ?_) (fun c_3 => ?_)
      · have k_4 : n_1 ≤ k := (nI_leI (a := n_1) (b := k) (by omega) (by omega)).mp c_3
        refine lv_iload_n hx hb d_Es_sent_38 rfl (lv_at hl 1 rfl) ?_
        exact sm_iret hx hb hr hlk hI ⟨trivial, rfl⟩ d_Es_sent_39
      · have k_5 : k < n_1 := Nat.lt_of_not_le (fun q => c_3 ((nI_leI (a := n_1) (b := k) (by omega) (by omega)).mpr q))
        refine lv_iload_n hx hb d_Es_sent_12 rfl (lv_at hl 1 rfl) ?_
        refine lv_aload_n hx hb d_Es_sent_13 rfl (lv_at hl 0 rfl) ?_
        refine fg_Es_rows hx hb hts hown hI hT t0 (hts _ tw_237) (fun _ h9 => h9) d_Es_sent_14 (fun r_6 t_7 => ?_)
        refine lv_iload_n hx hb d_Es_sent_17 rfl (lv_at hl 2 rfl) ?_
        refine fa_evs (j := k) hx hb hI hT t_7 (by omega) d_Es_sent_18 (fun r_8 t_9 => ?_)
        refine fgN_Ev_line hx hb hts hown hI hT t_9 (va_Nw.use rfl (hE.1 _ tn_222 rfl)) (fun _ h9 => h9) d_Es_sent_19 (fun x_10 => ?_)
        refine lv_if_lt (tgt := 29) hx hb d_Es_sent_22 (by decide) (fun c_11 => ?_) (fun c_11 => ?_)
        · refine lv_iconst (v := 0) hx hb d_Es_sent_29 (by decide) ?_
          refine lv_iadd hx hb d_Es_sent_30 ?_
          refine lv_topi (fun x_12 e_13 => ?_)
          refine lv_istore_n (lv' := [(1, .int (x_12)), (0, .ref h0), (2, .int (nI k))]) hx hb d_Es_sent_31 rfl hl (by decide) rfl (fun ls hl => ?_)
          refine lv_iinc (v := nI (k + 1)) (lv' := [(2, .int (nI (k + 1))), (1, .int (x_12)), (0, .ref h0)]) hx hb d_Es_sent_32 hl (k := 2) rfl (nI_1 _) (by decide) rfl (fun ls hl => ?_)
          refine lv_goto (tgt := 4) hx hb d_Es_sent_35 (by decide) ?_
          exact ih ((k + 1)) _ _ _ x_12 (by omega) (by omega) hI (lv_sub hl [2, 1, 0] rfl) 
        · refine lv_iconst (v := 1) hx hb d_Es_sent_25 (by decide) ?_
          refine lv_goto (tgt := 30) hx hb d_Es_sent_26 (by decide) ?_
          refine lv_iadd hx hb d_Es_sent_30 ?_
          refine lv_topi (fun x_14 e_15 => ?_)
          refine lv_istore_n (lv' := [(1, .int (x_14)), (0, .ref h0), (2, .int (nI k))]) hx hb d_Es_sent_31 rfl hl (by decide) rfl (fun ls hl => ?_)
          refine lv_iinc (v := nI (k + 1)) (lv' := [(2, .int (nI (k + 1))), (1, .int (x_14)), (0, .ref h0)]) hx hb d_Es_sent_32 hl (k := 2) rfl (nI_1 _) (by decide) rfl (fun ls hl => ?_)
          refine lv_goto (tgt := 4) hx hb d_Es_sent_35 (by decide) ?_
          exact ih ((k + 1)) _ _ _ x_14 (by omega) (by omega) hI (lv_sub hl [2, 1, 0] rfl) 
  refine lv_iconst (v := 0) hx hb d_Es_sent_0 (by decide) ?_
  refine lv_istore_n (lv' := [(1, .int (0)), (0, .ref h0)]) hx hb d_Es_sent_1 rfl hl (by decide) rfl (fun ls hl => ?_)
  refine lv_iconst (v := 0) hx hb d_Es_sent_2 (by decide) ?_
  refine lv_istore_n (lv' := [(2, .int (0)), (1, .int (0)), (0, .ref h0)]) hx hb d_Es_sent_3 rfl hl (by decide) rfl (fun ls hl => ?_)
  exact hJ_4 _ (0) _ _ _ 0 (Nat.le_refl _) (by omega) hI (lv_sub hl [2, 1, 0] rfl) 
theorem d_Es_unsend_0 : decode b_Es_unsend 0 = .ok (.iconst 0, 1) := by decide +kernel
theorem d_Es_unsend_1 : decode b_Es_unsend 1 = .ok (.istore_n 2, 1) := by decide +kernel
theorem d_Es_unsend_2 : decode b_Es_unsend 2 = .ok (.iload_n 2, 1) := by decide +kernel
theorem d_Es_unsend_3 : decode b_Es_unsend 3 = .ok (.aload_n 0, 1) := by decide +kernel
theorem d_Es_unsend_4 : decode b_Es_unsend 4 = .ok (.getfield 18, 3) := by decide +kernel
theorem d_Es_unsend_7 : decode b_Es_unsend 7 = .ok (.if_icmp .ge 32, 3) := by decide +kernel
theorem d_Es_unsend_10 : decode b_Es_unsend 10 = .ok (.aload_n 0, 1) := by decide +kernel
theorem d_Es_unsend_11 : decode b_Es_unsend 11 = .ok (.getfield 11, 3) := by decide +kernel
theorem d_Es_unsend_14 : decode b_Es_unsend 14 = .ok (.iload_n 2, 1) := by decide +kernel
theorem d_Es_unsend_15 : decode b_Es_unsend 15 = .ok (.aaload, 1) := by decide +kernel
theorem d_Es_unsend_16 : decode b_Es_unsend 16 = .ok (.getfield 42, 3) := by decide +kernel
theorem d_Es_unsend_19 : decode b_Es_unsend 19 = .ok (.iload_n 1, 1) := by decide +kernel
theorem d_Es_unsend_20 : decode b_Es_unsend 20 = .ok (.if_icmp .ne 13, 3) := by decide +kernel
theorem d_Es_unsend_23 : decode b_Es_unsend 23 = .ok (.aload_n 0, 1) := by decide +kernel
theorem d_Es_unsend_24 : decode b_Es_unsend 24 = .ok (.getfield 11, 3) := by decide +kernel
theorem d_Es_unsend_27 : decode b_Es_unsend 27 = .ok (.iload_n 2, 1) := by decide +kernel
theorem d_Es_unsend_28 : decode b_Es_unsend 28 = .ok (.aaload, 1) := by decide +kernel
theorem d_Es_unsend_29 : decode b_Es_unsend 29 = .ok (.iconst (-1), 1) := by decide +kernel
theorem d_Es_unsend_30 : decode b_Es_unsend 30 = .ok (.putfield 42, 3) := by decide +kernel
theorem d_Es_unsend_33 : decode b_Es_unsend 33 = .ok (.iinc 2 1, 3) := by decide +kernel
theorem d_Es_unsend_36 : decode b_Es_unsend 36 = .ok (.goto (-34), 3) := by decide +kernel
theorem d_Es_unsend_39 : decode b_Es_unsend 39 = .ok (.return_, 1) := by decide +kernel
set_option maxRecDepth 100000 in
set_option maxHeartbeats 4000000 in
theorem c_Es_unsend (l : Launch) (D : va_G) (ca : Nat → ClassId) (T : ty_e) (L : List Nat) (f0 : Nat → va_E) (sz : Nat) (hT : ok_T ca T L f0) (h0 : Nat) (t0 : T h0 = some (ty_es)) (x1 : Int32) :
    Met l y_Es_unsend (Cond.code y_Es_unsend b_Es_unsend 3 none :: wg) { frames := 0, cells := 0, slots := 0, locals := 0 } (va_Pc [.ref h0, .int (x1)] (sm_P D cl_all (ty_s ca) ek L f0 sz)) (sm_Qv D (ty_s ca) L f0 sz (fun u => po_m ca T L u)) 0 0 (va_A (va_pl L f0) sz) := by
  refine sm_start (by decide) (Nat.le_of_ble_eq_true rfl) ?_
  intro p e s m below meth c ls hx hb hml hr hlk hnm hts hown hsz hE hI hl
  have hl : lv_has ls 3 [(0, .ref h0), (1, .int (x1))] := hl
  have hJ_2 : ∀ (N k : Nat) (H : Heap) (locs : List Loc) (f : Nat → va_E) (ls : Array Slot) , 48 + 1 - k ≤ N → k ≤ 48 → sw_I D cl_all (ty_s ca) (va_A (va_pl L f0) sz) s H locs L f → ok_T ca T L f → lv_has ls 3 [(0, .ref h0), (1, .int (x1)), (2, .int (nI k))] → W p l e { frames := 0, cells := 0, slots := 0, locals := 0 } s m ([.ref h0, .int (x1)] : List Value).toArray below meth c H locs 0 0 (MQ below (sm_Qv D (ty_s ca) L f0 sz (fun u => po_m ca T L u)) ([.ref h0, .int (x1)] : List Value).toArray s 0 0 (va_A (va_pl L f0) sz)) (F0 m 2 ls []) := by
    intro N
    induction N with
    | zero => intros; omega
    | succ N ih =>
      intro k H locs f ls  hN hk hI hT hl 
      refine lv_iload_n hx hb d_Es_unsend_2 rfl (lv_at hl 2 rfl) ?_
      refine lv_aload_n hx hb d_Es_unsend_3 rfl (lv_at hl 0 rfl) ?_
      refine fg_Es_many hx hb hts hown hI hT t0 (hts _ tw_238) (fun _ h9 => h9) d_Es_unsend_4 (fun n_1 h_2 => ?_)
      refine lv_icmp_ge (tgt := 39) hx hb d_Es_unsend_7 (by decide) (fun c_3 => ?_) (fun c_3 => ?_)
      · have k_4 : n_1 ≤ k := (nI_leI (a := n_1) (b := k) (by omega) (by omega)).mp c_3
        exact sm_vret hx hb hr hlk hI ⟨rfl, hT⟩ d_Es_unsend_39
      · have k_5 : k < n_1 := Nat.lt_of_not_le (fun q => c_3 ((nI_leI (a := n_1) (b := k) (by omega) (by omega)).mpr q))
        refine lv_aload_n hx hb d_Es_unsend_10 rfl (lv_at hl 0 rfl) ?_
        refine fg_Es_rows hx hb hts hown hI hT t0 (hts _ tw_237) (fun _ h9 => h9) d_Es_unsend_11 (fun r_6 t_7 => ?_)
        refine lv_iload_n hx hb d_Es_unsend_14 rfl (lv_at hl 2 rfl) ?_
        refine fa_evs (j := k) hx hb hI hT t_7 (by omega) d_Es_unsend_15 (fun r_8 t_9 => ?_)
        refine fgN_Ev_line hx hb hts hown hI hT t_9 (va_Nw.use rfl (hE.1 _ tn_222 rfl)) (fun _ h9 => h9) d_Es_unsend_16 (fun x_10 => ?_)
        refine lv_iload_n hx hb d_Es_unsend_19 rfl (lv_at hl 1 rfl) ?_
        refine lv_icmp_ne (tgt := 33) hx hb d_Es_unsend_20 (by decide) (fun c_11 => ?_) (fun c_11 => ?_)
        · refine lv_iinc (v := nI (k + 1)) (lv' := [(2, .int (nI (k + 1))), (0, .ref h0), (1, .int (x1))]) hx hb d_Es_unsend_33 hl (k := 2) rfl (nI_1 _) (by decide) rfl (fun ls hl => ?_)
          refine lv_goto (tgt := 2) hx hb d_Es_unsend_36 (by decide) ?_
          exact ih ((k + 1)) _ _ _ _  (by omega) (by omega) hI hT (lv_sub hl [1, 2, 0] rfl) 
        · refine lv_aload_n hx hb d_Es_unsend_23 rfl (lv_at hl 0 rfl) ?_
          refine fg_Es_rows hx hb hts hown hI hT t0 (hts _ tw_237) (fun _ h9 => h9) d_Es_unsend_24 (fun r_12 t_13 => ?_)
          refine lv_iload_n hx hb d_Es_unsend_27 rfl (lv_at hl 2 rfl) ?_
          refine fa_evs (j := k) hx hb hI hT t_13 (by omega) d_Es_unsend_28 (fun r_14 t_15 => ?_)
          refine lv_iconst (v := -1) hx hb d_Es_unsend_29 (by decide) ?_
          refine fpN_Ev_line hx hb hts hown hI hT t_15 (va_Nw.use rfl (hE.1 _ tn_222 rfl)) (fun _ h9 => h9) d_Es_unsend_30 (fun H locs f hI hT => ?_)
          refine lv_iinc (v := nI (k + 1)) (lv' := [(2, .int (nI (k + 1))), (0, .ref h0), (1, .int (x1))]) hx hb d_Es_unsend_33 hl (k := 2) rfl (nI_1 _) (by decide) rfl (fun ls hl => ?_)
          refine lv_goto (tgt := 2) hx hb d_Es_unsend_36 (by decide) ?_
          exact ih ((k + 1)) _ _ _ _  (by omega) (by omega) hI hT (lv_sub hl [1, 2, 0] rfl) 
  refine lv_iconst (v := 0) hx hb d_Es_unsend_0 (by decide) ?_
  refine lv_istore_n (lv' := [(2, .int (0)), (0, .ref h0), (1, .int (x1))]) hx hb d_Es_unsend_1 rfl hl (by decide) rfl (fun ls hl => ?_)
  exact hJ_2 _ (0) _ _ _ _  (Nat.le_refl _) (by omega) hI hT (lv_sub hl [1, 2, 0] rfl) 
theorem d_Es_unsendAllBut_0 : decode b_Es_unsendAllBut 0 = .ok (.iconst 0, 1) := by decide +kernel
theorem d_Es_unsendAllBut_1 : decode b_Es_unsendAllBut 1 = .ok (.istore_n 2, 1) := by decide +kernel
theorem d_Es_unsendAllBut_2 : decode b_Es_unsendAllBut 2 = .ok (.iload_n 2, 1) := by decide +kernel
theorem d_Es_unsendAllBut_3 : decode b_Es_unsendAllBut 3 = .ok (.aload_n 0, 1) := by decide +kernel
theorem d_Es_unsendAllBut_4 : decode b_Es_unsendAllBut 4 = .ok (.getfield 18, 3) := by decide +kernel
theorem d_Es_unsendAllBut_7 : decode b_Es_unsendAllBut 7 = .ok (.if_icmp .ge 32, 3) := by decide +kernel
theorem d_Es_unsendAllBut_10 : decode b_Es_unsendAllBut 10 = .ok (.aload_n 0, 1) := by decide +kernel
theorem d_Es_unsendAllBut_11 : decode b_Es_unsendAllBut 11 = .ok (.getfield 11, 3) := by decide +kernel
theorem d_Es_unsendAllBut_14 : decode b_Es_unsendAllBut 14 = .ok (.iload_n 2, 1) := by decide +kernel
theorem d_Es_unsendAllBut_15 : decode b_Es_unsendAllBut 15 = .ok (.aaload, 1) := by decide +kernel
theorem d_Es_unsendAllBut_16 : decode b_Es_unsendAllBut 16 = .ok (.getfield 42, 3) := by decide +kernel
theorem d_Es_unsendAllBut_19 : decode b_Es_unsendAllBut 19 = .ok (.iload_n 1, 1) := by decide +kernel
theorem d_Es_unsendAllBut_20 : decode b_Es_unsendAllBut 20 = .ok (.if_icmp .eq 13, 3) := by decide +kernel
theorem d_Es_unsendAllBut_23 : decode b_Es_unsendAllBut 23 = .ok (.aload_n 0, 1) := by decide +kernel
theorem d_Es_unsendAllBut_24 : decode b_Es_unsendAllBut 24 = .ok (.getfield 11, 3) := by decide +kernel
theorem d_Es_unsendAllBut_27 : decode b_Es_unsendAllBut 27 = .ok (.iload_n 2, 1) := by decide +kernel
theorem d_Es_unsendAllBut_28 : decode b_Es_unsendAllBut 28 = .ok (.aaload, 1) := by decide +kernel
theorem d_Es_unsendAllBut_29 : decode b_Es_unsendAllBut 29 = .ok (.iconst (-1), 1) := by decide +kernel
theorem d_Es_unsendAllBut_30 : decode b_Es_unsendAllBut 30 = .ok (.putfield 42, 3) := by decide +kernel
theorem d_Es_unsendAllBut_33 : decode b_Es_unsendAllBut 33 = .ok (.iinc 2 1, 3) := by decide +kernel
theorem d_Es_unsendAllBut_36 : decode b_Es_unsendAllBut 36 = .ok (.goto (-34), 3) := by decide +kernel
theorem d_Es_unsendAllBut_39 : decode b_Es_unsendAllBut 39 = .ok (.return_, 1) := by decide +kernel
set_option maxRecDepth 100000 in
set_option maxHeartbeats 4000000 in
theorem c_Es_unsendAllBut (l : Launch) (D : va_G) (ca : Nat → ClassId) (T : ty_e) (L : List Nat) (f0 : Nat → va_E) (sz : Nat) (hT : ok_T ca T L f0) (h0 : Nat) (t0 : T h0 = some (ty_es)) (x1 : Int32) :
    Met l y_Es_unsendAllBut (Cond.code y_Es_unsendAllBut b_Es_unsendAllBut 3 none :: wg) { frames := 0, cells := 0, slots := 0, locals := 0 } (va_Pc [.ref h0, .int (x1)] (sm_P D cl_all (ty_s ca) ek L f0 sz)) (sm_Qv D (ty_s ca) L f0 sz (fun u => po_m ca T L u)) 0 0 (va_A (va_pl L f0) sz) := by
  refine sm_start (by decide) (Nat.le_of_ble_eq_true rfl) ?_
  intro p e s m below meth c ls hx hb hml hr hlk hnm hts hown hsz hE hI hl
  have hl : lv_has ls 3 [(0, .ref h0), (1, .int (x1))] := hl
  have hJ_2 : ∀ (N k : Nat) (H : Heap) (locs : List Loc) (f : Nat → va_E) (ls : Array Slot) , 48 + 1 - k ≤ N → k ≤ 48 → sw_I D cl_all (ty_s ca) (va_A (va_pl L f0) sz) s H locs L f → ok_T ca T L f → lv_has ls 3 [(0, .ref h0), (1, .int (x1)), (2, .int (nI k))] → W p l e { frames := 0, cells := 0, slots := 0, locals := 0 } s m ([.ref h0, .int (x1)] : List Value).toArray below meth c H locs 0 0 (MQ below (sm_Qv D (ty_s ca) L f0 sz (fun u => po_m ca T L u)) ([.ref h0, .int (x1)] : List Value).toArray s 0 0 (va_A (va_pl L f0) sz)) (F0 m 2 ls []) := by
    intro N
    induction N with
    | zero => intros; omega
    | succ N ih =>
      intro k H locs f ls  hN hk hI hT hl 
      refine lv_iload_n hx hb d_Es_unsendAllBut_2 rfl (lv_at hl 2 rfl) ?_
      refine lv_aload_n hx hb d_Es_unsendAllBut_3 rfl (lv_at hl 0 rfl) ?_
      refine fg_Es_many hx hb hts hown hI hT t0 (hts _ tw_238) (fun _ h9 => h9) d_Es_unsendAllBut_4 (fun n_1 h_2 => ?_)
      refine lv_icmp_ge (tgt := 39) hx hb d_Es_unsendAllBut_7 (by decide) (fun c_3 => ?_) (fun c_3 => ?_)
      · have k_4 : n_1 ≤ k := (nI_leI (a := n_1) (b := k) (by omega) (by omega)).mp c_3
        exact sm_vret hx hb hr hlk hI ⟨rfl, hT⟩ d_Es_unsendAllBut_39
      · have k_5 : k < n_1 := Nat.lt_of_not_le (fun q => c_3 ((nI_leI (a := n_1) (b := k) (by omega) (by omega)).mpr q))
        refine lv_aload_n hx hb d_Es_unsendAllBut_10 rfl (lv_at hl 0 rfl) ?_
        refine fg_Es_rows hx hb hts hown hI hT t0 (hts _ tw_237) (fun _ h9 => h9) d_Es_unsendAllBut_11 (fun r_6 t_7 => ?_)
        refine lv_iload_n hx hb d_Es_unsendAllBut_14 rfl (lv_at hl 2 rfl) ?_
        refine fa_evs (j := k) hx hb hI hT t_7 (by omega) d_Es_unsendAllBut_15 (fun r_8 t_9 => ?_)
        refine fgN_Ev_line hx hb hts hown hI hT t_9 (va_Nw.use rfl (hE.1 _ tn_222 rfl)) (fun _ h9 => h9) d_Es_unsendAllBut_16 (fun x_10 => ?_)
        refine lv_iload_n hx hb d_Es_unsendAllBut_19 rfl (lv_at hl 1 rfl) ?_
        refine lv_icmp_eq (tgt := 33) hx hb d_Es_unsendAllBut_20 (by decide) (fun c_11 => ?_) (fun c_11 => ?_)
        · refine lv_iinc (v := nI (k + 1)) (lv' := [(2, .int (nI (k + 1))), (0, .ref h0), (1, .int (x1))]) hx hb d_Es_unsendAllBut_33 hl (k := 2) rfl (nI_1 _) (by decide) rfl (fun ls hl => ?_)
          refine lv_goto (tgt := 2) hx hb d_Es_unsendAllBut_36 (by decide) ?_
          exact ih ((k + 1)) _ _ _ _  (by omega) (by omega) hI hT (lv_sub hl [1, 2, 0] rfl) 
        · refine lv_aload_n hx hb d_Es_unsendAllBut_23 rfl (lv_at hl 0 rfl) ?_
          refine fg_Es_rows hx hb hts hown hI hT t0 (hts _ tw_237) (fun _ h9 => h9) d_Es_unsendAllBut_24 (fun r_12 t_13 => ?_)
          refine lv_iload_n hx hb d_Es_unsendAllBut_27 rfl (lv_at hl 2 rfl) ?_
          refine fa_evs (j := k) hx hb hI hT t_13 (by omega) d_Es_unsendAllBut_28 (fun r_14 t_15 => ?_)
          refine lv_iconst (v := -1) hx hb d_Es_unsendAllBut_29 (by decide) ?_
          refine fpN_Ev_line hx hb hts hown hI hT t_15 (va_Nw.use rfl (hE.1 _ tn_222 rfl)) (fun _ h9 => h9) d_Es_unsendAllBut_30 (fun H locs f hI hT => ?_)
          refine lv_iinc (v := nI (k + 1)) (lv' := [(2, .int (nI (k + 1))), (0, .ref h0), (1, .int (x1))]) hx hb d_Es_unsendAllBut_33 hl (k := 2) rfl (nI_1 _) (by decide) rfl (fun ls hl => ?_)
          refine lv_goto (tgt := 2) hx hb d_Es_unsendAllBut_36 (by decide) ?_
          exact ih ((k + 1)) _ _ _ _  (by omega) (by omega) hI hT (lv_sub hl [1, 2, 0] rfl) 
  refine lv_iconst (v := 0) hx hb d_Es_unsendAllBut_0 (by decide) ?_
  refine lv_istore_n (lv' := [(2, .int (0)), (0, .ref h0), (1, .int (x1))]) hx hb d_Es_unsendAllBut_1 rfl hl (by decide) rfl (fun ls hl => ?_)
  exact hJ_2 _ (0) _ _ _ _  (Nat.le_refl _) (by omega) hI hT (lv_sub hl [1, 2, 0] rfl) 
theorem d_Es_firstUnsent_0 : decode b_Es_firstUnsent 0 = .ok (.aload_n 0, 1) := by decide +kernel
theorem d_Es_firstUnsent_1 : decode b_Es_firstUnsent 1 = .ok (.invokevirtual 25, 3) := by decide +kernel
theorem d_Es_firstUnsent_4 : decode b_Es_firstUnsent 4 = .ok (.istore_n 1, 1) := by decide +kernel
theorem d_Es_firstUnsent_5 : decode b_Es_firstUnsent 5 = .ok (.iload_n 1, 1) := by decide +kernel
theorem d_Es_firstUnsent_6 : decode b_Es_firstUnsent 6 = .ok (.ifCond .ge 7, 3) := by decide +kernel
theorem d_Es_firstUnsent_9 : decode b_Es_firstUnsent 9 = .ok (.aconst_null, 1) := by decide +kernel
theorem d_Es_firstUnsent_10 : decode b_Es_firstUnsent 10 = .ok (.goto 9, 3) := by decide +kernel
theorem d_Es_firstUnsent_13 : decode b_Es_firstUnsent 13 = .ok (.aload_n 0, 1) := by decide +kernel
theorem d_Es_firstUnsent_14 : decode b_Es_firstUnsent 14 = .ok (.getfield 11, 3) := by decide +kernel
theorem d_Es_firstUnsent_17 : decode b_Es_firstUnsent 17 = .ok (.iload_n 1, 1) := by decide +kernel
theorem d_Es_firstUnsent_18 : decode b_Es_firstUnsent 18 = .ok (.aaload, 1) := by decide +kernel
theorem d_Es_firstUnsent_19 : decode b_Es_firstUnsent 19 = .ok (.areturn, 1) := by decide +kernel
set_option maxRecDepth 100000 in
set_option maxHeartbeats 4000000 in
theorem c_Es_firstUnsent (l : Launch) (D : va_G) (ca : Nat → ClassId) (T : ty_e) (L : List Nat) (f0 : Nat → va_E) (sz : Nat) (hT : ok_T ca T L f0) (h0 : Nat) (t0 : T h0 = some (ty_es)) :
    Met l y_Es_firstUnsent (Cond.code y_Es_firstUnsent b_Es_firstUnsent 2 (some (.object "TelecontrolPost$Event")) :: wg) { frames := 1, cells := 0, slots := 0, locals := 21 } (va_Pc [.ref h0] (sm_P D cl_all (ty_s ca) ek L f0 sz)) (sm_Qq D (ty_s ca) L f0 sz (fun r u => (∀ b : Nat, r = some b → T b = some (ty_ev)) ∧ u = (L, f0))) 0 0 (va_A (va_pl L f0) sz) := by
  refine sm_start (by decide) (Nat.le_of_ble_eq_true rfl) ?_
  intro p e s m below meth c ls hx hb hml hr hlk hnm hts hown hsz hE hI hl
  have hl : lv_has ls 2 [(0, .ref h0)] := hl
  refine lv_aload_n hx hb d_Es_firstUnsent_0 rfl (lv_at hl 0 rfl) ?_
  refine sm_iP hI (va_runV (As := []) (rest := []) ⟨hx, hb, hml, hown, hts⟩ (c_Es_firstUnsentAt l D ca _ _ _ _ hT h0 t0) (kv_Es_firstUnsentAt hts rfl rfl (hts _ tw_610) ⟨Nat.le_of_ble_eq_true rfl, Nat.le_of_ble_eq_true rfl⟩) (pv_Es hI hE hT t0) rfl rfl hl.1 rfl (lv_room (Nat.le_of_ble_eq_true rfl)) d_Es_firstUnsent_1 ⟨Nat.le_of_ble_eq_true rfl, Nat.le_of_ble_eq_true rfl⟩) (fun x_1 H locs p_2 hI => ?_)
  rcases p_2 with rfl | ⟨j_3, rfl, h_4⟩
  · refine lv_istore_n (lv' := [(1, .int (-1)), (0, .ref h0)]) hx hb d_Es_firstUnsent_4 rfl hl (by decide) rfl (fun ls hl => ?_)
    refine lv_iload_n hx hb d_Es_firstUnsent_5 rfl (lv_at hl 0 rfl) ?_
    refine lv_if_ge (tgt := 13) hx hb d_Es_firstUnsent_6 (by decide) (fun c_5 => ?_) (fun c_5 => ?_)
    · exact absurd c_5 (by decide)
    · refine lv_null hx hb d_Es_firstUnsent_9 ?_
      refine lv_goto (tgt := 19) hx hb d_Es_firstUnsent_10 (by decide) ?_
      exact sm_qret (v := none) hx hb hr (Or.inl ⟨_, rfl⟩) hlk hI ⟨(fun b h => by cases h), rfl⟩ d_Es_firstUnsent_19
  · refine lv_istore_n (lv' := [(1, .int (nI j_3)), (0, .ref h0)]) hx hb d_Es_firstUnsent_4 rfl hl (by decide) rfl (fun ls hl => ?_)
    refine lv_iload_n hx hb d_Es_firstUnsent_5 rfl (lv_at hl 0 rfl) ?_
    refine lv_if_ge (tgt := 13) hx hb d_Es_firstUnsent_6 (by decide) (fun c_6 => ?_) (fun c_6 => ?_)
    · refine lv_aload_n hx hb d_Es_firstUnsent_13 rfl (lv_at hl 1 rfl) ?_
      refine fg_Es_rows hx hb hts hown hI hT t0 (hts _ tw_237) (fun _ h9 => h9) d_Es_firstUnsent_14 (fun r_8 t_9 => ?_)
      refine lv_iload_n hx hb d_Es_firstUnsent_17 rfl (lv_at hl 0 rfl) ?_
      refine fa_evs (j := j_3) hx hb hI hT t_9 (by omega) d_Es_firstUnsent_18 (fun r_10 t_11 => ?_)
      exact sm_qret (v := some r_10) hx hb hr (Or.inl ⟨_, rfl⟩) hlk hI ⟨(fun b h => by cases h; exact t_11), rfl⟩ d_Es_firstUnsent_19
    · exact absurd (nI_pos' (by omega)) c_6
theorem d_Es_remove_0 : decode b_Es_remove 0 = .ok (.aload_n 0, 1) := by decide +kernel
theorem d_Es_remove_1 : decode b_Es_remove 1 = .ok (.getfield 11, 3) := by decide +kernel
theorem d_Es_remove_4 : decode b_Es_remove 4 = .ok (.iload_n 1, 1) := by decide +kernel
theorem d_Es_remove_5 : decode b_Es_remove 5 = .ok (.aaload, 1) := by decide +kernel
theorem d_Es_remove_6 : decode b_Es_remove 6 = .ok (.astore_n 2, 1) := by decide +kernel
theorem d_Es_remove_7 : decode b_Es_remove 7 = .ok (.aload_n 0, 1) := by decide +kernel
theorem d_Es_remove_8 : decode b_Es_remove 8 = .ok (.dup, 1) := by decide +kernel
theorem d_Es_remove_9 : decode b_Es_remove 9 = .ok (.getfield 18, 3) := by decide +kernel
theorem d_Es_remove_12 : decode b_Es_remove 12 = .ok (.iconst 1, 1) := by decide +kernel
theorem d_Es_remove_13 : decode b_Es_remove 13 = .ok (.isub, 1) := by decide +kernel
theorem d_Es_remove_14 : decode b_Es_remove 14 = .ok (.putfield 18, 3) := by decide +kernel
theorem d_Es_remove_17 : decode b_Es_remove 17 = .ok (.iload_n 1, 1) := by decide +kernel
theorem d_Es_remove_18 : decode b_Es_remove 18 = .ok (.istore_n 3, 1) := by decide +kernel
theorem d_Es_remove_19 : decode b_Es_remove 19 = .ok (.iload_n 3, 1) := by decide +kernel
theorem d_Es_remove_20 : decode b_Es_remove 20 = .ok (.aload_n 0, 1) := by decide +kernel
theorem d_Es_remove_21 : decode b_Es_remove 21 = .ok (.getfield 18, 3) := by decide +kernel
theorem d_Es_remove_24 : decode b_Es_remove 24 = .ok (.if_icmp .ge 23, 3) := by decide +kernel
theorem d_Es_remove_27 : decode b_Es_remove 27 = .ok (.aload_n 0, 1) := by decide +kernel
theorem d_Es_remove_28 : decode b_Es_remove 28 = .ok (.getfield 11, 3) := by decide +kernel
theorem d_Es_remove_31 : decode b_Es_remove 31 = .ok (.iload_n 3, 1) := by decide +kernel
theorem d_Es_remove_32 : decode b_Es_remove 32 = .ok (.aload_n 0, 1) := by decide +kernel
theorem d_Es_remove_33 : decode b_Es_remove 33 = .ok (.getfield 11, 3) := by decide +kernel
theorem d_Es_remove_36 : decode b_Es_remove 36 = .ok (.iload_n 3, 1) := by decide +kernel
theorem d_Es_remove_37 : decode b_Es_remove 37 = .ok (.iconst 1, 1) := by decide +kernel
theorem d_Es_remove_38 : decode b_Es_remove 38 = .ok (.iadd, 1) := by decide +kernel
theorem d_Es_remove_39 : decode b_Es_remove 39 = .ok (.aaload, 1) := by decide +kernel
theorem d_Es_remove_40 : decode b_Es_remove 40 = .ok (.aastore, 1) := by decide +kernel
theorem d_Es_remove_41 : decode b_Es_remove 41 = .ok (.iinc 3 1, 3) := by decide +kernel
theorem d_Es_remove_44 : decode b_Es_remove 44 = .ok (.goto (-25), 3) := by decide +kernel
theorem d_Es_remove_47 : decode b_Es_remove 47 = .ok (.aload_n 0, 1) := by decide +kernel
theorem d_Es_remove_48 : decode b_Es_remove 48 = .ok (.getfield 11, 3) := by decide +kernel
theorem d_Es_remove_51 : decode b_Es_remove 51 = .ok (.aload_n 0, 1) := by decide +kernel
theorem d_Es_remove_52 : decode b_Es_remove 52 = .ok (.getfield 18, 3) := by decide +kernel
theorem d_Es_remove_55 : decode b_Es_remove 55 = .ok (.aload_n 2, 1) := by decide +kernel
theorem d_Es_remove_56 : decode b_Es_remove 56 = .ok (.aastore, 1) := by decide +kernel
theorem d_Es_remove_57 : decode b_Es_remove 57 = .ok (.return_, 1) := by decide +kernel
set_option maxRecDepth 100000 in
set_option maxHeartbeats 4000000 in
theorem c_Es_remove (l : Launch) (D : va_G) (ca : Nat → ClassId) (T : ty_e) (L : List Nat) (f0 : Nat → va_E) (sz : Nat) (hT : ok_T ca T L f0) (h0 : Nat) (t0 : T h0 = some (ty_es)) (j1 : Nat) (q1 : j1 ≤ 47) (hm : ∀ n, n ≤ 48 → es_m f0 h0 n → j1 < n) :
    Met l y_Es_remove (Cond.code y_Es_remove b_Es_remove 4 none :: wg) { frames := 0, cells := 0, slots := 0, locals := 0 } (va_Pc [.ref h0, .int (nI j1)] (sm_P D cl_all (ty_s ca) ek L f0 sz)) (sm_Qv D (ty_s ca) L f0 sz (fun u => (∀ n, n ≤ 48 → es_m f0 h0 n → es_m u.2 h0 (n - 1)) ∧ po_m ca T L u)) 0 0 (va_A (va_pl L f0) sz) := by
  refine sm_start (by decide) (Nat.le_of_ble_eq_true rfl) ?_
  intro p e s m below meth c ls hx hb hml hr hlk hnm hts hown hsz hE hI hl
  have hl : lv_has ls 4 [(0, .ref h0), (1, .int (nI j1))] := hl
  obtain ⟨mm, hmm, hem⟩ := es_of hT t0
  have hj := hm mm hmm hem
  have hJ_19 : ∀ (N k : Nat) (H : Heap) (locs : List Loc) (f : Nat → va_E) (ls : Array Slot) (y2 : Nat), 48 + 1 - k ≤ N → k ≤ 48 → sw_I D cl_all (ty_s ca) (va_A (va_pl L f0) sz) s H locs L f → ok_T ca T L f → lv_has ls 4 [(0, .ref h0), (1, .int (nI j1)), (2, .ref y2), (3, .int (nI k))] → (T y2 = some (ty_ev)) → (es_m f h0 (mm - 1)) → W p l e { frames := 0, cells := 0, slots := 0, locals := 0 } s m ([.ref h0, .int (nI j1)] : List Value).toArray below meth c H locs 0 0 (MQ below (sm_Qv D (ty_s ca) L f0 sz (fun u => (∀ n, n ≤ 48 → es_m f0 h0 n → es_m u.2 h0 (n - 1)) ∧ po_m ca T L u)) ([.ref h0, .int (nI j1)] : List Value).toArray s 0 0 (va_A (va_pl L f0) sz)) (F0 m 19 ls []) := by
    intro N
    induction N with
    | zero => intros; omega
    | succ N ih =>
      intro k H locs f ls y2 hN hk hI hT hl ty2 hv
      obtain ⟨-, v0, v1, v2, e0, w0, w1⟩ := ok_es_at hT t0
      have hv1 := es_un hv ⟨_, _, e0⟩ (by omega) w1
      refine lv_iload_n hx hb d_Es_remove_19 rfl (lv_at hl 3 rfl) ?_
      refine lv_aload_n hx hb d_Es_remove_20 rfl (lv_at hl 0 rfl) ?_
      refine fh_Es_many hx hb hts hown hI hT t0 e0 w0 w1 (hts _ tw_238) (fun _ h9 => h9) d_Es_remove_21 ?_
      refine lv_icmp_ge (tgt := 47) hx hb d_Es_remove_24 (by decide) (fun c_1 => ?_) (fun c_1 => ?_)
      · have k_2 : v1 ≤ k := (nI_leI (a := v1) (b := k) (by omega) (by omega)).mp c_1
        refine lv_aload_n hx hb d_Es_remove_47 rfl (lv_at hl 0 rfl) ?_
        refine fh_Es_rows hx hb hts hown hI hT t0 e0 w0 w1 (hts _ tw_237) (fun _ h9 => h9) d_Es_remove_48 ?_
        refine lv_aload_n hx hb d_Es_remove_51 rfl (lv_at hl 0 rfl) ?_
        refine fh_Es_many hx hb hts hown hI hT t0 e0 w0 w1 (hts _ tw_238) (fun _ h9 => h9) d_Es_remove_52 ?_
        refine lv_aload_n hx hb d_Es_remove_55 rfl (lv_at hl 2 rfl) ?_
        have hne : h0 ≠ v0 := ar_ne hT w0 e0
        refine fs_evs (j := v1) hx hb hI hT w0 (by omega) ty2 d_Es_remove_56 (fun H locs f hI hT hkk => ?_)
        have e0 := (hkk _ hne).trans e0
        exact sm_vret hx hb hr hlk hI ⟨(fun n hn h => es_mk e0 (by have := es_un h hem hn hmm; omega)), rfl, hT⟩ d_Es_remove_57
      · have k_3 : k < v1 := Nat.lt_of_not_le (fun q => c_1 ((nI_leI (a := v1) (b := k) (by omega) (by omega)).mpr q))
        refine lv_aload_n hx hb d_Es_remove_27 rfl (lv_at hl 0 rfl) ?_
        refine fh_Es_rows hx hb hts hown hI hT t0 e0 w0 w1 (hts _ tw_237) (fun _ h9 => h9) d_Es_remove_28 ?_
        refine lv_iload_n hx hb d_Es_remove_31 rfl (lv_at hl 3 rfl) ?_
        refine lv_aload_n hx hb d_Es_remove_32 rfl (lv_at hl 0 rfl) ?_
        refine fh_Es_rows hx hb hts hown hI hT t0 e0 w0 w1 (hts _ tw_237) (fun _ h9 => h9) d_Es_remove_33 ?_
        refine lv_iload_n hx hb d_Es_remove_36 rfl (lv_at hl 3 rfl) ?_
        refine lv_iconst (v := 1) hx hb d_Es_remove_37 (by decide) ?_
        refine lv_iadd hx hb d_Es_remove_38 ?_
        refine lv_topi (fun x_4 e_5 => ?_)
        obtain rfl : x_4 = nI (k + 1) := by rw [e_5]; exact nI_add _ _
        refine fa_evs (j := (k + 1)) hx hb hI hT w0 (by omega) d_Es_remove_39 (fun r_6 t_7 => ?_)
        have hne : h0 ≠ v0 := ar_ne hT w0 e0
        refine fs_evs (j := k) hx hb hI hT w0 (by omega) t_7 d_Es_remove_40 (fun H locs f hI hT hkk => ?_)
        have e0 := (hkk _ hne).trans e0
        refine lv_iinc (v := nI (k + 1)) (lv' := [(3, .int (nI (k + 1))), (0, .ref h0), (1, .int (nI j1)), (2, .ref y2)]) hx hb d_Es_remove_41 hl (k := 3) rfl (nI_1 _) (by decide) rfl (fun ls hl => ?_)
        refine lv_goto (tgt := 19) hx hb d_Es_remove_44 (by decide) ?_
        exact ih ((k + 1)) _ _ _ _ y2 (by omega) (by omega) hI hT (lv_sub hl [1, 2, 3, 0] rfl) ty2 (es_mk e0 (by omega))
  obtain ⟨-, v0, v1, v2, e0, w0, w1⟩ := ok_es_at hT t0
  have hv0 := es_un hem ⟨_, _, e0⟩ hmm w1
  refine lv_aload_n hx hb d_Es_remove_0 rfl (lv_at hl 0 rfl) ?_
  refine fh_Es_rows hx hb hts hown hI hT t0 e0 w0 w1 (hts _ tw_237) (fun _ h9 => h9) d_Es_remove_1 ?_
  refine lv_iload_n hx hb d_Es_remove_4 rfl (lv_at hl 1 rfl) ?_
  refine fa_evs (j := j1) hx hb hI hT w0 (by omega) d_Es_remove_5 (fun r_8 t_9 => ?_)
  refine lv_astore_n (lv' := [(2, .ref r_8), (0, .ref h0), (1, .int (nI j1))]) hx hb d_Es_remove_6 rfl hl (by decide) rfl (fun ls hl => ?_)
  refine lv_aload_n hx hb d_Es_remove_7 rfl (lv_at hl 1 rfl) ?_
  refine lv_dup hx hb d_Es_remove_8 rfl ?_
  refine fh_Es_many hx hb hts hown hI hT t0 e0 w0 w1 (hts _ tw_238) (fun _ h9 => h9) d_Es_remove_9 ?_
  refine lv_iconst (v := 1) hx hb d_Es_remove_12 (by decide) ?_
  refine lv_isub hx hb d_Es_remove_13 ?_
  refine lv_topi (fun x_10 e_11 => ?_)
  obtain rfl : x_10 = nI (v1 - 1) := by rw [e_11]; exact pk_sub (a := v1) (b := 1) (by omega)
  have w_12 : (v1 - 1) ≤ 48 := by omega
  refine fq_Es_many hx hb hts hown hI hT t0 e0 w0 w1 (hts _ tw_238) (fun _ h9 => h9) (v := (v1 - 1)) w_12 d_Es_remove_14 (fun H locs f hI hT e0 hkk => ?_)
  refine lv_iload_n hx hb d_Es_remove_17 rfl (lv_at hl 2 rfl) ?_
  refine lv_istore_n (lv' := [(3, .int (nI j1)), (2, .ref r_8), (0, .ref h0), (1, .int (nI j1))]) hx hb d_Es_remove_18 rfl hl (by decide) rfl (fun ls hl => ?_)
  exact hJ_19 _ (j1) _ _ _ _ r_8 (Nat.le_refl _) (by omega) hI hT (lv_sub hl [2, 3, 1, 0] rfl) t_9 (es_mk e0 (by omega))
theorem d_Es_add_0 : decode b_Es_add 0 = .ok (.aload_n 0, 1) := by decide +kernel
theorem d_Es_add_1 : decode b_Es_add 1 = .ok (.getfield 18, 3) := by decide +kernel
theorem d_Es_add_4 : decode b_Es_add 4 = .ok (.aload_n 0, 1) := by decide +kernel
theorem d_Es_add_5 : decode b_Es_add 5 = .ok (.getfield 11, 3) := by decide +kernel
theorem d_Es_add_8 : decode b_Es_add 8 = .ok (.arraylength, 1) := by decide +kernel
theorem d_Es_add_9 : decode b_Es_add 9 = .ok (.if_icmp .ne 29, 3) := by decide +kernel
theorem d_Es_add_12 : decode b_Es_add 12 = .ok (.aload_n 0, 1) := by decide +kernel
theorem d_Es_add_13 : decode b_Es_add 13 = .ok (.dup, 1) := by decide +kernel
theorem d_Es_add_14 : decode b_Es_add 14 = .ok (.getfield 22, 3) := by decide +kernel
theorem d_Es_add_17 : decode b_Es_add 17 = .ok (.iconst 1, 1) := by decide +kernel
theorem d_Es_add_18 : decode b_Es_add 18 = .ok (.iadd, 1) := by decide +kernel
theorem d_Es_add_19 : decode b_Es_add 19 = .ok (.putfield 22, 3) := by decide +kernel
theorem d_Es_add_22 : decode b_Es_add 22 = .ok (.aload_n 0, 1) := by decide +kernel
theorem d_Es_add_23 : decode b_Es_add 23 = .ok (.invokevirtual 25, 3) := by decide +kernel
theorem d_Es_add_26 : decode b_Es_add 26 = .ok (.istore_n 1, 1) := by decide +kernel
theorem d_Es_add_27 : decode b_Es_add 27 = .ok (.iload_n 1, 1) := by decide +kernel
theorem d_Es_add_28 : decode b_Es_add 28 = .ok (.ifCond .ge 5, 3) := by decide +kernel
theorem d_Es_add_31 : decode b_Es_add 31 = .ok (.aconst_null, 1) := by decide +kernel
theorem d_Es_add_32 : decode b_Es_add 32 = .ok (.areturn, 1) := by decide +kernel
theorem d_Es_add_33 : decode b_Es_add 33 = .ok (.aload_n 0, 1) := by decide +kernel
theorem d_Es_add_34 : decode b_Es_add 34 = .ok (.iload_n 1, 1) := by decide +kernel
theorem d_Es_add_35 : decode b_Es_add 35 = .ok (.invokevirtual 29, 3) := by decide +kernel
theorem d_Es_add_38 : decode b_Es_add 38 = .ok (.aload_n 0, 1) := by decide +kernel
theorem d_Es_add_39 : decode b_Es_add 39 = .ok (.getfield 11, 3) := by decide +kernel
theorem d_Es_add_42 : decode b_Es_add 42 = .ok (.aload_n 0, 1) := by decide +kernel
theorem d_Es_add_43 : decode b_Es_add 43 = .ok (.getfield 18, 3) := by decide +kernel
theorem d_Es_add_46 : decode b_Es_add 46 = .ok (.aaload, 1) := by decide +kernel
theorem d_Es_add_47 : decode b_Es_add 47 = .ok (.astore_n 1, 1) := by decide +kernel
theorem d_Es_add_48 : decode b_Es_add 48 = .ok (.aload_n 0, 1) := by decide +kernel
theorem d_Es_add_49 : decode b_Es_add 49 = .ok (.dup, 1) := by decide +kernel
theorem d_Es_add_50 : decode b_Es_add 50 = .ok (.getfield 18, 3) := by decide +kernel
theorem d_Es_add_53 : decode b_Es_add 53 = .ok (.iconst 1, 1) := by decide +kernel
theorem d_Es_add_54 : decode b_Es_add 54 = .ok (.iadd, 1) := by decide +kernel
theorem d_Es_add_55 : decode b_Es_add 55 = .ok (.putfield 18, 3) := by decide +kernel
theorem d_Es_add_58 : decode b_Es_add 58 = .ok (.aload_n 1, 1) := by decide +kernel
theorem d_Es_add_59 : decode b_Es_add 59 = .ok (.getfield 33, 3) := by decide +kernel
theorem d_Es_add_62 : decode b_Es_add 62 = .ok (.invokevirtual 37, 3) := by decide +kernel
theorem d_Es_add_65 : decode b_Es_add 65 = .ok (.aload_n 1, 1) := by decide +kernel
theorem d_Es_add_66 : decode b_Es_add 66 = .ok (.iconst (-1), 1) := by decide +kernel
theorem d_Es_add_67 : decode b_Es_add 67 = .ok (.putfield 42, 3) := by decide +kernel
theorem d_Es_add_70 : decode b_Es_add 70 = .ok (.aload_n 1, 1) := by decide +kernel
theorem d_Es_add_71 : decode b_Es_add 71 = .ok (.areturn, 1) := by decide +kernel
set_option maxRecDepth 100000 in
set_option maxHeartbeats 4000000 in
theorem c_Es_add (l : Launch) (D : va_G) (ca : Nat → ClassId) (T : ty_e) (L : List Nat) (f0 : Nat → va_E) (sz : Nat) (hT : ok_T ca T L f0) (h0 : Nat) (t0 : T h0 = some (ty_es)) :
    Met l y_Es_add (Cond.code y_Es_add b_Es_add 2 (some (.object "TelecontrolPost$Event")) :: wg) { frames := 1, cells := 0, slots := 0, locals := 23 } (va_Pc [.ref h0] (sm_P D cl_all (ty_s ca) ek L f0 sz)) (sm_Qq D (ty_s ca) L f0 sz (fun r u => (∀ b : Nat, r = some b → T b = some (ty_ev)) ∧ po_m ca T L u)) 0 0 (va_A (va_pl L f0) sz) := by
  refine sm_start (by decide) (Nat.le_of_ble_eq_true rfl) ?_
  intro p e s m below meth c ls hx hb hml hr hlk hnm hts hown hsz hE hI hl
  have hl : lv_has ls 2 [(0, .ref h0)] := hl
  have hJ_38 : ∀ (H : Heap) (locs : List Loc) (f : Nat → va_E) (ls : Array Slot) , sw_I D cl_all (ty_s ca) (va_A (va_pl L f0) sz) s H locs L f → ok_T ca T L f → lv_has ls 2 [(0, .ref h0)] → (∀ n, n ≤ 48 → es_m f h0 n → n < 48) → W p l e { frames := 1, cells := 0, slots := 0, locals := 23 } s m ([.ref h0] : List Value).toArray below meth c H locs 0 0 (MQ below (sm_Qq D (ty_s ca) L f0 sz (fun r u => (∀ b : Nat, r = some b → T b = some (ty_ev)) ∧ po_m ca T L u)) ([.ref h0] : List Value).toArray s 0 0 (va_A (va_pl L f0) sz)) (F0 m 38 ls []) := by
    intro H locs f ls  hI hT hl hv
    obtain ⟨-, v0, v1, v2, e0, w0, w1⟩ := ok_es_at hT t0
    have hv1 := hv _ w1 ⟨_, _, e0⟩
    refine lv_aload_n hx hb d_Es_add_38 rfl (lv_at hl 0 rfl) ?_
    refine fh_Es_rows hx hb hts hown hI hT t0 e0 w0 w1 (hts _ tw_237) (fun _ h9 => h9) d_Es_add_39 ?_
    refine lv_aload_n hx hb d_Es_add_42 rfl (lv_at hl 0 rfl) ?_
    refine fh_Es_many hx hb hts hown hI hT t0 e0 w0 w1 (hts _ tw_238) (fun _ h9 => h9) d_Es_add_43 ?_
    refine fa_evs (j := v1) hx hb hI hT w0 (by omega) d_Es_add_46 (fun r_1 t_2 => ?_)
    refine lv_astore_n (lv' := [(1, .ref r_1), (0, .ref h0)]) hx hb d_Es_add_47 rfl hl (by decide) rfl (fun ls hl => ?_)
    refine lv_aload_n hx hb d_Es_add_48 rfl (lv_at hl 1 rfl) ?_
    refine lv_dup hx hb d_Es_add_49 rfl ?_
    refine fh_Es_many hx hb hts hown hI hT t0 e0 w0 w1 (hts _ tw_238) (fun _ h9 => h9) d_Es_add_50 ?_
    refine lv_iconst (v := 1) hx hb d_Es_add_53 (by decide) ?_
    refine lv_iadd hx hb d_Es_add_54 ?_
    refine lv_topi (fun x_3 e_4 => ?_)
    obtain rfl : x_3 = nI (v1 + 1) := by rw [e_4]; exact nI_add _ _
    have w_5 : (v1 + 1) ≤ 48 := by omega
    refine fq_Es_many hx hb hts hown hI hT t0 e0 w0 w1 (hts _ tw_238) (fun _ h9 => h9) (v := (v1 + 1)) w_5 d_Es_add_55 (fun H locs f hI hT e0 hkk => ?_)
    refine lv_aload_n hx hb d_Es_add_58 rfl (lv_at hl 0 rfl) ?_
    refine fgN_Ev_body hx hb hts hown hI hT t_2 (va_Nw.use rfl (hE.1 _ tn_220 rfl)) (fun _ h9 => h9) d_Es_add_59 (fun r_6 t_7 => ?_)
    refine sm_v hI (va_runV (As := []) (rest := []) ⟨hx, hb, hml, hown, hts⟩ (c_Br_clear l D ca _ _ _ _ hT r_6 t_7) (kv_Br_clear hts rfl rfl (hts _ tw_618) ⟨Nat.le_of_ble_eq_true rfl, Nat.le_of_ble_eq_true rfl⟩) (pv_Br hI hE hT t_7) rfl rfl hl.1 rfl (lv_room (Nat.le_of_ble_eq_true rfl)) d_Es_add_62 ⟨Nat.le_of_ble_eq_true rfl, Nat.le_of_ble_eq_true rfl⟩) (fun H locs f hI hT => ?_)
    obtain ⟨-, v0_8, v1_8, v2_8, e0, w0_8, w1_8⟩ := ok_es_at hT t0
    refine lv_aload_n hx hb d_Es_add_65 rfl (lv_at hl 0 rfl) ?_
    refine lv_iconst (v := -1) hx hb d_Es_add_66 (by decide) ?_
    refine fpN_Ev_line hx hb hts hown hI hT t_2 (va_Nw.use rfl (hE.1 _ tn_222 rfl)) (fun _ h9 => h9) d_Es_add_67 (fun H locs f hI hT => ?_)
    refine lv_aload_n hx hb d_Es_add_70 rfl (lv_at hl 0 rfl) ?_
    exact sm_qret (v := some r_1) hx hb hr (Or.inl ⟨_, rfl⟩) hlk hI ⟨(fun b h => by cases h; exact t_2), ⟨rfl, hT⟩⟩ d_Es_add_71
  obtain ⟨-, v0, v1, v2, e0, w0, w1⟩ := ok_es_at hT t0
  refine lv_aload_n hx hb d_Es_add_0 rfl (lv_at hl 0 rfl) ?_
  refine fh_Es_many hx hb hts hown hI hT t0 e0 w0 w1 (hts _ tw_238) (fun _ h9 => h9) d_Es_add_1 ?_
  refine lv_aload_n hx hb d_Es_add_4 rfl (lv_at hl 0 rfl) ?_
  refine fh_Es_rows hx hb hts hown hI hT t0 e0 w0 w1 (hts _ tw_237) (fun _ h9 => h9) d_Es_add_5 ?_
  refine fl_evs hx hb hI hT w0 d_Es_add_8 ?_
  refine lv_icmp_ne (tgt := 38) hx hb d_Es_add_9 (by decide) (fun c_9 => ?_) (fun c_9 => ?_)
  · have k_10 : ¬ v1 = 48 := (fun q => c_9 ((nI_eq (a := v1) (b := 48) (by omega) (by omega)).mpr q))
    exact hJ_38 _ _ _ _  hI hT (lv_sub hl [0] rfl) (fun n hn h => by have := es_un h ⟨_, _, e0⟩ hn (by omega); omega)
  · have k_11 : v1 = 48 := (nI_eq (a := v1) (b := 48) (by omega) (by omega)).mp c_9
    refine lv_aload_n hx hb d_Es_add_12 rfl (lv_at hl 0 rfl) ?_
    refine lv_dup hx hb d_Es_add_13 rfl ?_
    refine fh_Es_lost hx hb hts hown hI hT t0 e0 w0 w1 (hts _ tw_240) (fun _ h9 => h9) d_Es_add_14 ?_
    refine lv_iconst (v := 1) hx hb d_Es_add_17 (by decide) ?_
    refine lv_iadd hx hb d_Es_add_18 ?_
    refine lv_topi (fun x_12 e_13 => ?_)
    refine fq_Es_lost hx hb hts hown hI hT t0 e0 w0 w1 (hts _ tw_240) (fun _ h9 => h9) d_Es_add_19 (fun H locs f hI hT e0 hkk => ?_)
    refine lv_aload_n hx hb d_Es_add_22 rfl (lv_at hl 0 rfl) ?_
    refine sm_iP hI (va_runV (As := []) (rest := []) ⟨hx, hb, hml, hown, hts⟩ (c_Es_firstUnsentAt l D ca _ _ _ _ hT h0 t0) (kv_Es_firstUnsentAt hts rfl rfl (hts _ tw_610) ⟨Nat.le_of_ble_eq_true rfl, Nat.le_of_ble_eq_true rfl⟩) (pv_Es hI hE hT t0) rfl rfl hl.1 rfl (lv_room (Nat.le_of_ble_eq_true rfl)) d_Es_add_23 ⟨Nat.le_of_ble_eq_true rfl, Nat.le_of_ble_eq_true rfl⟩) (fun x_14 H locs p_15 hI => ?_)
    rcases p_15 with rfl | ⟨j_16, rfl, h_17⟩
    · refine lv_istore_n (lv' := [(1, .int (-1)), (0, .ref h0)]) hx hb d_Es_add_26 rfl hl (by decide) rfl (fun ls hl => ?_)
      refine lv_iload_n hx hb d_Es_add_27 rfl (lv_at hl 0 rfl) ?_
      refine lv_if_ge (tgt := 33) hx hb d_Es_add_28 (by decide) (fun c_18 => ?_) (fun c_18 => ?_)
      · exact absurd c_18 (by decide)
      · refine lv_null hx hb d_Es_add_31 ?_
        exact sm_qret (v := none) hx hb hr (Or.inl ⟨_, rfl⟩) hlk hI ⟨(fun b h => by cases h), ⟨rfl, hT⟩⟩ d_Es_add_32
    · refine lv_istore_n (lv' := [(1, .int (nI j_16)), (0, .ref h0)]) hx hb d_Es_add_26 rfl hl (by decide) rfl (fun ls hl => ?_)
      refine lv_iload_n hx hb d_Es_add_27 rfl (lv_at hl 0 rfl) ?_
      refine lv_if_ge (tgt := 33) hx hb d_Es_add_28 (by decide) (fun c_19 => ?_) (fun c_19 => ?_)
      · refine lv_aload_n hx hb d_Es_add_33 rfl (lv_at hl 1 rfl) ?_
        refine lv_iload_n hx hb d_Es_add_34 rfl (lv_at hl 0 rfl) ?_
        have e9 := e0
        refine sm_vF hI (va_runV (As := [.int (nI j_16)]) (rest := []) ⟨hx, hb, hml, hown, hts⟩ (c_Es_remove l D ca _ _ _ _ hT h0 t0 (j_16) (by omega) (fun n hn h => by have := es_un h ⟨_, _, e0⟩ hn (by omega); omega)) (kv_Es_remove hts rfl rfl (hts _ tw_614) ⟨Nat.le_of_ble_eq_true rfl, Nat.le_of_ble_eq_true rfl⟩) (pv_Es hI hE hT t0) rfl rfl hl.1 rfl (lv_room (Nat.le_of_ble_eq_true rfl)) d_Es_add_35 ⟨Nat.le_of_ble_eq_true rfl, Nat.le_of_ble_eq_true rfl⟩) (fun H locs f hF_21 hI hT => ?_)
        obtain ⟨-, v0_22, v1_22, v2_22, e0, w0_22, w1_22⟩ := ok_es_at hT t0
        have hq_22 := es_un (hF_21 _ w1 ⟨_, _, e9⟩) ⟨_, _, e0⟩ (by omega) w1_22
        exact hJ_38 _ _ _ _  hI hT (lv_sub hl [1] rfl) (fun n hn h => by have := es_un h ⟨_, _, e0⟩ hn (by omega); omega)
      · exact absurd (nI_pos' (by omega)) c_19
theorem d_Es_confirm_0 : decode b_Es_confirm 0 = .ok (.aload_n 0, 1) := by decide +kernel
theorem d_Es_confirm_1 : decode b_Es_confirm 1 = .ok (.getfield 18, 3) := by decide +kernel
theorem d_Es_confirm_4 : decode b_Es_confirm 4 = .ok (.iconst 1, 1) := by decide +kernel
theorem d_Es_confirm_5 : decode b_Es_confirm 5 = .ok (.isub, 1) := by decide +kernel
theorem d_Es_confirm_6 : decode b_Es_confirm 6 = .ok (.istore 4, 2) := by decide +kernel
theorem d_Es_confirm_8 : decode b_Es_confirm 8 = .ok (.iload 4, 2) := by decide +kernel
theorem d_Es_confirm_10 : decode b_Es_confirm 10 = .ok (.ifCond .lt 49, 3) := by decide +kernel
theorem d_Es_confirm_13 : decode b_Es_confirm 13 = .ok (.aload_n 0, 1) := by decide +kernel
theorem d_Es_confirm_14 : decode b_Es_confirm 14 = .ok (.getfield 11, 3) := by decide +kernel
theorem d_Es_confirm_17 : decode b_Es_confirm 17 = .ok (.iload 4, 2) := by decide +kernel
theorem d_Es_confirm_19 : decode b_Es_confirm 19 = .ok (.aaload, 1) := by decide +kernel
theorem d_Es_confirm_20 : decode b_Es_confirm 20 = .ok (.getfield 42, 3) := by decide +kernel
theorem d_Es_confirm_23 : decode b_Es_confirm 23 = .ok (.iload_n 1, 1) := by decide +kernel
theorem d_Es_confirm_24 : decode b_Es_confirm 24 = .ok (.if_icmp .ne 29, 3) := by decide +kernel
theorem d_Es_confirm_27 : decode b_Es_confirm 27 = .ok (.aload_n 0, 1) := by decide +kernel
theorem d_Es_confirm_28 : decode b_Es_confirm 28 = .ok (.getfield 11, 3) := by decide +kernel
theorem d_Es_confirm_31 : decode b_Es_confirm 31 = .ok (.iload 4, 2) := by decide +kernel
theorem d_Es_confirm_33 : decode b_Es_confirm 33 = .ok (.aaload, 1) := by decide +kernel
theorem d_Es_confirm_34 : decode b_Es_confirm 34 = .ok (.getfield 45, 3) := by decide +kernel
theorem d_Es_confirm_37 : decode b_Es_confirm 37 = .ok (.iload_n 2, 1) := by decide +kernel
theorem d_Es_confirm_38 : decode b_Es_confirm 38 = .ok (.isub, 1) := by decide +kernel
theorem d_Es_confirm_39 : decode b_Es_confirm 39 = .ok (.sipush 32767, 3) := by decide +kernel
theorem d_Es_confirm_42 : decode b_Es_confirm 42 = .ok (.iand, 1) := by decide +kernel
theorem d_Es_confirm_43 : decode b_Es_confirm 43 = .ok (.iload_n 3, 1) := by decide +kernel
theorem d_Es_confirm_44 : decode b_Es_confirm 44 = .ok (.if_icmp .ge 9, 3) := by decide +kernel
theorem d_Es_confirm_47 : decode b_Es_confirm 47 = .ok (.aload_n 0, 1) := by decide +kernel
theorem d_Es_confirm_48 : decode b_Es_confirm 48 = .ok (.iload 4, 2) := by decide +kernel
theorem d_Es_confirm_50 : decode b_Es_confirm 50 = .ok (.invokevirtual 29, 3) := by decide +kernel
theorem d_Es_confirm_53 : decode b_Es_confirm 53 = .ok (.iinc 4 (-1), 3) := by decide +kernel
theorem d_Es_confirm_56 : decode b_Es_confirm 56 = .ok (.goto (-48), 3) := by decide +kernel
theorem d_Es_confirm_59 : decode b_Es_confirm 59 = .ok (.return_, 1) := by decide +kernel
set_option maxRecDepth 100000 in
set_option maxHeartbeats 4000000 in
theorem c_Es_confirm (l : Launch) (D : va_G) (ca : Nat → ClassId) (T : ty_e) (L : List Nat) (f0 : Nat → va_E) (sz : Nat) (hT : ok_T ca T L f0) (h0 : Nat) (t0 : T h0 = some (ty_es)) (x1 : Int32) (x2 : Int32) (x3 : Int32) :
    Met l y_Es_confirm (Cond.code y_Es_confirm b_Es_confirm 5 none :: wg) { frames := 1, cells := 0, slots := 0, locals := 23 } (va_Pc [.ref h0, .int (x1), .int (x2), .int (x3)] (sm_P D cl_all (ty_s ca) ek L f0 sz)) (sm_Qv D (ty_s ca) L f0 sz (fun u => po_m ca T L u)) 0 0 (va_A (va_pl L f0) sz) := by
  refine sm_start (by decide) (Nat.le_of_ble_eq_true rfl) ?_
  intro p e s m below meth c ls hx hb hml hr hlk hnm hts hown hsz hE hI hl
  have hl : lv_has ls 5 [(0, .ref h0), (1, .int (x1)), (2, .int (x2)), (3, .int (x3))] := hl
  have hJ_8 : ∀ (N k : Nat) (H : Heap) (locs : List Loc) (f : Nat → va_E) (ls : Array Slot) , k + 1 ≤ N → k ≤ 48 → sw_I D cl_all (ty_s ca) (va_A (va_pl L f0) sz) s H locs L f → ok_T ca T L f → lv_has ls 5 [(0, .ref h0), (1, .int (x1)), (2, .int (x2)), (3, .int (x3)), (4, .int (nI k - 1))] → (∀ n, n ≤ 48 → es_m f h0 n → k ≤ n) → W p l e { frames := 1, cells := 0, slots := 0, locals := 23 } s m ([.ref h0, .int (x1), .int (x2), .int (x3)] : List Value).toArray below meth c H locs 0 0 (MQ below (sm_Qv D (ty_s ca) L f0 sz (fun u => po_m ca T L u)) ([.ref h0, .int (x1), .int (x2), .int (x3)] : List Value).toArray s 0 0 (va_A (va_pl L f0) sz)) (F0 m 8 ls []) := by
    intro N
    induction N with
    | zero => intros; omega
    | succ N ih =>
      intro k H locs f ls  hN hk hI hT hl hv
      obtain ⟨-, v0, v1, v2, e0, w0, w1⟩ := ok_es_at hT t0
      have hv1 := hv _ w1 ⟨_, _, e0⟩
      refine lv_iload hx hb d_Es_confirm_8 (lv_at hl 4 rfl) ?_
      refine lv_if_lt (tgt := 59) hx hb d_Es_confirm_10 (by decide) (fun c_1 => ?_) (fun c_1 => ?_)
      · exact sm_vret hx hb hr hlk hI ⟨rfl, hT⟩ d_Es_confirm_59
      · obtain ⟨k_2, rfl⟩ : ∃ z : Nat, k = z + 1 := dc_ne c_1
        rw [nI_pred] at hl
        refine lv_aload_n hx hb d_Es_confirm_13 rfl (lv_at hl 0 rfl) ?_
        refine fh_Es_rows hx hb hts hown hI hT t0 e0 w0 w1 (hts _ tw_237) (fun _ h9 => h9) d_Es_confirm_14 ?_
        refine lv_iload hx hb d_Es_confirm_17 (lv_at hl 4 rfl) ?_
        refine fa_evs (j := k_2) hx hb hI hT w0 (by omega) d_Es_confirm_19 (fun r_3 t_4 => ?_)
        refine fgN_Ev_line hx hb hts hown hI hT t_4 (va_Nw.use rfl (hE.1 _ tn_222 rfl)) (fun _ h9 => h9) d_Es_confirm_20 (fun x_5 => ?_)
        refine lv_iload_n hx hb d_Es_confirm_23 rfl (lv_at hl 1 rfl) ?_
        refine lv_icmp_ne (tgt := 53) hx hb d_Es_confirm_24 (by decide) (fun c_6 => ?_) (fun c_6 => ?_)
        · refine lv_iinc (v := nI k_2 - 1) (lv' := [(4, .int (nI k_2 - 1)), (0, .ref h0), (1, .int (x1)), (2, .int (x2)), (3, .int (x3))]) hx hb d_Es_confirm_53 hl (k := 4) rfl (dc_1 _) (by decide) rfl (fun ls hl => ?_)
          refine lv_goto (tgt := 8) hx hb d_Es_confirm_56 (by decide) ?_
          exact ih (k_2) _ _ _ _  (by omega) (by omega) hI hT (lv_sub hl [1, 2, 3, 4, 0] rfl) (fun n hn h => by have := es_un h ⟨_, _, e0⟩ hn (by omega); omega)
        · refine lv_aload_n hx hb d_Es_confirm_27 rfl (lv_at hl 0 rfl) ?_
          refine fh_Es_rows hx hb hts hown hI hT t0 e0 w0 w1 (hts _ tw_237) (fun _ h9 => h9) d_Es_confirm_28 ?_
          refine lv_iload hx hb d_Es_confirm_31 (lv_at hl 4 rfl) ?_
          refine fa_evs (j := k_2) hx hb hI hT w0 (by omega) d_Es_confirm_33 (fun r_7 t_8 => ?_)
          refine fgN_Ev_number hx hb hts hown hI hT t_8 (va_Nw.use rfl (hE.1 _ tn_224 rfl)) (fun _ h9 => h9) d_Es_confirm_34 (fun x_9 => ?_)
          refine lv_iload_n hx hb d_Es_confirm_37 rfl (lv_at hl 2 rfl) ?_
          refine lv_isub hx hb d_Es_confirm_38 ?_
          refine lv_topi (fun x_10 e_11 => ?_)
          refine lv_sipush (v := 32767) hx hb d_Es_confirm_39 (by decide) ?_
          refine lv_iand hx hb d_Es_confirm_42 ?_
          refine lv_topi (fun x_12 e_13 => ?_)
          refine lv_iload_n hx hb d_Es_confirm_43 rfl (lv_at hl 3 rfl) ?_
          refine lv_icmp_ge (tgt := 53) hx hb d_Es_confirm_44 (by decide) (fun c_14 => ?_) (fun c_14 => ?_)
          · refine lv_iinc (v := nI k_2 - 1) (lv' := [(4, .int (nI k_2 - 1)), (0, .ref h0), (1, .int (x1)), (2, .int (x2)), (3, .int (x3))]) hx hb d_Es_confirm_53 hl (k := 4) rfl (dc_1 _) (by decide) rfl (fun ls hl => ?_)
            refine lv_goto (tgt := 8) hx hb d_Es_confirm_56 (by decide) ?_
            exact ih (k_2) _ _ _ _  (by omega) (by omega) hI hT (lv_sub hl [1, 2, 3, 4, 0] rfl) (fun n hn h => by have := es_un h ⟨_, _, e0⟩ hn (by omega); omega)
          · refine lv_aload_n hx hb d_Es_confirm_47 rfl (lv_at hl 0 rfl) ?_
            refine lv_iload hx hb d_Es_confirm_48 (lv_at hl 4 rfl) ?_
            have e9 := e0
            refine sm_vF hI (va_runV (As := [.int (nI k_2)]) (rest := []) ⟨hx, hb, hml, hown, hts⟩ (c_Es_remove l D ca _ _ _ _ hT h0 t0 (k_2) (by omega) (fun n hn h => by have := es_un h ⟨_, _, e0⟩ hn w1; omega)) (kv_Es_remove hts rfl rfl (hts _ tw_614) ⟨Nat.le_of_ble_eq_true rfl, Nat.le_of_ble_eq_true rfl⟩) (pv_Es hI hE hT t0) rfl rfl hl.1 rfl (lv_room (Nat.le_of_ble_eq_true rfl)) d_Es_confirm_50 ⟨Nat.le_of_ble_eq_true rfl, Nat.le_of_ble_eq_true rfl⟩) (fun H locs f hF_15 hI hT => ?_)
            obtain ⟨-, v0_16, v1_16, v2_16, e0, w0_16, w1_16⟩ := ok_es_at hT t0
            have hq_16 := es_un (hF_15 _ w1 ⟨_, _, e9⟩) ⟨_, _, e0⟩ (by omega) w1_16
            refine lv_iinc (v := nI k_2 - 1) (lv' := [(4, .int (nI k_2 - 1)), (0, .ref h0), (1, .int (x1)), (2, .int (x2)), (3, .int (x3))]) hx hb d_Es_confirm_53 hl (k := 4) rfl (dc_1 _) (by decide) rfl (fun ls hl => ?_)
            refine lv_goto (tgt := 8) hx hb d_Es_confirm_56 (by decide) ?_
            exact ih (k_2) _ _ _ _  (by omega) (by omega) hI hT (lv_sub hl [1, 2, 3, 4, 0] rfl) (fun n hn h => by have := es_un h ⟨_, _, e0⟩ hn (by omega); omega)
  obtain ⟨-, v0, v1, v2, e0, w0, w1⟩ := ok_es_at hT t0
  refine lv_aload_n hx hb d_Es_confirm_0 rfl (lv_at hl 0 rfl) ?_
  refine fh_Es_many hx hb hts hown hI hT t0 e0 w0 w1 (hts _ tw_238) (fun _ h9 => h9) d_Es_confirm_1 ?_
  refine lv_iconst (v := 1) hx hb d_Es_confirm_4 (by decide) ?_
  refine lv_isub hx hb d_Es_confirm_5 ?_
  refine lv_topi (fun x_17 e_18 => ?_)
  subst e_18
  refine lv_istore (lv' := [(4, .int (nI v1 - 1)), (0, .ref h0), (1, .int (x1)), (2, .int (x2)), (3, .int (x3))]) hx hb d_Es_confirm_6 hl (by decide) rfl (fun ls hl => ?_)
  exact hJ_8 _ (v1) _ _ _ _  (Nat.le_refl _) (by omega) hI hT (lv_sub hl [1, 2, 3, 4, 0] rfl) (fun n hn h => by have := es_un h ⟨_, _, e0⟩ hn (by omega); omega)
theorem d_Es_confirmAll_0 : decode b_Es_confirmAll 0 = .ok (.aload_n 0, 1) := by decide +kernel
theorem d_Es_confirmAll_1 : decode b_Es_confirmAll 1 = .ok (.getfield 18, 3) := by decide +kernel
theorem d_Es_confirmAll_4 : decode b_Es_confirmAll 4 = .ok (.iconst 1, 1) := by decide +kernel
theorem d_Es_confirmAll_5 : decode b_Es_confirmAll 5 = .ok (.isub, 1) := by decide +kernel
theorem d_Es_confirmAll_6 : decode b_Es_confirmAll 6 = .ok (.istore_n 2, 1) := by decide +kernel
theorem d_Es_confirmAll_7 : decode b_Es_confirmAll 7 = .ok (.iload_n 2, 1) := by decide +kernel
theorem d_Es_confirmAll_8 : decode b_Es_confirmAll 8 = .ok (.ifCond .lt 27, 3) := by decide +kernel
theorem d_Es_confirmAll_11 : decode b_Es_confirmAll 11 = .ok (.aload_n 0, 1) := by decide +kernel
theorem d_Es_confirmAll_12 : decode b_Es_confirmAll 12 = .ok (.getfield 11, 3) := by decide +kernel
theorem d_Es_confirmAll_15 : decode b_Es_confirmAll 15 = .ok (.iload_n 2, 1) := by decide +kernel
theorem d_Es_confirmAll_16 : decode b_Es_confirmAll 16 = .ok (.aaload, 1) := by decide +kernel
theorem d_Es_confirmAll_17 : decode b_Es_confirmAll 17 = .ok (.getfield 42, 3) := by decide +kernel
theorem d_Es_confirmAll_20 : decode b_Es_confirmAll 20 = .ok (.iload_n 1, 1) := by decide +kernel
theorem d_Es_confirmAll_21 : decode b_Es_confirmAll 21 = .ok (.if_icmp .ne 8, 3) := by decide +kernel
theorem d_Es_confirmAll_24 : decode b_Es_confirmAll 24 = .ok (.aload_n 0, 1) := by decide +kernel
theorem d_Es_confirmAll_25 : decode b_Es_confirmAll 25 = .ok (.iload_n 2, 1) := by decide +kernel
theorem d_Es_confirmAll_26 : decode b_Es_confirmAll 26 = .ok (.invokevirtual 29, 3) := by decide +kernel
theorem d_Es_confirmAll_29 : decode b_Es_confirmAll 29 = .ok (.iinc 2 (-1), 3) := by decide +kernel
theorem d_Es_confirmAll_32 : decode b_Es_confirmAll 32 = .ok (.goto (-25), 3) := by decide +kernel
theorem d_Es_confirmAll_35 : decode b_Es_confirmAll 35 = .ok (.return_, 1) := by decide +kernel
set_option maxRecDepth 100000 in
set_option maxHeartbeats 4000000 in
theorem c_Es_confirmAll (l : Launch) (D : va_G) (ca : Nat → ClassId) (T : ty_e) (L : List Nat) (f0 : Nat → va_E) (sz : Nat) (hT : ok_T ca T L f0) (h0 : Nat) (t0 : T h0 = some (ty_es)) (x1 : Int32) :
    Met l y_Es_confirmAll (Cond.code y_Es_confirmAll b_Es_confirmAll 3 none :: wg) { frames := 1, cells := 0, slots := 0, locals := 23 } (va_Pc [.ref h0, .int (x1)] (sm_P D cl_all (ty_s ca) ek L f0 sz)) (sm_Qv D (ty_s ca) L f0 sz (fun u => po_m ca T L u)) 0 0 (va_A (va_pl L f0) sz) := by
  refine sm_start (by decide) (Nat.le_of_ble_eq_true rfl) ?_
  intro p e s m below meth c ls hx hb hml hr hlk hnm hts hown hsz hE hI hl
  have hl : lv_has ls 3 [(0, .ref h0), (1, .int (x1))] := hl
  have hJ_7 : ∀ (N k : Nat) (H : Heap) (locs : List Loc) (f : Nat → va_E) (ls : Array Slot) , k + 1 ≤ N → k ≤ 48 → sw_I D cl_all (ty_s ca) (va_A (va_pl L f0) sz) s H locs L f → ok_T ca T L f → lv_has ls 3 [(0, .ref h0), (1, .int (x1)), (2, .int (nI k - 1))] → (∀ n, n ≤ 48 → es_m f h0 n → k ≤ n) → W p l e { frames := 1, cells := 0, slots := 0, locals := 23 } s m ([.ref h0, .int (x1)] : List Value).toArray below meth c H locs 0 0 (MQ below (sm_Qv D (ty_s ca) L f0 sz (fun u => po_m ca T L u)) ([.ref h0, .int (x1)] : List Value).toArray s 0 0 (va_A (va_pl L f0) sz)) (F0 m 7 ls []) := by
    intro N
    induction N with
    | zero => intros; omega
    | succ N ih =>
      intro k H locs f ls  hN hk hI hT hl hv
      obtain ⟨-, v0, v1, v2, e0, w0, w1⟩ := ok_es_at hT t0
      have hv1 := hv _ w1 ⟨_, _, e0⟩
      refine lv_iload_n hx hb d_Es_confirmAll_7 rfl (lv_at hl 2 rfl) ?_
      refine lv_if_lt (tgt := 35) hx hb d_Es_confirmAll_8 (by decide) (fun c_1 => ?_) (fun c_1 => ?_)
      · exact sm_vret hx hb hr hlk hI ⟨rfl, hT⟩ d_Es_confirmAll_35
      · obtain ⟨k_2, rfl⟩ : ∃ z : Nat, k = z + 1 := dc_ne c_1
        rw [nI_pred] at hl
        refine lv_aload_n hx hb d_Es_confirmAll_11 rfl (lv_at hl 0 rfl) ?_
        refine fh_Es_rows hx hb hts hown hI hT t0 e0 w0 w1 (hts _ tw_237) (fun _ h9 => h9) d_Es_confirmAll_12 ?_
        refine lv_iload_n hx hb d_Es_confirmAll_15 rfl (lv_at hl 2 rfl) ?_
        refine fa_evs (j := k_2) hx hb hI hT w0 (by omega) d_Es_confirmAll_16 (fun r_3 t_4 => ?_)
        refine fgN_Ev_line hx hb hts hown hI hT t_4 (va_Nw.use rfl (hE.1 _ tn_222 rfl)) (fun _ h9 => h9) d_Es_confirmAll_17 (fun x_5 => ?_)
        refine lv_iload_n hx hb d_Es_confirmAll_20 rfl (lv_at hl 1 rfl) ?_
        refine lv_icmp_ne (tgt := 29) hx hb d_Es_confirmAll_21 (by decide) (fun c_6 => ?_) (fun c_6 => ?_)
        · refine lv_iinc (v := nI k_2 - 1) (lv' := [(2, .int (nI k_2 - 1)), (0, .ref h0), (1, .int (x1))]) hx hb d_Es_confirmAll_29 hl (k := 2) rfl (dc_1 _) (by decide) rfl (fun ls hl => ?_)
          refine lv_goto (tgt := 7) hx hb d_Es_confirmAll_32 (by decide) ?_
          exact ih (k_2) _ _ _ _  (by omega) (by omega) hI hT (lv_sub hl [1, 2, 0] rfl) (fun n hn h => by have := es_un h ⟨_, _, e0⟩ hn (by omega); omega)
        · refine lv_aload_n hx hb d_Es_confirmAll_24 rfl (lv_at hl 0 rfl) ?_
          refine lv_iload_n hx hb d_Es_confirmAll_25 rfl (lv_at hl 2 rfl) ?_
          have e9 := e0
          refine sm_vF hI (va_runV (As := [.int (nI k_2)]) (rest := []) ⟨hx, hb, hml, hown, hts⟩ (c_Es_remove l D ca _ _ _ _ hT h0 t0 (k_2) (by omega) (fun n hn h => by have := es_un h ⟨_, _, e0⟩ hn w1; omega)) (kv_Es_remove hts rfl rfl (hts _ tw_614) ⟨Nat.le_of_ble_eq_true rfl, Nat.le_of_ble_eq_true rfl⟩) (pv_Es hI hE hT t0) rfl rfl hl.1 rfl (lv_room (Nat.le_of_ble_eq_true rfl)) d_Es_confirmAll_26 ⟨Nat.le_of_ble_eq_true rfl, Nat.le_of_ble_eq_true rfl⟩) (fun H locs f hF_7 hI hT => ?_)
          obtain ⟨-, v0_8, v1_8, v2_8, e0, w0_8, w1_8⟩ := ok_es_at hT t0
          have hq_8 := es_un (hF_7 _ w1 ⟨_, _, e9⟩) ⟨_, _, e0⟩ (by omega) w1_8
          refine lv_iinc (v := nI k_2 - 1) (lv' := [(2, .int (nI k_2 - 1)), (0, .ref h0), (1, .int (x1))]) hx hb d_Es_confirmAll_29 hl (k := 2) rfl (dc_1 _) (by decide) rfl (fun ls hl => ?_)
          refine lv_goto (tgt := 7) hx hb d_Es_confirmAll_32 (by decide) ?_
          exact ih (k_2) _ _ _ _  (by omega) (by omega) hI hT (lv_sub hl [1, 2, 0] rfl) (fun n hn h => by have := es_un h ⟨_, _, e0⟩ hn (by omega); omega)
  obtain ⟨-, v0, v1, v2, e0, w0, w1⟩ := ok_es_at hT t0
  refine lv_aload_n hx hb d_Es_confirmAll_0 rfl (lv_at hl 0 rfl) ?_
  refine fh_Es_many hx hb hts hown hI hT t0 e0 w0 w1 (hts _ tw_238) (fun _ h9 => h9) d_Es_confirmAll_1 ?_
  refine lv_iconst (v := 1) hx hb d_Es_confirmAll_4 (by decide) ?_
  refine lv_isub hx hb d_Es_confirmAll_5 ?_
  refine lv_topi (fun x_9 e_10 => ?_)
  subst e_10
  refine lv_istore_n (lv' := [(2, .int (nI v1 - 1)), (0, .ref h0), (1, .int (x1))]) hx hb d_Es_confirmAll_6 rfl hl (by decide) rfl (fun ls hl => ?_)
  exact hJ_7 _ (v1) _ _ _ _  (Nat.le_refl _) (by omega) hI hT (lv_sub hl [1, 2, 0] rfl) (fun n hn h => by have := es_un h ⟨_, _, e0⟩ hn (by omega); omega)
