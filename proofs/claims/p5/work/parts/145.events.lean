/-! Events (written by wip/tools) -/
theorem d_Es_firstUnsentAt_0 : decode b_Es_firstUnsentAt 0 = .ok (.iconst 0, 1) := by decide +kernel
theorem d_Es_firstUnsentAt_1 : decode b_Es_firstUnsentAt 1 = .ok (.istore_n 1, 1) := by decide +kernel
theorem d_Es_firstUnsentAt_2 : decode b_Es_firstUnsentAt 2 = .ok (.iload_n 1, 1) := by decide +kernel
theorem d_Es_firstUnsentAt_3 : decode b_Es_firstUnsentAt 3 = .ok (.aload_n 0, 1) := by decide +kernel
theorem d_Es_firstUnsentAt_4 : decode b_Es_firstUnsentAt 4 = .ok (.getfield 18, 3) := by decide +kernel
theorem d_Es_firstUnsentAt_7 : decode b_Es_firstUnsentAt 7 = .ok (.if_icmp .ge 23, 3) := by decide +kernel
theorem d_Es_firstUnsentAt_10 : decode b_Es_firstUnsentAt 10 = .ok (.aload_n 0, 1) := by decide +kernel
theorem d_Es_firstUnsentAt_11 : decode b_Es_firstUnsentAt 11 = .ok (.getfield 11, 3) := by decide +kernel
theorem d_Es_firstUnsentAt_14 : decode b_Es_firstUnsentAt 14 = .ok (.iload_n 1, 1) := by decide +kernel
theorem d_Es_firstUnsentAt_15 : decode b_Es_firstUnsentAt 15 = .ok (.aaload, 1) := by decide +kernel
theorem d_Es_firstUnsentAt_16 : decode b_Es_firstUnsentAt 16 = .ok (.getfield 42, 3) := by decide +kernel
theorem d_Es_firstUnsentAt_19 : decode b_Es_firstUnsentAt 19 = .ok (.ifCond .ge 5, 3) := by decide +kernel
theorem d_Es_firstUnsentAt_22 : decode b_Es_firstUnsentAt 22 = .ok (.iload_n 1, 1) := by decide +kernel
theorem d_Es_firstUnsentAt_23 : decode b_Es_firstUnsentAt 23 = .ok (.ireturn, 1) := by decide +kernel
theorem d_Es_firstUnsentAt_24 : decode b_Es_firstUnsentAt 24 = .ok (.iinc 1 1, 3) := by decide +kernel
theorem d_Es_firstUnsentAt_27 : decode b_Es_firstUnsentAt 27 = .ok (.goto (-25), 3) := by decide +kernel
theorem d_Es_firstUnsentAt_30 : decode b_Es_firstUnsentAt 30 = .ok (.iconst (-1), 1) := by decide +kernel
theorem d_Es_firstUnsentAt_31 : decode b_Es_firstUnsentAt 31 = .ok (.ireturn, 1) := by decide +kernel
set_option maxRecDepth 100000 in
set_option maxHeartbeats 4000000 in
theorem c_Es_firstUnsentAt (l : Launch) (D : va_G) (ca : Nat → ClassId) (T : ty_e) (L : List Nat) (f0 : Nat → va_E) (sz : Nat) (hT : ok_T ca T L f0) (h0 : Nat) (t0 : T h0 = some (ty_es)) :
    Met l y_Es_firstUnsentAt (Cond.code y_Es_firstUnsentAt b_Es_firstUnsentAt 2 (some .int) :: wg) { frames := 0, cells := 0, slots := 0, locals := 0 } (va_Pc [.ref h0] (sm_P D cl_all (ty_s ca) ek L f0 sz)) (sm_Qi D (ty_s ca) L f0 sz (fun r u => (r = -1 ∨ ∃ j : Nat, r = nI j ∧ j < 48) ∧ u = (L, f0))) 0 0 (va_A (va_pl L f0) sz) := by
  refine sm_start (by decide) (Nat.le_of_ble_eq_true rfl) ?_
  intro p e s m below meth c ls hx hb hml hr hlk hnm hts hown hsz hE hI hl
  have hl : lv_has ls 2 [(0, .ref h0)] := hl
  have hJ_2 : ∀ (N k : Nat) (H : Heap) (locs : List Loc) (ls : Array Slot) , 48 + 1 - k ≤ N → k ≤ 48 → sw_I D cl_all (ty_s ca) (va_A (va_pl L f0) sz) s H locs L f0 → lv_has ls 2 [(0, .ref h0), (1, .int (nI k))] → W p l e { frames := 0, cells := 0, slots := 0, locals := 0 } s m ([.ref h0] : List Value).toArray below meth c H locs 0 0 (MQ below (sm_Qi D (ty_s ca) L f0 sz (fun r u => (r = -1 ∨ ∃ j : Nat, r = nI j ∧ j < 48) ∧ u = (L, f0))) ([.ref h0] : List Value).toArray s 0 0 (va_A (va_pl L f0) sz)) (F0 m 2 ls []) := by
    intro N
    induction N with
    | zero => intros; omega
    | succ N ih =>
      intro k H locs ls  hN hk hI hl 
      refine lv_iload_n hx hb d_Es_firstUnsentAt_2 rfl (lv_at hl 1 rfl) ?_
      refine lv_aload_n hx hb d_Es_firstUnsentAt_3 rfl (lv_at hl 0 rfl) ?_
      refine fg_Es_many hx hb hts hown hI hT t0 (hts _ tw_238) (fun _ h9 => h9) d_Es_firstUnsentAt_4 (fun n_1 h_2 => ?_)
      refine lv_icmp_ge (tgt := 30) hx hb d_Es_firstUnsentAt_7 (by decide) (fun c_3 => ?_) (fun c_3 => ?_)
      · have k_4 : n_1 ≤ k := (nI_leI (a := n_1) (b := k) (by omega) (by omega)).mp c_3
        refine lv_iconst (v := -1) hx hb d_Es_firstUnsentAt_30 (by decide) ?_
        exact sm_iret hx hb hr hlk hI ⟨(Or.inl rfl), rfl⟩ d_Es_firstUnsentAt_31
      · have k_5 : k < n_1 := Nat.lt_of_not_le (fun q => c_3 ((nI_leI (a := n_1) (b := k) (by omega) (by omega)).mpr q))
        refine lv_aload_n hx hb d_Es_firstUnsentAt_10 rfl (lv_at hl 0 rfl) ?_
        refine fg_Es_rows hx hb hts hown hI hT t0 (hts _ tw_237) (fun _ h9 => h9) d_Es_firstUnsentAt_11 (fun r_6 t_7 => ?_)
        refine lv_iload_n hx hb d_Es_firstUnsentAt_14 rfl (lv_at hl 1 rfl) ?_
        refine fa_evs (j := k) hx hb hI hT t_7 (by omega) d_Es_firstUnsentAt_15 (fun r_8 t_9 => ?_)
        refine fgN_Ev_line hx hb hts hown hI hT t_9 (va_Nw.use rfl (hE.1 _ tn_222 rfl)) (fun _ h9 => h9) d_Es_firstUnsentAt_16 (fun x_10 => ?_)
        refine lv_if_ge (tgt := 24) hx hb d_Es_firstUnsentAt_19 (by decide) (fun c_11 => ?_) (fun c_11 => ?_)
        · refine lv_iinc (v := nI (k + 1)) (lv' := [(1, .int (nI (k + 1))), (0, .ref h0)]) hx hb d_Es_firstUnsentAt_24 hl (k := 1) rfl (nI_1 _) (by decide) rfl (fun ls hl => ?_)
          refine lv_goto (tgt := 2) hx hb d_Es_firstUnsentAt_27 (by decide) ?_
          exact ih ((k + 1)) _ _ _  (by omega) (by omega) hI (lv_sub hl [1, 0] rfl) 
        · refine lv_iload_n hx hb d_Es_firstUnsentAt_22 rfl (lv_at hl 1 rfl) ?_
          exact sm_iret hx hb hr hlk hI ⟨(Or.inr ⟨k, rfl, by omega⟩), rfl⟩ d_Es_firstUnsentAt_23
  refine lv_iconst (v := 0) hx hb d_Es_firstUnsentAt_0 (by decide) ?_
  refine lv_istore_n (lv' := [(1, .int (0)), (0, .ref h0)]) hx hb d_Es_firstUnsentAt_1 rfl hl (by decide) rfl (fun ls hl => ?_)
  exact hJ_2 _ (0) _ _ _  (Nat.le_refl _) (by omega) hI (lv_sub hl [1, 0] rfl) 
theorem d_Es_sent_0 : decode b_Es_sent 0 = .ok (.iconst 0, 1) := by decide +kernel
theorem d_Es_sent_1 : decode b_Es_sent 1 = .ok (.istore_n 1, 1) := by decide +kernel
theorem d_Es_sent_2 : decode b_Es_sent 2 = .ok (.iconst 0, 1) := by decide +kernel
theorem d_Es_sent_3 : decode b_Es_sent 3 = .ok (.istore_n 2, 1) := by decide +kernel
theorem d_Es_sent_4 : decode b_Es_sent 4 = .ok (.iload_n 2, 1) := by decide +kernel
theorem d_Es_sent_5 : decode b_Es_sent 5 = .ok (.aload_n 0, 1) := by decide +kernel
theorem d_Es_sent_6 : decode b_Es_sent 6 = .ok (.getfield 18, 3) := by decide +kernel
theorem d_Es_sent_9 : decode b_Es_sent 9 = .ok (.if_icmp .ge 29, 3) := by decide +kernel
theorem d_Es_sent_12 : decode b_Es_sent 12 = .ok (.iload_n 1, 1) := by decide +kernel
theorem d_Es_sent_13 : decode b_Es_sent 13 = .ok (.aload_n 0, 1) := by decide +kernel
theorem d_Es_sent_14 : decode b_Es_sent 14 = .ok (.getfield 11, 3) := by decide +kernel
theorem d_Es_sent_17 : decode b_Es_sent 17 = .ok (.iload_n 2, 1) := by decide +kernel
theorem d_Es_sent_18 : decode b_Es_sent 18 = .ok (.aaload, 1) := by decide +kernel
theorem d_Es_sent_19 : decode b_Es_sent 19 = .ok (.getfield 42, 3) := by decide +kernel
theorem d_Es_sent_22 : decode b_Es_sent 22 = .ok (.ifCond .lt 7, 3) := by decide +kernel
theorem d_Es_sent_25 : decode b_Es_sent 25 = .ok (.iconst 1, 1) := by decide +kernel
theorem d_Es_sent_26 : decode b_Es_sent 26 = .ok (.goto 4, 3) := by decide +kernel
theorem d_Es_sent_29 : decode b_Es_sent 29 = .ok (.iconst 0, 1) := by decide +kernel
theorem d_Es_sent_30 : decode b_Es_sent 30 = .ok (.iadd, 1) := by decide +kernel
theorem d_Es_sent_31 : decode b_Es_sent 31 = .ok (.istore_n 1, 1) := by decide +kernel
theorem d_Es_sent_32 : decode b_Es_sent 32 = .ok (.iinc 2 1, 3) := by decide +kernel
theorem d_Es_sent_35 : decode b_Es_sent 35 = .ok (.goto (-31), 3) := by decide +kernel
theorem d_Es_sent_38 : decode b_Es_sent 38 = .ok (.iload_n 1, 1) := by decide +kernel
theorem d_Es_sent_39 : decode b_Es_sent 39 = .ok (.ireturn, 1) := by decide +kernel
set_option maxRecDepth 100000 in
set_option maxHeartbeats 4000000 in
theorem c_Es_sent (l : Launch) (D : va_G) (ca : Nat → ClassId) (T : ty_e) (L : List Nat) (f0 : Nat → va_E) (sz : Nat) (hT : ok_T ca T L f0) (h0 : Nat) (t0 : T h0 = some (ty_es)) :
    Met l y_Es_sent (Cond.code y_Es_sent b_Es_sent 3 (some .int) :: wg) { frames := 0, cells := 0, slots := 0, locals := 0 } (va_Pc [.ref h0] (sm_P D cl_all (ty_s ca) ek L f0 sz)) (sm_Qi D (ty_s ca) L f0 sz (fun r u => (True) ∧ u = (L, f0))) 0 0 (va_A (va_pl L f0) sz) := by
  refine sm_start (by decide) (Nat.le_of_ble_eq_true rfl) ?_
  intro p e s m below meth c ls hx hb hml hr hlk hnm hts hown hsz hE hI hl
  have hl : lv_has ls 3 [(0, .ref h0)] := hl
  have hJ_4 : ∀ (N k : Nat) (H : Heap) (locs : List Loc) (ls : Array Slot) (y1 : Int32), 48 + 1 - k ≤ N → k ≤ 48 → sw_I D cl_all (ty_s ca) (va_A (va_pl L f0) sz) s H locs L f0 → lv_has ls 3 [(0, .ref h0), (1, .int (y1)), (2, .int (nI k))] → W p l e { frames := 0, cells := 0, slots := 0, locals := 0 } s m ([.ref h0] : List Value).toArray below meth c H locs 0 0 (MQ below (sm_Qi D (ty_s ca) L f0 sz (fun r u => (True) ∧ u = (L, f0))) ([.ref h0] : List Value).toArray s 0 0 (va_A (va_pl L f0) sz)) (F0 m 4 ls []) := by
    intro N
    induction N with
    | zero => intros; omega
    | succ N ih =>
      intro k H locs ls y1 hN hk hI hl 
      refine lv_iload_n hx hb d_Es_sent_4 rfl (lv_at hl 2 rfl) ?_
      refine lv_aload_n hx hb d_Es_sent_5 rfl (lv_at hl 0 rfl) ?_
      refine fg_Es_many hx hb hts hown hI hT t0 (hts _ tw_238) (fun _ h9 => h9) d_Es_sent_6 (fun n_1 h_2 => ?_)
      refine lv_icmp_ge (tgt := 38) hx hb d_Es_sent_9 (by decide) (fun c_3 => ?_) (fun c_3 => ?_)
      · have k_4 : n_1 ≤ k := (nI_leI (a := n_1) (b := k) (by omega) (by omega)).mp c_3
        refine lv_iload_n hx hb d_Es_sent_38 rfl (lv_at hl 1 rfl) ?_
        exact sm_iret hx hb hr hlk hI ⟨trivial, rfl⟩ d_Es_sent_39
      · have k_5 : k < n_1 := Nat.lt_of_not_le (fun q => c_3 ((nI_leI (a := n_1) (b := k) (by omega) (by omega)).mpr q))
        refine lv_iload_n hx hb d_Es_sent_12 rfl (lv_at hl 1 rfl) ?_
        refine lv_aload_n hx hb d_Es_sent_13 rfl (lv_at hl 0 rfl) ?_
        refine fg_Es_rows hx hb hts hown hI hT t0 (hts _ tw_237) (fun _ h9 => h9) d_Es_sent_14 (fun r_6 t_7 => ?_)
        refine lv_iload_n hx hb d_Es_sent_17 rfl (lv_at hl 2 rfl) ?_
        refine fa_evs (j := k) hx hb hI hT t_7 (by omega) d_Es_sent_18 (fun r_8 t_9 => ?_)
        refine fgN_Ev_line hx hb hts hown hI hT t_9 (va_Nw.use rfl (hE.1 _ tn_222 rfl)) (fun _ h9 => h9) d_Es_sent_19 (fun x_10 => ?_)
        refine lv_if_lt (tgt := 29) hx hb d_Es_sent_22 (by decide) (fun c_11 => ?_) (fun c_11 => ?_)
        · refine lv_iconst (v := 0) hx hb d_Es_sent_29 (by decide) ?_
          refine lv_iadd hx hb d_Es_sent_30 ?_
          refine lv_topi (fun x_12 e_13 => ?_)
          refine lv_istore_n (lv' := [(1, .int (x_12)), (0, .ref h0), (2, .int (nI k))]) hx hb d_Es_sent_31 rfl hl (by decide) rfl (fun ls hl => ?_)
          refine lv_iinc (v := nI (k + 1)) (lv' := [(2, .int (nI (k + 1))), (1, .int (x_12)), (0, .ref h0)]) hx hb d_Es_sent_32 hl (k := 2) rfl (nI_1 _) (by decide) rfl (fun ls hl => ?_)
          refine lv_goto (tgt := 4) hx hb d_Es_sent_35 (by decide) ?_
          exact ih ((k + 1)) _ _ _ x_12 (by omega) (by omega) hI (lv_sub hl [2, 1, 0] rfl) 
        · refine lv_iconst (v := 1) hx hb d_Es_sent_25 (by decide) ?_
          refine lv_goto (tgt := 30) hx hb d_Es_sent_26 (by decide) ?_
          refine lv_iadd hx hb d_Es_sent_30 ?_
          refine lv_topi (fun x_14 e_15 => ?_)
          refine lv_istore_n (lv' := [(1, .int (x_14)), (0, .ref h0), (2, .int (nI k))]) hx hb d_Es_sent_31 rfl hl (by decide) rfl (fun ls hl => ?_)
          refine lv_iinc (v := nI (k + 1)) (lv' := [(2, .int (nI (k + 1))), (1, .int (x_14)), (0, .ref h0)]) hx hb d_Es_sent_32 hl (k := 2) rfl (nI_1 _) (by decide) rfl (fun ls hl => ?_)
          refine lv_goto (tgt := 4) hx hb d_Es_sent_35 (by decide) ?_
          exact ih ((k + 1)) _ _ _ x_14 (by omega) (by omega) hI (lv_sub hl [2, 1, 0] rfl) 
  refine lv_iconst (v := 0) hx hb d_Es_sent_0 (by decide) ?_
  refine lv_istore_n (lv' := [(1, .int (0)), (0, .ref h0)]) hx hb d_Es_sent_1 rfl hl (by decide) rfl (fun ls hl => ?_)
  refine lv_iconst (v := 0) hx hb d_Es_sent_2 (by decide) ?_
  refine lv_istore_n (lv' := [(2, .int (0)), (1, .int (0)), (0, .ref h0)]) hx hb d_Es_sent_3 rfl hl (by decide) rfl (fun ls hl => ?_)
  exact hJ_4 _ (0) _ _ _ 0 (Nat.le_refl _) (by omega) hI (lv_sub hl [2, 1, 0] rfl) 
theorem d_Es_unsend_0 : decode b_Es_unsend 0 = .ok (.iconst 0, 1) := by decide +kernel
theorem d_Es_unsend_1 : decode b_Es_unsend 1 = .ok (.istore_n 2, 1) := by decide +kernel
theorem d_Es_unsend_2 : decode b_Es_unsend 2 = .ok (.iload_n 2, 1) := by decide +kernel
theorem d_Es_unsend_3 : decode b_Es_unsend 3 = .ok (.aload_n 0, 1) := by decide +kernel
theorem d_Es_unsend_4 : decode b_Es_unsend 4 = .ok (.getfield 18, 3) := by decide +kernel
theorem d_Es_unsend_7 : decode b_Es_unsend 7 = .ok (.if_icmp .ge 32, 3) := by decide +kernel
theorem d_Es_unsend_10 : decode b_Es_unsend 10 = .ok (.aload_n 0, 1) := by decide +kernel
theorem d_Es_unsend_11 : decode b_Es_unsend 11 = .ok (.getfield 11, 3) := by decide +kernel
theorem d_Es_unsend_14 : decode b_Es_unsend 14 = .ok (.iload_n 2, 1) := by decide +kernel
theorem d_Es_unsend_15 : decode b_Es_unsend 15 = .ok (.aaload, 1) := by decide +kernel
theorem d_Es_unsend_16 : decode b_Es_unsend 16 = .ok (.getfield 42, 3) := by decide +kernel
theorem d_Es_unsend_19 : decode b_Es_unsend 19 = .ok (.iload_n 1, 1) := by decide +kernel
theorem d_Es_unsend_20 : decode b_Es_unsend 20 = .ok (.if_icmp .ne 13, 3) := by decide +kernel
theorem d_Es_unsend_23 : decode b_Es_unsend 23 = .ok (.aload_n 0, 1) := by decide +kernel
theorem d_Es_unsend_24 : decode b_Es_unsend 24 = .ok (.getfield 11, 3) := by decide +kernel
theorem d_Es_unsend_27 : decode b_Es_unsend 27 = .ok (.iload_n 2, 1) := by decide +kernel
theorem d_Es_unsend_28 : decode b_Es_unsend 28 = .ok (.aaload, 1) := by decide +kernel
theorem d_Es_unsend_29 : decode b_Es_unsend 29 = .ok (.iconst (-1), 1) := by decide +kernel
theorem d_Es_unsend_30 : decode b_Es_unsend 30 = .ok (.putfield 42, 3) := by decide +kernel
theorem d_Es_unsend_33 : decode b_Es_unsend 33 = .ok (.iinc 2 1, 3) := by decide +kernel
theorem d_Es_unsend_36 : decode b_Es_unsend 36 = .ok (.goto (-34), 3) := by decide +kernel
theorem d_Es_unsend_39 : decode b_Es_unsend 39 = .ok (.return_, 1) := by decide +kernel
set_option maxRecDepth 100000 in
set_option maxHeartbeats 4000000 in
theorem c_Es_unsend (l : Launch) (D : va_G) (ca : Nat → ClassId) (T : ty_e) (L : List Nat) (f0 : Nat → va_E) (sz : Nat) (hT : ok_T ca T L f0) (h0 : Nat) (t0 : T h0 = some (ty_es)) (x1 : Int32) :
    Met l y_Es_unsend (Cond.code y_Es_unsend b_Es_unsend 3 none :: wg) { frames := 0, cells := 0, slots := 0, locals := 0 } (va_Pc [.ref h0, .int (x1)] (sm_P D cl_all (ty_s ca) ek L f0 sz)) (sm_Qv D (ty_s ca) L f0 sz (fun u => po_m ca T L u)) 0 0 (va_A (va_pl L f0) sz) := by
  refine sm_start (by decide) (Nat.le_of_ble_eq_true rfl) ?_
  intro p e s m below meth c ls hx hb hml hr hlk hnm hts hown hsz hE hI hl
  have hl : lv_has ls 3 [(0, .ref h0), (1, .int (x1))] := hl
  have hJ_2 : ∀ (N k : Nat) (H : Heap) (locs : List Loc) (f : Nat → va_E) (ls : Array Slot) , 48 + 1 - k ≤ N → k ≤ 48 → sw_I D cl_all (ty_s ca) (va_A (va_pl L f0) sz) s H locs L f → ok_T ca T L f → lv_has ls 3 [(0, .ref h0), (1, .int (x1)), (2, .int (nI k))] → W p l e { frames := 0, cells := 0, slots := 0, locals := 0 } s m ([.ref h0, .int (x1)] : List Value).toArray below meth c H locs 0 0 (MQ below (sm_Qv D (ty_s ca) L f0 sz (fun u => po_m ca T L u)) ([.ref h0, .int (x1)] : List Value).toArray s 0 0 (va_A (va_pl L f0) sz)) (F0 m 2 ls []) := by
    intro N
    induction N with
    | zero => intros; omega
    | succ N ih =>
      intro k H locs f ls  hN hk hI hT hl 
      refine lv_iload_n hx hb d_Es_unsend_2 rfl (lv_at hl 2 rfl) ?_
      refine lv_aload_n hx hb d_Es_unsend_3 rfl (lv_at hl 0 rfl) ?_
      refine fg_Es_many hx hb hts hown hI hT t0 (hts _ tw_238) (fun _ h9 => h9) d_Es_unsend_4 (fun n_1 h_2 => ?_)
      refine lv_icmp_ge (tgt := 39) hx hb d_Es_unsend_7 (by decide) (fun c_3 => ?_) (fun c_3 => ?_)
      · have k_4 : n_1 ≤ k := (nI_leI (a := n_1) (b := k) (by omega) (by omega)).mp c_3
        exact sm_vret hx hb hr hlk hI ⟨rfl, hT⟩ d_Es_unsend_39
      · have k_5 : k < n_1 := Nat.lt_of_not_le (fun q => c_3 ((nI_leI (a := n_1) (b := k) (by omega) (by omega)).mpr q))
        refine lv_aload_n hx hb d_Es_unsend_10 rfl (lv_at hl 0 rfl) ?_
        refine fg_Es_rows hx hb hts hown hI hT t0 (hts _ tw_237) (fun _ h9 => h9) d_Es_unsend_11 (fun r_6 t_7 => ?_)
        refine lv_iload_n hx hb d_Es_unsend_14 rfl (lv_at hl 2 rfl) ?_
        refine fa_evs (j := k) hx hb hI hT t_7 (by omega) d_Es_unsend_15 (fun r_8 t_9 => ?_)
        refine fgN_Ev_line hx hb hts hown hI hT t_9 (va_Nw.use rfl (hE.1 _ tn_222 rfl)) (fun _ h9 => h9) d_Es_unsend_16 (fun x_10 => ?_)
        refine lv_iload_n hx hb d_Es_unsend_19 rfl (lv_at hl 1 rfl) ?_
        refine lv_icmp_ne (tgt := 33) hx hb d_Es_unsend_20 (by decide) (fun c_11 => ?_) (fun c_11 => ?_)
        · refine lv_iinc (v := nI (k + 1)) (lv' := [(2, .int (nI (k + 1))), (0, .ref h0), (1, .int (x1))]) hx hb d_Es_unsend_33 hl (k := 2) rfl (nI_1 _) (by decide) rfl (fun ls hl => ?_)
          refine lv_goto (tgt := 2) hx hb d_Es_unsend_36 (by decide) ?_
          exact ih ((k + 1)) _ _ _ _  (by omega) (by omega) hI hT (lv_sub hl [1, 2, 0] rfl) 
        · refine lv_aload_n hx hb d_Es_unsend_23 rfl (lv_at hl 0 rfl) ?_
          refine fg_Es_rows hx hb hts hown hI hT t0 (hts _ tw_237) (fun _ h9 => h9) d_Es_unsend_24 (fun r_12 t_13 => ?_)
          refine lv_iload_n hx hb d_Es_unsend_27 rfl (lv_at hl 2 rfl) ?_
          refine fa_evs (j := k) hx hb hI hT t_13 (by omega) d_Es_unsend_28 (fun r_14 t_15 => ?_)
          refine lv_iconst (v := -1) hx hb d_Es_unsend_29 (by decide) ?_
          refine fpN_Ev_line hx hb hts hown hI hT t_15 (va_Nw.use rfl (hE.1 _ tn_222 rfl)) (fun _ h9 => h9) d_Es_unsend_30 (fun H locs f hI hT => ?_)
          refine lv_iinc (v := nI (k + 1)) (lv' := [(2, .int (nI (k + 1))), (0, .ref h0), (1, .int (x1))]) hx hb d_Es_unsend_33 hl (k := 2) rfl (nI_1 _) (by decide) rfl (fun ls hl => ?_)
          refine lv_goto (tgt := 2) hx hb d_Es_unsend_36 (by decide) ?_
          exact ih ((k + 1)) _ _ _ _  (by omega) (by omega) hI hT (lv_sub hl [1, 2, 0] rfl) 
  refine lv_iconst (v := 0) hx hb d_Es_unsend_0 (by decide) ?_
  refine lv_istore_n (lv' := [(2, .int (0)), (0, .ref h0), (1, .int (x1))]) hx hb d_Es_unsend_1 rfl hl (by decide) rfl (fun ls hl => ?_)
  exact hJ_2 _ (0) _ _ _ _  (Nat.le_refl _) (by omega) hI hT (lv_sub hl [1, 2, 0] rfl) 
theorem d_Es_unsendAllBut_0 : decode b_Es_unsendAllBut 0 = .ok (.iconst 0, 1) := by decide +kernel
theorem d_Es_unsendAllBut_1 : decode b_Es_unsendAllBut 1 = .ok (.istore_n 2, 1) := by decide +kernel
theorem d_Es_unsendAllBut_2 : decode b_Es_unsendAllBut 2 = .ok (.iload_n 2, 1) := by decide +kernel
theorem d_Es_unsendAllBut_3 : decode b_Es_unsendAllBut 3 = .ok (.aload_n 0, 1) := by decide +kernel
theorem d_Es_unsendAllBut_4 : decode b_Es_unsendAllBut 4 = .ok (.getfield 18, 3) := by decide +kernel
theorem d_Es_unsendAllBut_7 : decode b_Es_unsendAllBut 7 = .ok (.if_icmp .ge 32, 3) := by decide +kernel
theorem d_Es_unsendAllBut_10 : decode b_Es_unsendAllBut 10 = .ok (.aload_n 0, 1) := by decide +kernel
theorem d_Es_unsendAllBut_11 : decode b_Es_unsendAllBut 11 = .ok (.getfield 11, 3) := by decide +kernel
theorem d_Es_unsendAllBut_14 : decode b_Es_unsendAllBut 14 = .ok (.iload_n 2, 1) := by decide +kernel
theorem d_Es_unsendAllBut_15 : decode b_Es_unsendAllBut 15 = .ok (.aaload, 1) := by decide +kernel
theorem d_Es_unsendAllBut_16 : decode b_Es_unsendAllBut 16 = .ok (.getfield 42, 3) := by decide +kernel
theorem d_Es_unsendAllBut_19 : decode b_Es_unsendAllBut 19 = .ok (.iload_n 1, 1) := by decide +kernel
theorem d_Es_unsendAllBut_20 : decode b_Es_unsendAllBut 20 = .ok (.if_icmp .eq 13, 3) := by decide +kernel
theorem d_Es_unsendAllBut_23 : decode b_Es_unsendAllBut 23 = .ok (.aload_n 0, 1) := by decide +kernel
theorem d_Es_unsendAllBut_24 : decode b_Es_unsendAllBut 24 = .ok (.getfield 11, 3) := by decide +kernel
theorem d_Es_unsendAllBut_27 : decode b_Es_unsendAllBut 27 = .ok (.iload_n 2, 1) := by decide +kernel
theorem d_Es_unsendAllBut_28 : decode b_Es_unsendAllBut 28 = .ok (.aaload, 1) := by decide +kernel
theorem d_Es_unsendAllBut_29 : decode b_Es_unsendAllBut 29 = .ok (.iconst (-1), 1) := by decide +kernel
theorem d_Es_unsendAllBut_30 : decode b_Es_unsendAllBut 30 = .ok (.putfield 42, 3) := by decide +kernel
theorem d_Es_unsendAllBut_33 : decode b_Es_unsendAllBut 33 = .ok (.iinc 2 1, 3) := by decide +kernel
theorem d_Es_unsendAllBut_36 : decode b_Es_unsendAllBut 36 = .ok (.goto (-34), 3) := by decide +kernel
theorem d_Es_unsendAllBut_39 : decode b_Es_unsendAllBut 39 = .ok (.return_, 1) := by decide +kernel
set_option maxRecDepth 100000 in
set_option maxHeartbeats 4000000 in
theorem c_Es_unsendAllBut (l : Launch) (D : va_G) (ca : Nat → ClassId) (T : ty_e) (L : List Nat) (f0 : Nat → va_E) (sz : Nat) (hT : ok_T ca T L f0) (h0 : Nat) (t0 : T h0 = some (ty_es)) (x1 : Int32) :
    Met l y_Es_unsendAllBut (Cond.code y_Es_unsendAllBut b_Es_unsendAllBut 3 none :: wg) { frames := 0, cells := 0, slots := 0, locals := 0 } (va_Pc [.ref h0, .int (x1)] (sm_P D cl_all (ty_s ca) ek L f0 sz)) (sm_Qv D (ty_s ca) L f0 sz (fun u => po_m ca T L u)) 0 0 (va_A (va_pl L f0) sz) := by
  refine sm_start (by decide) (Nat.le_of_ble_eq_true rfl) ?_
  intro p e s m below meth c ls hx hb hml hr hlk hnm hts hown hsz hE hI hl
  have hl : lv_has ls 3 [(0, .ref h0), (1, .int (x1))] := hl
  have hJ_2 : ∀ (N k : Nat) (H : Heap) (locs : List Loc) (f : Nat → va_E) (ls : Array Slot) , 48 + 1 - k ≤ N → k ≤ 48 → sw_I D cl_all (ty_s ca) (va_A (va_pl L f0) sz) s H locs L f → ok_T ca T L f → lv_has ls 3 [(0, .ref h0), (1, .int (x1)), (2, .int (nI k))] → W p l e { frames := 0, cells := 0, slots := 0, locals := 0 } s m ([.ref h0, .int (x1)] : List Value).toArray below meth c H locs 0 0 (MQ below (sm_Qv D (ty_s ca) L f0 sz (fun u => po_m ca T L u)) ([.ref h0, .int (x1)] : List Value).toArray s 0 0 (va_A (va_pl L f0) sz)) (F0 m 2 ls []) := by
    intro N
    induction N with
    | zero => intros; omega
    | succ N ih =>
      intro k H locs f ls  hN hk hI hT hl 
      refine lv_iload_n hx hb d_Es_unsendAllBut_2 rfl (lv_at hl 2 rfl) ?_
      refine lv_aload_n hx hb d_Es_unsendAllBut_3 rfl (lv_at hl 0 rfl) ?_
      refine fg_Es_many hx hb hts hown hI hT t0 (hts _ tw_238) (fun _ h9 => h9) d_Es_unsendAllBut_4 (fun n_1 h_2 => ?_)
      refine lv_icmp_ge (tgt := 39) hx hb d_Es_unsendAllBut_7 (by decide) (fun c_3 => ?_) (fun c_3 => ?_)
      · have k_4 : n_1 ≤ k := (nI_leI (a := n_1) (b := k) (by omega) (by omega)).mp c_3
        exact sm_vret hx hb hr hlk hI ⟨rfl, hT⟩ d_Es_unsendAllBut_39
      · have k_5 : k < n_1 := Nat.lt_of_not_le (fun q => c_3 ((nI_leI (a := n_1) (b := k) (by omega) (by omega)).mpr q))
        refine lv_aload_n hx hb d_Es_unsendAllBut_10 rfl (lv_at hl 0 rfl) ?_
        refine fg_Es_rows hx hb hts hown hI hT t0 (hts _ tw_237) (fun _ h9 => h9) d_Es_unsendAllBut_11 (fun r_6 t_7 => ?_)
        refine lv_iload_n hx hb d_Es_unsendAllBut_14 rfl (lv_at hl 2 rfl) ?_
        refine fa_evs (j := k) hx hb hI hT t_7 (by omega) d_Es_unsendAllBut_15 (fun r_8 t_9 => ?_)
        refine fgN_Ev_line hx hb hts hown hI hT t_9 (va_Nw.use rfl (hE.1 _ tn_222 rfl)) (fun _ h9 => h9) d_Es_unsendAllBut_16 (fun x_10 => ?_)
        refine lv_iload_n hx hb d_Es_unsendAllBut_19 rfl (lv_at hl 1 rfl) ?_
        refine lv_icmp_eq (tgt := 33) hx hb d_Es_unsendAllBut_20 (by decide) (fun c_11 => ?_) (fun c_11 => ?_)
        · refine lv_iinc (v := nI (k + 1)) (lv' := [(2, .int (nI (k + 1))), (0, .ref h0), (1, .int (x1))]) hx hb d_Es_unsendAllBut_33 hl (k := 2) rfl (nI_1 _) (by decide) rfl (fun ls hl => ?_)
          refine lv_goto (tgt := 2) hx hb d_Es_unsendAllBut_36 (by decide) ?_
          exact ih ((k + 1)) _ _ _ _  (by omega) (by omega) hI hT (lv_sub hl [1, 2, 0] rfl) 
        · refine lv_aload_n hx hb d_Es_unsendAllBut_23 rfl (lv_at hl 0 rfl) ?_
          refine fg_Es_rows hx hb hts hown hI hT t0 (hts _ tw_237) (fun _ h9 => h9) d_Es_unsendAllBut_24 (fun r_12 t_13 => ?_)
          refine lv_iload_n hx hb d_Es_unsendAllBut_27 rfl (lv_at hl 2 rfl) ?_
          refine fa_evs (j := k) hx hb hI hT t_13 (by omega) d_Es_unsendAllBut_28 (fun r_14 t_15 => ?_)
          refine lv_iconst (v := -1) hx hb d_Es_unsendAllBut_29 (by decide) ?_
          refine fpN_Ev_line hx hb hts hown hI hT t_15 (va_Nw.use rfl (hE.1 _ tn_222 rfl)) (fun _ h9 => h9) d_Es_unsendAllBut_30 (fun H locs f hI hT => ?_)
          refine lv_iinc (v := nI (k + 1)) (lv' := [(2, .int (nI (k + 1))), (0, .ref h0), (1, .int (x1))]) hx hb d_Es_unsendAllBut_33 hl (k := 2) rfl (nI_1 _) (by decide) rfl (fun ls hl => ?_)
          refine lv_goto (tgt := 2) hx hb d_Es_unsendAllBut_36 (by decide) ?_
          exact ih ((k + 1)) _ _ _ _  (by omega) (by omega) hI hT (lv_sub hl [1, 2, 0] rfl) 
  refine lv_iconst (v := 0) hx hb d_Es_unsendAllBut_0 (by decide) ?_
  refine lv_istore_n (lv' := [(2, .int (0)), (0, .ref h0), (1, .int (x1))]) hx hb d_Es_unsendAllBut_1 rfl hl (by decide) rfl (fun ls hl => ?_)
  exact hJ_2 _ (0) _ _ _ _  (Nat.le_refl _) (by omega) hI hT (lv_sub hl [1, 2, 0] rfl) 
