/-! Answers (written by wip/tools) -/
theorem d_As_get_0 : decode b_As_get 0 = .ok (.aload_n 0, 1) := by decide +kernel
theorem d_As_get_1 : decode b_As_get 1 = .ok (.getfield 11, 3) := by decide +kernel
theorem d_As_get_4 : decode b_As_get 4 = .ok (.aload_n 0, 1) := by decide +kernel
theorem d_As_get_5 : decode b_As_get 5 = .ok (.getfield 18, 3) := by decide +kernel
theorem d_As_get_8 : decode b_As_get 8 = .ok (.iload_n 1, 1) := by decide +kernel
theorem d_As_get_9 : decode b_As_get 9 = .ok (.iadd, 1) := by decide +kernel
theorem d_As_get_10 : decode b_As_get 10 = .ok (.bipush 16, 2) := by decide +kernel
theorem d_As_get_12 : decode b_As_get 12 = .ok (.irem, 1) := by decide +kernel
theorem d_As_get_13 : decode b_As_get 13 = .ok (.aaload, 1) := by decide +kernel
theorem d_As_get_14 : decode b_As_get 14 = .ok (.areturn, 1) := by decide +kernel
set_option maxRecDepth 100000 in
set_option maxHeartbeats 4000000 in
theorem c_As_get (l : Launch) (D : va_G) (ca : Nat → ClassId) (T : ty_e) (L : List Nat) (f0 : Nat → va_E) (sz : Nat) (hT : ok_T ca T L f0) (h0 : Nat) (t0 : T h0 = some (ty_as)) (j1 : Nat) (q1 : j1 ≤ 16) :
    Met l y_As_get (Cond.code y_As_get b_As_get 2 (some (.object "TelecontrolPost$Answer")) :: wg) { frames := 0, cells := 0, slots := 0, locals := 0 } (va_Pc [.ref h0, .int (nI j1)] (sm_P D cl_all (ty_s ca) ek L f0 sz)) (sm_Qq D (ty_s ca) L f0 sz (fun r u => (∃ b : Nat, r = some b ∧ T b = some (ty_an)) ∧ u = (L, f0))) 0 0 (va_A (va_pl L f0) sz) := by
  refine sm_start (by decide) (Nat.le_of_ble_eq_true rfl) ?_
  intro p e s m below meth c ls hx hb hml hr hlk hnm hts hown hsz hE hI hl
  have hl : lv_has ls 2 [(0, .ref h0), (1, .int (nI j1))] := hl
  refine lv_aload_n hx hb d_As_get_0 rfl (lv_at hl 0 rfl) ?_
  refine fg_As_rows hx hb hts hown hI hT t0 (hts _ tw_98) (fun _ h9 => h9) d_As_get_1 (fun r_1 t_2 => ?_)
  refine lv_aload_n hx hb d_As_get_4 rfl (lv_at hl 0 rfl) ?_
  refine fg_As_start hx hb hts hown hI hT t0 (hts _ tw_99) (fun _ h9 => h9) d_As_get_5 (fun n_3 h_4 => ?_)
  refine lv_iload_n hx hb d_As_get_8 rfl (lv_at hl 1 rfl) ?_
  refine lv_iadd hx hb d_As_get_9 ?_
  refine lv_topi (fun x_5 e_6 => ?_)
  obtain rfl : x_5 = nI (n_3 + j1) := by rw [e_6]; exact nI_add _ _
  refine lv_bipush (v := 16) hx hb d_As_get_10 (by decide) ?_
  refine lv_irem hx hb d_As_get_12 (by decide) ?_
  refine lv_topi (fun x_7 e_8 => ?_)
  obtain rfl : x_7 = nI ((n_3 + j1) % 16) := by rw [e_8]; exact pk_rem (a := (n_3 + j1)) (d := 16) (by omega) (by omega) (by omega)
  refine fa_ans (j := ((n_3 + j1) % 16)) hx hb hI hT t_2 (by omega) d_As_get_13 (fun r_9 t_10 => ?_)
  exact sm_qret (v := some r_9) hx hb hr (Or.inl ⟨_, rfl⟩) hlk hI ⟨⟨_, rfl, t_10⟩, rfl⟩ d_As_get_14
theorem d_As_first_0 : decode b_As_first 0 = .ok (.aload_n 0, 1) := by decide +kernel
theorem d_As_first_1 : decode b_As_first 1 = .ok (.getfield 22, 3) := by decide +kernel
theorem d_As_first_4 : decode b_As_first 4 = .ok (.ifCond .ne 7, 3) := by decide +kernel
theorem d_As_first_7 : decode b_As_first 7 = .ok (.aconst_null, 1) := by decide +kernel
theorem d_As_first_8 : decode b_As_first 8 = .ok (.goto 8, 3) := by decide +kernel
theorem d_As_first_11 : decode b_As_first 11 = .ok (.aload_n 0, 1) := by decide +kernel
theorem d_As_first_12 : decode b_As_first 12 = .ok (.iconst 0, 1) := by decide +kernel
theorem d_As_first_13 : decode b_As_first 13 = .ok (.invokevirtual 25, 3) := by decide +kernel
theorem d_As_first_16 : decode b_As_first 16 = .ok (.areturn, 1) := by decide +kernel
set_option maxRecDepth 100000 in
set_option maxHeartbeats 4000000 in
theorem c_As_first (l : Launch) (D : va_G) (ca : Nat → ClassId) (T : ty_e) (L : List Nat) (f0 : Nat → va_E) (sz : Nat) (hT : ok_T ca T L f0) (h0 : Nat) (t0 : T h0 = some (ty_as)) :
    Met l y_As_first (Cond.code y_As_first b_As_first 1 (some (.object "TelecontrolPost$Answer")) :: wg) { frames := 1, cells := 0, slots := 0, locals := 21 } (va_Pc [.ref h0] (sm_P D cl_all (ty_s ca) ek L f0 sz)) (sm_Qq D (ty_s ca) L f0 sz (fun r u => (∀ b : Nat, r = some b → T b = some (ty_an)) ∧ u = (L, f0))) 0 0 (va_A (va_pl L f0) sz) := by
  refine sm_start (by decide) (Nat.le_of_ble_eq_true rfl) ?_
  intro p e s m below meth c ls hx hb hml hr hlk hnm hts hown hsz hE hI hl
  have hl : lv_has ls 1 [(0, .ref h0)] := hl
  refine lv_aload_n hx hb d_As_first_0 rfl (lv_at hl 0 rfl) ?_
  refine fg_As_many hx hb hts hown hI hT t0 (hts _ tw_100) (fun _ h9 => h9) d_As_first_1 (fun n_1 h_2 => ?_)
  refine lv_if_ne (tgt := 11) hx hb d_As_first_4 (by decide) (fun c_3 => ?_) (fun c_3 => ?_)
  · have k_4 : 0 < n_1 := Nat.pos_of_ne_zero (fun q => c_3 (by rw [q]; decide))
    refine lv_aload_n hx hb d_As_first_11 rfl (lv_at hl 0 rfl) ?_
    refine lv_iconst (v := 0) hx hb d_As_first_12 (by decide) ?_
    refine sm_qP hI (va_runV (As := [.int (0)]) (rest := []) ⟨hx, hb, hml, hown, hts⟩ (c_As_get l D ca _ _ _ _ hT h0 t0 (0) (by omega)) (kv_As_get hts rfl rfl (hts _ tw_669) ⟨Nat.le_of_ble_eq_true rfl, Nat.le_of_ble_eq_true rfl⟩) (pv_As hI hE hT t0) rfl rfl hl.1 rfl (lv_room (Nat.le_of_ble_eq_true rfl)) d_As_first_13 ⟨Nat.le_of_ble_eq_true rfl, Nat.le_of_ble_eq_true rfl⟩) (fun o_5 H locs p_6 hI => ?_)
    obtain ⟨r_7, rfl, t_8⟩ := p_6
    exact sm_qret (v := some r_7) hx hb hr (Or.inl ⟨_, rfl⟩) hlk hI ⟨(fun b h => by cases h; exact t_8), rfl⟩ d_As_first_16
  · refine lv_null hx hb d_As_first_7 ?_
    refine lv_goto (tgt := 16) hx hb d_As_first_8 (by decide) ?_
    exact sm_qret (v := none) hx hb hr (Or.inl ⟨_, rfl⟩) hlk hI ⟨(fun b h => by cases h), rfl⟩ d_As_first_16
theorem d_As_add_0 : decode b_As_add 0 = .ok (.aload_n 0, 1) := by decide +kernel
theorem d_As_add_1 : decode b_As_add 1 = .ok (.getfield 22, 3) := by decide +kernel
theorem d_As_add_4 : decode b_As_add 4 = .ok (.bipush 16, 2) := by decide +kernel
theorem d_As_add_6 : decode b_As_add 6 = .ok (.if_icmp .ne 5, 3) := by decide +kernel
theorem d_As_add_9 : decode b_As_add 9 = .ok (.aconst_null, 1) := by decide +kernel
theorem d_As_add_10 : decode b_As_add 10 = .ok (.areturn, 1) := by decide +kernel
theorem d_As_add_11 : decode b_As_add 11 = .ok (.aload_n 0, 1) := by decide +kernel
theorem d_As_add_12 : decode b_As_add 12 = .ok (.getfield 11, 3) := by decide +kernel
theorem d_As_add_15 : decode b_As_add 15 = .ok (.aload_n 0, 1) := by decide +kernel
theorem d_As_add_16 : decode b_As_add 16 = .ok (.getfield 18, 3) := by decide +kernel
theorem d_As_add_19 : decode b_As_add 19 = .ok (.aload_n 0, 1) := by decide +kernel
theorem d_As_add_20 : decode b_As_add 20 = .ok (.getfield 22, 3) := by decide +kernel
theorem d_As_add_23 : decode b_As_add 23 = .ok (.iadd, 1) := by decide +kernel
theorem d_As_add_24 : decode b_As_add 24 = .ok (.bipush 16, 2) := by decide +kernel
theorem d_As_add_26 : decode b_As_add 26 = .ok (.irem, 1) := by decide +kernel
theorem d_As_add_27 : decode b_As_add 27 = .ok (.aaload, 1) := by decide +kernel
theorem d_As_add_28 : decode b_As_add 28 = .ok (.astore_n 1, 1) := by decide +kernel
theorem d_As_add_29 : decode b_As_add 29 = .ok (.aload_n 0, 1) := by decide +kernel
theorem d_As_add_30 : decode b_As_add 30 = .ok (.dup, 1) := by decide +kernel
theorem d_As_add_31 : decode b_As_add 31 = .ok (.getfield 22, 3) := by decide +kernel
theorem d_As_add_34 : decode b_As_add 34 = .ok (.iconst 1, 1) := by decide +kernel
theorem d_As_add_35 : decode b_As_add 35 = .ok (.iadd, 1) := by decide +kernel
theorem d_As_add_36 : decode b_As_add 36 = .ok (.putfield 22, 3) := by decide +kernel
theorem d_As_add_39 : decode b_As_add 39 = .ok (.aload_n 1, 1) := by decide +kernel
theorem d_As_add_40 : decode b_As_add 40 = .ok (.iconst 0, 1) := by decide +kernel
theorem d_As_add_41 : decode b_As_add 41 = .ok (.putfield 29, 3) := by decide +kernel
theorem d_As_add_44 : decode b_As_add 44 = .ok (.aload_n 1, 1) := by decide +kernel
theorem d_As_add_45 : decode b_As_add 45 = .ok (.iconst 0, 1) := by decide +kernel
theorem d_As_add_46 : decode b_As_add 46 = .ok (.putfield 33, 3) := by decide +kernel
theorem d_As_add_49 : decode b_As_add 49 = .ok (.aload_n 1, 1) := by decide +kernel
theorem d_As_add_50 : decode b_As_add 50 = .ok (.iconst 0, 1) := by decide +kernel
theorem d_As_add_51 : decode b_As_add 51 = .ok (.putfield 36, 3) := by decide +kernel
theorem d_As_add_54 : decode b_As_add 54 = .ok (.aload_n 1, 1) := by decide +kernel
theorem d_As_add_55 : decode b_As_add 55 = .ok (.areturn, 1) := by decide +kernel
set_option maxRecDepth 100000 in
set_option maxHeartbeats 4000000 in
theorem c_As_add (l : Launch) (D : va_G) (ca : Nat → ClassId) (T : ty_e) (L : List Nat) (f0 : Nat → va_E) (sz : Nat) (hT : ok_T ca T L f0) (h0 : Nat) (t0 : T h0 = some (ty_as)) :
    Met l y_As_add (Cond.code y_As_add b_As_add 2 (some (.object "TelecontrolPost$Answer")) :: wg) { frames := 0, cells := 0, slots := 0, locals := 0 } (va_Pc [.ref h0] (sm_P D cl_all (ty_s ca) ek L f0 sz)) (sm_Qq D (ty_s ca) L f0 sz (fun r u => (∀ b : Nat, r = some b → T b = some (ty_an)) ∧ po_m ca T L u)) 0 0 (va_A (va_pl L f0) sz) := by
  refine sm_start (by decide) (Nat.le_of_ble_eq_true rfl) ?_
  intro p e s m below meth c ls hx hb hml hr hlk hnm hts hown hsz hE hI hl
  have hl : lv_has ls 2 [(0, .ref h0)] := hl
  obtain ⟨-, v0, v1, v2, e0, w0, w1, w2⟩ := ok_as_at hT t0
  refine lv_aload_n hx hb d_As_add_0 rfl (lv_at hl 0 rfl) ?_
  refine fh_As_many hx hb hts hown hI hT t0 e0 w0 w1 w2 (hts _ tw_100) (fun _ h9 => h9) d_As_add_1 ?_
  refine lv_bipush (v := 16) hx hb d_As_add_4 (by decide) ?_
  refine lv_icmp_ne (tgt := 11) hx hb d_As_add_6 (by decide) (fun c_1 => ?_) (fun c_1 => ?_)
  · have k_2 : ¬ v2 = 16 := (fun q => c_1 ((nI_eq (a := v2) (b := 16) (by omega) (by omega)).mpr q))
    refine lv_aload_n hx hb d_As_add_11 rfl (lv_at hl 0 rfl) ?_
    refine fh_As_rows hx hb hts hown hI hT t0 e0 w0 w1 w2 (hts _ tw_98) (fun _ h9 => h9) d_As_add_12 ?_
    refine lv_aload_n hx hb d_As_add_15 rfl (lv_at hl 0 rfl) ?_
    refine fh_As_start hx hb hts hown hI hT t0 e0 w0 w1 w2 (hts _ tw_99) (fun _ h9 => h9) d_As_add_16 ?_
    refine lv_aload_n hx hb d_As_add_19 rfl (lv_at hl 0 rfl) ?_
    refine fh_As_many hx hb hts hown hI hT t0 e0 w0 w1 w2 (hts _ tw_100) (fun _ h9 => h9) d_As_add_20 ?_
    refine lv_iadd hx hb d_As_add_23 ?_
    refine lv_topi (fun x_3 e_4 => ?_)
    obtain rfl : x_3 = nI (v1 + v2) := by rw [e_4]; exact nI_add _ _
    refine lv_bipush (v := 16) hx hb d_As_add_24 (by decide) ?_
    refine lv_irem hx hb d_As_add_26 (by decide) ?_
    refine lv_topi (fun x_5 e_6 => ?_)
    obtain rfl : x_5 = nI ((v1 + v2) % 16) := by rw [e_6]; exact pk_rem (a := (v1 + v2)) (d := 16) (by omega) (by omega) (by omega)
    refine fa_ans (j := ((v1 + v2) % 16)) hx hb hI hT w0 (by omega) d_As_add_27 (fun r_7 t_8 => ?_)
    refine lv_astore_n (lv' := [(1, .ref r_7), (0, .ref h0)]) hx hb d_As_add_28 rfl hl (by decide) rfl (fun ls hl => ?_)
    refine lv_aload_n hx hb d_As_add_29 rfl (lv_at hl 1 rfl) ?_
    refine lv_dup hx hb d_As_add_30 rfl ?_
    refine fh_As_many hx hb hts hown hI hT t0 e0 w0 w1 w2 (hts _ tw_100) (fun _ h9 => h9) d_As_add_31 ?_
    refine lv_iconst (v := 1) hx hb d_As_add_34 (by decide) ?_
    refine lv_iadd hx hb d_As_add_35 ?_
    refine lv_topi (fun x_9 e_10 => ?_)
    obtain rfl : x_9 = nI (v2 + 1) := by rw [e_10]; exact nI_add _ _
    have w_11 : (v2 + 1) ≤ 16 := by omega
    refine fq_As_many hx hb hts hown hI hT t0 e0 w0 w1 w2 (hts _ tw_100) (fun _ h9 => h9) (v := (v2 + 1)) w_11 d_As_add_36 (fun H locs f hI hT e0 hkk => ?_)
    refine lv_aload_n hx hb d_As_add_39 rfl (lv_at hl 0 rfl) ?_
    refine lv_iconst (v := 0) hx hb d_As_add_40 (by decide) ?_
    refine fpN_An_interrogates hx hb hts hown hI hT t_8 (va_Nw.use rfl (hE.1 _ tn_75 rfl)) (fun _ h9 => h9) (by decide) d_As_add_41 (fun H locs f hI hT => ?_)
    refine lv_aload_n hx hb d_As_add_44 rfl (lv_at hl 0 rfl) ?_
    refine lv_iconst (v := 0) hx hb d_As_add_45 (by decide) ?_
    refine fpN_An_begun hx hb hts hown hI hT t_8 (va_Nw.use rfl (hE.1 _ tn_79 rfl)) (fun _ h9 => h9) (by decide) d_As_add_46 (fun H locs f hI hT => ?_)
    refine lv_aload_n hx hb d_As_add_49 rfl (lv_at hl 0 rfl) ?_
    refine lv_iconst (v := 0) hx hb d_As_add_50 (by decide) ?_
    refine fpN_An_lastTold hx hb hts hown hI hT t_8 (va_Nw.use rfl (hE.1 _ tn_83 rfl)) (fun _ h9 => h9) d_As_add_51 (fun H locs f hI hT => ?_)
    refine lv_aload_n hx hb d_As_add_54 rfl (lv_at hl 0 rfl) ?_
    exact sm_qret (v := some r_7) hx hb hr (Or.inl ⟨_, rfl⟩) hlk hI ⟨(fun b h => by cases h; exact t_8), ⟨rfl, hT⟩⟩ d_As_add_55
  · have k_12 : v2 = 16 := (nI_eq (a := v2) (b := 16) (by omega) (by omega)).mp c_1
    refine lv_null hx hb d_As_add_9 ?_
    exact sm_qret (v := none) hx hb hr (Or.inl ⟨_, rfl⟩) hlk hI ⟨(fun b h => by cases h), ⟨rfl, hT⟩⟩ d_As_add_10
theorem d_As_removeFirst_0 : decode b_As_removeFirst 0 = .ok (.aload_n 0, 1) := by decide +kernel
theorem d_As_removeFirst_1 : decode b_As_removeFirst 1 = .ok (.getfield 22, 3) := by decide +kernel
theorem d_As_removeFirst_4 : decode b_As_removeFirst 4 = .ok (.ifCond .le 26, 3) := by decide +kernel
theorem d_As_removeFirst_7 : decode b_As_removeFirst 7 = .ok (.aload_n 0, 1) := by decide +kernel
theorem d_As_removeFirst_8 : decode b_As_removeFirst 8 = .ok (.aload_n 0, 1) := by decide +kernel
theorem d_As_removeFirst_9 : decode b_As_removeFirst 9 = .ok (.getfield 18, 3) := by decide +kernel
theorem d_As_removeFirst_12 : decode b_As_removeFirst 12 = .ok (.iconst 1, 1) := by decide +kernel
theorem d_As_removeFirst_13 : decode b_As_removeFirst 13 = .ok (.iadd, 1) := by decide +kernel
theorem d_As_removeFirst_14 : decode b_As_removeFirst 14 = .ok (.bipush 16, 2) := by decide +kernel
theorem d_As_removeFirst_16 : decode b_As_removeFirst 16 = .ok (.irem, 1) := by decide +kernel
theorem d_As_removeFirst_17 : decode b_As_removeFirst 17 = .ok (.putfield 18, 3) := by decide +kernel
theorem d_As_removeFirst_20 : decode b_As_removeFirst 20 = .ok (.aload_n 0, 1) := by decide +kernel
theorem d_As_removeFirst_21 : decode b_As_removeFirst 21 = .ok (.dup, 1) := by decide +kernel
theorem d_As_removeFirst_22 : decode b_As_removeFirst 22 = .ok (.getfield 22, 3) := by decide +kernel
theorem d_As_removeFirst_25 : decode b_As_removeFirst 25 = .ok (.iconst 1, 1) := by decide +kernel
theorem d_As_removeFirst_26 : decode b_As_removeFirst 26 = .ok (.isub, 1) := by decide +kernel
theorem d_As_removeFirst_27 : decode b_As_removeFirst 27 = .ok (.putfield 22, 3) := by decide +kernel
theorem d_As_removeFirst_30 : decode b_As_removeFirst 30 = .ok (.return_, 1) := by decide +kernel
set_option maxRecDepth 100000 in
set_option maxHeartbeats 4000000 in
theorem c_As_removeFirst (l : Launch) (D : va_G) (ca : Nat → ClassId) (T : ty_e) (L : List Nat) (f0 : Nat → va_E) (sz : Nat) (hT : ok_T ca T L f0) (h0 : Nat) (t0 : T h0 = some (ty_as)) :
    Met l y_As_removeFirst (Cond.code y_As_removeFirst b_As_removeFirst 1 none :: wg) { frames := 0, cells := 0, slots := 0, locals := 0 } (va_Pc [.ref h0] (sm_P D cl_all (ty_s ca) ek L f0 sz)) (sm_Qv D (ty_s ca) L f0 sz (fun u => po_m ca T L u)) 0 0 (va_A (va_pl L f0) sz) := by
  refine sm_start (by decide) (Nat.le_of_ble_eq_true rfl) ?_
  intro p e s m below meth c ls hx hb hml hr hlk hnm hts hown hsz hE hI hl
  have hl : lv_has ls 1 [(0, .ref h0)] := hl
  obtain ⟨-, v0, v1, v2, e0, w0, w1, w2⟩ := ok_as_at hT t0
  refine lv_aload_n hx hb d_As_removeFirst_0 rfl (lv_at hl 0 rfl) ?_
  refine fh_As_many hx hb hts hown hI hT t0 e0 w0 w1 w2 (hts _ tw_100) (fun _ h9 => h9) d_As_removeFirst_1 ?_
  refine lv_if_le (tgt := 30) hx hb d_As_removeFirst_4 (by decide) (fun c_1 => ?_) (fun c_1 => ?_)
  · exact sm_vret hx hb hr hlk hI ⟨rfl, hT⟩ d_As_removeFirst_30
  · have k_3 : 0 < v2 := Nat.pos_of_ne_zero (fun q => c_1 (by rw [q]; decide))
    refine lv_aload_n hx hb d_As_removeFirst_7 rfl (lv_at hl 0 rfl) ?_
    refine lv_aload_n hx hb d_As_removeFirst_8 rfl (lv_at hl 0 rfl) ?_
    refine fh_As_start hx hb hts hown hI hT t0 e0 w0 w1 w2 (hts _ tw_99) (fun _ h9 => h9) d_As_removeFirst_9 ?_
    refine lv_iconst (v := 1) hx hb d_As_removeFirst_12 (by decide) ?_
    refine lv_iadd hx hb d_As_removeFirst_13 ?_
    refine lv_topi (fun x_4 e_5 => ?_)
    obtain rfl : x_4 = nI (v1 + 1) := by rw [e_5]; exact nI_add _ _
    refine lv_bipush (v := 16) hx hb d_As_removeFirst_14 (by decide) ?_
    refine lv_irem hx hb d_As_removeFirst_16 (by decide) ?_
    refine lv_topi (fun x_6 e_7 => ?_)
    obtain rfl : x_6 = nI ((v1 + 1) % 16) := by rw [e_7]; exact pk_rem (a := (v1 + 1)) (d := 16) (by omega) (by omega) (by omega)
    have w_8 : ((v1 + 1) % 16) ≤ 15 := by omega
    refine fq_As_start hx hb hts hown hI hT t0 e0 w0 w1 w2 (hts _ tw_99) (fun _ h9 => h9) (v := ((v1 + 1) % 16)) w_8 d_As_removeFirst_17 (fun H locs f hI hT e0 hkk => ?_)
    refine lv_aload_n hx hb d_As_removeFirst_20 rfl (lv_at hl 0 rfl) ?_
    refine lv_dup hx hb d_As_removeFirst_21 rfl ?_
    refine fh_As_many hx hb hts hown hI hT t0 e0 w0 w_8 w2 (hts _ tw_100) (fun _ h9 => h9) d_As_removeFirst_22 ?_
    refine lv_iconst (v := 1) hx hb d_As_removeFirst_25 (by decide) ?_
    refine lv_isub hx hb d_As_removeFirst_26 ?_
    refine lv_topi (fun x_9 e_10 => ?_)
    obtain rfl : x_9 = nI (v2 - 1) := by rw [e_10]; exact pk_sub (a := v2) (b := 1) (by omega)
    have w_11 : (v2 - 1) ≤ 16 := by omega
    refine fq_As_many hx hb hts hown hI hT t0 e0 w0 w_8 w2 (hts _ tw_100) (fun _ h9 => h9) (v := (v2 - 1)) w_11 d_As_removeFirst_27 (fun H locs f hI hT e0 hkk => ?_)
    exact sm_vret hx hb hr hlk hI ⟨rfl, hT⟩ d_As_removeFirst_30
