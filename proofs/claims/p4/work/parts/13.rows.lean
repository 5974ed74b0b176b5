/-! ByteRow (written by wip/tools) -/
theorem d_Br_clear_0 : decode b_Br_clear 0 = .ok (.aload_n 0, 1) := by decide +kernel
theorem d_Br_clear_1 : decode b_Br_clear 1 = .ok (.iconst 0, 1) := by decide +kernel
theorem d_Br_clear_2 : decode b_Br_clear 2 = .ok (.putfield 15, 3) := by decide +kernel
theorem d_Br_clear_5 : decode b_Br_clear 5 = .ok (.return_, 1) := by decide +kernel
set_option maxRecDepth 100000 in
set_option maxHeartbeats 4000000 in
theorem c_Br_clear (l : Launch) (D : va_G) (ca : Nat → ClassId) (T : ty_e) (L : List Nat) (f0 : Nat → va_E) (sz : Nat) (hT : ok_T ca T L f0) {m0 : Nat} (h0 : Nat) (t0 : T h0 = some (ty_row m0)) :
    Met l y_Br_clear (Cond.code y_Br_clear b_Br_clear 1 none :: wg) { frames := 0, cells := 0, slots := 0, locals := 0 } (va_Pc [.ref h0] (sm_P D cl_all (ty_s ca) ek L f0 sz)) (sm_Qv D (ty_s ca) L f0 sz (fun u => po_m ca T L u)) 0 0 (va_A (va_pl L f0) sz) := by
  refine sm_start (by decide) (Nat.le_of_ble_eq_true rfl) ?_
  intro p e s m below meth c ls hx hb hml hr hlk hnm hts hown hsz hE hI hl
  have hl : lv_has ls 1 [(0, .ref h0)] := hl
  obtain ⟨bb, nn, ll, hrw⟩ := rw_of hT t0
  have hrl := hrw.2.2.1
  have hrn := hrw.2.2.2.2
  refine lv_aload_n hx hb d_Br_clear_0 rfl (lv_at hl 0 rfl) ?_
  refine lv_iconst (v := 0) hx hb d_Br_clear_1 (by decide) ?_
  refine fpr_length (v := 0) hx hb hts hown hI hT t0 hrw (hts _ tw_48) (by omega) d_Br_clear_2 (fun H locs f hI hT hrw hkk => ?_)
  have hrl := hrw.2.2.1
  exact sm_vret hx hb hr hlk hI ⟨rfl, hT⟩ d_Br_clear_5
theorem d_Br_at_0 : decode b_Br_at 0 = .ok (.iload_n 1, 1) := by decide +kernel
theorem d_Br_at_1 : decode b_Br_at 1 = .ok (.ifCond .lt 20, 3) := by decide +kernel
theorem d_Br_at_4 : decode b_Br_at 4 = .ok (.iload_n 1, 1) := by decide +kernel
theorem d_Br_at_5 : decode b_Br_at 5 = .ok (.aload_n 0, 1) := by decide +kernel
theorem d_Br_at_6 : decode b_Br_at 6 = .ok (.getfield 15, 3) := by decide +kernel
theorem d_Br_at_9 : decode b_Br_at 9 = .ok (.if_icmp .ge 12, 3) := by decide +kernel
theorem d_Br_at_12 : decode b_Br_at 12 = .ok (.aload_n 0, 1) := by decide +kernel
theorem d_Br_at_13 : decode b_Br_at 13 = .ok (.getfield 9, 3) := by decide +kernel
theorem d_Br_at_16 : decode b_Br_at 16 = .ok (.iload_n 1, 1) := by decide +kernel
theorem d_Br_at_17 : decode b_Br_at 17 = .ok (.iaload, 1) := by decide +kernel
theorem d_Br_at_18 : decode b_Br_at 18 = .ok (.goto 4, 3) := by decide +kernel
theorem d_Br_at_21 : decode b_Br_at 21 = .ok (.iconst 0, 1) := by decide +kernel
theorem d_Br_at_22 : decode b_Br_at 22 = .ok (.ireturn, 1) := by decide +kernel
set_option maxRecDepth 100000 in
set_option maxHeartbeats 4000000 in
theorem c_Br_at (l : Launch) (D : va_G) (ca : Nat → ClassId) (T : ty_e) (L : List Nat) (f0 : Nat → va_E) (sz : Nat) (hT : ok_T ca T L f0) {m0 : Nat} (h0 : Nat) (t0 : T h0 = some (ty_row m0)) (x1 : Int32) :
    Met l y_Br_at (Cond.code y_Br_at b_Br_at 2 (some .int) :: wg) { frames := 0, cells := 0, slots := 0, locals := 0 } (va_Pc [.ref h0, .int (x1)] (sm_P D cl_all (ty_s ca) ek L f0 sz)) (sm_Qi D (ty_s ca) L f0 sz (fun r u => (r = rw_at f0 h0 x1) ∧ u = (L, f0))) 0 0 (va_A (va_pl L f0) sz) := by
  refine sm_start (by decide) (Nat.le_of_ble_eq_true rfl) ?_
  intro p e s m below meth c ls hx hb hml hr hlk hnm hts hown hsz hE hI hl
  have hl : lv_has ls 2 [(0, .ref h0), (1, .int (x1))] := hl
  obtain ⟨bb, nn, ll, hrw⟩ := rw_of hT t0
  have hrl := hrw.2.2.1
  have hrn := hrw.2.2.2.2
  obtain ⟨gg, hgg⟩ := rw_g hT hrw
  refine lv_iload_n hx hb d_Br_at_0 rfl (lv_at hl 1 rfl) ?_
  refine lv_if_lt (tgt := 21) hx hb d_Br_at_1 (by decide) (fun c_1 => ?_) (fun c_1 => ?_)
  · refine lv_iconst (v := 0) hx hb d_Br_at_21 (by decide) ?_
    exact sm_iret hx hb hr hlk hI ⟨(ra_0 hrw hgg (Or.inl c_1)), rfl⟩ d_Br_at_22
  · refine lv_iload_n hx hb d_Br_at_4 rfl (lv_at hl 1 rfl) ?_
    refine lv_aload_n hx hb d_Br_at_5 rfl (lv_at hl 0 rfl) ?_
    refine fgr_length hx hb hts hown hI hT t0 hrw (hts _ tw_48) d_Br_at_6 ?_
    refine lv_icmp_ge (tgt := 21) hx hb d_Br_at_9 (by decide) (fun c_2 => ?_) (fun c_2 => ?_)
    · refine lv_iconst (v := 0) hx hb d_Br_at_21 (by decide) ?_
      exact sm_iret hx hb hr hlk hI ⟨(ra_0 hrw hgg (Or.inr c_2)), rfl⟩ d_Br_at_22
    · refine lv_aload_n hx hb d_Br_at_12 rfl (lv_at hl 0 rfl) ?_
      refine fgr_bytes hx hb hts hown hI hT t0 hrw (hts _ tw_47) d_Br_at_13 ?_
      refine lv_iload_n hx hb d_Br_at_16 rfl (lv_at hl 1 rfl) ?_
      refine sw_iald hx hb hI (hT _ _ hrw.2.1).1 0 hgg rfl (vp_lt c_1 c_2 hrl hrn) d_Br_at_17 ?_
      refine lv_goto (tgt := 22) hx hb d_Br_at_18 (by decide) ?_
      exact sm_iret hx hb hr hlk hI ⟨(ra_1 hrw hgg c_1 c_2), rfl⟩ d_Br_at_22
theorem d_Br_set_0 : decode b_Br_set 0 = .ok (.iload_n 1, 1) := by decide +kernel
theorem d_Br_set_1 : decode b_Br_set 1 = .ok (.ifCond .lt 22, 3) := by decide +kernel
theorem d_Br_set_4 : decode b_Br_set 4 = .ok (.iload_n 1, 1) := by decide +kernel
theorem d_Br_set_5 : decode b_Br_set 5 = .ok (.aload_n 0, 1) := by decide +kernel
theorem d_Br_set_6 : decode b_Br_set 6 = .ok (.getfield 15, 3) := by decide +kernel
theorem d_Br_set_9 : decode b_Br_set 9 = .ok (.if_icmp .ge 14, 3) := by decide +kernel
theorem d_Br_set_12 : decode b_Br_set 12 = .ok (.aload_n 0, 1) := by decide +kernel
theorem d_Br_set_13 : decode b_Br_set 13 = .ok (.getfield 9, 3) := by decide +kernel
theorem d_Br_set_16 : decode b_Br_set 16 = .ok (.iload_n 1, 1) := by decide +kernel
theorem d_Br_set_17 : decode b_Br_set 17 = .ok (.iload_n 2, 1) := by decide +kernel
theorem d_Br_set_18 : decode b_Br_set 18 = .ok (.sipush 255, 3) := by decide +kernel
theorem d_Br_set_21 : decode b_Br_set 21 = .ok (.iand, 1) := by decide +kernel
theorem d_Br_set_22 : decode b_Br_set 22 = .ok (.iastore, 1) := by decide +kernel
theorem d_Br_set_23 : decode b_Br_set 23 = .ok (.return_, 1) := by decide +kernel
set_option maxRecDepth 100000 in
set_option maxHeartbeats 4000000 in
theorem c_Br_set (l : Launch) (D : va_G) (ca : Nat → ClassId) (T : ty_e) (L : List Nat) (f0 : Nat → va_E) (sz : Nat) (hT : ok_T ca T L f0) {m0 : Nat} (h0 : Nat) (t0 : T h0 = some (ty_row m0)) (x1 : Int32) (x2 : Int32) :
    Met l y_Br_set (Cond.code y_Br_set b_Br_set 3 none :: wg) { frames := 0, cells := 0, slots := 0, locals := 0 } (va_Pc [.ref h0, .int (x1), .int (x2)] (sm_P D cl_all (ty_s ca) ek L f0 sz)) (sm_Qv D (ty_s ca) L f0 sz (fun u => po_m ca T L u)) 0 0 (va_A (va_pl L f0) sz) := by
  refine sm_start (by decide) (Nat.le_of_ble_eq_true rfl) ?_
  intro p e s m below meth c ls hx hb hml hr hlk hnm hts hown hsz hE hI hl
  have hl : lv_has ls 3 [(0, .ref h0), (1, .int (x1)), (2, .int (x2))] := hl
  obtain ⟨bb, nn, ll, hrw⟩ := rw_of hT t0
  have hrl := hrw.2.2.1
  have hrn := hrw.2.2.2.2
  refine lv_iload_n hx hb d_Br_set_0 rfl (lv_at hl 1 rfl) ?_
  refine lv_if_lt (tgt := 23) hx hb d_Br_set_1 (by decide) (fun c_1 => ?_) (fun c_1 => ?_)
  · exact sm_vret hx hb hr hlk hI ⟨rfl, hT⟩ d_Br_set_23
  · refine lv_iload_n hx hb d_Br_set_4 rfl (lv_at hl 1 rfl) ?_
    refine lv_aload_n hx hb d_Br_set_5 rfl (lv_at hl 0 rfl) ?_
    refine fgr_length hx hb hts hown hI hT t0 hrw (hts _ tw_48) d_Br_set_6 ?_
    refine lv_icmp_ge (tgt := 23) hx hb d_Br_set_9 (by decide) (fun c_2 => ?_) (fun c_2 => ?_)
    · exact sm_vret hx hb hr hlk hI ⟨rfl, hT⟩ d_Br_set_23
    · refine lv_aload_n hx hb d_Br_set_12 rfl (lv_at hl 0 rfl) ?_
      refine fgr_bytes hx hb hts hown hI hT t0 hrw (hts _ tw_47) d_Br_set_13 ?_
      refine lv_iload_n hx hb d_Br_set_16 rfl (lv_at hl 1 rfl) ?_
      refine lv_iload_n hx hb d_Br_set_17 rfl (lv_at hl 2 rfl) ?_
      refine lv_sipush (v := 255) hx hb d_Br_set_18 (by decide) ?_
      refine lv_iand hx hb d_Br_set_21 ?_
      refine lv_topi (fun x_3 e_4 => ?_)
      have hrq := rw_ne hT hrw
      refine fs_I hx hb hI hT hrw.2.1 (vp_lt c_1 c_2 hrl hrn) d_Br_set_22 (fun H locs f hI hT hkk => ?_)
      have hrw := rw_keep hrw hrq hkk
      exact sm_vret hx hb hr hlk hI ⟨rfl, hT⟩ d_Br_set_23
theorem d_Br_put_0 : decode b_Br_put 0 = .ok (.aload_n 0, 1) := by decide +kernel
theorem d_Br_put_1 : decode b_Br_put 1 = .ok (.getfield 15, 3) := by decide +kernel
theorem d_Br_put_4 : decode b_Br_put 4 = .ok (.aload_n 0, 1) := by decide +kernel
theorem d_Br_put_5 : decode b_Br_put 5 = .ok (.getfield 9, 3) := by decide +kernel
theorem d_Br_put_8 : decode b_Br_put 8 = .ok (.arraylength, 1) := by decide +kernel
theorem d_Br_put_9 : decode b_Br_put 9 = .ok (.if_icmp .ge 27, 3) := by decide +kernel
theorem d_Br_put_12 : decode b_Br_put 12 = .ok (.aload_n 0, 1) := by decide +kernel
theorem d_Br_put_13 : decode b_Br_put 13 = .ok (.getfield 9, 3) := by decide +kernel
theorem d_Br_put_16 : decode b_Br_put 16 = .ok (.aload_n 0, 1) := by decide +kernel
theorem d_Br_put_17 : decode b_Br_put 17 = .ok (.getfield 15, 3) := by decide +kernel
theorem d_Br_put_20 : decode b_Br_put 20 = .ok (.iload_n 1, 1) := by decide +kernel
theorem d_Br_put_21 : decode b_Br_put 21 = .ok (.sipush 255, 3) := by decide +kernel
theorem d_Br_put_24 : decode b_Br_put 24 = .ok (.iand, 1) := by decide +kernel
theorem d_Br_put_25 : decode b_Br_put 25 = .ok (.iastore, 1) := by decide +kernel
theorem d_Br_put_26 : decode b_Br_put 26 = .ok (.aload_n 0, 1) := by decide +kernel
theorem d_Br_put_27 : decode b_Br_put 27 = .ok (.dup, 1) := by decide +kernel
theorem d_Br_put_28 : decode b_Br_put 28 = .ok (.getfield 15, 3) := by decide +kernel
theorem d_Br_put_31 : decode b_Br_put 31 = .ok (.iconst 1, 1) := by decide +kernel
theorem d_Br_put_32 : decode b_Br_put 32 = .ok (.iadd, 1) := by decide +kernel
theorem d_Br_put_33 : decode b_Br_put 33 = .ok (.putfield 15, 3) := by decide +kernel
theorem d_Br_put_36 : decode b_Br_put 36 = .ok (.return_, 1) := by decide +kernel
set_option maxRecDepth 100000 in
set_option maxHeartbeats 4000000 in
theorem c_Br_put (l : Launch) (D : va_G) (ca : Nat → ClassId) (T : ty_e) (L : List Nat) (f0 : Nat → va_E) (sz : Nat) (hT : ok_T ca T L f0) {m0 : Nat} (h0 : Nat) (t0 : T h0 = some (ty_row m0)) (x1 : Int32) :
    Met l y_Br_put (Cond.code y_Br_put b_Br_put 2 none :: wg) { frames := 0, cells := 0, slots := 0, locals := 0 } (va_Pc [.ref h0, .int (x1)] (sm_P D cl_all (ty_s ca) ek L f0 sz)) (sm_Qv D (ty_s ca) L f0 sz (fun u => po_m ca T L u)) 0 0 (va_A (va_pl L f0) sz) := by
  refine sm_start (by decide) (Nat.le_of_ble_eq_true rfl) ?_
  intro p e s m below meth c ls hx hb hml hr hlk hnm hts hown hsz hE hI hl
  have hl : lv_has ls 2 [(0, .ref h0), (1, .int (x1))] := hl
  obtain ⟨bb, nn, ll, hrw⟩ := rw_of hT t0
  have hrl := hrw.2.2.1
  have hrn := hrw.2.2.2.2
  refine lv_aload_n hx hb d_Br_put_0 rfl (lv_at hl 0 rfl) ?_
  refine fgr_length hx hb hts hown hI hT t0 hrw (hts _ tw_48) d_Br_put_1 ?_
  refine lv_aload_n hx hb d_Br_put_4 rfl (lv_at hl 0 rfl) ?_
  refine fgr_bytes hx hb hts hown hI hT t0 hrw (hts _ tw_47) d_Br_put_5 ?_
  refine fl_I hx hb hI hT hrw.2.1 d_Br_put_8 ?_
  refine lv_icmp_ge (tgt := 36) hx hb d_Br_put_9 (by decide) (fun c_1 => ?_) (fun c_1 => ?_)
  · have k_2 : nn ≤ ll := (nI_leI (a := nn) (b := ll) (by omega) (by omega)).mp c_1
    exact sm_vret hx hb hr hlk hI ⟨rfl, hT⟩ d_Br_put_36
  · have k_3 : ll < nn := Nat.lt_of_not_le (fun q => c_1 ((nI_leI (a := nn) (b := ll) (by omega) (by omega)).mpr q))
    refine lv_aload_n hx hb d_Br_put_12 rfl (lv_at hl 0 rfl) ?_
    refine fgr_bytes hx hb hts hown hI hT t0 hrw (hts _ tw_47) d_Br_put_13 ?_
    refine lv_aload_n hx hb d_Br_put_16 rfl (lv_at hl 0 rfl) ?_
    refine fgr_length hx hb hts hown hI hT t0 hrw (hts _ tw_48) d_Br_put_17 ?_
    refine lv_iload_n hx hb d_Br_put_20 rfl (lv_at hl 1 rfl) ?_
    refine lv_sipush (v := 255) hx hb d_Br_put_21 (by decide) ?_
    refine lv_iand hx hb d_Br_put_24 ?_
    refine lv_topi (fun x_4 e_5 => ?_)
    have hrq := rw_ne hT hrw
    refine fs_I hx hb hI hT hrw.2.1 (vp_in_nI (by omega) (by omega)) d_Br_put_25 (fun H locs f hI hT hkk => ?_)
    have hrw := rw_keep hrw hrq hkk
    refine lv_aload_n hx hb d_Br_put_26 rfl (lv_at hl 0 rfl) ?_
    refine lv_dup hx hb d_Br_put_27 rfl ?_
    refine fgr_length hx hb hts hown hI hT t0 hrw (hts _ tw_48) d_Br_put_28 ?_
    refine lv_iconst (v := 1) hx hb d_Br_put_31 (by decide) ?_
    refine lv_iadd hx hb d_Br_put_32 ?_
    refine lv_topi (fun x_6 e_7 => ?_)
    obtain rfl : x_6 = nI (ll + 1) := by rw [e_7]; exact nI_add _ _
    refine fpr_length (v := (ll + 1)) hx hb hts hown hI hT t0 hrw (hts _ tw_48) (by omega) d_Br_put_33 (fun H locs f hI hT hrw hkk => ?_)
    have hrl := hrw.2.2.1
    exact sm_vret hx hb hr hlk hI ⟨rfl, hT⟩ d_Br_put_36
theorem d_Br_putNumber_0 : decode b_Br_putNumber 0 = .ok (.iconst 0, 1) := by decide +kernel
theorem d_Br_putNumber_1 : decode b_Br_putNumber 1 = .ok (.istore_n 3, 1) := by decide +kernel
theorem d_Br_putNumber_2 : decode b_Br_putNumber 2 = .ok (.iload_n 3, 1) := by decide +kernel
theorem d_Br_putNumber_3 : decode b_Br_putNumber 3 = .ok (.iload_n 2, 1) := by decide +kernel
theorem d_Br_putNumber_4 : decode b_Br_putNumber 4 = .ok (.if_icmp .ge 50, 3) := by decide +kernel
theorem d_Br_putNumber_7 : decode b_Br_putNumber 7 = .ok (.aload_n 0, 1) := by decide +kernel
theorem d_Br_putNumber_8 : decode b_Br_putNumber 8 = .ok (.getfield 15, 3) := by decide +kernel
theorem d_Br_putNumber_11 : decode b_Br_putNumber 11 = .ok (.aload_n 0, 1) := by decide +kernel
theorem d_Br_putNumber_12 : decode b_Br_putNumber 12 = .ok (.getfield 9, 3) := by decide +kernel
theorem d_Br_putNumber_15 : decode b_Br_putNumber 15 = .ok (.arraylength, 1) := by decide +kernel
theorem d_Br_putNumber_16 : decode b_Br_putNumber 16 = .ok (.if_icmp .ge 38, 3) := by decide +kernel
theorem d_Br_putNumber_19 : decode b_Br_putNumber 19 = .ok (.aload_n 0, 1) := by decide +kernel
theorem d_Br_putNumber_20 : decode b_Br_putNumber 20 = .ok (.getfield 9, 3) := by decide +kernel
theorem d_Br_putNumber_23 : decode b_Br_putNumber 23 = .ok (.aload_n 0, 1) := by decide +kernel
theorem d_Br_putNumber_24 : decode b_Br_putNumber 24 = .ok (.getfield 15, 3) := by decide +kernel
theorem d_Br_putNumber_27 : decode b_Br_putNumber 27 = .ok (.iload_n 1, 1) := by decide +kernel
theorem d_Br_putNumber_28 : decode b_Br_putNumber 28 = .ok (.bipush 8, 2) := by decide +kernel
theorem d_Br_putNumber_30 : decode b_Br_putNumber 30 = .ok (.iload_n 3, 1) := by decide +kernel
theorem d_Br_putNumber_31 : decode b_Br_putNumber 31 = .ok (.imul, 1) := by decide +kernel
theorem d_Br_putNumber_32 : decode b_Br_putNumber 32 = .ok (.ishr, 1) := by decide +kernel
theorem d_Br_putNumber_33 : decode b_Br_putNumber 33 = .ok (.sipush 255, 3) := by decide +kernel
theorem d_Br_putNumber_36 : decode b_Br_putNumber 36 = .ok (.iand, 1) := by decide +kernel
theorem d_Br_putNumber_37 : decode b_Br_putNumber 37 = .ok (.iastore, 1) := by decide +kernel
theorem d_Br_putNumber_38 : decode b_Br_putNumber 38 = .ok (.aload_n 0, 1) := by decide +kernel
theorem d_Br_putNumber_39 : decode b_Br_putNumber 39 = .ok (.dup, 1) := by decide +kernel
theorem d_Br_putNumber_40 : decode b_Br_putNumber 40 = .ok (.getfield 15, 3) := by decide +kernel
theorem d_Br_putNumber_43 : decode b_Br_putNumber 43 = .ok (.iconst 1, 1) := by decide +kernel
theorem d_Br_putNumber_44 : decode b_Br_putNumber 44 = .ok (.iadd, 1) := by decide +kernel
theorem d_Br_putNumber_45 : decode b_Br_putNumber 45 = .ok (.putfield 15, 3) := by decide +kernel
theorem d_Br_putNumber_48 : decode b_Br_putNumber 48 = .ok (.iinc 3 1, 3) := by decide +kernel
theorem d_Br_putNumber_51 : decode b_Br_putNumber 51 = .ok (.goto (-49), 3) := by decide +kernel
theorem d_Br_putNumber_54 : decode b_Br_putNumber 54 = .ok (.return_, 1) := by decide +kernel
set_option maxRecDepth 100000 in
set_option maxHeartbeats 4000000 in
theorem c_Br_putNumber (l : Launch) (D : va_G) (ca : Nat → ClassId) (T : ty_e) (L : List Nat) (f0 : Nat → va_E) (sz : Nat) (hT : ok_T ca T L f0) {m0 : Nat} (h0 : Nat) (t0 : T h0 = some (ty_row m0)) (x1 : Int32) (j2 : Nat) (q2 : j2 ≤ 4) :
    Met l y_Br_putNumber (Cond.code y_Br_putNumber b_Br_putNumber 4 none :: wg) { frames := 0, cells := 0, slots := 0, locals := 0 } (va_Pc [.ref h0, .int (x1), .int (nI j2)] (sm_P D cl_all (ty_s ca) ek L f0 sz)) (sm_Qv D (ty_s ca) L f0 sz (fun u => po_m ca T L u)) 0 0 (va_A (va_pl L f0) sz) := by
  refine sm_start (by decide) (Nat.le_of_ble_eq_true rfl) ?_
  intro p e s m below meth c ls hx hb hml hr hlk hnm hts hown hsz hE hI hl
  have hl : lv_has ls 4 [(0, .ref h0), (1, .int (x1)), (2, .int (nI j2))] := hl
  have hJ_2 : ∀ (N k : Nat) (H : Heap) (locs : List Loc) (f : Nat → va_E) (ls : Array Slot) , 4 + 1 - k ≤ N → k ≤ 4 → sw_I D cl_all (ty_s ca) (va_A (va_pl L f0) sz) s H locs L f → ok_T ca T L f → lv_has ls 4 [(0, .ref h0), (1, .int (x1)), (2, .int (nI j2)), (3, .int (nI k))] → W p l e { frames := 0, cells := 0, slots := 0, locals := 0 } s m ([.ref h0, .int (x1), .int (nI j2)] : List Value).toArray below meth c H locs 0 0 (MQ below (sm_Qv D (ty_s ca) L f0 sz (fun u => po_m ca T L u)) ([.ref h0, .int (x1), .int (nI j2)] : List Value).toArray s 0 0 (va_A (va_pl L f0) sz)) (F0 m 2 ls []) := by
    intro N
    induction N with
    | zero => intros; omega
    | succ N ih =>
      intro k H locs f ls  hN hk hI hT hl 
      obtain ⟨bb, nn, ll, hrw⟩ := rw_of hT t0
      have hrl := hrw.2.2.1
      have hrn := hrw.2.2.2.2
      refine lv_iload_n hx hb d_Br_putNumber_2 rfl (lv_at hl 3 rfl) ?_
      refine lv_iload_n hx hb d_Br_putNumber_3 rfl (lv_at hl 2 rfl) ?_
      refine lv_icmp_ge (tgt := 54) hx hb d_Br_putNumber_4 (by decide) (fun c_1 => ?_) (fun c_1 => ?_)
      · have k_2 : j2 ≤ k := (nI_leI (a := j2) (b := k) (by omega) (by omega)).mp c_1
        exact sm_vret hx hb hr hlk hI ⟨rfl, hT⟩ d_Br_putNumber_54
      · have k_3 : k < j2 := Nat.lt_of_not_le (fun q => c_1 ((nI_leI (a := j2) (b := k) (by omega) (by omega)).mpr q))
        refine lv_aload_n hx hb d_Br_putNumber_7 rfl (lv_at hl 0 rfl) ?_
        refine fgr_length hx hb hts hown hI hT t0 hrw (hts _ tw_48) d_Br_putNumber_8 ?_
        refine lv_aload_n hx hb d_Br_putNumber_11 rfl (lv_at hl 0 rfl) ?_
        refine fgr_bytes hx hb hts hown hI hT t0 hrw (hts _ tw_47) d_Br_putNumber_12 ?_
        refine fl_I hx hb hI hT hrw.2.1 d_Br_putNumber_15 ?_
        refine lv_icmp_ge (tgt := 54) hx hb d_Br_putNumber_16 (by decide) (fun c_4 => ?_) (fun c_4 => ?_)
        · have k_5 : nn ≤ ll := (nI_leI (a := nn) (b := ll) (by omega) (by omega)).mp c_4
          exact sm_vret hx hb hr hlk hI ⟨rfl, hT⟩ d_Br_putNumber_54
        · have k_6 : ll < nn := Nat.lt_of_not_le (fun q => c_4 ((nI_leI (a := nn) (b := ll) (by omega) (by omega)).mpr q))
          refine lv_aload_n hx hb d_Br_putNumber_19 rfl (lv_at hl 0 rfl) ?_
          refine fgr_bytes hx hb hts hown hI hT t0 hrw (hts _ tw_47) d_Br_putNumber_20 ?_
          refine lv_aload_n hx hb d_Br_putNumber_23 rfl (lv_at hl 0 rfl) ?_
          refine fgr_length hx hb hts hown hI hT t0 hrw (hts _ tw_48) d_Br_putNumber_24 ?_
          refine lv_iload_n hx hb d_Br_putNumber_27 rfl (lv_at hl 1 rfl) ?_
          refine lv_bipush (v := 8) hx hb d_Br_putNumber_28 (by decide) ?_
          refine lv_iload_n hx hb d_Br_putNumber_30 rfl (lv_at hl 3 rfl) ?_
          refine lv_imul hx hb d_Br_putNumber_31 ?_
          refine lv_topi (fun x_7 e_8 => ?_)
          obtain rfl : x_7 = nI (8 * k) := by rw [e_8]; exact pk_mul _ _
          refine lv_ishr hx hb d_Br_putNumber_32 ?_
          refine lv_topi (fun x_9 e_10 => ?_)
          refine lv_sipush (v := 255) hx hb d_Br_putNumber_33 (by decide) ?_
          refine lv_iand hx hb d_Br_putNumber_36 ?_
          refine lv_topi (fun x_11 e_12 => ?_)
          have hrq := rw_ne hT hrw
          refine fs_I hx hb hI hT hrw.2.1 (vp_in_nI (by omega) (by omega)) d_Br_putNumber_37 (fun H locs f hI hT hkk => ?_)
          have hrw := rw_keep hrw hrq hkk
          refine lv_aload_n hx hb d_Br_putNumber_38 rfl (lv_at hl 0 rfl) ?_
          refine lv_dup hx hb d_Br_putNumber_39 rfl ?_
          refine fgr_length hx hb hts hown hI hT t0 hrw (hts _ tw_48) d_Br_putNumber_40 ?_
          refine lv_iconst (v := 1) hx hb d_Br_putNumber_43 (by decide) ?_
          refine lv_iadd hx hb d_Br_putNumber_44 ?_
          refine lv_topi (fun x_13 e_14 => ?_)
          obtain rfl : x_13 = nI (ll + 1) := by rw [e_14]; exact nI_add _ _
          refine fpr_length (v := (ll + 1)) hx hb hts hown hI hT t0 hrw (hts _ tw_48) (by omega) d_Br_putNumber_45 (fun H locs f hI hT hrw hkk => ?_)
          have hrl := hrw.2.2.1
          refine lv_iinc (v := nI (k + 1)) (lv' := [(3, .int (nI (k + 1))), (0, .ref h0), (1, .int (x1)), (2, .int (nI j2))]) hx hb d_Br_putNumber_48 hl (k := 3) rfl (nI_1 _) (by decide) rfl (fun ls hl => ?_)
          refine lv_goto (tgt := 2) hx hb d_Br_putNumber_51 (by decide) ?_
          exact ih ((k + 1)) _ _ _ _  (by omega) (by omega) hI hT (lv_sub hl [1, 2, 3, 0] rfl) 
  obtain ⟨bb, nn, ll, hrw⟩ := rw_of hT t0
  have hrl := hrw.2.2.1
  have hrn := hrw.2.2.2.2
  refine lv_iconst (v := 0) hx hb d_Br_putNumber_0 (by decide) ?_
  refine lv_istore_n (lv' := [(3, .int (0)), (0, .ref h0), (1, .int (x1)), (2, .int (nI j2))]) hx hb d_Br_putNumber_1 rfl hl (by decide) rfl (fun ls hl => ?_)
  exact hJ_2 _ (0) _ _ _ _  (Nat.le_refl _) (by omega) hI hT (lv_sub hl [1, 2, 3, 0] rfl) 
theorem d_Br_number_0 : decode b_Br_number 0 = .ok (.iconst 0, 1) := by decide +kernel
theorem d_Br_number_1 : decode b_Br_number 1 = .ok (.istore_n 3, 1) := by decide +kernel
theorem d_Br_number_2 : decode b_Br_number 2 = .ok (.iload_n 2, 1) := by decide +kernel
theorem d_Br_number_3 : decode b_Br_number 3 = .ok (.iconst 1, 1) := by decide +kernel
theorem d_Br_number_4 : decode b_Br_number 4 = .ok (.isub, 1) := by decide +kernel
theorem d_Br_number_5 : decode b_Br_number 5 = .ok (.istore 4, 2) := by decide +kernel
theorem d_Br_number_7 : decode b_Br_number 7 = .ok (.iload 4, 2) := by decide +kernel
theorem d_Br_number_9 : decode b_Br_number 9 = .ok (.ifCond .lt 23, 3) := by decide +kernel
theorem d_Br_number_12 : decode b_Br_number 12 = .ok (.iload_n 3, 1) := by decide +kernel
theorem d_Br_number_13 : decode b_Br_number 13 = .ok (.bipush 8, 2) := by decide +kernel
theorem d_Br_number_15 : decode b_Br_number 15 = .ok (.ishl, 1) := by decide +kernel
theorem d_Br_number_16 : decode b_Br_number 16 = .ok (.aload_n 0, 1) := by decide +kernel
theorem d_Br_number_17 : decode b_Br_number 17 = .ok (.iload_n 1, 1) := by decide +kernel
theorem d_Br_number_18 : decode b_Br_number 18 = .ok (.iload 4, 2) := by decide +kernel
theorem d_Br_number_20 : decode b_Br_number 20 = .ok (.iadd, 1) := by decide +kernel
theorem d_Br_number_21 : decode b_Br_number 21 = .ok (.invokevirtual 19, 3) := by decide +kernel
theorem d_Br_number_24 : decode b_Br_number 24 = .ok (.ior, 1) := by decide +kernel
theorem d_Br_number_25 : decode b_Br_number 25 = .ok (.istore_n 3, 1) := by decide +kernel
theorem d_Br_number_26 : decode b_Br_number 26 = .ok (.iinc 4 (-1), 3) := by decide +kernel
theorem d_Br_number_29 : decode b_Br_number 29 = .ok (.goto (-22), 3) := by decide +kernel
theorem d_Br_number_32 : decode b_Br_number 32 = .ok (.iload_n 3, 1) := by decide +kernel
theorem d_Br_number_33 : decode b_Br_number 33 = .ok (.ireturn, 1) := by decide +kernel
set_option maxRecDepth 100000 in
set_option maxHeartbeats 4000000 in
theorem c_Br_number (l : Launch) (D : va_G) (ca : Nat → ClassId) (T : ty_e) (L : List Nat) (f0 : Nat → va_E) (sz : Nat) (hT : ok_T ca T L f0) {m0 : Nat} (h0 : Nat) (t0 : T h0 = some (ty_row m0)) (x1 : Int32) (j2 : Nat) (q2 : j2 ≤ 4) :
    Met l y_Br_number (Cond.code y_Br_number b_Br_number 5 (some .int) :: wg) { frames := 1, cells := 0, slots := 0, locals := 21 } (va_Pc [.ref h0, .int (x1), .int (nI j2)] (sm_P D cl_all (ty_s ca) ek L f0 sz)) (sm_Qi D (ty_s ca) L f0 sz (fun r u => (r = rw_nm f0 h0 x1 j2 0) ∧ u = (L, f0))) 0 0 (va_A (va_pl L f0) sz) := by
  refine sm_start (by decide) (Nat.le_of_ble_eq_true rfl) ?_
  intro p e s m below meth c ls hx hb hml hr hlk hnm hts hown hsz hE hI hl
  have hl : lv_has ls 5 [(0, .ref h0), (1, .int (x1)), (2, .int (nI j2))] := hl
  have hJ_7 : ∀ (N k : Nat) (H : Heap) (locs : List Loc) (ls : Array Slot) (y3 : Int32), k + 1 ≤ N → k ≤ 4 → sw_I D cl_all (ty_s ca) (va_A (va_pl L f0) sz) s H locs L f0 → lv_has ls 5 [(0, .ref h0), (1, .int (x1)), (2, .int (nI j2)), (3, .int (y3)), (4, .int (nI k - 1))] → (rw_nm f0 h0 x1 k y3 = rw_nm f0 h0 x1 j2 0) → W p l e { frames := 1, cells := 0, slots := 0, locals := 21 } s m ([.ref h0, .int (x1), .int (nI j2)] : List Value).toArray below meth c H locs 0 0 (MQ below (sm_Qi D (ty_s ca) L f0 sz (fun r u => (r = rw_nm f0 h0 x1 j2 0) ∧ u = (L, f0))) ([.ref h0, .int (x1), .int (nI j2)] : List Value).toArray s 0 0 (va_A (va_pl L f0) sz)) (F0 m 7 ls []) := by
    intro N
    induction N with
    | zero => intros; omega
    | succ N ih =>
      intro k H locs ls y3 hN hk hI hl hv
      obtain ⟨bb, nn, ll, hrw⟩ := rw_of hT t0
      have hrl := hrw.2.2.1
      have hrn := hrw.2.2.2.2
      refine lv_iload hx hb d_Br_number_7 (lv_at hl 4 rfl) ?_
      refine lv_if_lt (tgt := 32) hx hb d_Br_number_9 (by decide) (fun c_1 => ?_) (fun c_1 => ?_)
      · refine lv_iload_n hx hb d_Br_number_32 rfl (lv_at hl 3 rfl) ?_
        exact sm_iret hx hb hr hlk hI ⟨(rn_0 c_1 hk hv), rfl⟩ d_Br_number_33
      · obtain ⟨k_2, rfl⟩ : ∃ z : Nat, k = z + 1 := dc_ne c_1
        rw [nI_pred] at hl
        refine lv_iload_n hx hb d_Br_number_12 rfl (lv_at hl 3 rfl) ?_
        refine lv_bipush (v := 8) hx hb d_Br_number_13 (by decide) ?_
        refine lv_ishl hx hb d_Br_number_15 ?_
        refine lv_topi (fun x_3 e_4 => ?_)
        refine lv_aload_n hx hb d_Br_number_16 rfl (lv_at hl 0 rfl) ?_
        refine lv_iload_n hx hb d_Br_number_17 rfl (lv_at hl 1 rfl) ?_
        refine lv_iload hx hb d_Br_number_18 (lv_at hl 4 rfl) ?_
        refine lv_iadd hx hb d_Br_number_20 ?_
        refine lv_topi (fun x_5 e_6 => ?_)
        refine sm_iP hI (va_runV (As := [.int (x_5)]) (rest := [.int (x_3)]) ⟨hx, hb, hml, hown, hts⟩ (c_Br_at l D ca _ _ _ _ hT h0 t0 x_5) (kv_Br_at hts rfl rfl (hts _ tw_738) ⟨Nat.le_of_ble_eq_true rfl, Nat.le_of_ble_eq_true rfl⟩) (pv_Br hI hE hT t0) rfl rfl hl.1 rfl (lv_room (Nat.le_of_ble_eq_true rfl)) d_Br_number_21 ⟨Nat.le_of_ble_eq_true rfl, Nat.le_of_ble_eq_true rfl⟩) (fun x_7 H locs p_8 hI => ?_)
        refine lv_ior hx hb d_Br_number_24 ?_
        refine lv_topi (fun x_9 e_10 => ?_)
        refine lv_istore_n (lv' := [(3, .int (x_9)), (0, .ref h0), (1, .int (x1)), (2, .int (nI j2)), (4, .int (nI k_2))]) hx hb d_Br_number_25 rfl hl (by decide) rfl (fun ls hl => ?_)
        refine lv_iinc (v := nI k_2 - 1) (lv' := [(4, .int (nI k_2 - 1)), (3, .int (x_9)), (0, .ref h0), (1, .int (x1)), (2, .int (nI j2))]) hx hb d_Br_number_26 hl (k := 4) rfl (dc_1 _) (by decide) rfl (fun ls hl => ?_)
        refine lv_goto (tgt := 7) hx hb d_Br_number_29 (by decide) ?_
        exact ih (k_2) _ _ _ x_9 (by omega) (by omega) hI (lv_sub hl [2, 3, 4, 1, 0] rfl) (by first | rfl | (subst_vars; exact hv))
  obtain ⟨bb, nn, ll, hrw⟩ := rw_of hT t0
  have hrl := hrw.2.2.1
  have hrn := hrw.2.2.2.2
  refine lv_iconst (v := 0) hx hb d_Br_number_0 (by decide) ?_
  refine lv_istore_n (lv' := [(3, .int (0)), (0, .ref h0), (1, .int (x1)), (2, .int (nI j2))]) hx hb d_Br_number_1 rfl hl (by decide) rfl (fun ls hl => ?_)
  refine lv_iload_n hx hb d_Br_number_2 rfl (lv_at hl 3 rfl) ?_
  refine lv_iconst (v := 1) hx hb d_Br_number_3 (by decide) ?_
  refine lv_isub hx hb d_Br_number_4 ?_
  refine lv_topi (fun x_11 e_12 => ?_)
  subst e_12
  refine lv_istore (lv' := [(4, .int (nI j2 - 1)), (3, .int (0)), (0, .ref h0), (1, .int (x1)), (2, .int (nI j2))]) hx hb d_Br_number_5 hl (by decide) rfl (fun ls hl => ?_)
  exact hJ_7 _ (j2) _ _ _ 0 (Nat.le_refl _) (by omega) hI (lv_sub hl [2, 3, 4, 1, 0] rfl) (by first | rfl | (subst_vars; exact hv))
theorem d_Br_sum_0 : decode b_Br_sum 0 = .ok (.iconst 0, 1) := by decide +kernel
theorem d_Br_sum_1 : decode b_Br_sum 1 = .ok (.istore_n 3, 1) := by decide +kernel
theorem d_Br_sum_2 : decode b_Br_sum 2 = .ok (.iload_n 1, 1) := by decide +kernel
theorem d_Br_sum_3 : decode b_Br_sum 3 = .ok (.istore 4, 2) := by decide +kernel
theorem d_Br_sum_5 : decode b_Br_sum 5 = .ok (.iload 4, 2) := by decide +kernel
theorem d_Br_sum_7 : decode b_Br_sum 7 = .ok (.iload_n 2, 1) := by decide +kernel
theorem d_Br_sum_8 : decode b_Br_sum 8 = .ok (.if_icmp .ge 18, 3) := by decide +kernel
theorem d_Br_sum_11 : decode b_Br_sum 11 = .ok (.iload_n 3, 1) := by decide +kernel
theorem d_Br_sum_12 : decode b_Br_sum 12 = .ok (.aload_n 0, 1) := by decide +kernel
theorem d_Br_sum_13 : decode b_Br_sum 13 = .ok (.iload 4, 2) := by decide +kernel
theorem d_Br_sum_15 : decode b_Br_sum 15 = .ok (.invokevirtual 19, 3) := by decide +kernel
theorem d_Br_sum_18 : decode b_Br_sum 18 = .ok (.iadd, 1) := by decide +kernel
theorem d_Br_sum_19 : decode b_Br_sum 19 = .ok (.istore_n 3, 1) := by decide +kernel
theorem d_Br_sum_20 : decode b_Br_sum 20 = .ok (.iinc 4 1, 3) := by decide +kernel
theorem d_Br_sum_23 : decode b_Br_sum 23 = .ok (.goto (-18), 3) := by decide +kernel
theorem d_Br_sum_26 : decode b_Br_sum 26 = .ok (.iload_n 3, 1) := by decide +kernel
theorem d_Br_sum_27 : decode b_Br_sum 27 = .ok (.sipush 255, 3) := by decide +kernel
theorem d_Br_sum_30 : decode b_Br_sum 30 = .ok (.iand, 1) := by decide +kernel
theorem d_Br_sum_31 : decode b_Br_sum 31 = .ok (.ireturn, 1) := by decide +kernel
set_option maxRecDepth 100000 in
set_option maxHeartbeats 4000000 in
theorem c_Br_sum (l : Launch) (D : va_G) (ca : Nat → ClassId) (T : ty_e) (L : List Nat) (f0 : Nat → va_E) (sz : Nat) (hT : ok_T ca T L f0) {m0 : Nat} (h0 : Nat) (t0 : T h0 = some (ty_row m0)) (x1 : Int32) (x2 : Int32) :
    Met l y_Br_sum (Cond.code y_Br_sum b_Br_sum 5 (some .int) :: wg) { frames := 1, cells := 0, slots := 0, locals := 21 } (va_Pc [.ref h0, .int (x1), .int (x2)] (sm_P D cl_all (ty_s ca) ek L f0 sz)) (sm_Qi D (ty_s ca) L f0 sz (fun r u => (True) ∧ u = (L, f0))) 0 0 (va_A (va_pl L f0) sz) := by
  refine sm_start (by decide) (Nat.le_of_ble_eq_true rfl) ?_
  intro p e s m below meth c ls hx hb hml hr hlk hnm hts hown hsz hE hI hl
  have hl : lv_has ls 5 [(0, .ref h0), (1, .int (x1)), (2, .int (x2))] := hl
  have hJ_5 : ∀ (N : Nat) (k : Int32) (H : Heap) (locs : List Loc) (ls : Array Slot) (y3 : Int32), (x2.toInt - k.toInt).toNat + 1 ≤ N → sw_I D cl_all (ty_s ca) (va_A (va_pl L f0) sz) s H locs L f0 → lv_has ls 5 [(0, .ref h0), (1, .int (x1)), (2, .int (x2)), (3, .int (y3)), (4, .int (k))] → W p l e { frames := 1, cells := 0, slots := 0, locals := 21 } s m ([.ref h0, .int (x1), .int (x2)] : List Value).toArray below meth c H locs 0 0 (MQ below (sm_Qi D (ty_s ca) L f0 sz (fun r u => (True) ∧ u = (L, f0))) ([.ref h0, .int (x1), .int (x2)] : List Value).toArray s 0 0 (va_A (va_pl L f0) sz)) (F0 m 5 ls []) := by
    intro N
    induction N with
    | zero => intros; omega
    | succ N ih =>
      intro k H locs ls y3 hN hI hl 
      obtain ⟨bb, nn, ll, hrw⟩ := rw_of hT t0
      have hrl := hrw.2.2.1
      have hrn := hrw.2.2.2.2
      refine lv_iload hx hb d_Br_sum_5 (lv_at hl 4 rfl) ?_
      refine lv_iload_n hx hb d_Br_sum_7 rfl (lv_at hl 2 rfl) ?_
      refine lv_icmp_ge (tgt := 26) hx hb d_Br_sum_8 (by decide) (fun c_1 => ?_) (fun c_1 => ?_)
      · refine lv_iload_n hx hb d_Br_sum_26 rfl (lv_at hl 3 rfl) ?_
        refine lv_sipush (v := 255) hx hb d_Br_sum_27 (by decide) ?_
        refine lv_iand hx hb d_Br_sum_30 ?_
        refine lv_topi (fun x_2 e_3 => ?_)
        exact sm_iret hx hb hr hlk hI ⟨trivial, rfl⟩ d_Br_sum_31
      · refine lv_iload_n hx hb d_Br_sum_11 rfl (lv_at hl 3 rfl) ?_
        refine lv_aload_n hx hb d_Br_sum_12 rfl (lv_at hl 0 rfl) ?_
        refine lv_iload hx hb d_Br_sum_13 (lv_at hl 4 rfl) ?_
        refine sm_iP hI (va_runV (As := [.int (k)]) (rest := [.int (y3)]) ⟨hx, hb, hml, hown, hts⟩ (c_Br_at l D ca _ _ _ _ hT h0 t0 k) (kv_Br_at hts rfl rfl (hts _ tw_738) ⟨Nat.le_of_ble_eq_true rfl, Nat.le_of_ble_eq_true rfl⟩) (pv_Br hI hE hT t0) rfl rfl hl.1 rfl (lv_room (Nat.le_of_ble_eq_true rfl)) d_Br_sum_15 ⟨Nat.le_of_ble_eq_true rfl, Nat.le_of_ble_eq_true rfl⟩) (fun x_4 H locs p_5 hI => ?_)
        refine lv_iadd hx hb d_Br_sum_18 ?_
        refine lv_topi (fun x_6 e_7 => ?_)
        refine lv_istore_n (lv' := [(3, .int (x_6)), (0, .ref h0), (1, .int (x1)), (2, .int (x2)), (4, .int (k))]) hx hb d_Br_sum_19 rfl hl (by decide) rfl (fun ls hl => ?_)
        obtain ⟨x_8, hx_x_8⟩ : ∃ z, z = k + Int32.ofInt (1) := ⟨_, rfl⟩
        refine lv_iinc (v := x_8) (lv' := [(4, .int (x_8)), (3, .int (x_6)), (0, .ref h0), (1, .int (x1)), (2, .int (x2))]) hx hb d_Br_sum_20 hl (k := 4) rfl hx_x_8.symm (by decide) rfl (fun ls hl => ?_)
        refine lv_goto (tgt := 5) hx hb d_Br_sum_23 (by decide) ?_
        exact ih (x_8) _ _ _ x_6 (Nat.le_trans (up_m c_1 hx_x_8) (Nat.le_of_succ_le_succ hN)) hI (lv_sub hl [2, 3, 4, 1, 0] rfl) 
  obtain ⟨bb, nn, ll, hrw⟩ := rw_of hT t0
  have hrl := hrw.2.2.1
  have hrn := hrw.2.2.2.2
  refine lv_iconst (v := 0) hx hb d_Br_sum_0 (by decide) ?_
  refine lv_istore_n (lv' := [(3, .int (0)), (0, .ref h0), (1, .int (x1)), (2, .int (x2))]) hx hb d_Br_sum_1 rfl hl (by decide) rfl (fun ls hl => ?_)
  refine lv_iload_n hx hb d_Br_sum_2 rfl (lv_at hl 2 rfl) ?_
  refine lv_istore (lv' := [(4, .int (x1)), (3, .int (0)), (0, .ref h0), (1, .int (x1)), (2, .int (x2))]) hx hb d_Br_sum_3 hl (by decide) rfl (fun ls hl => ?_)
  exact hJ_5 _ (x1) _ _ _ 0 (Nat.le_refl _) hI (lv_sub hl [2, 3, 4, 1, 0] rfl) 
theorem d_Br_append_0 : decode b_Br_append 0 = .ok (.iconst 0, 1) := by decide +kernel
theorem d_Br_append_1 : decode b_Br_append 1 = .ok (.istore_n 2, 1) := by decide +kernel
theorem d_Br_append_2 : decode b_Br_append 2 = .ok (.iload_n 2, 1) := by decide +kernel
theorem d_Br_append_3 : decode b_Br_append 3 = .ok (.aload_n 1, 1) := by decide +kernel
theorem d_Br_append_4 : decode b_Br_append 4 = .ok (.getfield 15, 3) := by decide +kernel
theorem d_Br_append_7 : decode b_Br_append 7 = .ok (.if_icmp .ge 18, 3) := by decide +kernel
theorem d_Br_append_10 : decode b_Br_append 10 = .ok (.aload_n 0, 1) := by decide +kernel
theorem d_Br_append_11 : decode b_Br_append 11 = .ok (.aload_n 1, 1) := by decide +kernel
theorem d_Br_append_12 : decode b_Br_append 12 = .ok (.iload_n 2, 1) := by decide +kernel
theorem d_Br_append_13 : decode b_Br_append 13 = .ok (.invokevirtual 19, 3) := by decide +kernel
theorem d_Br_append_16 : decode b_Br_append 16 = .ok (.invokevirtual 23, 3) := by decide +kernel
theorem d_Br_append_19 : decode b_Br_append 19 = .ok (.iinc 2 1, 3) := by decide +kernel
theorem d_Br_append_22 : decode b_Br_append 22 = .ok (.goto (-20), 3) := by decide +kernel
theorem d_Br_append_25 : decode b_Br_append 25 = .ok (.return_, 1) := by decide +kernel
set_option maxRecDepth 100000 in
set_option maxHeartbeats 4000000 in
theorem c_Br_append (l : Launch) (D : va_G) (ca : Nat → ClassId) (T : ty_e) (L : List Nat) (f0 : Nat → va_E) (sz : Nat) (hT : ok_T ca T L f0) {m0 : Nat} (h0 : Nat) (t0 : T h0 = some (ty_row m0)) {m1 : Nat} (x1 : Nat) (t1 : T x1 = some (ty_row m1)) :
    Met l y_Br_append (Cond.code y_Br_append b_Br_append 3 none :: wg) { frames := 1, cells := 0, slots := 0, locals := 21 } (va_Pc [.ref h0, .ref x1] (sm_P D cl_all (ty_s ca) ek L f0 sz)) (sm_Qv D (ty_s ca) L f0 sz (fun u => po_m ca T L u)) 0 0 (va_A (va_pl L f0) sz) := by
  refine sm_start (by decide) (Nat.le_of_ble_eq_true rfl) ?_
  intro p e s m below meth c ls hx hb hml hr hlk hnm hts hown hsz hE hI hl
  have hl : lv_has ls 3 [(0, .ref h0), (1, .ref x1)] := hl
  have hJ_2 : ∀ (N k : Nat) (H : Heap) (locs : List Loc) (f : Nat → va_E) (ls : Array Slot) , 1000 + 1 - k ≤ N → k ≤ 1000 → sw_I D cl_all (ty_s ca) (va_A (va_pl L f0) sz) s H locs L f → ok_T ca T L f → lv_has ls 3 [(0, .ref h0), (1, .ref x1), (2, .int (nI k))] → W p l e { frames := 1, cells := 0, slots := 0, locals := 21 } s m ([.ref h0, .ref x1] : List Value).toArray below meth c H locs 0 0 (MQ below (sm_Qv D (ty_s ca) L f0 sz (fun u => po_m ca T L u)) ([.ref h0, .ref x1] : List Value).toArray s 0 0 (va_A (va_pl L f0) sz)) (F0 m 2 ls []) := by
    intro N
    induction N with
    | zero => intros; omega
    | succ N ih =>
      intro k H locs f ls  hN hk hI hT hl 
      obtain ⟨bb, nn, ll, hrw⟩ := rw_of hT t0
      have hrl := hrw.2.2.1
      have hrn := hrw.2.2.2.2
      refine lv_iload_n hx hb d_Br_append_2 rfl (lv_at hl 2 rfl) ?_
      refine lv_aload_n hx hb d_Br_append_3 rfl (lv_at hl 1 rfl) ?_
      refine fg_Br_length hx hb hts hown hI hT t1 (hts _ tw_48) (fun _ h9 => h9) d_Br_append_4 (fun n_1 h_2 => ?_)
      refine lv_icmp_ge (tgt := 25) hx hb d_Br_append_7 (by decide) (fun c_3 => ?_) (fun c_3 => ?_)
      · have k_4 : n_1 ≤ k := (nI_leI (a := n_1) (b := k) (by omega) (by omega)).mp c_3
        exact sm_vret hx hb hr hlk hI ⟨rfl, hT⟩ d_Br_append_25
      · have k_5 : k < n_1 := Nat.lt_of_not_le (fun q => c_3 ((nI_leI (a := n_1) (b := k) (by omega) (by omega)).mpr q))
        refine lv_aload_n hx hb d_Br_append_10 rfl (lv_at hl 0 rfl) ?_
        refine lv_aload_n hx hb d_Br_append_11 rfl (lv_at hl 1 rfl) ?_
        refine lv_iload_n hx hb d_Br_append_12 rfl (lv_at hl 2 rfl) ?_
        refine sm_iP hI (va_runV (As := [.int (nI k)]) (rest := [.ref h0]) ⟨hx, hb, hml, hown, hts⟩ (c_Br_at l D ca _ _ _ _ hT x1 t1 (nI k)) (kv_Br_at hts rfl rfl (hts _ tw_738) ⟨Nat.le_of_ble_eq_true rfl, Nat.le_of_ble_eq_true rfl⟩) (pv_Br hI hE hT t1) rfl rfl hl.1 rfl (lv_room (Nat.le_of_ble_eq_true rfl)) d_Br_append_13 ⟨Nat.le_of_ble_eq_true rfl, Nat.le_of_ble_eq_true rfl⟩) (fun x_6 H locs p_7 hI => ?_)
        refine sm_v hI (va_runV (As := [.int (x_6)]) (rest := []) ⟨hx, hb, hml, hown, hts⟩ (c_Br_put l D ca _ _ _ _ hT h0 t0 x_6) (kv_Br_put hts rfl rfl (hts _ tw_739) ⟨Nat.le_of_ble_eq_true rfl, Nat.le_of_ble_eq_true rfl⟩) (pv_Br hI hE hT t0) rfl rfl hl.1 rfl (lv_room (Nat.le_of_ble_eq_true rfl)) d_Br_append_16 ⟨Nat.le_of_ble_eq_true rfl, Nat.le_of_ble_eq_true rfl⟩) (fun H locs f hI hT => ?_)
        refine lv_iinc (v := nI (k + 1)) (lv' := [(2, .int (nI (k + 1))), (0, .ref h0), (1, .ref x1)]) hx hb d_Br_append_19 hl (k := 2) rfl (nI_1 _) (by decide) rfl (fun ls hl => ?_)
        refine lv_goto (tgt := 2) hx hb d_Br_append_22 (by decide) ?_
        exact ih ((k + 1)) _ _ _ _  (by omega) (by omega) hI hT (lv_sub hl [1, 2, 0] rfl) 
  obtain ⟨bb, nn, ll, hrw⟩ := rw_of hT t0
  have hrl := hrw.2.2.1
  have hrn := hrw.2.2.2.2
  refine lv_iconst (v := 0) hx hb d_Br_append_0 (by decide) ?_
  refine lv_istore_n (lv' := [(2, .int (0)), (0, .ref h0), (1, .ref x1)]) hx hb d_Br_append_1 rfl hl (by decide) rfl (fun ls hl => ?_)
  exact hJ_2 _ (0) _ _ _ _  (Nat.le_refl _) (by omega) hI hT (lv_sub hl [1, 2, 0] rfl) 
theorem d_Br_removeFirst_0 : decode b_Br_removeFirst 0 = .ok (.iload_n 1, 1) := by decide +kernel
theorem d_Br_removeFirst_1 : decode b_Br_removeFirst 1 = .ok (.aload_n 0, 1) := by decide +kernel
theorem d_Br_removeFirst_2 : decode b_Br_removeFirst 2 = .ok (.getfield 15, 3) := by decide +kernel
theorem d_Br_removeFirst_5 : decode b_Br_removeFirst 5 = .ok (.invokestatic 27, 3) := by decide +kernel
theorem d_Br_removeFirst_8 : decode b_Br_removeFirst 8 = .ok (.istore_n 2, 1) := by decide +kernel
theorem d_Br_removeFirst_9 : decode b_Br_removeFirst 9 = .ok (.aload_n 0, 1) := by decide +kernel
theorem d_Br_removeFirst_10 : decode b_Br_removeFirst 10 = .ok (.dup, 1) := by decide +kernel
theorem d_Br_removeFirst_11 : decode b_Br_removeFirst 11 = .ok (.getfield 15, 3) := by decide +kernel
theorem d_Br_removeFirst_14 : decode b_Br_removeFirst 14 = .ok (.iload_n 2, 1) := by decide +kernel
theorem d_Br_removeFirst_15 : decode b_Br_removeFirst 15 = .ok (.isub, 1) := by decide +kernel
theorem d_Br_removeFirst_16 : decode b_Br_removeFirst 16 = .ok (.putfield 15, 3) := by decide +kernel
theorem d_Br_removeFirst_19 : decode b_Br_removeFirst 19 = .ok (.iconst 0, 1) := by decide +kernel
theorem d_Br_removeFirst_20 : decode b_Br_removeFirst 20 = .ok (.istore_n 3, 1) := by decide +kernel
theorem d_Br_removeFirst_21 : decode b_Br_removeFirst 21 = .ok (.iload_n 3, 1) := by decide +kernel
theorem d_Br_removeFirst_22 : decode b_Br_removeFirst 22 = .ok (.aload_n 0, 1) := by decide +kernel
theorem d_Br_removeFirst_23 : decode b_Br_removeFirst 23 = .ok (.getfield 15, 3) := by decide +kernel
theorem d_Br_removeFirst_26 : decode b_Br_removeFirst 26 = .ok (.if_icmp .ge 23, 3) := by decide +kernel
theorem d_Br_removeFirst_29 : decode b_Br_removeFirst 29 = .ok (.aload_n 0, 1) := by decide +kernel
theorem d_Br_removeFirst_30 : decode b_Br_removeFirst 30 = .ok (.getfield 9, 3) := by decide +kernel
theorem d_Br_removeFirst_33 : decode b_Br_removeFirst 33 = .ok (.iload_n 3, 1) := by decide +kernel
theorem d_Br_removeFirst_34 : decode b_Br_removeFirst 34 = .ok (.aload_n 0, 1) := by decide +kernel
theorem d_Br_removeFirst_35 : decode b_Br_removeFirst 35 = .ok (.getfield 9, 3) := by decide +kernel
theorem d_Br_removeFirst_38 : decode b_Br_removeFirst 38 = .ok (.iload_n 3, 1) := by decide +kernel
theorem d_Br_removeFirst_39 : decode b_Br_removeFirst 39 = .ok (.iload_n 2, 1) := by decide +kernel
theorem d_Br_removeFirst_40 : decode b_Br_removeFirst 40 = .ok (.iadd, 1) := by decide +kernel
theorem d_Br_removeFirst_41 : decode b_Br_removeFirst 41 = .ok (.iaload, 1) := by decide +kernel
theorem d_Br_removeFirst_42 : decode b_Br_removeFirst 42 = .ok (.iastore, 1) := by decide +kernel
theorem d_Br_removeFirst_43 : decode b_Br_removeFirst 43 = .ok (.iinc 3 1, 3) := by decide +kernel
theorem d_Br_removeFirst_46 : decode b_Br_removeFirst 46 = .ok (.goto (-25), 3) := by decide +kernel
theorem d_Br_removeFirst_49 : decode b_Br_removeFirst 49 = .ok (.return_, 1) := by decide +kernel
set_option maxRecDepth 100000 in
set_option maxHeartbeats 4000000 in
theorem c_Br_removeFirst (l : Launch) (D : va_G) (ca : Nat → ClassId) (T : ty_e) (L : List Nat) (f0 : Nat → va_E) (sz : Nat) (hT : ok_T ca T L f0) {m0 : Nat} (h0 : Nat) (t0 : T h0 = some (ty_row m0)) (j1 : Nat) (q1 : j1 ≤ 1000) :
    Met l y_Br_removeFirst (Cond.code y_Br_removeFirst b_Br_removeFirst 4 none :: wg) { frames := 1, cells := 0, slots := 0, locals := 21 } (va_Pc [.ref h0, .int (nI j1)] (sm_P D cl_all (ty_s ca) ek L f0 sz)) (sm_Qv D (ty_s ca) L f0 sz (fun u => po_m ca T L u)) 0 0 (va_A (va_pl L f0) sz) := by
  refine sm_start (by decide) (Nat.le_of_ble_eq_true rfl) ?_
  intro p e s m below meth c ls hx hb hml hr hlk hnm hts hown hsz hE hI hl
  have hl : lv_has ls 4 [(0, .ref h0), (1, .int (nI j1))] := hl
  have hJ_21 : ∀ (N k : Nat) (H : Heap) (locs : List Loc) (f : Nat → va_E) (ls : Array Slot) (r : Nat), 1000 + 1 - k ≤ N → k ≤ 1000 → sw_I D cl_all (ty_s ca) (va_A (va_pl L f0) sz) s H locs L f → ok_T ca T L f → lv_has ls 4 [(0, .ref h0), (1, .int (nI j1)), (2, .int (nI r)), (3, .int (nI k))] → (∀ b n len : Nat, rw_is T f h0 m0 b n len → len + r ≤ n) → W p l e { frames := 1, cells := 0, slots := 0, locals := 21 } s m ([.ref h0, .int (nI j1)] : List Value).toArray below meth c H locs 0 0 (MQ below (sm_Qv D (ty_s ca) L f0 sz (fun u => po_m ca T L u)) ([.ref h0, .int (nI j1)] : List Value).toArray s 0 0 (va_A (va_pl L f0) sz)) (F0 m 21 ls []) := by
    intro N
    induction N with
    | zero => intros; omega
    | succ N ih =>
      intro k H locs f ls r hN hk hI hT hl hv
      obtain ⟨bb, nn, ll, hrw⟩ := rw_of hT t0
      have hrl := hrw.2.2.1
      have hrn := hrw.2.2.2.2
      have hv1 := hv _ _ _ hrw
      refine lv_iload_n hx hb d_Br_removeFirst_21 rfl (lv_at hl 3 rfl) ?_
      refine lv_aload_n hx hb d_Br_removeFirst_22 rfl (lv_at hl 0 rfl) ?_
      refine fgr_length hx hb hts hown hI hT t0 hrw (hts _ tw_48) d_Br_removeFirst_23 ?_
      refine lv_icmp_ge (tgt := 49) hx hb d_Br_removeFirst_26 (by decide) (fun c_1 => ?_) (fun c_1 => ?_)
      · have k_2 : ll ≤ k := (nI_leI (a := ll) (b := k) (by omega) (by omega)).mp c_1
        exact sm_vret hx hb hr hlk hI ⟨rfl, hT⟩ d_Br_removeFirst_49
      · have k_3 : k < ll := Nat.lt_of_not_le (fun q => c_1 ((nI_leI (a := ll) (b := k) (by omega) (by omega)).mpr q))
        refine lv_aload_n hx hb d_Br_removeFirst_29 rfl (lv_at hl 0 rfl) ?_
        refine fgr_bytes hx hb hts hown hI hT t0 hrw (hts _ tw_47) d_Br_removeFirst_30 ?_
        refine lv_iload_n hx hb d_Br_removeFirst_33 rfl (lv_at hl 3 rfl) ?_
        refine lv_aload_n hx hb d_Br_removeFirst_34 rfl (lv_at hl 0 rfl) ?_
        refine fgr_bytes hx hb hts hown hI hT t0 hrw (hts _ tw_47) d_Br_removeFirst_35 ?_
        refine lv_iload_n hx hb d_Br_removeFirst_38 rfl (lv_at hl 3 rfl) ?_
        refine lv_iload_n hx hb d_Br_removeFirst_39 rfl (lv_at hl 2 rfl) ?_
        refine lv_iadd hx hb d_Br_removeFirst_40 ?_
        refine lv_topi (fun x_4 e_5 => ?_)
        obtain rfl : x_4 = nI (k + r) := by rw [e_5]; exact nI_add _ _
        refine fa_I hx hb hI hT hrw.2.1 (vp_in_nI (by omega) (by omega)) d_Br_removeFirst_41 (fun x_6 => ?_)
        have hrq := rw_ne hT hrw
        refine fs_I hx hb hI hT hrw.2.1 (vp_in_nI (by omega) (by omega)) d_Br_removeFirst_42 (fun H locs f hI hT hkk => ?_)
        have hrw := rw_keep hrw hrq hkk
        refine lv_iinc (v := nI (k + 1)) (lv' := [(3, .int (nI (k + 1))), (0, .ref h0), (1, .int (nI j1)), (2, .int (nI r))]) hx hb d_Br_removeFirst_43 hl (k := 3) rfl (nI_1 _) (by decide) rfl (fun ls hl => ?_)
        refine lv_goto (tgt := 21) hx hb d_Br_removeFirst_46 (by decide) ?_
        exact ih ((k + 1)) _ _ _ _ (r) (by omega) (by omega) hI hT (lv_sub hl [1, 2, 3, 0] rfl) (fun b n len z => by obtain ⟨_, z1, z2⟩ := rw_uniq hrw z; omega)
  obtain ⟨bb, nn, ll, hrw⟩ := rw_of hT t0
  have hrl := hrw.2.2.1
  have hrn := hrw.2.2.2.2
  refine lv_iload_n hx hb d_Br_removeFirst_0 rfl (lv_at hl 1 rfl) ?_
  refine lv_aload_n hx hb d_Br_removeFirst_1 rfl (lv_at hl 0 rfl) ?_
  refine fgr_length hx hb hts hown hI hT t0 hrw (hts _ tw_48) d_Br_removeFirst_2 ?_
  refine va_mmin hx hb (by rw [hml]; exact hl.1.symm) hown (hts _ tw_1117) (hts _ tw_1111) (hts _ tw_19) (hts _ tw_1112) (Nat.le_of_ble_eq_true rfl) (Nat.le_of_ble_eq_true rfl) (Nat.le_of_ble_eq_true rfl) (Nat.le_of_ble_eq_true rfl) d_Br_removeFirst_5 ?_
  refine lv_topi (fun x_7 e_8 => ?_)
  obtain rfl : x_7 = nI (min j1 ll) := by rw [e_8]; exact mn_nat (by omega) (by omega)
  refine lv_istore_n (lv' := [(2, .int (nI (min j1 ll))), (0, .ref h0), (1, .int (nI j1))]) hx hb d_Br_removeFirst_8 rfl hl (by decide) rfl (fun ls hl => ?_)
  refine lv_aload_n hx hb d_Br_removeFirst_9 rfl (lv_at hl 1 rfl) ?_
  refine lv_dup hx hb d_Br_removeFirst_10 rfl ?_
  refine fgr_length hx hb hts hown hI hT t0 hrw (hts _ tw_48) d_Br_removeFirst_11 ?_
  refine lv_iload_n hx hb d_Br_removeFirst_14 rfl (lv_at hl 0 rfl) ?_
  refine lv_isub hx hb d_Br_removeFirst_15 ?_
  refine lv_topi (fun x_9 e_10 => ?_)
  obtain rfl : x_9 = nI (ll - (min j1 ll)) := by rw [e_10]; exact pk_sub (a := ll) (b := (min j1 ll)) (by omega)
  refine fpr_length (v := (ll - (min j1 ll))) hx hb hts hown hI hT t0 hrw (hts _ tw_48) (by omega) d_Br_removeFirst_16 (fun H locs f hI hT hrw hkk => ?_)
  have hrl := hrw.2.2.1
  refine lv_iconst (v := 0) hx hb d_Br_removeFirst_19 (by decide) ?_
  refine lv_istore_n (lv' := [(3, .int (0)), (2, .int (nI (min j1 ll))), (0, .ref h0), (1, .int (nI j1))]) hx hb d_Br_removeFirst_20 rfl hl (by decide) rfl (fun ls hl => ?_)
  exact hJ_21 _ (0) _ _ _ _ ((min j1 ll)) (Nat.le_refl _) (by omega) hI hT (lv_sub hl [2, 3, 1, 0] rfl) (fun b n len z => by obtain ⟨_, z1, z2⟩ := rw_uniq hrw z; omega)
