/-! ByteRow -/
theorem d_Br_clear_0 : decode b_Br_clear 0 = .ok (.aload_n 0, 1) := by decide +kernel
theorem d_Br_clear_1 : decode b_Br_clear 1 = .ok (.iconst 0, 1) := by decide +kernel
theorem d_Br_clear_2 : decode b_Br_clear 2 = .ok (.putfield 15, 3) := by decide +kernel
theorem d_Br_clear_5 : decode b_Br_clear 5 = .ok (.return_, 1) := by decide +kernel
set_option maxRecDepth 100000 in
set_option maxHeartbeats 4000000 in
theorem c_Br_clear (l : Launch) (D : va_G) (ca : Nat → ClassId) (T : ty_e) (L : List Nat) (f : Nat → va_E) (sz h0 m0 : Nat) (hT : ok_T ca T L f) (h0t : T h0 = some (ty_row m0)) :
    Met l y_Br_clear (Cond.code y_Br_clear b_Br_clear 1 none :: wg) { frames := 0, cells := 0, slots := 0, locals := 0 } (va_Pc [.ref h0] (sm_P D cl_all (ty_s ca) ek L f sz)) (sm_Qv D (ty_s ca) L f sz (fun u => u.1 = L ∧ ok_T ca T L u.2)) 0 0 (va_A (va_pl L f) sz) := by
  refine sm_start (by decide) (Nat.le_of_ble_eq_true rfl) ?_
  intro p e s m below meth c ls hx hb hml hr hlk hnm hts hown hsz hE hI hl
  have hl : lv_has ls 1 [(0, .ref h0)] := hl
  obtain ⟨b1, n1, len1, g1, ha1, e1, hb1, hbL1, eb1, hle1, hm1, hn1⟩ := ok_row_at hT h0t
  refine lv_aload_n hx hb d_Br_clear_0 rfl (lv_at hl 0 rfl) ?_
  refine lv_iconst (v := 0) hx hb d_Br_clear_1 (by decide) ?_
  refine sw_put (ci := 1) (v := .int 0) (ty := .int) (C := R_Br) (T := F_Br) (N := 2) hx hb hts in_Br t_Br t_Br_ok n_Br hown hI ha1 e1 rfl 1 (by decide) (hts _ tw_48) (fun _ h9 => h9) rfl (by decide +kernel) rfl rfl (Nat.le_of_ble_eq_true rfl) d_Br_clear_2 (fun H1 locs1 hI1 => ?_)
  refine sm_vret hx hb hr hlk hI1 ⟨rfl, ok_up hT h0t ⟨b1, n1, 0, rfl, hb1, Nat.zero_le _, hm1, hn1⟩⟩ d_Br_clear_5
