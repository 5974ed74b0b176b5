/-! the constructors of the class (written by wip/tools/cons.py) -/
theorem oc_Cn {ca : Nat → ClassId} {T : ty_e} {L : List Nat} {f : Nat → va_E} {a : Nat} {k : Nat} (hT : ok_T ca T L f) (ha : T a = some (ty_cn k)) : a ∈ L ∧ ∃ vs : List Value, f a = .inr (6, vs) := by
  obtain ⟨hL, v0, v1, v2, v3, v4, v5, v6, v7, v9, v10, v11, v12, v13, v14, v15, v16, v17, v18, e1, -⟩ := ok_cn_at hT ha
  exact ⟨hL, _, e1⟩
theorem oc_Op {ca : Nat → ClassId} {T : ty_e} {L : List Nat} {f : Nat → va_E} {a : Nat}  (hT : ok_T ca T L f) (ha : T a = some (ty_op )) : a ∈ L ∧ ∃ vs : List Value, f a = .inr (9, vs) := by
  obtain ⟨hL, v0, v1, v2, v3, v4, v5, v6, v7, e1, -⟩ := ok_op_at hT ha
  exact ⟨hL, _, e1⟩
theorem oc_Ev {ca : Nat → ClassId} {T : ty_e} {L : List Nat} {f : Nat → va_E} {a : Nat}  (hT : ok_T ca T L f) (ha : T a = some (ty_ev )) : a ∈ L ∧ ∃ vs : List Value, f a = .inr (4, vs) := by
  obtain ⟨hL, v0, v1, v2, v3, v4, e1, -⟩ := ok_ev_at hT ha
  exact ⟨hL, _, e1⟩
theorem oc_An {ca : Nat → ClassId} {T : ty_e} {L : List Nat} {f : Nat → va_E} {a : Nat}  (hT : ok_T ca T L f) (ha : T a = some (ty_an )) : a ∈ L ∧ ∃ vs : List Value, f a = .inr (2, vs) := by
  obtain ⟨hL, v0, v1, v2, v3, v4, v5, e1, -⟩ := ok_an_at hT ha
  exact ⟨hL, _, e1⟩
theorem el_sub {T : ty_e} {g : Nat → Option Nat} {n k : Nat} {ty : Nat → ty_c} (e : ∀ j, j < k → ∃ b : Nat, g j = some b ∧ T b = some (ty j)) (h : n ≤ k) : ∀ j, j < n → ∃ b : Nat, g j = some b ∧ T b = some (ty j) := fun j hj => e j (by omega)
theorem d_Br_init_0 : decode b_Br_init 0 = .ok (.aload_n 0, 1) := by decide +kernel
theorem d_Br_init_1 : decode b_Br_init 1 = .ok (.invokespecial 3, 3) := by decide +kernel
theorem d_Br_init_4 : decode b_Br_init 4 = .ok (.aload_n 0, 1) := by decide +kernel
theorem d_Br_init_5 : decode b_Br_init 5 = .ok (.iload_n 1, 1) := by decide +kernel
theorem d_Br_init_6 : decode b_Br_init 6 = .ok (.newarray .int, 2) := by decide +kernel
theorem d_Br_init_8 : decode b_Br_init 8 = .ok (.putfield 9, 3) := by decide +kernel
theorem d_Br_init_11 : decode b_Br_init 11 = .ok (.return_, 1) := by decide +kernel
set_option maxRecDepth 100000 in
set_option maxHeartbeats 4000000 in
theorem c_Br_init (l : Launch) (D : va_G) (ca : Nat → ClassId) (f0 : Nat → va_E) (sz : Nat) (h0 : Nat) (e0 : f0 h0 = .inr (1, [.null, .int 0])) (m0 : Nat) (hm : m0 / 16 ≤ 1000) :
    Met l y_Br_init (Cond.code y_Br_init b_Br_init 2 none :: wg) { frames := 1, cells := 1, slots := (m0 / 16), locals := 21 } (va_Pc [.ref h0, .int (nI (m0 / 16))] (sm_P D cl_all (ty_s ca) ek [h0] f0 sz)) (sm_Qv D (ty_s ca) [h0] f0 sz (fun u => po_k ca h0 (ty_row m0) u)) 1 (m0 / 16) (va_A (va_pl [h0] f0) sz) := by
  refine sm_start (by decide) (Nat.le_of_ble_eq_true rfl) ?_
  intro p e s m below meth c ls hx hb hml hr hlk hnm hts hown hsz hE hI hl
  have hl : lv_has ls 2 [(0, .ref h0), (1, .int (nI (m0 / 16)))] := hl
  obtain ⟨T, hT, tn0⟩ : ∃ T : ty_e, ok_T ca T [h0] f0 ∧ T h0 = none := ⟨fun _ => none, (fun b ty hb => by cases hb), rfl⟩
  have hin0 : h0 ∈ [h0] := List.mem_cons_self
  refine lv_aload_n hx hb d_Br_init_0 rfl (lv_at hl 0 rfl) ?_
  refine ob_init hx hb hown (hts _ tw_46) (hts _ tw_26) (hts _ tw_27) (by rw [hml]; exact hl.1) d_Br_init_1 (Nat.le_of_ble_eq_true rfl) (Nat.le_of_ble_eq_true rfl) ?_
  refine lv_aload_n hx hb d_Br_init_4 rfl (lv_at hl 0 rfl) ?_
  refine lv_iload_n hx hb d_Br_init_5 rfl (lv_at hl 1 rfl) ?_
  refine ra_newa (atype := .int) (ty := .int) (N' := (m0 / 16)) (a0 := ((m0 / 16), .inl (fun _ => 0))) hx hb (hts _ tw_57) rfl hI 0 rfl (fun _ => rfl) (nI_pos (by omega)) (nI_clamp (by omega)) (by show _ * 4 ≤ _; omega) (Nat.le_of_ble_eq_true rfl) (Nat.le_of_eq (Nat.zero_add _)) d_Br_init_6 (fun q_1 H f hq_2 hI e_4 hk_3 => ?_)
  have ne_5 : h0 ≠ q_1 := fun z => hq_2 (z ▸ hin0)
  have e0 := (hk_3 _ ne_5).trans e0
  have hin0 := List.mem_append_left [q_1] hin0
  obtain ⟨tn_6, hin_7, hT⟩ := ok_psh hT hq_2 hk_3
  obtain ⟨T, hle1, hTt, t_8, hnn⟩ := ok_typ (ty := ty_I ((m0 / 16))) hT hin_7 tn_6 (fun T2 hle1 => by rw [e_4]; exact ⟨_, rfl⟩)
  have tn0 := (hnn _ ne_5).trans tn0
  have hT := hTt
  refine ra_put (ci := 1) (C := R_Br) (T := F_Br) (N := 2) (ty := (.array .int)) hx hb hts in_Br t_Br t_Br_ok n_Br hown hI hin0 e0 rfl 0 (by decide) (hts _ tw_47) (fun _ h9 => h9) rfl (by decide +kernel) rfl rfl (Nat.le_of_ble_eq_true rfl) d_Br_init_8 (fun H locs f hI e0 hk_9 => ?_)
  have e0 : f h0 = .inr (1, [.ref q_1, .int 0]) := e0
  have hT := ok_rawk hT tn0 hk_9
  obtain ⟨T, hle1, hTt, tfin, hnn⟩ := ok_typ (ty := ty_row m0) hT hin0 tn0 (fun T2 hle1 => by rw [e0]; exact ⟨q_1, _, 0, rfl, hle1 _ _ t_8, Nat.zero_le _, Or.inl rfl, by omega⟩)
  refine W.widen (k := 1) (n := (m0 / 16)) (Nat.le_of_ble_eq_true rfl) (Nat.le_of_eq (Nat.zero_add _)) ?_
  exact sm_vret hx hb hr hlk hI ⟨_, hTt, tfin⟩ d_Br_init_11
theorem d_Se_init_0 : decode b_Se_init 0 = .ok (.aload_n 0, 1) := by decide +kernel
theorem d_Se_init_1 : decode b_Se_init 1 = .ok (.invokespecial 3, 3) := by decide +kernel
theorem d_Se_init_4 : decode b_Se_init 4 = .ok (.aload_n 0, 1) := by decide +kernel
theorem d_Se_init_5 : decode b_Se_init 5 = .ok (.iconst (-1), 1) := by decide +kernel
theorem d_Se_init_6 : decode b_Se_init 6 = .ok (.putfield 9, 3) := by decide +kernel
theorem d_Se_init_9 : decode b_Se_init 9 = .ok (.return_, 1) := by decide +kernel
set_option maxRecDepth 100000 in
set_option maxHeartbeats 4000000 in
theorem c_Se_init (l : Launch) (D : va_G) (ca : Nat → ClassId) (f0 : Nat → va_E) (sz : Nat) (h0 : Nat) (e0 : f0 h0 = .inr (8, [.int 0, .int 0, .long 0, .int 0, .int 0]))  :
    Met l y_Se_init (Cond.code y_Se_init b_Se_init 1 none :: wg) { frames := 1, cells := 0, slots := 0, locals := 21 } (va_Pc [.ref h0] (sm_P D cl_all (ty_s ca) ek [h0] f0 sz)) (sm_Qv D (ty_s ca) [h0] f0 sz (fun u => po_k ca h0 (ty_se) u)) 0 0 (va_A (va_pl [h0] f0) sz) := by
  refine sm_start (by decide) (Nat.le_of_ble_eq_true rfl) ?_
  intro p e s m below meth c ls hx hb hml hr hlk hnm hts hown hsz hE hI hl
  have hl : lv_has ls 1 [(0, .ref h0)] := hl
  obtain ⟨T, hT, tn0⟩ : ∃ T : ty_e, ok_T ca T [h0] f0 ∧ T h0 = none := ⟨fun _ => none, (fun b ty hb => by cases hb), rfl⟩
  have hin0 : h0 ∈ [h0] := List.mem_cons_self
  refine lv_aload_n hx hb d_Se_init_0 rfl (lv_at hl 0 rfl) ?_
  refine ob_init hx hb hown (hts _ tw_256) (hts _ tw_26) (hts _ tw_27) (by rw [hml]; exact hl.1) d_Se_init_1 (Nat.le_of_ble_eq_true rfl) (Nat.le_of_ble_eq_true rfl) ?_
  refine lv_aload_n hx hb d_Se_init_4 rfl (lv_at hl 0 rfl) ?_
  refine lv_iconst (v := -1) hx hb d_Se_init_5 (by decide) ?_
  refine ra_put (ci := 8) (C := R_Se) (T := F_Se) (N := 5) (ty := .int) hx hb hts in_Se t_Se t_Se_ok n_Se hown hI hin0 e0 rfl 0 (by decide) (hts _ tw_257) (fun _ h9 => h9) rfl (by decide +kernel) rfl rfl (Nat.le_of_ble_eq_true rfl) d_Se_init_6 (fun H locs f hI e0 hk_1 => ?_)
  have e0 : f h0 = .inr (8, [.int (-1), .int 0, .long 0, .int 0, .int 0]) := e0
  have hT := ok_rawk hT tn0 hk_1
  obtain ⟨T, hle1, hTt, tfin, hnn⟩ := ok_typ (ty := ty_se) hT hin0 tn0 (fun T2 hle1 => by rw [e0]; exact ⟨_, _, _, _, _, rfl, trivial⟩)
  refine W.widen (k := 0) (n := 0) (by first | exact Nat.le_of_ble_eq_true rfl | omega) (by first | exact Nat.le_of_ble_eq_true rfl | omega) ?_
  exact sm_vret hx hb hr hlk hI ⟨_, hTt, tfin⟩ d_Se_init_9
theorem d_An_init_0 : decode b_An_init 0 = .ok (.aload_n 0, 1) := by decide +kernel
theorem d_An_init_1 : decode b_An_init 1 = .ok (.invokespecial 3, 3) := by decide +kernel
theorem d_An_init_4 : decode b_An_init 4 = .ok (.aload_n 0, 1) := by decide +kernel
theorem d_An_init_5 : decode b_An_init 5 = .ok (.new 9, 3) := by decide +kernel
theorem d_An_init_8 : decode b_An_init 8 = .ok (.dup, 1) := by decide +kernel
theorem d_An_init_9 : decode b_An_init 9 = .ok (.bipush 18, 2) := by decide +kernel
theorem d_An_init_11 : decode b_An_init 11 = .ok (.invokespecial 11, 3) := by decide +kernel
theorem d_An_init_14 : decode b_An_init 14 = .ok (.putfield 14, 3) := by decide +kernel
theorem d_An_init_17 : decode b_An_init 17 = .ok (.return_, 1) := by decide +kernel
set_option maxRecDepth 100000 in
set_option maxHeartbeats 4000000 in
theorem c_An_init (l : Launch) (D : va_G) (ca : Nat → ClassId) (f0 : Nat → va_E) (sz : Nat) (h0 : Nat) (e0 : f0 h0 = .inr (2, [.null, .int 0, .int 0, .int 0, .int 0, .int 0]))  :
    Met l y_An_init (Cond.code y_An_init b_An_init 1 none :: wg) { frames := 2, cells := 2, slots := 20, locals := 42 } (va_Pc [.ref h0] (sm_P D cl_all (ty_s ca) ek [h0] f0 sz)) (sm_Qv D (ty_s ca) [h0] f0 sz (fun u => po_k ca h0 (ty_an) u)) 2 20 (va_A (va_pl [h0] f0) sz) := by
  refine sm_start (by decide) (Nat.le_of_ble_eq_true rfl) ?_
  intro p e s m below meth c ls hx hb hml hr hlk hnm hts hown hsz hE hI hl
  have hl : lv_has ls 1 [(0, .ref h0)] := hl
  obtain ⟨T, hT, tn0⟩ : ∃ T : ty_e, ok_T ca T [h0] f0 ∧ T h0 = none := ⟨fun _ => none, (fun b ty hb => by cases hb), rfl⟩
  have hin0 : h0 ∈ [h0] := List.mem_cons_self
  refine lv_aload_n hx hb d_An_init_0 rfl (lv_at hl 0 rfl) ?_
  refine ob_init hx hb hown (hts _ tw_70) (hts _ tw_26) (hts _ tw_27) (by rw [hml]; exact hl.1) d_An_init_1 (Nat.le_of_ble_eq_true rfl) (Nat.le_of_ble_eq_true rfl) ?_
  refine lv_aload_n hx hb d_An_init_4 rfl (lv_at hl 0 rfl) ?_
  refine ra_new (ci := 1) (C := R_Br) (T := F_Br) (N := 2) (fs := [.null, .int 0]) hx hb hts in_Br t_Br t_Br_ok hown (hts _ tw_71) (hts _ tw_42) (hts _ tw_4) hI rfl (by decide) (Nat.le_of_ble_eq_true rfl) (Nat.le_of_ble_eq_true rfl) d_An_init_5 (fun q_1 H f hq_2 hI e_4 hk_3 => ?_)
  have ne_5 : h0 ≠ q_1 := fun z => hq_2 (z ▸ hin0)
  have e0 := (hk_3 _ ne_5).trans e0
  have hT := ok_psl hT hq_2 hk_3
  refine lv_dup hx hb d_An_init_8 rfl ?_
  refine lv_bipush (v := 18) hx hb d_An_init_9 (by decide) ?_
  refine sm_vK (K := [q_1]) (ty := ty_row 288) hI hT (va_runI (As := [.int (18)]) (rest := [.ref q_1, .ref h0]) ⟨hx, hb, hml, hown, hts⟩ (c_Br_init l D ca _ _ q_1 e_4 (288) (by decide)) (ki_Br_init hts rfl rfl (hts _ tw_72) ⟨Nat.le_of_ble_eq_true rfl, Nat.le_of_ble_eq_true rfl⟩) (sd_preS hI hE) rfl rfl hl.1 rfl (lv_room (Nat.le_of_ble_eq_true rfl)) d_An_init_11 ⟨(Nat.le_of_ble_eq_true rfl), (Nat.le_of_ble_eq_true rfl)⟩) (fun T L H locs f hle1 hI hT t_6 hk_7 => ?_)
  obtain ⟨hin0, z_8, z_9⟩ := hk_7 _ hin0
  have e0 := z_8.trans e0
  have tn0 := z_9.trans tn0
  refine ra_putF (ci := 2) (C := R_An) (T := F_An) (N := 6) (ty := (.object "TelecontrolPost$ByteRow")) hx hb hts in_An t_An t_An_ok n_An hown hI hin0 e0 rfl 0 (by decide) (hts _ tw_73) (fun _ h9 => h9) rfl hnm rfl (by decide +kernel) rfl rfl (Nat.le_of_ble_eq_true rfl) d_An_init_14 (fun H locs f hI e0 hk_10 => ?_)
  have e0 : f h0 = .inr (2, [.ref q_1, .int 0, .int 0, .int 0, .int 0, .int 0]) := e0
  have hT := ok_rawk hT tn0 hk_10
  obtain ⟨T, hle1, hTt, tfin, hnn⟩ := ok_typ (ty := ty_an) hT hin0 tn0 (fun T2 hle1 => by rw [e0]; exact ⟨_, _, _, _, _, _, rfl, hle1 _ _ t_6, (by first | exact Or.inl rfl | exact Or.inl rfl), (by first | exact Or.inl rfl | exact Or.inl rfl), (by first | exact Or.inl rfl | exact Or.inl rfl)⟩)
  refine W.widen (k := 2) (n := 20) (by first | exact Nat.le_of_ble_eq_true rfl | omega) (by first | exact Nat.le_of_ble_eq_true rfl | omega) ?_
  exact sm_vret hx hb hr hlk hI ⟨_, hTt, tfin⟩ d_An_init_17
theorem d_Op_init_0 : decode b_Op_init 0 = .ok (.aload_n 0, 1) := by decide +kernel
theorem d_Op_init_1 : decode b_Op_init 1 = .ok (.invokespecial 3, 3) := by decide +kernel
theorem d_Op_init_4 : decode b_Op_init 4 = .ok (.aload_n 0, 1) := by decide +kernel
theorem d_Op_init_5 : decode b_Op_init 5 = .ok (.bipush (-100), 2) := by decide +kernel
theorem d_Op_init_7 : decode b_Op_init 7 = .ok (.putfield 9, 3) := by decide +kernel
theorem d_Op_init_10 : decode b_Op_init 10 = .ok (.aload_n 0, 1) := by decide +kernel
theorem d_Op_init_11 : decode b_Op_init 11 = .ok (.new 15, 3) := by decide +kernel
theorem d_Op_init_14 : decode b_Op_init 14 = .ok (.dup, 1) := by decide +kernel
theorem d_Op_init_15 : decode b_Op_init 15 = .ok (.bipush 18, 2) := by decide +kernel
theorem d_Op_init_17 : decode b_Op_init 17 = .ok (.invokespecial 17, 3) := by decide +kernel
theorem d_Op_init_20 : decode b_Op_init 20 = .ok (.putfield 20, 3) := by decide +kernel
theorem d_Op_init_23 : decode b_Op_init 23 = .ok (.return_, 1) := by decide +kernel
set_option maxRecDepth 100000 in
set_option maxHeartbeats 4000000 in
theorem c_Op_init (l : Launch) (D : va_G) (ca : Nat → ClassId) (f0 : Nat → va_E) (sz : Nat) (h0 : Nat) (e0 : f0 h0 = .inr (9, [.int 0, .int 0, .int 0, .int 0, .int 0, .int 0, .int 0, .null]))  :
    Met l y_Op_init (Cond.code y_Op_init b_Op_init 1 none :: wg) { frames := 2, cells := 2, slots := 20, locals := 42 } (va_Pc [.ref h0] (sm_P D cl_all (ty_s ca) ek [h0] f0 sz)) (sm_Qv D (ty_s ca) [h0] f0 sz (fun u => po_k ca h0 (ty_op) u)) 2 20 (va_A (va_pl [h0] f0) sz) := by
  refine sm_start (by decide) (Nat.le_of_ble_eq_true rfl) ?_
  intro p e s m below meth c ls hx hb hml hr hlk hnm hts hown hsz hE hI hl
  have hl : lv_has ls 1 [(0, .ref h0)] := hl
  obtain ⟨T, hT, tn0⟩ : ∃ T : ty_e, ok_T ca T [h0] f0 ∧ T h0 = none := ⟨fun _ => none, (fun b ty hb => by cases hb), rfl⟩
  have hin0 : h0 ∈ [h0] := List.mem_cons_self
  refine lv_aload_n hx hb d_Op_init_0 rfl (lv_at hl 0 rfl) ?_
  refine ob_init hx hb hown (hts _ tw_332) (hts _ tw_26) (hts _ tw_27) (by rw [hml]; exact hl.1) d_Op_init_1 (Nat.le_of_ble_eq_true rfl) (Nat.le_of_ble_eq_true rfl) ?_
  refine lv_aload_n hx hb d_Op_init_4 rfl (lv_at hl 0 rfl) ?_
  refine lv_bipush (v := -100) hx hb d_Op_init_5 (by decide) ?_
  refine ra_put (ci := 9) (C := R_Op) (T := F_Op) (N := 8) (ty := .int) hx hb hts in_Op t_Op t_Op_ok n_Op hown hI hin0 e0 rfl 0 (by decide) (hts _ tw_335) (fun _ h9 => h9) rfl (by decide +kernel) rfl rfl (Nat.le_of_ble_eq_true rfl) d_Op_init_7 (fun H locs f hI e0 hk_1 => ?_)
  have e0 : f h0 = .inr (9, [.int (-100), .int 0, .int 0, .int 0, .int 0, .int 0, .int 0, .null]) := e0
  have hT := ok_rawk hT tn0 hk_1
  refine lv_aload_n hx hb d_Op_init_10 rfl (lv_at hl 0 rfl) ?_
  refine ra_new (ci := 1) (C := R_Br) (T := F_Br) (N := 2) (fs := [.null, .int 0]) hx hb hts in_Br t_Br t_Br_ok hown (hts _ tw_333) (hts _ tw_42) (hts _ tw_4) hI rfl (by decide) (Nat.le_of_ble_eq_true rfl) (Nat.le_of_ble_eq_true rfl) d_Op_init_11 (fun q_2 H f hq_3 hI e_5 hk_4 => ?_)
  have ne_6 : h0 ≠ q_2 := fun z => hq_3 (z ▸ hin0)
  have e0 := (hk_4 _ ne_6).trans e0
  have hT := ok_psl hT hq_3 hk_4
  refine lv_dup hx hb d_Op_init_14 rfl ?_
  refine lv_bipush (v := 18) hx hb d_Op_init_15 (by decide) ?_
  refine sm_vK (K := [q_2]) (ty := ty_row 289) hI hT (va_runI (As := [.int (18)]) (rest := [.ref q_2, .ref h0]) ⟨hx, hb, hml, hown, hts⟩ (c_Br_init l D ca _ _ q_2 e_5 (289) (by decide)) (ki_Br_init hts rfl rfl (hts _ tw_334) ⟨Nat.le_of_ble_eq_true rfl, Nat.le_of_ble_eq_true rfl⟩) (sd_preS hI hE) rfl rfl hl.1 rfl (lv_room (Nat.le_of_ble_eq_true rfl)) d_Op_init_17 ⟨(Nat.le_of_ble_eq_true rfl), (Nat.le_of_ble_eq_true rfl)⟩) (fun T L H locs f hle1 hI hT t_7 hk_8 => ?_)
  obtain ⟨hin0, z_9, z_10⟩ := hk_8 _ hin0
  have e0 := z_9.trans e0
  have tn0 := z_10.trans tn0
  refine ra_putF (ci := 9) (C := R_Op) (T := F_Op) (N := 8) (ty := (.object "TelecontrolPost$ByteRow")) hx hb hts in_Op t_Op t_Op_ok n_Op hown hI hin0 e0 rfl 7 (by decide) (hts _ tw_343) (fun _ h9 => h9) rfl hnm rfl (by decide +kernel) rfl rfl (Nat.le_of_ble_eq_true rfl) d_Op_init_20 (fun H locs f hI e0 hk_11 => ?_)
  have e0 : f h0 = .inr (9, [.int (-100), .int 0, .int 0, .int 0, .int 0, .int 0, .int 0, .ref q_2]) := e0
  have hT := ok_rawk hT tn0 hk_11
  obtain ⟨T, hle1, hTt, tfin, hnn⟩ := ok_typ (ty := ty_op) hT hin0 tn0 (fun T2 hle1 => by rw [e0]; exact ⟨_, _, _, _, _, _, _, _, rfl, (by first | exact Or.inl rfl | exact Or.inl rfl), hle1 _ _ t_7⟩)
  refine W.widen (k := 2) (n := 20) (by first | exact Nat.le_of_ble_eq_true rfl | omega) (by first | exact Nat.le_of_ble_eq_true rfl | omega) ?_
  exact sm_vret hx hb hr hlk hI ⟨_, hTt, tfin⟩ d_Op_init_23
theorem d_Ev_init_0 : decode b_Ev_init 0 = .ok (.aload_n 0, 1) := by decide +kernel
theorem d_Ev_init_1 : decode b_Ev_init 1 = .ok (.invokespecial 1, 3) := by decide +kernel
theorem d_Ev_init_4 : decode b_Ev_init 4 = .ok (.aload_n 0, 1) := by decide +kernel
theorem d_Ev_init_5 : decode b_Ev_init 5 = .ok (.new 7, 3) := by decide +kernel
theorem d_Ev_init_8 : decode b_Ev_init 8 = .ok (.dup, 1) := by decide +kernel
theorem d_Ev_init_9 : decode b_Ev_init 9 = .ok (.bipush 12, 2) := by decide +kernel
theorem d_Ev_init_11 : decode b_Ev_init 11 = .ok (.invokespecial 9, 3) := by decide +kernel
theorem d_Ev_init_14 : decode b_Ev_init 14 = .ok (.putfield 12, 3) := by decide +kernel
theorem d_Ev_init_17 : decode b_Ev_init 17 = .ok (.return_, 1) := by decide +kernel
set_option maxRecDepth 100000 in
set_option maxHeartbeats 4000000 in
theorem c_Ev_init (l : Launch) (D : va_G) (ca : Nat → ClassId) (f0 : Nat → va_E) (sz : Nat) (h0 : Nat) (e0 : f0 h0 = .inr (4, [.int 0, .int 0, .null, .int 0, .int 0]))  :
    Met l y_Ev_init (Cond.code y_Ev_init b_Ev_init 1 none :: wg) { frames := 2, cells := 2, slots := 14, locals := 42 } (va_Pc [.ref h0] (sm_P D cl_all (ty_s ca) ek [h0] f0 sz)) (sm_Qv D (ty_s ca) [h0] f0 sz (fun u => po_k ca h0 (ty_ev) u)) 2 14 (va_A (va_pl [h0] f0) sz) := by
  refine sm_start (by decide) (Nat.le_of_ble_eq_true rfl) ?_
  intro p e s m below meth c ls hx hb hml hr hlk hnm hts hown hsz hE hI hl
  have hl : lv_has ls 1 [(0, .ref h0)] := hl
  obtain ⟨T, hT, tn0⟩ : ∃ T : ty_e, ok_T ca T [h0] f0 ∧ T h0 = none := ⟨fun _ => none, (fun b ty hb => by cases hb), rfl⟩
  have hin0 : h0 ∈ [h0] := List.mem_cons_self
  refine lv_aload_n hx hb d_Ev_init_0 rfl (lv_at hl 0 rfl) ?_
  refine ob_init hx hb hown (hts _ tw_214) (hts _ tw_26) (hts _ tw_27) (by rw [hml]; exact hl.1) d_Ev_init_1 (Nat.le_of_ble_eq_true rfl) (Nat.le_of_ble_eq_true rfl) ?_
  refine lv_aload_n hx hb d_Ev_init_4 rfl (lv_at hl 0 rfl) ?_
  refine ra_new (ci := 1) (C := R_Br) (T := F_Br) (N := 2) (fs := [.null, .int 0]) hx hb hts in_Br t_Br t_Br_ok hown (hts _ tw_215) (hts _ tw_42) (hts _ tw_4) hI rfl (by decide) (Nat.le_of_ble_eq_true rfl) (Nat.le_of_ble_eq_true rfl) d_Ev_init_5 (fun q_1 H f hq_2 hI e_4 hk_3 => ?_)
  have ne_5 : h0 ≠ q_1 := fun z => hq_2 (z ▸ hin0)
  have e0 := (hk_3 _ ne_5).trans e0
  have hT := ok_psl hT hq_2 hk_3
  refine lv_dup hx hb d_Ev_init_8 rfl ?_
  refine lv_bipush (v := 12) hx hb d_Ev_init_9 (by decide) ?_
  refine sm_vK (K := [q_1]) (ty := ty_row 192) hI hT (va_runI (As := [.int (12)]) (rest := [.ref q_1, .ref h0]) ⟨hx, hb, hml, hown, hts⟩ (c_Br_init l D ca _ _ q_1 e_4 (192) (by decide)) (ki_Br_init hts rfl rfl (hts _ tw_216) ⟨Nat.le_of_ble_eq_true rfl, Nat.le_of_ble_eq_true rfl⟩) (sd_preS hI hE) rfl rfl hl.1 rfl (lv_room (Nat.le_of_ble_eq_true rfl)) d_Ev_init_11 ⟨(Nat.le_of_ble_eq_true rfl), (Nat.le_of_ble_eq_true rfl)⟩) (fun T L H locs f hle1 hI hT t_6 hk_7 => ?_)
  obtain ⟨hin0, z_8, z_9⟩ := hk_7 _ hin0
  have e0 := z_8.trans e0
  have tn0 := z_9.trans tn0
  refine ra_putF (ci := 4) (C := R_Ev) (T := F_Ev) (N := 5) (ty := (.object "TelecontrolPost$ByteRow")) hx hb hts in_Ev t_Ev t_Ev_ok n_Ev hown hI hin0 e0 rfl 2 (by decide) (hts _ tw_219) (fun _ h9 => h9) rfl hnm rfl (by decide +kernel) rfl rfl (Nat.le_of_ble_eq_true rfl) d_Ev_init_14 (fun H locs f hI e0 hk_10 => ?_)
  have e0 : f h0 = .inr (4, [.int 0, .int 0, .ref q_1, .int 0, .int 0]) := e0
  have hT := ok_rawk hT tn0 hk_10
  obtain ⟨T, hle1, hTt, tfin, hnn⟩ := ok_typ (ty := ty_ev) hT hin0 tn0 (fun T2 hle1 => by rw [e0]; exact ⟨_, _, _, _, _, rfl, hle1 _ _ t_6⟩)
  refine W.widen (k := 2) (n := 14) (by first | exact Nat.le_of_ble_eq_true rfl | omega) (by first | exact Nat.le_of_ble_eq_true rfl | omega) ?_
  exact sm_vret hx hb hr hlk hI ⟨_, hTt, tfin⟩ d_Ev_init_17
theorem d_Pt_init_0 : decode b_Pt_init 0 = .ok (.aload_n 0, 1) := by decide +kernel
theorem d_Pt_init_1 : decode b_Pt_init 1 = .ok (.invokespecial 3, 3) := by decide +kernel
theorem d_Pt_init_4 : decode b_Pt_init 4 = .ok (.aload_n 0, 1) := by decide +kernel
theorem d_Pt_init_5 : decode b_Pt_init 5 = .ok (.iload_n 1, 1) := by decide +kernel
theorem d_Pt_init_6 : decode b_Pt_init 6 = .ok (.putfield 9, 3) := by decide +kernel
theorem d_Pt_init_9 : decode b_Pt_init 9 = .ok (.aload_n 0, 1) := by decide +kernel
theorem d_Pt_init_10 : decode b_Pt_init 10 = .ok (.iload_n 2, 1) := by decide +kernel
theorem d_Pt_init_11 : decode b_Pt_init 11 = .ok (.putfield 15, 3) := by decide +kernel
theorem d_Pt_init_14 : decode b_Pt_init 14 = .ok (.aload_n 0, 1) := by decide +kernel
theorem d_Pt_init_15 : decode b_Pt_init 15 = .ok (.iload_n 3, 1) := by decide +kernel
theorem d_Pt_init_16 : decode b_Pt_init 16 = .ok (.putfield 18, 3) := by decide +kernel
theorem d_Pt_init_19 : decode b_Pt_init 19 = .ok (.aload_n 0, 1) := by decide +kernel
theorem d_Pt_init_20 : decode b_Pt_init 20 = .ok (.iload 4, 2) := by decide +kernel
theorem d_Pt_init_22 : decode b_Pt_init 22 = .ok (.putfield 21, 3) := by decide +kernel
theorem d_Pt_init_25 : decode b_Pt_init 25 = .ok (.return_, 1) := by decide +kernel
set_option maxRecDepth 100000 in
set_option maxHeartbeats 4000000 in
theorem c_Pt_init (l : Launch) (D : va_G) (ca : Nat → ClassId) (f0 : Nat → va_E) (sz : Nat) (h0 : Nat) (e0 : f0 h0 = .inr (10, [.int 0, .int 0, .int 0, .int 0, .int 0, .int 0])) (q0 : Int32 × Int32) (hq0 : 0 ≤ q0.2.toInt ∧ q0.2.toInt ≤ 9) (x3 x4 : Int32) (p4 : x4 = 0 ∨ x4 = 1) :
    Met l y_Pt_init (Cond.code y_Pt_init b_Pt_init 5 none :: wg) { frames := 1, cells := 0, slots := 0, locals := 21 } (va_Pc [.ref h0, .int (q0.1), .int (q0.2), .int (x3), .int (x4)] (sm_P D cl_all (ty_s ca) ek [h0] f0 sz)) (sm_Qv D (ty_s ca) [h0] f0 sz (fun u => po_k ca h0 (ty_pt q0) u)) 0 0 (va_A (va_pl [h0] f0) sz) := by
  refine sm_start (by decide) (Nat.le_of_ble_eq_true rfl) ?_
  intro p e s m below meth c ls hx hb hml hr hlk hnm hts hown hsz hE hI hl
  have hl : lv_has ls 5 [(0, .ref h0), (1, .int (q0.1)), (2, .int (q0.2)), (3, .int (x3)), (4, .int (x4))] := hl
  obtain ⟨T, hT, tn0⟩ : ∃ T : ty_e, ok_T ca T [h0] f0 ∧ T h0 = none := ⟨fun _ => none, (fun b ty hb => by cases hb), rfl⟩
  have hin0 : h0 ∈ [h0] := List.mem_cons_self
  refine lv_aload_n hx hb d_Pt_init_0 rfl (lv_at hl 0 rfl) ?_
  refine ob_init hx hb hown (hts _ tw_517) (hts _ tw_26) (hts _ tw_27) (by rw [hml]; exact hl.1) d_Pt_init_1 (Nat.le_of_ble_eq_true rfl) (Nat.le_of_ble_eq_true rfl) ?_
  refine lv_aload_n hx hb d_Pt_init_4 rfl (lv_at hl 0 rfl) ?_
  refine lv_iload_n hx hb d_Pt_init_5 rfl (lv_at hl 1 rfl) ?_
  refine ra_putF (ci := 10) (C := R_Pt) (T := F_Pt) (N := 6) (ty := .int) hx hb hts in_Pt t_Pt t_Pt_ok n_Pt hown hI hin0 e0 rfl 0 (by decide) (hts _ tw_518) (fun _ h9 => h9) rfl hnm rfl (by decide +kernel) rfl rfl (Nat.le_of_ble_eq_true rfl) d_Pt_init_6 (fun H locs f hI e0 hk_1 => ?_)
  have e0 : f h0 = .inr (10, [.int (q0.1), .int 0, .int 0, .int 0, .int 0, .int 0]) := e0
  have hT := ok_rawk hT tn0 hk_1
  refine lv_aload_n hx hb d_Pt_init_9 rfl (lv_at hl 0 rfl) ?_
  refine lv_iload_n hx hb d_Pt_init_10 rfl (lv_at hl 2 rfl) ?_
  refine ra_putF (ci := 10) (C := R_Pt) (T := F_Pt) (N := 6) (ty := .int) hx hb hts in_Pt t_Pt t_Pt_ok n_Pt hown hI hin0 e0 rfl 1 (by decide) (hts _ tw_520) (fun _ h9 => h9) rfl hnm rfl (by decide +kernel) rfl rfl (Nat.le_of_ble_eq_true rfl) d_Pt_init_11 (fun H locs f hI e0 hk_2 => ?_)
  have e0 : f h0 = .inr (10, [.int (q0.1), .int (q0.2), .int 0, .int 0, .int 0, .int 0]) := e0
  have hT := ok_rawk hT tn0 hk_2
  refine lv_aload_n hx hb d_Pt_init_14 rfl (lv_at hl 0 rfl) ?_
  refine lv_iload_n hx hb d_Pt_init_15 rfl (lv_at hl 3 rfl) ?_
  refine ra_putF (ci := 10) (C := R_Pt) (T := F_Pt) (N := 6) (ty := .int) hx hb hts in_Pt t_Pt t_Pt_ok n_Pt hown hI hin0 e0 rfl 2 (by decide) (hts _ tw_523) (fun _ h9 => h9) rfl hnm rfl (by decide +kernel) rfl rfl (Nat.le_of_ble_eq_true rfl) d_Pt_init_16 (fun H locs f hI e0 hk_3 => ?_)
  have e0 : f h0 = .inr (10, [.int (q0.1), .int (q0.2), .int (x3), .int 0, .int 0, .int 0]) := e0
  have hT := ok_rawk hT tn0 hk_3
  refine lv_aload_n hx hb d_Pt_init_19 rfl (lv_at hl 0 rfl) ?_
  refine lv_iload hx hb d_Pt_init_20 (lv_at hl 4 rfl) ?_
  refine ra_putF (ci := 10) (C := R_Pt) (T := F_Pt) (N := 6) (ty := .boolean) hx hb hts in_Pt t_Pt t_Pt_ok n_Pt hown hI hin0 e0 rfl 3 (by decide) (hts _ tw_525) (fun _ h9 => h9) rfl hnm rfl (by decide +kernel) (nz_n p4) (nz_f p4) (Nat.le_of_ble_eq_true rfl) d_Pt_init_22 (fun H locs f hI e0 hk_4 => ?_)
  have e0 : f h0 = .inr (10, [.int (q0.1), .int (q0.2), .int (x3), .int (x4), .int 0, .int 0]) := e0
  have hT := ok_rawk hT tn0 hk_4
  obtain ⟨T, hle1, hTt, tfin, hnn⟩ := ok_typ (ty := ty_pt q0) hT hin0 tn0 (fun T2 hle1 => by rw [e0]; exact ⟨_, rfl, ⟨_, _, _, _, rfl, (by first | exact Or.inl rfl | exact p4), hq0⟩⟩)
  refine W.widen (k := 0) (n := 0) (by first | exact Nat.le_of_ble_eq_true rfl | omega) (by first | exact Nat.le_of_ble_eq_true rfl | omega) ?_
  exact sm_vret hx hb hr hlk hI ⟨_, hTt, tfin⟩ d_Pt_init_25
theorem d_Es_init_0 : decode b_Es_init 0 = .ok (.aload_n 0, 1) := by decide +kernel
theorem d_Es_init_1 : decode b_Es_init 1 = .ok (.invokespecial 3, 3) := by decide +kernel
theorem d_Es_init_4 : decode b_Es_init 4 = .ok (.aload_n 0, 1) := by decide +kernel
theorem d_Es_init_5 : decode b_Es_init 5 = .ok (.bipush 48, 2) := by decide +kernel
theorem d_Es_init_7 : decode b_Es_init 7 = .ok (.anewarray 9, 3) := by decide +kernel
theorem d_Es_init_10 : decode b_Es_init 10 = .ok (.putfield 11, 3) := by decide +kernel
theorem d_Es_init_13 : decode b_Es_init 13 = .ok (.iconst 0, 1) := by decide +kernel
theorem d_Es_init_14 : decode b_Es_init 14 = .ok (.istore_n 1, 1) := by decide +kernel
theorem d_Es_init_15 : decode b_Es_init 15 = .ok (.iload_n 1, 1) := by decide +kernel
theorem d_Es_init_16 : decode b_Es_init 16 = .ok (.aload_n 0, 1) := by decide +kernel
theorem d_Es_init_17 : decode b_Es_init 17 = .ok (.getfield 11, 3) := by decide +kernel
theorem d_Es_init_20 : decode b_Es_init 20 = .ok (.arraylength, 1) := by decide +kernel
theorem d_Es_init_21 : decode b_Es_init 21 = .ok (.if_icmp .ge 22, 3) := by decide +kernel
theorem d_Es_init_24 : decode b_Es_init 24 = .ok (.aload_n 0, 1) := by decide +kernel
theorem d_Es_init_25 : decode b_Es_init 25 = .ok (.getfield 11, 3) := by decide +kernel
theorem d_Es_init_28 : decode b_Es_init 28 = .ok (.iload_n 1, 1) := by decide +kernel
theorem d_Es_init_29 : decode b_Es_init 29 = .ok (.new 9, 3) := by decide +kernel
theorem d_Es_init_32 : decode b_Es_init 32 = .ok (.dup, 1) := by decide +kernel
theorem d_Es_init_33 : decode b_Es_init 33 = .ok (.invokespecial 17, 3) := by decide +kernel
theorem d_Es_init_36 : decode b_Es_init 36 = .ok (.aastore, 1) := by decide +kernel
theorem d_Es_init_37 : decode b_Es_init 37 = .ok (.iinc 1 1, 3) := by decide +kernel
theorem d_Es_init_40 : decode b_Es_init 40 = .ok (.goto (-25), 3) := by decide +kernel
theorem d_Es_init_43 : decode b_Es_init 43 = .ok (.return_, 1) := by decide +kernel
set_option maxRecDepth 100000 in
set_option maxHeartbeats 4000000 in
theorem c_Es_init (l : Launch) (D : va_G) (ca : Nat → ClassId) (f0 : Nat → va_E) (sz : Nat) (h0 : Nat) (e0 : f0 h0 = .inr (5, [.null, .int 0, .int 0]))  :
    Met l y_Es_init (Cond.code y_Es_init b_Es_init 2 none :: wg) { frames := 3, cells := 148, slots := 979, locals := 62 } (va_Pc [.ref h0] (sm_P D cl_all (ty_s ca) ek [h0] f0 sz)) (sm_Qv D (ty_s ca) [h0] f0 sz (fun u => po_k ca h0 (ty_es) u)) 148 979 (va_A (va_pl [h0] f0) sz) := by
  refine sm_start (by decide) (Nat.le_of_ble_eq_true rfl) ?_
  intro p e s m below meth c ls hx hb hml hr hlk hnm hts hown hsz hE hI hl
  have hl : lv_has ls 2 [(0, .ref h0)] := hl
  obtain ⟨T, hT, tn0⟩ : ∃ T : ty_e, ok_T ca T [h0] f0 ∧ T h0 = none := ⟨fun _ => none, (fun b ty hb => by cases hb), rfl⟩
  have hin0 : h0 ∈ [h0] := List.mem_cons_self
  refine lv_aload_n hx hb d_Es_init_0 rfl (lv_at hl 0 rfl) ?_
  refine ob_init hx hb hown (hts _ tw_207) (hts _ tw_26) (hts _ tw_27) (by rw [hml]; exact hl.1) d_Es_init_1 (Nat.le_of_ble_eq_true rfl) (Nat.le_of_ble_eq_true rfl) ?_
  refine lv_aload_n hx hb d_Es_init_4 rfl (lv_at hl 0 rfl) ?_
  refine lv_bipush (v := 48) hx hb d_Es_init_5 (by decide) ?_
  refine ra_newq (C := R_Ev) (N' := 48) hx hb hown (hts _ tw_208) (hE.2.2.1 _ tn_209) hI 6 rfl (by decide) (by decide) (by decide) (Nat.le_of_ble_eq_true rfl) (Nat.le_of_ble_eq_true rfl) d_Es_init_7 (fun q_1 H f hq_2 hI e_4 hk_3 => ?_)
  have ne_5 : h0 ≠ q_1 := fun z => hq_2 (z ▸ hin0)
  have e0 := (hk_3 _ ne_5).trans e0
  have hin0 := List.mem_append_left [q_1] hin0
  obtain ⟨tn_6, hin_7, hT⟩ := ok_psh hT hq_2 hk_3
  refine ra_putF (ci := 5) (C := R_Es) (T := F_Es) (N := 3) (ty := (.array (.object "TelecontrolPost$Event"))) hx hb hts in_Es t_Es t_Es_ok n_Es hown hI hin0 e0 rfl 0 (by decide) (hts _ tw_237) (fun _ h9 => h9) rfl hnm rfl (by decide +kernel) rfl rfl (Nat.le_of_ble_eq_true rfl) d_Es_init_10 (fun H locs f hI e0 hk_8 => ?_)
  have e0 : f h0 = .inr (5, [.ref q_1, .int 0, .int 0]) := e0
  have e_4 := (hk_8 _ (Ne.symm ne_5)).trans e_4
  have hT := ok_rawk hT tn0 hk_8
  refine lv_iconst (v := 0) hx hb d_Es_init_13 (by decide) ?_
  refine lv_istore_n (lv' := [(1, .int (0)), (0, .ref h0)]) hx hb d_Es_init_14 rfl hl (by decide) rfl (fun ls hl => ?_)
  have hJ_15 : ∀ (N k : Nat) (T : ty_e) (L : List Nat) (H : Heap) (locs : List Loc) (f : Nat → va_E) (g15 : Nat → Option Nat) (ls : Array Slot), 48 + 1 - k ≤ N → k ≤ 48 → (sw_I D cl_all (ty_s ca) (va_A (va_pl [h0] f0) sz) s H locs L f) → (ok_T ca T L f) → (h0 ∈ L) → (T h0 = none) → (f h0 = .inr (5, [.ref q_1, .int 0, .int 0])) → (q_1 ∈ L) → (T q_1 = none) → (f q_1 = .inl (ca 6, 48, .inr (.inr (.inr (.inr g15))))) → (∀ j, j < k → ∃ b : Nat, g15 j = some b ∧ T b = some ((fun _ => ty_ev) j)) → lv_has ls 2 [(0, .ref h0), (1, .int (nI k))] → W p l e { frames := 3, cells := 148, slots := 979, locals := 62 } s m ([.ref h0] : List Value).toArray below meth c H locs (1 + k * 3) (48 + k * 19) (MQ below (sm_Qv D (ty_s ca) [h0] f0 sz (fun u => po_k ca h0 (ty_es) u)) ([.ref h0] : List Value).toArray s 148 979 (va_A (va_pl [h0] f0) sz)) (F0 m 15 ls []) := by
    intro N
    induction N with
    | zero => intros; omega
    | succ N ih =>
      intro k T L H locs f g15 ls hN hk hI hT hin0 tn0 e0 hin_7 tn_6 e_4 hel15 hl
      refine lv_iload_n hx hb d_Es_init_15 rfl (lv_at hl 1 rfl) ?_
      refine lv_aload_n hx hb d_Es_init_16 rfl (lv_at hl 0 rfl) ?_
      refine sw_get (ci := 5) (C := R_Es) (T := F_Es) (N := 3) (v := .ref q_1) hx hb hts in_Es hown hI hin0 e0 rfl 0 (by decide) (hts _ tw_237) (fun _ h9 => h9) rfl d_Es_init_17 ?_
      refine sw_alen (v := nI 48) hx hb hI hin_7 6 e_4 rfl rfl d_Es_init_20 ?_
      refine lv_icmp_ge (tgt := 43) hx hb d_Es_init_21 (by decide) (fun c_9 => ?_) (fun c_9 => ?_)
      · have k_10 : 48 ≤ k := (nI_leI (a := 48) (b := k) (by omega) (by omega)).mp c_9
        obtain ⟨T, hle1, hTt, t_11, hnn⟩ := ok_typ (ty := ty_evs) hT hin_7 tn_6 (fun T2 hle1 => by rw [e_4]; exact ⟨_, rfl, fun j hj => el_le hle1 hel15 j (by omega)⟩)
        have tn0 := (hnn _ ne_5).trans tn0
        have hT := hTt
        obtain ⟨T, hle1, hTt, tfin, hnn⟩ := ok_typ (ty := ty_es) hT hin0 tn0 (fun T2 hle1 => by rw [e0]; exact ⟨_, 0, _, rfl, hle1 _ _ t_11, (by decide)⟩)
        refine W.widen (k := 148) (n := 979) (by first | exact Nat.le_of_ble_eq_true rfl | omega) (by first | exact Nat.le_of_ble_eq_true rfl | omega) ?_
        exact sm_vret hx hb hr hlk hI ⟨_, hTt, tfin⟩ d_Es_init_43
      · have k_12 : k < 48 := Nat.lt_of_not_le (fun q => c_9 ((nI_leI (a := 48) (b := k) (by omega) (by omega)).mpr q))
        refine lv_aload_n hx hb d_Es_init_24 rfl (lv_at hl 0 rfl) ?_
        refine sw_get (ci := 5) (C := R_Es) (T := F_Es) (N := 3) (v := .ref q_1) hx hb hts in_Es hown hI hin0 e0 rfl 0 (by decide) (hts _ tw_237) (fun _ h9 => h9) rfl d_Es_init_25 ?_
        refine lv_iload_n hx hb d_Es_init_28 rfl (lv_at hl 1 rfl) ?_
        refine ra_new (ci := 4) (C := R_Ev) (T := F_Ev) (N := 5) (fs := [.int 0, .int 0, .null, .int 0, .int 0]) hx hb hts in_Ev t_Ev t_Ev_ok hown (hts _ tw_208) (hts _ tw_210) (hts _ tw_8) hI rfl (by decide) (by show _ + 1 ≤ 148; omega) (by show _ + 5 ≤ 979; omega) d_Es_init_29 (fun q_13 H f hq_14 hI e_16 hk_15 => ?_)
        have ne_17 : h0 ≠ q_13 := fun z => hq_14 (z ▸ hin0)
        have e0 := (hk_15 _ ne_17).trans e0
        have ne_18 : q_1 ≠ q_13 := fun z => hq_14 (z ▸ hin_7)
        have e_4 := (hk_15 _ ne_18).trans e_4
        have hT := ok_psl hT hq_14 hk_15
        refine lv_dup hx hb d_Es_init_32 rfl ?_
        refine sm_vK (K := [q_13]) (ty := ty_ev) hI hT (va_runIN (As := []) (rest := [.ref q_13, .int (nI k), .ref q_1]) ⟨hx, hb, hml, hown, hts⟩ (c_Ev_init l D ca _ _ q_13 e_16) ⟨va_cnB 0 hts (wg_in0 tw_213) rfl rfl rfl (hE.1 _ tn_211 rfl) (hts _ tw_8) (by decide +kernel) ⟨Nat.le_of_ble_eq_true rfl, Nat.le_of_ble_eq_true rfl⟩, rfl, hts _ tw_212⟩ (sd_preS hI hE) rfl rfl hl.1 rfl (lv_room (Nat.le_of_ble_eq_true rfl)) d_Es_init_33 ⟨(by show _ + 2 ≤ 148; omega), (by show _ + 14 ≤ 979; omega)⟩) (fun T L H locs f hle1 hI hT t_19 hk_20 => ?_)
        obtain ⟨hin0, z_21, z_22⟩ := hk_20 _ hin0
        have e0 := z_21.trans e0
        have tn0 := z_22.trans tn0
        obtain ⟨hin_7, z_23, z_24⟩ := hk_20 _ hin_7
        have e_4 := z_23.trans e_4
        have tn_6 := z_24.trans tn_6
        have hel15 := el_le hle1 hel15
        obtain ⟨x_26_in, x_26_vs, x_26_e⟩ := oc_Ev hT t_19
        refine ra_ast (j := k) (r := (R_Ev, F_Ev, 5)) hx hb hI hin_7 6 4 e_4 rfl x_26_in x_26_e rfl (by omega) (by decide) d_Es_init_36 (fun H locs f hI e_4 hk_25 => ?_)
        have e0 := (hk_25 _ ne_5).trans e0
        have hT := ok_rawk hT tn_6 hk_25
        have hel15 := el_up hel15 t_19
        refine lv_iinc (v := nI (k + 1)) (lv' := [(1, .int (nI (k + 1))), (0, .ref h0)]) hx hb d_Es_init_37 hl (k := 1) rfl (nI_1 _) (by decide) rfl (fun ls hl => ?_)
        refine lv_goto (tgt := 15) hx hb d_Es_init_40 (by decide) ?_
        refine W.widen (k := 1 + (k + 1) * 3) (n := 48 + (k + 1) * 19) (by omega) (by omega) ?_
        exact ih (k + 1) _ _ _ _ _ _ _ (by omega) (by omega) hI hT hin0 tn0 e0 hin_7 tn_6 e_4 hel15 (lv_sub hl [1, 0] rfl)
  refine W.widen (k := 1 + 0 * 3) (n := 48 + 0 * 19) (Nat.le_of_ble_eq_true rfl) (Nat.le_of_ble_eq_true rfl) ?_
  exact hJ_15 _ 0 _ _ _ _ _ _ _ (Nat.le_refl _) (by omega) hI hT hin0 tn0 e0 hin_7 tn_6 e_4 (fun j hj => absurd hj (Nat.not_lt_zero j)) (lv_sub hl [1, 0] rfl)
theorem d_As_init_0 : decode b_As_init 0 = .ok (.aload_n 0, 1) := by decide +kernel
theorem d_As_init_1 : decode b_As_init 1 = .ok (.invokespecial 3, 3) := by decide +kernel
theorem d_As_init_4 : decode b_As_init 4 = .ok (.aload_n 0, 1) := by decide +kernel
theorem d_As_init_5 : decode b_As_init 5 = .ok (.bipush 16, 2) := by decide +kernel
theorem d_As_init_7 : decode b_As_init 7 = .ok (.anewarray 9, 3) := by decide +kernel
theorem d_As_init_10 : decode b_As_init 10 = .ok (.putfield 11, 3) := by decide +kernel
theorem d_As_init_13 : decode b_As_init 13 = .ok (.iconst 0, 1) := by decide +kernel
theorem d_As_init_14 : decode b_As_init 14 = .ok (.istore_n 1, 1) := by decide +kernel
theorem d_As_init_15 : decode b_As_init 15 = .ok (.iload_n 1, 1) := by decide +kernel
theorem d_As_init_16 : decode b_As_init 16 = .ok (.aload_n 0, 1) := by decide +kernel
theorem d_As_init_17 : decode b_As_init 17 = .ok (.getfield 11, 3) := by decide +kernel
theorem d_As_init_20 : decode b_As_init 20 = .ok (.arraylength, 1) := by decide +kernel
theorem d_As_init_21 : decode b_As_init 21 = .ok (.if_icmp .ge 22, 3) := by decide +kernel
theorem d_As_init_24 : decode b_As_init 24 = .ok (.aload_n 0, 1) := by decide +kernel
theorem d_As_init_25 : decode b_As_init 25 = .ok (.getfield 11, 3) := by decide +kernel
theorem d_As_init_28 : decode b_As_init 28 = .ok (.iload_n 1, 1) := by decide +kernel
theorem d_As_init_29 : decode b_As_init 29 = .ok (.new 9, 3) := by decide +kernel
theorem d_As_init_32 : decode b_As_init 32 = .ok (.dup, 1) := by decide +kernel
theorem d_As_init_33 : decode b_As_init 33 = .ok (.invokespecial 17, 3) := by decide +kernel
theorem d_As_init_36 : decode b_As_init 36 = .ok (.aastore, 1) := by decide +kernel
theorem d_As_init_37 : decode b_As_init 37 = .ok (.iinc 1 1, 3) := by decide +kernel
theorem d_As_init_40 : decode b_As_init 40 = .ok (.goto (-25), 3) := by decide +kernel
theorem d_As_init_43 : decode b_As_init 43 = .ok (.return_, 1) := by decide +kernel
set_option maxRecDepth 100000 in
set_option maxHeartbeats 4000000 in
theorem c_As_init (l : Launch) (D : va_G) (ca : Nat → ClassId) (f0 : Nat → va_E) (sz : Nat) (h0 : Nat) (e0 : f0 h0 = .inr (3, [.null, .int 0, .int 0]))  :
    Met l y_As_init (Cond.code y_As_init b_As_init 2 none :: wg) { frames := 3, cells := 52, slots := 458, locals := 62 } (va_Pc [.ref h0] (sm_P D cl_all (ty_s ca) ek [h0] f0 sz)) (sm_Qv D (ty_s ca) [h0] f0 sz (fun u => po_k ca h0 (ty_as) u)) 52 458 (va_A (va_pl [h0] f0) sz) := by
  refine sm_start (by decide) (Nat.le_of_ble_eq_true rfl) ?_
  intro p e s m below meth c ls hx hb hml hr hlk hnm hts hown hsz hE hI hl
  have hl : lv_has ls 2 [(0, .ref h0)] := hl
  obtain ⟨T, hT, tn0⟩ : ∃ T : ty_e, ok_T ca T [h0] f0 ∧ T h0 = none := ⟨fun _ => none, (fun b ty hb => by cases hb), rfl⟩
  have hin0 : h0 ∈ [h0] := List.mem_cons_self
  refine lv_aload_n hx hb d_As_init_0 rfl (lv_at hl 0 rfl) ?_
  refine ob_init hx hb hown (hts _ tw_63) (hts _ tw_26) (hts _ tw_27) (by rw [hml]; exact hl.1) d_As_init_1 (Nat.le_of_ble_eq_true rfl) (Nat.le_of_ble_eq_true rfl) ?_
  refine lv_aload_n hx hb d_As_init_4 rfl (lv_at hl 0 rfl) ?_
  refine lv_bipush (v := 16) hx hb d_As_init_5 (by decide) ?_
  refine ra_newq (C := R_An) (N' := 16) hx hb hown (hts _ tw_64) (hE.2.2.1 _ tn_65) hI 7 rfl (by decide) (by decide) (by decide) (Nat.le_of_ble_eq_true rfl) (Nat.le_of_ble_eq_true rfl) d_As_init_7 (fun q_1 H f hq_2 hI e_4 hk_3 => ?_)
  have ne_5 : h0 ≠ q_1 := fun z => hq_2 (z ▸ hin0)
  have e0 := (hk_3 _ ne_5).trans e0
  have hin0 := List.mem_append_left [q_1] hin0
  obtain ⟨tn_6, hin_7, hT⟩ := ok_psh hT hq_2 hk_3
  refine ra_putF (ci := 3) (C := R_As) (T := F_As) (N := 3) (ty := (.array (.object "TelecontrolPost$Answer"))) hx hb hts in_As t_As t_As_ok n_As hown hI hin0 e0 rfl 0 (by decide) (hts _ tw_98) (fun _ h9 => h9) rfl hnm rfl (by decide +kernel) rfl rfl (Nat.le_of_ble_eq_true rfl) d_As_init_10 (fun H locs f hI e0 hk_8 => ?_)
  have e0 : f h0 = .inr (3, [.ref q_1, .int 0, .int 0]) := e0
  have e_4 := (hk_8 _ (Ne.symm ne_5)).trans e_4
  have hT := ok_rawk hT tn0 hk_8
  refine lv_iconst (v := 0) hx hb d_As_init_13 (by decide) ?_
  refine lv_istore_n (lv' := [(1, .int (0)), (0, .ref h0)]) hx hb d_As_init_14 rfl hl (by decide) rfl (fun ls hl => ?_)
  have hJ_15 : ∀ (N k : Nat) (T : ty_e) (L : List Nat) (H : Heap) (locs : List Loc) (f : Nat → va_E) (g15 : Nat → Option Nat) (ls : Array Slot), 16 + 1 - k ≤ N → k ≤ 16 → (sw_I D cl_all (ty_s ca) (va_A (va_pl [h0] f0) sz) s H locs L f) → (ok_T ca T L f) → (h0 ∈ L) → (T h0 = none) → (f h0 = .inr (3, [.ref q_1, .int 0, .int 0])) → (q_1 ∈ L) → (T q_1 = none) → (f q_1 = .inl (ca 7, 16, .inr (.inr (.inr (.inr g15))))) → (∀ j, j < k → ∃ b : Nat, g15 j = some b ∧ T b = some ((fun _ => ty_an) j)) → lv_has ls 2 [(0, .ref h0), (1, .int (nI k))] → W p l e { frames := 3, cells := 52, slots := 458, locals := 62 } s m ([.ref h0] : List Value).toArray below meth c H locs (1 + k * 3) (16 + k * 26) (MQ below (sm_Qv D (ty_s ca) [h0] f0 sz (fun u => po_k ca h0 (ty_as) u)) ([.ref h0] : List Value).toArray s 52 458 (va_A (va_pl [h0] f0) sz)) (F0 m 15 ls []) := by
    intro N
    induction N with
    | zero => intros; omega
    | succ N ih =>
      intro k T L H locs f g15 ls hN hk hI hT hin0 tn0 e0 hin_7 tn_6 e_4 hel15 hl
      refine lv_iload_n hx hb d_As_init_15 rfl (lv_at hl 1 rfl) ?_
      refine lv_aload_n hx hb d_As_init_16 rfl (lv_at hl 0 rfl) ?_
      refine sw_get (ci := 3) (C := R_As) (T := F_As) (N := 3) (v := .ref q_1) hx hb hts in_As hown hI hin0 e0 rfl 0 (by decide) (hts _ tw_98) (fun _ h9 => h9) rfl d_As_init_17 ?_
      refine sw_alen (v := nI 16) hx hb hI hin_7 7 e_4 rfl rfl d_As_init_20 ?_
      refine lv_icmp_ge (tgt := 43) hx hb d_As_init_21 (by decide) (fun c_9 => ?_) (fun c_9 => ?_)
      · have k_10 : 16 ≤ k := (nI_leI (a := 16) (b := k) (by omega) (by omega)).mp c_9
        obtain ⟨T, hle1, hTt, t_11, hnn⟩ := ok_typ (ty := ty_ans) hT hin_7 tn_6 (fun T2 hle1 => by rw [e_4]; exact ⟨_, rfl, fun j hj => el_le hle1 hel15 j (by omega)⟩)
        have tn0 := (hnn _ ne_5).trans tn0
        have hT := hTt
        obtain ⟨T, hle1, hTt, tfin, hnn⟩ := ok_typ (ty := ty_as) hT hin0 tn0 (fun T2 hle1 => by rw [e0]; exact ⟨_, 0, 0, rfl, hle1 _ _ t_11, (by decide), (by decide)⟩)
        refine W.widen (k := 52) (n := 458) (by first | exact Nat.le_of_ble_eq_true rfl | omega) (by first | exact Nat.le_of_ble_eq_true rfl | omega) ?_
        exact sm_vret hx hb hr hlk hI ⟨_, hTt, tfin⟩ d_As_init_43
      · have k_12 : k < 16 := Nat.lt_of_not_le (fun q => c_9 ((nI_leI (a := 16) (b := k) (by omega) (by omega)).mpr q))
        refine lv_aload_n hx hb d_As_init_24 rfl (lv_at hl 0 rfl) ?_
        refine sw_get (ci := 3) (C := R_As) (T := F_As) (N := 3) (v := .ref q_1) hx hb hts in_As hown hI hin0 e0 rfl 0 (by decide) (hts _ tw_98) (fun _ h9 => h9) rfl d_As_init_25 ?_
        refine lv_iload_n hx hb d_As_init_28 rfl (lv_at hl 1 rfl) ?_
        refine ra_new (ci := 2) (C := R_An) (T := F_An) (N := 6) (fs := [.null, .int 0, .int 0, .int 0, .int 0, .int 0]) hx hb hts in_An t_An t_An_ok hown (hts _ tw_64) (hts _ tw_66) (hts _ tw_6) hI rfl (by decide) (by show _ + 1 ≤ 52; omega) (by show _ + 6 ≤ 458; omega) d_As_init_29 (fun q_13 H f hq_14 hI e_16 hk_15 => ?_)
        have ne_17 : h0 ≠ q_13 := fun z => hq_14 (z ▸ hin0)
        have e0 := (hk_15 _ ne_17).trans e0
        have ne_18 : q_1 ≠ q_13 := fun z => hq_14 (z ▸ hin_7)
        have e_4 := (hk_15 _ ne_18).trans e_4
        have hT := ok_psl hT hq_14 hk_15
        refine lv_dup hx hb d_As_init_32 rfl ?_
        refine sm_vK (K := [q_13]) (ty := ty_an) hI hT (va_runIN (As := []) (rest := [.ref q_13, .int (nI k), .ref q_1]) ⟨hx, hb, hml, hown, hts⟩ (c_An_init l D ca _ _ q_13 e_16) ⟨va_cnB 0 hts (wg_in0 tw_69) rfl rfl rfl (hE.1 _ tn_67 rfl) (hts _ tw_6) (by decide +kernel) ⟨Nat.le_of_ble_eq_true rfl, Nat.le_of_ble_eq_true rfl⟩, rfl, hts _ tw_68⟩ (sd_preS hI hE) rfl rfl hl.1 rfl (lv_room (Nat.le_of_ble_eq_true rfl)) d_As_init_33 ⟨(by show _ + 2 ≤ 52; omega), (by show _ + 20 ≤ 458; omega)⟩) (fun T L H locs f hle1 hI hT t_19 hk_20 => ?_)
        obtain ⟨hin0, z_21, z_22⟩ := hk_20 _ hin0
        have e0 := z_21.trans e0
        have tn0 := z_22.trans tn0
        obtain ⟨hin_7, z_23, z_24⟩ := hk_20 _ hin_7
        have e_4 := z_23.trans e_4
        have tn_6 := z_24.trans tn_6
        have hel15 := el_le hle1 hel15
        obtain ⟨x_26_in, x_26_vs, x_26_e⟩ := oc_An hT t_19
        refine ra_ast (j := k) (r := (R_An, F_An, 6)) hx hb hI hin_7 7 2 e_4 rfl x_26_in x_26_e rfl (by omega) (by decide) d_As_init_36 (fun H locs f hI e_4 hk_25 => ?_)
        have e0 := (hk_25 _ ne_5).trans e0
        have hT := ok_rawk hT tn_6 hk_25
        have hel15 := el_up hel15 t_19
        refine lv_iinc (v := nI (k + 1)) (lv' := [(1, .int (nI (k + 1))), (0, .ref h0)]) hx hb d_As_init_37 hl (k := 1) rfl (nI_1 _) (by decide) rfl (fun ls hl => ?_)
        refine lv_goto (tgt := 15) hx hb d_As_init_40 (by decide) ?_
        refine W.widen (k := 1 + (k + 1) * 3) (n := 16 + (k + 1) * 26) (by omega) (by omega) ?_
        exact ih (k + 1) _ _ _ _ _ _ _ (by omega) (by omega) hI hT hin0 tn0 e0 hin_7 tn_6 e_4 hel15 (lv_sub hl [1, 0] rfl)
  refine W.widen (k := 1 + 0 * 3) (n := 16 + 0 * 26) (Nat.le_of_ble_eq_true rfl) (Nat.le_of_ble_eq_true rfl) ?_
  exact hJ_15 _ 0 _ _ _ _ _ _ _ (Nat.le_refl _) (by omega) hI hT hin0 tn0 e0 hin_7 tn_6 e_4 (fun j hj => absurd hj (Nat.not_lt_zero j)) (lv_sub hl [1, 0] rfl)
theorem d_Li_init_0 : decode b_Li_init 0 = .ok (.aload_n 0, 1) := by decide +kernel
theorem d_Li_init_1 : decode b_Li_init 1 = .ok (.invokespecial 3, 3) := by decide +kernel
theorem d_Li_init_4 : decode b_Li_init 4 = .ok (.aload_n 0, 1) := by decide +kernel
theorem d_Li_init_5 : decode b_Li_init 5 = .ok (.new 9, 3) := by decide +kernel
theorem d_Li_init_8 : decode b_Li_init 8 = .ok (.dup, 1) := by decide +kernel
theorem d_Li_init_9 : decode b_Li_init 9 = .ok (.sipush 259, 3) := by decide +kernel
theorem d_Li_init_12 : decode b_Li_init 12 = .ok (.invokespecial 11, 3) := by decide +kernel
theorem d_Li_init_15 : decode b_Li_init 15 = .ok (.putfield 14, 3) := by decide +kernel
theorem d_Li_init_18 : decode b_Li_init 18 = .ok (.aload_n 0, 1) := by decide +kernel
theorem d_Li_init_19 : decode b_Li_init 19 = .ok (.new 20, 3) := by decide +kernel
theorem d_Li_init_22 : decode b_Li_init 22 = .ok (.dup, 1) := by decide +kernel
theorem d_Li_init_23 : decode b_Li_init 23 = .ok (.invokespecial 22, 3) := by decide +kernel
theorem d_Li_init_26 : decode b_Li_init 26 = .ok (.putfield 23, 3) := by decide +kernel
theorem d_Li_init_29 : decode b_Li_init 29 = .ok (.aload_n 0, 1) := by decide +kernel
theorem d_Li_init_30 : decode b_Li_init 30 = .ok (.iconst 2, 1) := by decide +kernel
theorem d_Li_init_31 : decode b_Li_init 31 = .ok (.putfield 27, 3) := by decide +kernel
theorem d_Li_init_34 : decode b_Li_init 34 = .ok (.aload_n 0, 1) := by decide +kernel
theorem d_Li_init_35 : decode b_Li_init 35 = .ok (.iconst 2, 1) := by decide +kernel
theorem d_Li_init_36 : decode b_Li_init 36 = .ok (.putfield 31, 3) := by decide +kernel
theorem d_Li_init_39 : decode b_Li_init 39 = .ok (.aload_n 0, 1) := by decide +kernel
theorem d_Li_init_40 : decode b_Li_init 40 = .ok (.iconst 3, 1) := by decide +kernel
theorem d_Li_init_41 : decode b_Li_init 41 = .ok (.putfield 34, 3) := by decide +kernel
theorem d_Li_init_44 : decode b_Li_init 44 = .ok (.aload_n 0, 1) := by decide +kernel
theorem d_Li_init_45 : decode b_Li_init 45 = .ok (.iload_n 1, 1) := by decide +kernel
theorem d_Li_init_46 : decode b_Li_init 46 = .ok (.putfield 37, 3) := by decide +kernel
theorem d_Li_init_49 : decode b_Li_init 49 = .ok (.aload_n 0, 1) := by decide +kernel
theorem d_Li_init_50 : decode b_Li_init 50 = .ok (.new 9, 3) := by decide +kernel
theorem d_Li_init_53 : decode b_Li_init 53 = .ok (.dup, 1) := by decide +kernel
theorem d_Li_init_54 : decode b_Li_init 54 = .ok (.iload_n 2, 1) := by decide +kernel
theorem d_Li_init_55 : decode b_Li_init 55 = .ok (.invokespecial 11, 3) := by decide +kernel
theorem d_Li_init_58 : decode b_Li_init 58 = .ok (.putfield 40, 3) := by decide +kernel
theorem d_Li_init_61 : decode b_Li_init 61 = .ok (.return_, 1) := by decide +kernel
set_option maxRecDepth 100000 in
set_option maxHeartbeats 4000000 in
theorem c_Li_initC (l : Launch) (D : va_G) (ca : Nat → ClassId) (f0 : Nat → va_E) (sz : Nat) (h0 : Nat) (e0 : f0 h0 = .inr (6, [.int 0, .int 0, .null, .int 0, .int 0, .long 0, .int 0, .long 0, .int 0, .null, .null, .null, .int 0, .int 0, .int 0, .int 0, .long 0, .int 0, .int 0])) (k0 : Nat) :
    Met l y_Li_init (Cond.code y_Li_init b_Li_init 3 none :: wg) { frames := 4, cells := 57, slots := 1724, locals := 83 } (va_Pc [.ref h0, .int (nI k0), .int (1000)] (sm_P D cl_all (ty_s ca) ek [h0] f0 sz)) (sm_Qv D (ty_s ca) [h0] f0 sz (fun u => ∃ (T1 : ty_e) (w h a : Nat), ok_T ca T1 u.1 u.2 ∧ h0 ∈ u.1 ∧ T1 h0 = none ∧ u.2 h0 = .inr (6, [.int 0, .int 0, .null, .int 0, .int 0, .long 0, .int 0, .long 0, .int (nI k0), .ref w, .ref h, .ref a, .int 0, .int 2, .int 2, .int 3, .long 0, .int 0, .int 0]) ∧ T1 w = some (ty_row 16000) ∧ T1 h = some (ty_row 4145) ∧ T1 a = some ty_as)) 57 1724 (va_A (va_pl [h0] f0) sz) := by
  refine sm_start (by decide) (Nat.le_of_ble_eq_true rfl) ?_
  intro p e s m below meth c ls hx hb hml hr hlk hnm hts hown hsz hE hI hl
  have hl : lv_has ls 3 [(0, .ref h0), (1, .int (nI k0)), (2, .int (1000))] := hl
  obtain ⟨T, hT, tn0⟩ : ∃ T : ty_e, ok_T ca T [h0] f0 ∧ T h0 = none := ⟨fun _ => none, (fun b ty hb => by cases hb), rfl⟩
  have hin0 : h0 ∈ [h0] := List.mem_cons_self
  refine lv_aload_n hx hb d_Li_init_0 rfl (lv_at hl 0 rfl) ?_
  refine ob_init hx hb hown (hts _ tw_40) (hts _ tw_26) (hts _ tw_27) (by rw [hml]; exact hl.1) d_Li_init_1 (Nat.le_of_ble_eq_true rfl) (Nat.le_of_ble_eq_true rfl) ?_
  refine lv_aload_n hx hb d_Li_init_4 rfl (lv_at hl 0 rfl) ?_
  refine ra_new (ci := 1) (C := R_Br) (T := F_Br) (N := 2) (fs := [.null, .int 0]) hx hb hts in_Br t_Br t_Br_ok hown (hts _ tw_41) (hts _ tw_42) (hts _ tw_4) hI rfl (by decide) (Nat.le_of_ble_eq_true rfl) (Nat.le_of_ble_eq_true rfl) d_Li_init_5 (fun q_1 H f hq_2 hI e_4 hk_3 => ?_)
  have ne_5 : h0 ≠ q_1 := fun z => hq_2 (z ▸ hin0)
  have e0 := (hk_3 _ ne_5).trans e0
  have hT := ok_psl hT hq_2 hk_3
  refine lv_dup hx hb d_Li_init_8 rfl ?_
  refine lv_sipush (v := 259) hx hb d_Li_init_9 (by decide) ?_
  refine sm_vK (K := [q_1]) (ty := ty_row 4145) hI hT (va_runI (As := [.int (259)]) (rest := [.ref q_1, .ref h0]) ⟨hx, hb, hml, hown, hts⟩ (c_Br_init l D ca _ _ q_1 e_4 (4145) (by decide)) (ki_Br_init hts rfl rfl (hts _ tw_43) ⟨Nat.le_of_ble_eq_true rfl, Nat.le_of_ble_eq_true rfl⟩) (sd_preS hI hE) rfl rfl hl.1 rfl (lv_room (Nat.le_of_ble_eq_true rfl)) d_Li_init_12 ⟨(Nat.le_of_ble_eq_true rfl), (Nat.le_of_ble_eq_true rfl)⟩) (fun T L H locs f hle1 hI hT t_6 hk_7 => ?_)
  obtain ⟨hin0, z_8, z_9⟩ := hk_7 _ hin0
  have e0 := z_8.trans e0
  have tn0 := z_9.trans tn0
  refine ra_putF (ci := 6) (C := R_Cn) (T := F_Cn) (N := 19) (ty := (.object "TelecontrolPost$ByteRow")) hx hb hts in_Cn t_Cn t_Cn_ok n_Cn hown hI hin0 e0 rfl 10 (by decide) (hts _ tw_130) (fun _ h9 => h9) rfl hnm rfl (by decide +kernel) rfl rfl (Nat.le_of_ble_eq_true rfl) d_Li_init_15 (fun H locs f hI e0 hk_10 => ?_)
  have e0 : f h0 = .inr (6, [.int 0, .int 0, .null, .int 0, .int 0, .long 0, .int 0, .long 0, .int 0, .null, .ref q_1, .null, .int 0, .int 0, .int 0, .int 0, .long 0, .int 0, .int 0]) := e0
  have hT := ok_rawk hT tn0 hk_10
  refine lv_aload_n hx hb d_Li_init_18 rfl (lv_at hl 0 rfl) ?_
  refine ra_new (ci := 3) (C := R_As) (T := F_As) (N := 3) (fs := [.null, .int 0, .int 0]) hx hb hts in_As t_As t_As_ok hown (hts _ tw_58) (hts _ tw_59) (hts _ tw_5) hI rfl (by decide) (Nat.le_of_ble_eq_true rfl) (Nat.le_of_ble_eq_true rfl) d_Li_init_19 (fun q_11 H f hq_12 hI e_14 hk_13 => ?_)
  have ne_15 : h0 ≠ q_11 := fun z => hq_12 (z ▸ hin0)
  have e0 := (hk_13 _ ne_15).trans e0
  have hT := ok_psl hT hq_12 hk_13
  refine lv_dup hx hb d_Li_init_22 rfl ?_
  refine sm_vK (K := [q_11]) (ty := ty_as) hI hT (va_runI (As := []) (rest := [.ref q_11, .ref h0]) ⟨hx, hb, hml, hown, hts⟩ (c_As_init l D ca _ _ q_11 e_14) (ki_As_init hts rfl rfl (hts _ tw_60) ⟨Nat.le_of_ble_eq_true rfl, Nat.le_of_ble_eq_true rfl⟩) (sd_preS hI hE) rfl rfl hl.1 rfl (lv_room (Nat.le_of_ble_eq_true rfl)) d_Li_init_23 ⟨(Nat.le_of_ble_eq_true rfl), (Nat.le_of_ble_eq_true rfl)⟩) (fun T L H locs f hle1 hI hT t_16 hk_17 => ?_)
  obtain ⟨hin0, z_18, z_19⟩ := hk_17 _ hin0
  have e0 := z_18.trans e0
  have tn0 := z_19.trans tn0
  have t_6 := hle1 _ _ t_6
  refine ra_putF (ci := 6) (C := R_Cn) (T := F_Cn) (N := 19) (ty := (.object "TelecontrolPost$Answers")) hx hb hts in_Cn t_Cn t_Cn_ok n_Cn hown hI hin0 e0 rfl 11 (by decide) (hts _ tw_138) (fun _ h9 => h9) rfl hnm rfl (by decide +kernel) rfl rfl (Nat.le_of_ble_eq_true rfl) d_Li_init_26 (fun H locs f hI e0 hk_20 => ?_)
  have e0 : f h0 = .inr (6, [.int 0, .int 0, .null, .int 0, .int 0, .long 0, .int 0, .long 0, .int 0, .null, .ref q_1, .ref q_11, .int 0, .int 0, .int 0, .int 0, .long 0, .int 0, .int 0]) := e0
  have hT := ok_rawk hT tn0 hk_20
  refine lv_aload_n hx hb d_Li_init_29 rfl (lv_at hl 0 rfl) ?_
  refine lv_iconst (v := 2) hx hb d_Li_init_30 (by decide) ?_
  refine ra_put (ci := 6) (C := R_Cn) (T := F_Cn) (N := 19) (ty := .int) hx hb hts in_Cn t_Cn t_Cn_ok n_Cn hown hI hin0 e0 rfl 13 (by decide) (hts _ tw_151) (fun _ h9 => h9) rfl (by decide +kernel) rfl rfl (Nat.le_of_ble_eq_true rfl) d_Li_init_31 (fun H locs f hI e0 hk_21 => ?_)
  have e0 : f h0 = .inr (6, [.int 0, .int 0, .null, .int 0, .int 0, .long 0, .int 0, .long 0, .int 0, .null, .ref q_1, .ref q_11, .int 0, .int (2), .int 0, .int 0, .long 0, .int 0, .int 0]) := e0
  have hT := ok_rawk hT tn0 hk_21
  refine lv_aload_n hx hb d_Li_init_34 rfl (lv_at hl 0 rfl) ?_
  refine lv_iconst (v := 2) hx hb d_Li_init_35 (by decide) ?_
  refine ra_put (ci := 6) (C := R_Cn) (T := F_Cn) (N := 19) (ty := .int) hx hb hts in_Cn t_Cn t_Cn_ok n_Cn hown hI hin0 e0 rfl 14 (by decide) (hts _ tw_155) (fun _ h9 => h9) rfl (by decide +kernel) rfl rfl (Nat.le_of_ble_eq_true rfl) d_Li_init_36 (fun H locs f hI e0 hk_22 => ?_)
  have e0 : f h0 = .inr (6, [.int 0, .int 0, .null, .int 0, .int 0, .long 0, .int 0, .long 0, .int 0, .null, .ref q_1, .ref q_11, .int 0, .int (2), .int (2), .int 0, .long 0, .int 0, .int 0]) := e0
  have hT := ok_rawk hT tn0 hk_22
  refine lv_aload_n hx hb d_Li_init_39 rfl (lv_at hl 0 rfl) ?_
  refine lv_iconst (v := 3) hx hb d_Li_init_40 (by decide) ?_
  refine ra_put (ci := 6) (C := R_Cn) (T := F_Cn) (N := 19) (ty := .int) hx hb hts in_Cn t_Cn t_Cn_ok n_Cn hown hI hin0 e0 rfl 15 (by decide) (hts _ tw_159) (fun _ h9 => h9) rfl (by decide +kernel) rfl rfl (Nat.le_of_ble_eq_true rfl) d_Li_init_41 (fun H locs f hI e0 hk_23 => ?_)
  have e0 : f h0 = .inr (6, [.int 0, .int 0, .null, .int 0, .int 0, .long 0, .int 0, .long 0, .int 0, .null, .ref q_1, .ref q_11, .int 0, .int (2), .int (2), .int (3), .long 0, .int 0, .int 0]) := e0
  have hT := ok_rawk hT tn0 hk_23
  refine lv_aload_n hx hb d_Li_init_44 rfl (lv_at hl 0 rfl) ?_
  refine lv_iload_n hx hb d_Li_init_45 rfl (lv_at hl 1 rfl) ?_
  refine ra_putF (ci := 6) (C := R_Cn) (T := F_Cn) (N := 19) (ty := .int) hx hb hts in_Cn t_Cn t_Cn_ok n_Cn hown hI hin0 e0 rfl 8 (by decide) (hts _ tw_119) (fun _ h9 => h9) rfl hnm rfl (by decide +kernel) rfl rfl (Nat.le_of_ble_eq_true rfl) d_Li_init_46 (fun H locs f hI e0 hk_24 => ?_)
  have e0 : f h0 = .inr (6, [.int 0, .int 0, .null, .int 0, .int 0, .long 0, .int 0, .long 0, .int (nI k0), .null, .ref q_1, .ref q_11, .int 0, .int (2), .int (2), .int (3), .long 0, .int 0, .int 0]) := e0
  have hT := ok_rawk hT tn0 hk_24
  refine lv_aload_n hx hb d_Li_init_49 rfl (lv_at hl 0 rfl) ?_
  refine ra_new (ci := 1) (C := R_Br) (T := F_Br) (N := 2) (fs := [.null, .int 0]) hx hb hts in_Br t_Br t_Br_ok hown (hts _ tw_41) (hts _ tw_42) (hts _ tw_4) hI rfl (by decide) (Nat.le_of_ble_eq_true rfl) (Nat.le_of_ble_eq_true rfl) d_Li_init_50 (fun q_25 H f hq_26 hI e_28 hk_27 => ?_)
  have ne_29 : h0 ≠ q_25 := fun z => hq_26 (z ▸ hin0)
  have e0 := (hk_27 _ ne_29).trans e0
  have hT := ok_psl hT hq_26 hk_27
  refine lv_dup hx hb d_Li_init_53 rfl ?_
  refine lv_iload_n hx hb d_Li_init_54 rfl (lv_at hl 2 rfl) ?_
  refine sm_vK (K := [q_25]) (ty := ty_row 16000) hI hT (va_runI (As := [.int (1000)]) (rest := [.ref q_25, .ref h0]) ⟨hx, hb, hml, hown, hts⟩ (c_Br_init l D ca _ _ q_25 e_28 (16000) (by decide)) (ki_Br_init hts rfl rfl (hts _ tw_43) ⟨Nat.le_of_ble_eq_true rfl, Nat.le_of_ble_eq_true rfl⟩) (sd_preS hI hE) rfl rfl hl.1 rfl (lv_room (Nat.le_of_ble_eq_true rfl)) d_Li_init_55 ⟨(Nat.le_of_ble_eq_true rfl), (Nat.le_of_ble_eq_true rfl)⟩) (fun T L H locs f hle1 hI hT t_30 hk_31 => ?_)
  obtain ⟨hin0, z_32, z_33⟩ := hk_31 _ hin0
  have e0 := z_32.trans e0
  have tn0 := z_33.trans tn0
  have t_6 := hle1 _ _ t_6
  have t_16 := hle1 _ _ t_16
  refine ra_putF (ci := 6) (C := R_Cn) (T := F_Cn) (N := 19) (ty := (.object "TelecontrolPost$ByteRow")) hx hb hts in_Cn t_Cn t_Cn_ok n_Cn hown hI hin0 e0 rfl 9 (by decide) (hts _ tw_123) (fun _ h9 => h9) rfl hnm rfl (by decide +kernel) rfl rfl (Nat.le_of_ble_eq_true rfl) d_Li_init_58 (fun H locs f hI e0 hk_34 => ?_)
  have e0 : f h0 = .inr (6, [.int 0, .int 0, .null, .int 0, .int 0, .long 0, .int 0, .long 0, .int (nI k0), .ref q_25, .ref q_1, .ref q_11, .int 0, .int (2), .int (2), .int (3), .long 0, .int 0, .int 0]) := e0
  have hT := ok_rawk hT tn0 hk_34
  refine W.widen (k := 57) (n := 1724) (by first | exact Nat.le_of_ble_eq_true rfl | omega) (by first | exact Nat.le_of_ble_eq_true rfl | omega) ?_
  exact sm_vret hx hb hr hlk hI ⟨_, q_25, q_1, q_11, hT, hin0, tn0, e0, t_30, t_6, t_16⟩ d_Li_init_61
theorem d_Cn_init_0 : decode b_Cn_init 0 = .ok (.aload_n 0, 1) := by decide +kernel
theorem d_Cn_init_1 : decode b_Cn_init 1 = .ok (.iload_n 1, 1) := by decide +kernel
theorem d_Cn_init_2 : decode b_Cn_init 2 = .ok (.sipush 1000, 3) := by decide +kernel
theorem d_Cn_init_5 : decode b_Cn_init 5 = .ok (.invokespecial 3, 3) := by decide +kernel
theorem d_Cn_init_8 : decode b_Cn_init 8 = .ok (.aload_n 0, 1) := by decide +kernel
theorem d_Cn_init_9 : decode b_Cn_init 9 = .ok (.bipush 16, 2) := by decide +kernel
theorem d_Cn_init_11 : decode b_Cn_init 11 = .ok (.newarray .long, 2) := by decide +kernel
theorem d_Cn_init_13 : decode b_Cn_init 13 = .ok (.putfield 9, 3) := by decide +kernel
theorem d_Cn_init_16 : decode b_Cn_init 16 = .ok (.return_, 1) := by decide +kernel
set_option maxRecDepth 100000 in
set_option maxHeartbeats 4000000 in
theorem c_Cn_init (l : Launch) (D : va_G) (ca : Nat → ClassId) (f0 : Nat → va_E) (sz : Nat) (h0 : Nat) (e0 : f0 h0 = .inr (6, [.int 0, .int 0, .null, .int 0, .int 0, .long 0, .int 0, .long 0, .int 0, .null, .null, .null, .int 0, .int 0, .int 0, .int 0, .long 0, .int 0, .int 0])) (k0 : Nat) (hk0 : k0 < 3) :
    Met l y_Cn_init (Cond.code y_Cn_init b_Cn_init 2 none :: wg) { frames := 5, cells := 58, slots := 1740, locals := 105 } (va_Pc [.ref h0, .int (nI k0)] (sm_P D cl_all (ty_s ca) ek [h0] f0 sz)) (sm_Qv D (ty_s ca) [h0] f0 sz (fun u => po_k ca h0 (ty_cn k0) u)) 58 1740 (va_A (va_pl [h0] f0) sz) := by
  refine sm_start (by decide) (Nat.le_of_ble_eq_true rfl) ?_
  intro p e s m below meth c ls hx hb hml hr hlk hnm hts hown hsz hE hI hl
  have hl : lv_has ls 2 [(0, .ref h0), (1, .int (nI k0))] := hl
  obtain ⟨T, hT, tn0⟩ : ∃ T : ty_e, ok_T ca T [h0] f0 ∧ T h0 = none := ⟨fun _ => none, (fun b ty hb => by cases hb), rfl⟩
  have hin0 : h0 ∈ [h0] := List.mem_cons_self
  refine lv_aload_n hx hb d_Cn_init_0 rfl (lv_at hl 0 rfl) ?_
  refine lv_iload_n hx hb d_Cn_init_1 rfl (lv_at hl 1 rfl) ?_
  refine lv_sipush (v := 1000) hx hb d_Cn_init_2 (by decide) ?_
  refine sm_callv hI (va_runI (As := [.int (nI k0), .int (1000)]) (rest := []) ⟨hx, hb, hml, hown, hts⟩ (c_Li_initC l D ca _ _ h0 e0 k0) (ki_Li_init hts rfl rfl (hts _ tw_283) ⟨Nat.le_of_ble_eq_true rfl, Nat.le_of_ble_eq_true rfl⟩) (sm_preS hI hE) rfl rfl hl.1 rfl (lv_room (Nat.le_of_ble_eq_true rfl)) d_Cn_init_5 ⟨(Nat.le_of_ble_eq_true rfl), (Nat.le_of_ble_eq_true rfl)⟩) (fun u H locs hp hI => ?_)
  obtain ⟨L, f⟩ := u
  obtain ⟨T, rw_, rh_, ra_, hT, hin0, tn0, e0, tw_, th_, ta_⟩ := hp
  refine lv_aload_n hx hb d_Cn_init_8 rfl (lv_at hl 0 rfl) ?_
  refine lv_bipush (v := 16) hx hb d_Cn_init_9 (by decide) ?_
  refine ra_newa (atype := .long) (ty := .long) (N' := 16) (a0 := (16, .inr (.inl (fun _ => 0)))) hx hb (hts _ tw_327) rfl hI 1 rfl (fun _ => rfl) (by decide) (by decide) (by decide) (Nat.le_of_ble_eq_true rfl) (Nat.le_of_ble_eq_true rfl) d_Cn_init_11 (fun q_1 H f hq_2 hI e_4 hk_3 => ?_)
  have ne_5 : h0 ≠ q_1 := fun z => hq_2 (z ▸ hin0)
  have e0 := (hk_3 _ ne_5).trans e0
  have hin0 := List.mem_append_left [q_1] hin0
  obtain ⟨tn_6, hin_7, hT⟩ := ok_psh hT hq_2 hk_3
  obtain ⟨T, hle1, hTt, t_8, hnn⟩ := ok_typ (ty := ty_J 16) hT hin_7 tn_6 (fun T2 hle1 => by rw [e_4]; exact ⟨_, rfl⟩)
  have tn0 := (hnn _ ne_5).trans tn0
  have tw_ := hle1 _ _ tw_
  have th_ := hle1 _ _ th_
  have ta_ := hle1 _ _ ta_
  have hT := hTt
  refine ra_putF (ci := 6) (C := R_Cn) (T := F_Cn) (N := 19) (ty := (.array .long)) hx hb hts in_Cn t_Cn t_Cn_ok n_Cn hown hI hin0 e0 rfl 2 (by decide) (hts _ tw_288) (fun _ h9 => h9) rfl hnm rfl (by decide +kernel) rfl rfl (Nat.le_of_ble_eq_true rfl) d_Cn_init_13 (fun H locs f hI e0 hk_9 => ?_)
  have e0 : f h0 = .inr (6, [.int 0, .int 0, .ref q_1, .int 0, .int 0, .long 0, .int 0, .long 0, .int (nI k0), .ref rw_, .ref rh_, .ref ra_, .int 0, .int 2, .int 2, .int 3, .long 0, .int 0, .int 0]) := e0
  have hT := ok_rawk hT tn0 hk_9
  obtain ⟨T, hle1, hTt, tfin, hnn⟩ := ok_typ (ty := ty_cn k0) hT hin0 tn0 (fun T2 hle1 => by rw [e0]; exact ⟨_, _, _, _, _, _, _, _, _, _, _, _, 2, 2, 3, _, _, _, rfl, hle1 _ _ t_8, (by first | exact Or.inl rfl | exact Or.inl rfl), hle1 _ _ tw_, hle1 _ _ th_, hle1 _ _ ta_, (by decide), (by decide), (by decide), (by first | exact Or.inl rfl | exact Or.inl rfl), hk0⟩)
  refine W.widen (k := 58) (n := 1740) (by first | exact Nat.le_of_ble_eq_true rfl | omega) (by first | exact Nat.le_of_ble_eq_true rfl | omega) ?_
  exact sm_vret hx hb hr hlk hI ⟨_, hTt, tfin⟩ d_Cn_init_16
set_option maxRecDepth 100000 in
set_option maxHeartbeats 4000000 in
theorem c_Li_initS (l : Launch) (D : va_G) (ca : Nat → ClassId) (f0 : Nat → va_E) (sz : Nat) (h0 : Nat) (e0 : f0 h0 = .inr (7, [.int 0, .int 0, .null, .null, .int 0, .null, .null, .null, .int 0, .int 0, .int 0, .int 0, .long 0, .int 0, .int 0]))  :
    Met l y_Li_init (Cond.code y_Li_init b_Li_init 3 none :: wg) { frames := 4, cells := 57, slots := 983, locals := 83 } (va_Pc [.ref h0, .int (3), .int (259)] (sm_P D cl_all (ty_s ca) ek [h0] f0 sz)) (sm_Qv D (ty_s ca) [h0] f0 sz (fun u => ∃ (T1 : ty_e) (w h a : Nat), ok_T ca T1 u.1 u.2 ∧ h0 ∈ u.1 ∧ T1 h0 = none ∧ u.2 h0 = .inr (7, [.int 0, .int 0, .null, .null, .int 3, .ref w, .ref h, .ref a, .int 0, .int 2, .int 2, .int 3, .long 0, .int 0, .int 0]) ∧ T1 w = some (ty_row 4146) ∧ T1 h = some (ty_row 4145) ∧ T1 a = some ty_as)) 57 983 (va_A (va_pl [h0] f0) sz) := by
  refine sm_start (by decide) (Nat.le_of_ble_eq_true rfl) ?_
  intro p e s m below meth c ls hx hb hml hr hlk hnm hts hown hsz hE hI hl
  have hl : lv_has ls 3 [(0, .ref h0), (1, .int (3)), (2, .int (259))] := hl
  obtain ⟨T, hT, tn0⟩ : ∃ T : ty_e, ok_T ca T [h0] f0 ∧ T h0 = none := ⟨fun _ => none, (fun b ty hb => by cases hb), rfl⟩
  have hin0 : h0 ∈ [h0] := List.mem_cons_self
  refine lv_aload_n hx hb d_Li_init_0 rfl (lv_at hl 0 rfl) ?_
  refine ob_init hx hb hown (hts _ tw_40) (hts _ tw_26) (hts _ tw_27) (by rw [hml]; exact hl.1) d_Li_init_1 (Nat.le_of_ble_eq_true rfl) (Nat.le_of_ble_eq_true rfl) ?_
  refine lv_aload_n hx hb d_Li_init_4 rfl (lv_at hl 0 rfl) ?_
  refine ra_new (ci := 1) (C := R_Br) (T := F_Br) (N := 2) (fs := [.null, .int 0]) hx hb hts in_Br t_Br t_Br_ok hown (hts _ tw_41) (hts _ tw_42) (hts _ tw_4) hI rfl (by decide) (Nat.le_of_ble_eq_true rfl) (Nat.le_of_ble_eq_true rfl) d_Li_init_5 (fun q_1 H f hq_2 hI e_4 hk_3 => ?_)
  have ne_5 : h0 ≠ q_1 := fun z => hq_2 (z ▸ hin0)
  have e0 := (hk_3 _ ne_5).trans e0
  have hT := ok_psl hT hq_2 hk_3
  refine lv_dup hx hb d_Li_init_8 rfl ?_
  refine lv_sipush (v := 259) hx hb d_Li_init_9 (by decide) ?_
  refine sm_vK (K := [q_1]) (ty := ty_row 4145) hI hT (va_runI (As := [.int (259)]) (rest := [.ref q_1, .ref h0]) ⟨hx, hb, hml, hown, hts⟩ (c_Br_init l D ca _ _ q_1 e_4 (4145) (by decide)) (ki_Br_init hts rfl rfl (hts _ tw_43) ⟨Nat.le_of_ble_eq_true rfl, Nat.le_of_ble_eq_true rfl⟩) (sd_preS hI hE) rfl rfl hl.1 rfl (lv_room (Nat.le_of_ble_eq_true rfl)) d_Li_init_12 ⟨(Nat.le_of_ble_eq_true rfl), (Nat.le_of_ble_eq_true rfl)⟩) (fun T L H locs f hle1 hI hT t_6 hk_7 => ?_)
  obtain ⟨hin0, z_8, z_9⟩ := hk_7 _ hin0
  have e0 := z_8.trans e0
  have tn0 := z_9.trans tn0
  refine ra_putF (ci := 7) (C := R_Sr) (T := F_Sr) (N := 15) (ty := (.object "TelecontrolPost$ByteRow")) hx hb hts in_Sr t_Sr t_Sr_ok n_Sr hown hI hin0 e0 rfl 6 (by decide) (hts _ tw_130) (fun _ h9 => h9) rfl hnm rfl (by decide +kernel) rfl rfl (Nat.le_of_ble_eq_true rfl) d_Li_init_15 (fun H locs f hI e0 hk_10 => ?_)
  have e0 : f h0 = .inr (7, [.int 0, .int 0, .null, .null, .int 0, .null, .ref q_1, .null, .int 0, .int 0, .int 0, .int 0, .long 0, .int 0, .int 0]) := e0
  have hT := ok_rawk hT tn0 hk_10
  refine lv_aload_n hx hb d_Li_init_18 rfl (lv_at hl 0 rfl) ?_
  refine ra_new (ci := 3) (C := R_As) (T := F_As) (N := 3) (fs := [.null, .int 0, .int 0]) hx hb hts in_As t_As t_As_ok hown (hts _ tw_58) (hts _ tw_59) (hts _ tw_5) hI rfl (by decide) (Nat.le_of_ble_eq_true rfl) (Nat.le_of_ble_eq_true rfl) d_Li_init_19 (fun q_11 H f hq_12 hI e_14 hk_13 => ?_)
  have ne_15 : h0 ≠ q_11 := fun z => hq_12 (z ▸ hin0)
  have e0 := (hk_13 _ ne_15).trans e0
  have hT := ok_psl hT hq_12 hk_13
  refine lv_dup hx hb d_Li_init_22 rfl ?_
  refine sm_vK (K := [q_11]) (ty := ty_as) hI hT (va_runI (As := []) (rest := [.ref q_11, .ref h0]) ⟨hx, hb, hml, hown, hts⟩ (c_As_init l D ca _ _ q_11 e_14) (ki_As_init hts rfl rfl (hts _ tw_60) ⟨Nat.le_of_ble_eq_true rfl, Nat.le_of_ble_eq_true rfl⟩) (sd_preS hI hE) rfl rfl hl.1 rfl (lv_room (Nat.le_of_ble_eq_true rfl)) d_Li_init_23 ⟨(Nat.le_of_ble_eq_true rfl), (Nat.le_of_ble_eq_true rfl)⟩) (fun T L H locs f hle1 hI hT t_16 hk_17 => ?_)
  obtain ⟨hin0, z_18, z_19⟩ := hk_17 _ hin0
  have e0 := z_18.trans e0
  have tn0 := z_19.trans tn0
  have t_6 := hle1 _ _ t_6
  refine ra_putF (ci := 7) (C := R_Sr) (T := F_Sr) (N := 15) (ty := (.object "TelecontrolPost$Answers")) hx hb hts in_Sr t_Sr t_Sr_ok n_Sr hown hI hin0 e0 rfl 7 (by decide) (hts _ tw_138) (fun _ h9 => h9) rfl hnm rfl (by decide +kernel) rfl rfl (Nat.le_of_ble_eq_true rfl) d_Li_init_26 (fun H locs f hI e0 hk_20 => ?_)
  have e0 : f h0 = .inr (7, [.int 0, .int 0, .null, .null, .int 0, .null, .ref q_1, .ref q_11, .int 0, .int 0, .int 0, .int 0, .long 0, .int 0, .int 0]) := e0
  have hT := ok_rawk hT tn0 hk_20
  refine lv_aload_n hx hb d_Li_init_29 rfl (lv_at hl 0 rfl) ?_
  refine lv_iconst (v := 2) hx hb d_Li_init_30 (by decide) ?_
  refine ra_put (ci := 7) (C := R_Sr) (T := F_Sr) (N := 15) (ty := .int) hx hb hts in_Sr t_Sr t_Sr_ok n_Sr hown hI hin0 e0 rfl 9 (by decide) (hts _ tw_151) (fun _ h9 => h9) rfl (by decide +kernel) rfl rfl (Nat.le_of_ble_eq_true rfl) d_Li_init_31 (fun H locs f hI e0 hk_21 => ?_)
  have e0 : f h0 = .inr (7, [.int 0, .int 0, .null, .null, .int 0, .null, .ref q_1, .ref q_11, .int 0, .int (2), .int 0, .int 0, .long 0, .int 0, .int 0]) := e0
  have hT := ok_rawk hT tn0 hk_21
  refine lv_aload_n hx hb d_Li_init_34 rfl (lv_at hl 0 rfl) ?_
  refine lv_iconst (v := 2) hx hb d_Li_init_35 (by decide) ?_
  refine ra_put (ci := 7) (C := R_Sr) (T := F_Sr) (N := 15) (ty := .int) hx hb hts in_Sr t_Sr t_Sr_ok n_Sr hown hI hin0 e0 rfl 10 (by decide) (hts _ tw_155) (fun _ h9 => h9) rfl (by decide +kernel) rfl rfl (Nat.le_of_ble_eq_true rfl) d_Li_init_36 (fun H locs f hI e0 hk_22 => ?_)
  have e0 : f h0 = .inr (7, [.int 0, .int 0, .null, .null, .int 0, .null, .ref q_1, .ref q_11, .int 0, .int (2), .int (2), .int 0, .long 0, .int 0, .int 0]) := e0
  have hT := ok_rawk hT tn0 hk_22
  refine lv_aload_n hx hb d_Li_init_39 rfl (lv_at hl 0 rfl) ?_
  refine lv_iconst (v := 3) hx hb d_Li_init_40 (by decide) ?_
  refine ra_put (ci := 7) (C := R_Sr) (T := F_Sr) (N := 15) (ty := .int) hx hb hts in_Sr t_Sr t_Sr_ok n_Sr hown hI hin0 e0 rfl 11 (by decide) (hts _ tw_159) (fun _ h9 => h9) rfl (by decide +kernel) rfl rfl (Nat.le_of_ble_eq_true rfl) d_Li_init_41 (fun H locs f hI e0 hk_23 => ?_)
  have e0 : f h0 = .inr (7, [.int 0, .int 0, .null, .null, .int 0, .null, .ref q_1, .ref q_11, .int 0, .int (2), .int (2), .int (3), .long 0, .int 0, .int 0]) := e0
  have hT := ok_rawk hT tn0 hk_23
  refine lv_aload_n hx hb d_Li_init_44 rfl (lv_at hl 0 rfl) ?_
  refine lv_iload_n hx hb d_Li_init_45 rfl (lv_at hl 1 rfl) ?_
  refine ra_putF (ci := 7) (C := R_Sr) (T := F_Sr) (N := 15) (ty := .int) hx hb hts in_Sr t_Sr t_Sr_ok n_Sr hown hI hin0 e0 rfl 4 (by decide) (hts _ tw_119) (fun _ h9 => h9) rfl hnm rfl (by decide +kernel) rfl rfl (Nat.le_of_ble_eq_true rfl) d_Li_init_46 (fun H locs f hI e0 hk_24 => ?_)
  have e0 : f h0 = .inr (7, [.int 0, .int 0, .null, .null, .int (3), .null, .ref q_1, .ref q_11, .int 0, .int (2), .int (2), .int (3), .long 0, .int 0, .int 0]) := e0
  have hT := ok_rawk hT tn0 hk_24
  refine lv_aload_n hx hb d_Li_init_49 rfl (lv_at hl 0 rfl) ?_
  refine ra_new (ci := 1) (C := R_Br) (T := F_Br) (N := 2) (fs := [.null, .int 0]) hx hb hts in_Br t_Br t_Br_ok hown (hts _ tw_41) (hts _ tw_42) (hts _ tw_4) hI rfl (by decide) (Nat.le_of_ble_eq_true rfl) (Nat.le_of_ble_eq_true rfl) d_Li_init_50 (fun q_25 H f hq_26 hI e_28 hk_27 => ?_)
  have ne_29 : h0 ≠ q_25 := fun z => hq_26 (z ▸ hin0)
  have e0 := (hk_27 _ ne_29).trans e0
  have hT := ok_psl hT hq_26 hk_27
  refine lv_dup hx hb d_Li_init_53 rfl ?_
  refine lv_iload_n hx hb d_Li_init_54 rfl (lv_at hl 2 rfl) ?_
  refine sm_vK (K := [q_25]) (ty := ty_row 4146) hI hT (va_runI (As := [.int (259)]) (rest := [.ref q_25, .ref h0]) ⟨hx, hb, hml, hown, hts⟩ (c_Br_init l D ca _ _ q_25 e_28 (4146) (by decide)) (ki_Br_init hts rfl rfl (hts _ tw_43) ⟨Nat.le_of_ble_eq_true rfl, Nat.le_of_ble_eq_true rfl⟩) (sd_preS hI hE) rfl rfl hl.1 rfl (lv_room (Nat.le_of_ble_eq_true rfl)) d_Li_init_55 ⟨(Nat.le_of_ble_eq_true rfl), (Nat.le_of_ble_eq_true rfl)⟩) (fun T L H locs f hle1 hI hT t_30 hk_31 => ?_)
  obtain ⟨hin0, z_32, z_33⟩ := hk_31 _ hin0
  have e0 := z_32.trans e0
  have tn0 := z_33.trans tn0
  have t_6 := hle1 _ _ t_6
  have t_16 := hle1 _ _ t_16
  refine ra_putF (ci := 7) (C := R_Sr) (T := F_Sr) (N := 15) (ty := (.object "TelecontrolPost$ByteRow")) hx hb hts in_Sr t_Sr t_Sr_ok n_Sr hown hI hin0 e0 rfl 5 (by decide) (hts _ tw_123) (fun _ h9 => h9) rfl hnm rfl (by decide +kernel) rfl rfl (Nat.le_of_ble_eq_true rfl) d_Li_init_58 (fun H locs f hI e0 hk_34 => ?_)
  have e0 : f h0 = .inr (7, [.int 0, .int 0, .null, .null, .int (3), .ref q_25, .ref q_1, .ref q_11, .int 0, .int (2), .int (2), .int (3), .long 0, .int 0, .int 0]) := e0
  have hT := ok_rawk hT tn0 hk_34
  refine W.widen (k := 57) (n := 983) (by first | exact Nat.le_of_ble_eq_true rfl | omega) (by first | exact Nat.le_of_ble_eq_true rfl | omega) ?_
  exact sm_vret hx hb hr hlk hI ⟨_, q_25, q_1, q_11, hT, hin0, tn0, e0, t_30, t_6, t_16⟩ d_Li_init_61
theorem d_Sr_init_0 : decode b_Sr_init 0 = .ok (.aload_n 0, 1) := by decide +kernel
theorem d_Sr_init_1 : decode b_Sr_init 1 = .ok (.iconst 3, 1) := by decide +kernel
theorem d_Sr_init_2 : decode b_Sr_init 2 = .ok (.sipush 259, 3) := by decide +kernel
theorem d_Sr_init_5 : decode b_Sr_init 5 = .ok (.invokespecial 3, 3) := by decide +kernel
theorem d_Sr_init_8 : decode b_Sr_init 8 = .ok (.aload_n 0, 1) := by decide +kernel
theorem d_Sr_init_9 : decode b_Sr_init 9 = .ok (.new 9, 3) := by decide +kernel
theorem d_Sr_init_12 : decode b_Sr_init 12 = .ok (.dup, 1) := by decide +kernel
theorem d_Sr_init_13 : decode b_Sr_init 13 = .ok (.sipush 259, 3) := by decide +kernel
theorem d_Sr_init_16 : decode b_Sr_init 16 = .ok (.invokespecial 11, 3) := by decide +kernel
theorem d_Sr_init_19 : decode b_Sr_init 19 = .ok (.putfield 14, 3) := by decide +kernel
theorem d_Sr_init_22 : decode b_Sr_init 22 = .ok (.aload_n 0, 1) := by decide +kernel
theorem d_Sr_init_23 : decode b_Sr_init 23 = .ok (.new 9, 3) := by decide +kernel
theorem d_Sr_init_26 : decode b_Sr_init 26 = .ok (.dup, 1) := by decide +kernel
theorem d_Sr_init_27 : decode b_Sr_init 27 = .ok (.iconst 5, 1) := by decide +kernel
theorem d_Sr_init_28 : decode b_Sr_init 28 = .ok (.invokespecial 11, 3) := by decide +kernel
theorem d_Sr_init_31 : decode b_Sr_init 31 = .ok (.putfield 20, 3) := by decide +kernel
theorem d_Sr_init_34 : decode b_Sr_init 34 = .ok (.return_, 1) := by decide +kernel
set_option maxRecDepth 100000 in
set_option maxHeartbeats 4000000 in
theorem c_Sr_init (l : Launch) (D : va_G) (ca : Nat → ClassId) (f0 : Nat → va_E) (sz : Nat) (h0 : Nat) (e0 : f0 h0 = .inr (7, [.int 0, .int 0, .null, .null, .int 0, .null, .null, .null, .int 0, .int 0, .int 0, .int 0, .long 0, .int 0, .int 0]))  :
    Met l y_Sr_init (Cond.code y_Sr_init b_Sr_init 1 none :: wg) { frames := 5, cells := 61, slots := 1251, locals := 105 } (va_Pc [.ref h0] (sm_P D cl_all (ty_s ca) ek [h0] f0 sz)) (sm_Qv D (ty_s ca) [h0] f0 sz (fun u => po_k ca h0 (ty_sr) u)) 61 1251 (va_A (va_pl [h0] f0) sz) := by
  refine sm_start (by decide) (Nat.le_of_ble_eq_true rfl) ?_
  intro p e s m below meth c ls hx hb hml hr hlk hnm hts hown hsz hE hI hl
  have hl : lv_has ls 1 [(0, .ref h0)] := hl
  obtain ⟨T, hT, tn0⟩ : ∃ T : ty_e, ok_T ca T [h0] f0 ∧ T h0 = none := ⟨fun _ => none, (fun b ty hb => by cases hb), rfl⟩
  have hin0 : h0 ∈ [h0] := List.mem_cons_self
  refine lv_aload_n hx hb d_Sr_init_0 rfl (lv_at hl 0 rfl) ?_
  refine lv_iconst (v := 3) hx hb d_Sr_init_1 (by decide) ?_
  refine lv_sipush (v := 259) hx hb d_Sr_init_2 (by decide) ?_
  refine sm_callv hI (va_runI (As := [.int (3), .int (259)]) (rest := []) ⟨hx, hb, hml, hown, hts⟩ (c_Li_initS l D ca _ _ h0 e0 ) (ki_Li_init hts rfl rfl (hts _ tw_37) ⟨Nat.le_of_ble_eq_true rfl, Nat.le_of_ble_eq_true rfl⟩) (sm_preS hI hE) rfl rfl hl.1 rfl (lv_room (Nat.le_of_ble_eq_true rfl)) d_Sr_init_5 ⟨(Nat.le_of_ble_eq_true rfl), (Nat.le_of_ble_eq_true rfl)⟩) (fun u H locs hp hI => ?_)
  obtain ⟨L, f⟩ := u
  obtain ⟨T, rw_, rh_, ra_, hT, hin0, tn0, e0, tw_, th_, ta_⟩ := hp
  refine lv_aload_n hx hb d_Sr_init_8 rfl (lv_at hl 0 rfl) ?_
  refine ra_new (ci := 1) (C := R_Br) (T := F_Br) (N := 2) (fs := [.null, .int 0]) hx hb hts in_Br t_Br t_Br_ok hown (hts _ tw_109) (hts _ tw_42) (hts _ tw_4) hI rfl (by decide) (Nat.le_of_ble_eq_true rfl) (Nat.le_of_ble_eq_true rfl) d_Sr_init_9 (fun q_1 H f hq_2 hI e_4 hk_3 => ?_)
  have ne_5 : h0 ≠ q_1 := fun z => hq_2 (z ▸ hin0)
  have e0 := (hk_3 _ ne_5).trans e0
  have hT := ok_psl hT hq_2 hk_3
  refine lv_dup hx hb d_Sr_init_12 rfl ?_
  refine lv_sipush (v := 259) hx hb d_Sr_init_13 (by decide) ?_
  refine sm_vK (K := [q_1]) (ty := ty_row 4147) hI hT (va_runI (As := [.int (259)]) (rest := [.ref q_1, .ref h0]) ⟨hx, hb, hml, hown, hts⟩ (c_Br_init l D ca _ _ q_1 e_4 (4147) (by decide)) (ki_Br_init hts rfl rfl (hts _ tw_110) ⟨Nat.le_of_ble_eq_true rfl, Nat.le_of_ble_eq_true rfl⟩) (sd_preS hI hE) rfl rfl hl.1 rfl (lv_room (Nat.le_of_ble_eq_true rfl)) d_Sr_init_16 ⟨(Nat.le_of_ble_eq_true rfl), (Nat.le_of_ble_eq_true rfl)⟩) (fun T L H locs f hle1 hI hT t_6 hk_7 => ?_)
  obtain ⟨hin0, z_8, z_9⟩ := hk_7 _ hin0
  have e0 := z_8.trans e0
  have tn0 := z_9.trans tn0
  have tw_ := hle1 _ _ tw_
  have th_ := hle1 _ _ th_
  have ta_ := hle1 _ _ ta_
  refine ra_putF (ci := 7) (C := R_Sr) (T := F_Sr) (N := 15) (ty := (.object "TelecontrolPost$ByteRow")) hx hb hts in_Sr t_Sr t_Sr_ok n_Sr hown hI hin0 e0 rfl 2 (by decide) (hts _ tw_115) (fun _ h9 => h9) rfl hnm rfl (by decide +kernel) rfl rfl (Nat.le_of_ble_eq_true rfl) d_Sr_init_19 (fun H locs f hI e0 hk_10 => ?_)
  have e0 : f h0 = .inr (7, [.int 0, .int 0, .ref q_1, .null, .int 3, .ref rw_, .ref rh_, .ref ra_, .int 0, .int 2, .int 2, .int 3, .long 0, .int 0, .int 0]) := e0
  have hT := ok_rawk hT tn0 hk_10
  refine lv_aload_n hx hb d_Sr_init_22 rfl (lv_at hl 0 rfl) ?_
  refine ra_new (ci := 1) (C := R_Br) (T := F_Br) (N := 2) (fs := [.null, .int 0]) hx hb hts in_Br t_Br t_Br_ok hown (hts _ tw_109) (hts _ tw_42) (hts _ tw_4) hI rfl (by decide) (Nat.le_of_ble_eq_true rfl) (Nat.le_of_ble_eq_true rfl) d_Sr_init_23 (fun q_11 H f hq_12 hI e_14 hk_13 => ?_)
  have ne_15 : h0 ≠ q_11 := fun z => hq_12 (z ▸ hin0)
  have e0 := (hk_13 _ ne_15).trans e0
  have hT := ok_psl hT hq_12 hk_13
  refine lv_dup hx hb d_Sr_init_26 rfl ?_
  refine lv_iconst (v := 5) hx hb d_Sr_init_27 (by decide) ?_
  refine sm_vK (K := [q_11]) (ty := ty_row 80) hI hT (va_runI (As := [.int (5)]) (rest := [.ref q_11, .ref h0]) ⟨hx, hb, hml, hown, hts⟩ (c_Br_init l D ca _ _ q_11 e_14 (80) (by decide)) (ki_Br_init hts rfl rfl (hts _ tw_110) ⟨Nat.le_of_ble_eq_true rfl, Nat.le_of_ble_eq_true rfl⟩) (sd_preS hI hE) rfl rfl hl.1 rfl (lv_room (Nat.le_of_ble_eq_true rfl)) d_Sr_init_28 ⟨(Nat.le_of_ble_eq_true rfl), (Nat.le_of_ble_eq_true rfl)⟩) (fun T L H locs f hle1 hI hT t_16 hk_17 => ?_)
  obtain ⟨hin0, z_18, z_19⟩ := hk_17 _ hin0
  have e0 := z_18.trans e0
  have tn0 := z_19.trans tn0
  have tw_ := hle1 _ _ tw_
  have th_ := hle1 _ _ th_
  have ta_ := hle1 _ _ ta_
  have t_6 := hle1 _ _ t_6
  refine ra_putF (ci := 7) (C := R_Sr) (T := F_Sr) (N := 15) (ty := (.object "TelecontrolPost$ByteRow")) hx hb hts in_Sr t_Sr t_Sr_ok n_Sr hown hI hin0 e0 rfl 3 (by decide) (hts _ tw_117) (fun _ h9 => h9) rfl hnm rfl (by decide +kernel) rfl rfl (Nat.le_of_ble_eq_true rfl) d_Sr_init_31 (fun H locs f hI e0 hk_20 => ?_)
  have e0 : f h0 = .inr (7, [.int 0, .int 0, .ref q_1, .ref q_11, .int 3, .ref rw_, .ref rh_, .ref ra_, .int 0, .int 2, .int 2, .int 3, .long 0, .int 0, .int 0]) := e0
  have hT := ok_rawk hT tn0 hk_20
  obtain ⟨T, hle1, hTt, tfin, hnn⟩ := ok_typ (ty := ty_sr) hT hin0 tn0 (fun T2 hle1 => by rw [e0]; exact ⟨_, _, _, _, _, _, _, _, 2, 2, 3, _, _, _, rfl, hle1 _ _ t_6, hle1 _ _ t_16, hle1 _ _ tw_, hle1 _ _ th_, hle1 _ _ ta_, (by decide), (by decide), (by decide), (by first | exact Or.inl rfl | exact Or.inl rfl)⟩)
  refine W.widen (k := 61) (n := 1251) (by first | exact Nat.le_of_ble_eq_true rfl | omega) (by first | exact Nat.le_of_ble_eq_true rfl | omega) ?_
  exact sm_vret hx hb hr hlk hI ⟨_, hTt, tfin⟩ d_Sr_init_34
theorem d_Po_init_0 : decode b_Po_init 0 = .ok (.aload_n 0, 1) := by decide +kernel
theorem d_Po_init_1 : decode b_Po_init 1 = .ok (.invokespecial 1, 3) := by decide +kernel
theorem d_Po_init_4 : decode b_Po_init 4 = .ok (.aload_n 0, 1) := by decide +kernel
theorem d_Po_init_5 : decode b_Po_init 5 = .ok (.bipush 32, 2) := by decide +kernel
theorem d_Po_init_7 : decode b_Po_init 7 = .ok (.anewarray 9, 3) := by decide +kernel
theorem d_Po_init_10 : decode b_Po_init 10 = .ok (.putfield 11, 3) := by decide +kernel
theorem d_Po_init_13 : decode b_Po_init 13 = .ok (.aload_n 0, 1) := by decide +kernel
theorem d_Po_init_14 : decode b_Po_init 14 = .ok (.iconst 3, 1) := by decide +kernel
theorem d_Po_init_15 : decode b_Po_init 15 = .ok (.anewarray 15, 3) := by decide +kernel
theorem d_Po_init_18 : decode b_Po_init 18 = .ok (.putfield 17, 3) := by decide +kernel
theorem d_Po_init_21 : decode b_Po_init 21 = .ok (.aload_n 0, 1) := by decide +kernel
theorem d_Po_init_22 : decode b_Po_init 22 = .ok (.new 21, 3) := by decide +kernel
theorem d_Po_init_25 : decode b_Po_init 25 = .ok (.dup, 1) := by decide +kernel
theorem d_Po_init_26 : decode b_Po_init 26 = .ok (.invokespecial 23, 3) := by decide +kernel
theorem d_Po_init_29 : decode b_Po_init 29 = .ok (.putfield 24, 3) := by decide +kernel
theorem d_Po_init_32 : decode b_Po_init 32 = .ok (.aload_n 0, 1) := by decide +kernel
theorem d_Po_init_33 : decode b_Po_init 33 = .ok (.new 28, 3) := by decide +kernel
theorem d_Po_init_36 : decode b_Po_init 36 = .ok (.dup, 1) := by decide +kernel
theorem d_Po_init_37 : decode b_Po_init 37 = .ok (.invokespecial 30, 3) := by decide +kernel
theorem d_Po_init_40 : decode b_Po_init 40 = .ok (.putfield 31, 3) := by decide +kernel
theorem d_Po_init_43 : decode b_Po_init 43 = .ok (.aload_n 0, 1) := by decide +kernel
theorem d_Po_init_44 : decode b_Po_init 44 = .ok (.bipush 24, 2) := by decide +kernel
theorem d_Po_init_46 : decode b_Po_init 46 = .ok (.anewarray 35, 3) := by decide +kernel
theorem d_Po_init_49 : decode b_Po_init 49 = .ok (.putfield 37, 3) := by decide +kernel
theorem d_Po_init_52 : decode b_Po_init 52 = .ok (.aload_n 0, 1) := by decide +kernel
theorem d_Po_init_53 : decode b_Po_init 53 = .ok (.new 41, 3) := by decide +kernel
theorem d_Po_init_56 : decode b_Po_init 56 = .ok (.dup, 1) := by decide +kernel
theorem d_Po_init_57 : decode b_Po_init 57 = .ok (.invokespecial 43, 3) := by decide +kernel
theorem d_Po_init_60 : decode b_Po_init 60 = .ok (.putfield 44, 3) := by decide +kernel
theorem d_Po_init_63 : decode b_Po_init 63 = .ok (.aload_n 0, 1) := by decide +kernel
theorem d_Po_init_64 : decode b_Po_init 64 = .ok (.new 48, 3) := by decide +kernel
theorem d_Po_init_67 : decode b_Po_init 67 = .ok (.dup, 1) := by decide +kernel
theorem d_Po_init_68 : decode b_Po_init 68 = .ok (.sipush 259, 3) := by decide +kernel
theorem d_Po_init_71 : decode b_Po_init 71 = .ok (.invokespecial 50, 3) := by decide +kernel
theorem d_Po_init_74 : decode b_Po_init 74 = .ok (.putfield 53, 3) := by decide +kernel
theorem d_Po_init_77 : decode b_Po_init 77 = .ok (.aload_n 0, 1) := by decide +kernel
theorem d_Po_init_78 : decode b_Po_init 78 = .ok (.new 48, 3) := by decide +kernel
theorem d_Po_init_81 : decode b_Po_init 81 = .ok (.dup, 1) := by decide +kernel
theorem d_Po_init_82 : decode b_Po_init 82 = .ok (.sipush 259, 3) := by decide +kernel
theorem d_Po_init_85 : decode b_Po_init 85 = .ok (.invokespecial 50, 3) := by decide +kernel
theorem d_Po_init_88 : decode b_Po_init 88 = .ok (.putfield 57, 3) := by decide +kernel
theorem d_Po_init_91 : decode b_Po_init 91 = .ok (.aload_n 0, 1) := by decide +kernel
theorem d_Po_init_92 : decode b_Po_init 92 = .ok (.iload_n 1, 1) := by decide +kernel
theorem d_Po_init_93 : decode b_Po_init 93 = .ok (.iconst 1, 1) := by decide +kernel
theorem d_Po_init_94 : decode b_Po_init 94 = .ok (.if_icmp .lt 13, 3) := by decide +kernel
theorem d_Po_init_97 : decode b_Po_init 97 = .ok (.iload_n 1, 1) := by decide +kernel
theorem d_Po_init_98 : decode b_Po_init 98 = .ok (.ldc 60, 2) := by decide +kernel
theorem d_Po_init_100 : decode b_Po_init 100 = .ok (.if_icmp .gt 7, 3) := by decide +kernel
theorem d_Po_init_103 : decode b_Po_init 103 = .ok (.iload_n 1, 1) := by decide +kernel
theorem d_Po_init_104 : decode b_Po_init 104 = .ok (.goto 4, 3) := by decide +kernel
theorem d_Po_init_107 : decode b_Po_init 107 = .ok (.iconst 1, 1) := by decide +kernel
theorem d_Po_init_108 : decode b_Po_init 108 = .ok (.putfield 61, 3) := by decide +kernel
theorem d_Po_init_111 : decode b_Po_init 111 = .ok (.iconst 0, 1) := by decide +kernel
theorem d_Po_init_112 : decode b_Po_init 112 = .ok (.istore_n 2, 1) := by decide +kernel
theorem d_Po_init_113 : decode b_Po_init 113 = .ok (.iload_n 2, 1) := by decide +kernel
theorem d_Po_init_114 : decode b_Po_init 114 = .ok (.aload_n 0, 1) := by decide +kernel
theorem d_Po_init_115 : decode b_Po_init 115 = .ok (.getfield 17, 3) := by decide +kernel
theorem d_Po_init_118 : decode b_Po_init 118 = .ok (.arraylength, 1) := by decide +kernel
theorem d_Po_init_119 : decode b_Po_init 119 = .ok (.if_icmp .ge 23, 3) := by decide +kernel
theorem d_Po_init_122 : decode b_Po_init 122 = .ok (.aload_n 0, 1) := by decide +kernel
theorem d_Po_init_123 : decode b_Po_init 123 = .ok (.getfield 17, 3) := by decide +kernel
theorem d_Po_init_126 : decode b_Po_init 126 = .ok (.iload_n 2, 1) := by decide +kernel
theorem d_Po_init_127 : decode b_Po_init 127 = .ok (.new 15, 3) := by decide +kernel
theorem d_Po_init_130 : decode b_Po_init 130 = .ok (.dup, 1) := by decide +kernel
theorem d_Po_init_131 : decode b_Po_init 131 = .ok (.iload_n 2, 1) := by decide +kernel
theorem d_Po_init_132 : decode b_Po_init 132 = .ok (.invokespecial 65, 3) := by decide +kernel
theorem d_Po_init_135 : decode b_Po_init 135 = .ok (.aastore, 1) := by decide +kernel
theorem d_Po_init_136 : decode b_Po_init 136 = .ok (.iinc 2 1, 3) := by decide +kernel
theorem d_Po_init_139 : decode b_Po_init 139 = .ok (.goto (-26), 3) := by decide +kernel
theorem d_Po_init_142 : decode b_Po_init 142 = .ok (.iconst 0, 1) := by decide +kernel
theorem d_Po_init_143 : decode b_Po_init 143 = .ok (.istore_n 2, 1) := by decide +kernel
theorem d_Po_init_144 : decode b_Po_init 144 = .ok (.iload_n 2, 1) := by decide +kernel
theorem d_Po_init_145 : decode b_Po_init 145 = .ok (.aload_n 0, 1) := by decide +kernel
theorem d_Po_init_146 : decode b_Po_init 146 = .ok (.getfield 37, 3) := by decide +kernel
theorem d_Po_init_149 : decode b_Po_init 149 = .ok (.arraylength, 1) := by decide +kernel
theorem d_Po_init_150 : decode b_Po_init 150 = .ok (.if_icmp .ge 22, 3) := by decide +kernel
theorem d_Po_init_153 : decode b_Po_init 153 = .ok (.aload_n 0, 1) := by decide +kernel
theorem d_Po_init_154 : decode b_Po_init 154 = .ok (.getfield 37, 3) := by decide +kernel
theorem d_Po_init_157 : decode b_Po_init 157 = .ok (.iload_n 2, 1) := by decide +kernel
theorem d_Po_init_158 : decode b_Po_init 158 = .ok (.new 35, 3) := by decide +kernel
theorem d_Po_init_161 : decode b_Po_init 161 = .ok (.dup, 1) := by decide +kernel
theorem d_Po_init_162 : decode b_Po_init 162 = .ok (.invokespecial 66, 3) := by decide +kernel
theorem d_Po_init_165 : decode b_Po_init 165 = .ok (.aastore, 1) := by decide +kernel
theorem d_Po_init_166 : decode b_Po_init 166 = .ok (.iinc 2 1, 3) := by decide +kernel
theorem d_Po_init_169 : decode b_Po_init 169 = .ok (.goto (-25), 3) := by decide +kernel
theorem d_Po_init_172 : decode b_Po_init 172 = .ok (.return_, 1) := by decide +kernel
set_option maxRecDepth 100000 in
set_option maxHeartbeats 4000000 in
theorem c_Po_init (l : Launch) (D : va_G) (ca : Nat → ClassId) (f0 : Nat → va_E) (sz : Nat) (h0 : Nat) (e0 : f0 h0 = .inr (0, [.int 0, .null, .int 0, .null, .null, .null, .null, .int 0, .int 0, .long 0, .int 0, .long 0, .null, .null, .null])) (x1 : Int32) :
    Met l y_Po_init (Cond.code y_Po_init b_Po_init 3 none :: wg) { frames := 6, cells := 471, slots := 9870, locals := 126 } (va_Pc [.ref h0, .int (x1)] (sm_P D cl_all (ty_s ca) ek [h0] f0 sz)) (sm_Qv D (ty_s ca) [h0] f0 sz (fun u => po_k ca h0 (ty_po []) u)) 471 9870 (va_A (va_pl [h0] f0) sz) := by
  refine sm_start (by decide) (Nat.le_of_ble_eq_true rfl) ?_
  intro p e s m below meth c ls hx hb hml hr hlk hnm hts hown hsz hE hI hl
  have hl : lv_has ls 3 [(0, .ref h0), (1, .int (x1))] := hl
  obtain ⟨T, hT, tn0⟩ : ∃ T : ty_e, ok_T ca T [h0] f0 ∧ T h0 = none := ⟨fun _ => none, (fun b ty hb => by cases hb), rfl⟩
  have hin0 : h0 ∈ [h0] := List.mem_cons_self
  refine lv_aload_n hx hb d_Po_init_0 rfl (lv_at hl 0 rfl) ?_
  refine ob_init hx hb hown (hts _ tw_25) (hts _ tw_26) (hts _ tw_27) (by rw [hml]; exact hl.1) d_Po_init_1 (Nat.le_of_ble_eq_true rfl) (Nat.le_of_ble_eq_true rfl) ?_
  refine lv_aload_n hx hb d_Po_init_4 rfl (lv_at hl 0 rfl) ?_
  refine lv_bipush (v := 32) hx hb d_Po_init_5 (by decide) ?_
  refine ra_newq (C := R_Pt) (N' := 32) hx hb hown (hts _ tw_28) (hE.2.2.1 _ tn_29) hI 3 rfl (by decide) (by decide) (by decide) (Nat.le_of_ble_eq_true rfl) (Nat.le_of_ble_eq_true rfl) d_Po_init_7 (fun q_1 H f hq_2 hI e_4 hk_3 => ?_)
  have ne_5 : h0 ≠ q_1 := fun z => hq_2 (z ▸ hin0)
  have e0 := (hk_3 _ ne_5).trans e0
  have hin0 := List.mem_append_left [q_1] hin0
  obtain ⟨tn_6, hin_7, hT⟩ := ok_psh hT hq_2 hk_3
  obtain ⟨T, hle1, hTt, t_8, hnn⟩ := ok_typ (ty := ty_pts []) hT hin_7 tn_6 (fun T2 hle1 => by rw [e_4]; exact ⟨_, rfl, fun j x h => by cases h⟩)
  have tn0 := (hnn _ ne_5).trans tn0
  have hT := hTt
  refine ra_putF (ci := 0) (C := R_Po) (T := F_Po) (N := 15) (ty := (.array (.object "TelecontrolPost$Point"))) hx hb hts in_Po t_Po t_Po_ok n_Po hown hI hin0 e0 rfl 1 (by decide) (hts _ tw_363) (fun _ h9 => h9) rfl hnm rfl (by decide +kernel) rfl rfl (Nat.le_of_ble_eq_true rfl) d_Po_init_10 (fun H locs f hI e0 hk_9 => ?_)
  have e0 : f h0 = .inr (0, [.int 0, .ref q_1, .int 0, .null, .null, .null, .null, .int 0, .int 0, .long 0, .int 0, .long 0, .null, .null, .null]) := e0
  have hT := ok_rawk hT tn0 hk_9
  refine lv_aload_n hx hb d_Po_init_13 rfl (lv_at hl 0 rfl) ?_
  refine lv_iconst (v := 3) hx hb d_Po_init_14 (by decide) ?_
  refine ra_newq (C := R_Cn) (N' := 3) hx hb hown (hts _ tw_30) (hE.2.2.1 _ tn_31) hI 4 rfl (by decide) (by decide) (by decide) (Nat.le_of_ble_eq_true rfl) (Nat.le_of_ble_eq_true rfl) d_Po_init_15 (fun q_10 H f hq_11 hI e_13 hk_12 => ?_)
  have ne_14 : h0 ≠ q_10 := fun z => hq_11 (z ▸ hin0)
  have e0 := (hk_12 _ ne_14).trans e0
  have hin0 := List.mem_append_left [q_10] hin0
  obtain ⟨tn_15, hin_16, hT⟩ := ok_psh hT hq_11 hk_12
  refine ra_putF (ci := 0) (C := R_Po) (T := F_Po) (N := 15) (ty := (.array (.object "TelecontrolPost$Connection"))) hx hb hts in_Po t_Po t_Po_ok n_Po hown hI hin0 e0 rfl 3 (by decide) (hts _ tw_365) (fun _ h9 => h9) rfl hnm rfl (by decide +kernel) rfl rfl (Nat.le_of_ble_eq_true rfl) d_Po_init_18 (fun H locs f hI e0 hk_17 => ?_)
  have e0 : f h0 = .inr (0, [.int 0, .ref q_1, .int 0, .ref q_10, .null, .null, .null, .int 0, .int 0, .long 0, .int 0, .long 0, .null, .null, .null]) := e0
  have e_13 := (hk_17 _ (Ne.symm ne_14)).trans e_13
  have hT := ok_rawk hT tn0 hk_17
  refine lv_aload_n hx hb d_Po_init_21 rfl (lv_at hl 0 rfl) ?_
  refine ra_new (ci := 7) (C := R_Sr) (T := F_Sr) (N := 15) (fs := [.int 0, .int 0, .null, .null, .int 0, .null, .null, .null, .int 0, .int 0, .int 0, .int 0, .long 0, .int 0, .int 0]) hx hb hts in_Sr t_Sr t_Sr_ok hown (hts _ tw_32) (hts _ tw_33) (hts _ tw_3) hI rfl (by decide) (Nat.le_of_ble_eq_true rfl) (Nat.le_of_ble_eq_true rfl) d_Po_init_22 (fun q_18 H f hq_19 hI e_21 hk_20 => ?_)
  have ne_22 : h0 ≠ q_18 := fun z => hq_19 (z ▸ hin0)
  have e0 := (hk_20 _ ne_22).trans e0
  have ne_23 : q_10 ≠ q_18 := fun z => hq_19 (z ▸ hin_16)
  have e_13 := (hk_20 _ ne_23).trans e_13
  have hT := ok_psl hT hq_19 hk_20
  refine lv_dup hx hb d_Po_init_25 rfl ?_
  refine sm_vK (K := [q_18]) (ty := ty_sr) hI hT (va_runI (As := []) (rest := [.ref q_18, .ref h0]) ⟨hx, hb, hml, hown, hts⟩ (c_Sr_init l D ca _ _ q_18 e_21) (ki_Sr_init hts rfl rfl (hts _ tw_34) ⟨Nat.le_of_ble_eq_true rfl, Nat.le_of_ble_eq_true rfl⟩) (sd_preS hI hE) rfl rfl hl.1 rfl (lv_room (Nat.le_of_ble_eq_true rfl)) d_Po_init_26 ⟨(Nat.le_of_ble_eq_true rfl), (Nat.le_of_ble_eq_true rfl)⟩) (fun T L H locs f hle1 hI hT t_24 hk_25 => ?_)
  obtain ⟨hin0, z_26, z_27⟩ := hk_25 _ hin0
  have e0 := z_26.trans e0
  have tn0 := z_27.trans tn0
  obtain ⟨hin_16, z_28, z_29⟩ := hk_25 _ hin_16
  have e_13 := z_28.trans e_13
  have tn_15 := z_29.trans tn_15
  have t_8 := hle1 _ _ t_8
  refine ra_putF (ci := 0) (C := R_Po) (T := F_Po) (N := 15) (ty := (.object "TelecontrolPost$Serial")) hx hb hts in_Po t_Po t_Po_ok n_Po hown hI hin0 e0 rfl 4 (by decide) (hts _ tw_366) (fun _ h9 => h9) rfl hnm rfl (by decide +kernel) rfl rfl (Nat.le_of_ble_eq_true rfl) d_Po_init_29 (fun H locs f hI e0 hk_30 => ?_)
  have e0 : f h0 = .inr (0, [.int 0, .ref q_1, .int 0, .ref q_10, .ref q_18, .null, .null, .int 0, .int 0, .long 0, .int 0, .long 0, .null, .null, .null]) := e0
  have e_13 := (hk_30 _ (Ne.symm ne_14)).trans e_13
  have hT := ok_rawk hT tn0 hk_30
  refine lv_aload_n hx hb d_Po_init_32 rfl (lv_at hl 0 rfl) ?_
  refine ra_new (ci := 5) (C := R_Es) (T := F_Es) (N := 3) (fs := [.null, .int 0, .int 0]) hx hb hts in_Es t_Es t_Es_ok hown (hts _ tw_202) (hts _ tw_203) (hts _ tw_7) hI rfl (by decide) (Nat.le_of_ble_eq_true rfl) (Nat.le_of_ble_eq_true rfl) d_Po_init_33 (fun q_31 H f hq_32 hI e_34 hk_33 => ?_)
  have ne_35 : h0 ≠ q_31 := fun z => hq_32 (z ▸ hin0)
  have e0 := (hk_33 _ ne_35).trans e0
  have ne_36 : q_10 ≠ q_31 := fun z => hq_32 (z ▸ hin_16)
  have e_13 := (hk_33 _ ne_36).trans e_13
  have hT := ok_psl hT hq_32 hk_33
  refine lv_dup hx hb d_Po_init_36 rfl ?_
  refine sm_vK (K := [q_31]) (ty := ty_es) hI hT (va_runI (As := []) (rest := [.ref q_31, .ref h0]) ⟨hx, hb, hml, hown, hts⟩ (c_Es_init l D ca _ _ q_31 e_34) (ki_Es_init hts rfl rfl (hts _ tw_204) ⟨Nat.le_of_ble_eq_true rfl, Nat.le_of_ble_eq_true rfl⟩) (sd_preS hI hE) rfl rfl hl.1 rfl (lv_room (Nat.le_of_ble_eq_true rfl)) d_Po_init_37 ⟨(Nat.le_of_ble_eq_true rfl), (Nat.le_of_ble_eq_true rfl)⟩) (fun T L H locs f hle1 hI hT t_37 hk_38 => ?_)
  obtain ⟨hin0, z_39, z_40⟩ := hk_38 _ hin0
  have e0 := z_39.trans e0
  have tn0 := z_40.trans tn0
  obtain ⟨hin_16, z_41, z_42⟩ := hk_38 _ hin_16
  have e_13 := z_41.trans e_13
  have tn_15 := z_42.trans tn_15
  have t_8 := hle1 _ _ t_8
  have t_24 := hle1 _ _ t_24
  refine ra_putF (ci := 0) (C := R_Po) (T := F_Po) (N := 15) (ty := (.object "TelecontrolPost$Events")) hx hb hts in_Po t_Po t_Po_ok n_Po hown hI hin0 e0 rfl 5 (by decide) (hts _ tw_367) (fun _ h9 => h9) rfl hnm rfl (by decide +kernel) rfl rfl (Nat.le_of_ble_eq_true rfl) d_Po_init_40 (fun H locs f hI e0 hk_43 => ?_)
  have e0 : f h0 = .inr (0, [.int 0, .ref q_1, .int 0, .ref q_10, .ref q_18, .ref q_31, .null, .int 0, .int 0, .long 0, .int 0, .long 0, .null, .null, .null]) := e0
  have e_13 := (hk_43 _ (Ne.symm ne_14)).trans e_13
  have hT := ok_rawk hT tn0 hk_43
  refine lv_aload_n hx hb d_Po_init_43 rfl (lv_at hl 0 rfl) ?_
  refine lv_bipush (v := 24) hx hb d_Po_init_44 (by decide) ?_
  refine ra_newq (C := R_Op) (N' := 24) hx hb hown (hts _ tw_249) (hE.2.2.1 _ tn_250) hI 5 rfl (by decide) (by decide) (by decide) (Nat.le_of_ble_eq_true rfl) (Nat.le_of_ble_eq_true rfl) d_Po_init_46 (fun q_44 H f hq_45 hI e_47 hk_46 => ?_)
  have ne_48 : h0 ≠ q_44 := fun z => hq_45 (z ▸ hin0)
  have e0 := (hk_46 _ ne_48).trans e0
  have hin0 := List.mem_append_left [q_44] hin0
  have ne_49 : q_10 ≠ q_44 := fun z => hq_45 (z ▸ hin_16)
  have e_13 := (hk_46 _ ne_49).trans e_13
  have hin_16 := List.mem_append_left [q_44] hin_16
  obtain ⟨tn_50, hin_51, hT⟩ := ok_psh hT hq_45 hk_46
  refine ra_putF (ci := 0) (C := R_Po) (T := F_Po) (N := 15) (ty := (.array (.object "TelecontrolPost$Operation"))) hx hb hts in_Po t_Po t_Po_ok n_Po hown hI hin0 e0 rfl 6 (by decide) (hts _ tw_368) (fun _ h9 => h9) rfl hnm rfl (by decide +kernel) rfl rfl (Nat.le_of_ble_eq_true rfl) d_Po_init_49 (fun H locs f hI e0 hk_52 => ?_)
  have e0 : f h0 = .inr (0, [.int 0, .ref q_1, .int 0, .ref q_10, .ref q_18, .ref q_31, .ref q_44, .int 0, .int 0, .long 0, .int 0, .long 0, .null, .null, .null]) := e0
  have e_13 := (hk_52 _ (Ne.symm ne_14)).trans e_13
  have e_47 := (hk_52 _ (Ne.symm ne_48)).trans e_47
  have hT := ok_rawk hT tn0 hk_52
  refine lv_aload_n hx hb d_Po_init_52 rfl (lv_at hl 0 rfl) ?_
  refine ra_new (ci := 8) (C := R_Se) (T := F_Se) (N := 5) (fs := [.int 0, .int 0, .long 0, .int 0, .int 0]) hx hb hts in_Se t_Se t_Se_ok hown (hts _ tw_251) (hts _ tw_252) (hts _ tw_9) hI rfl (by decide) (Nat.le_of_ble_eq_true rfl) (Nat.le_of_ble_eq_true rfl) d_Po_init_53 (fun q_53 H f hq_54 hI e_56 hk_55 => ?_)
  have ne_57 : h0 ≠ q_53 := fun z => hq_54 (z ▸ hin0)
  have e0 := (hk_55 _ ne_57).trans e0
  have ne_58 : q_10 ≠ q_53 := fun z => hq_54 (z ▸ hin_16)
  have e_13 := (hk_55 _ ne_58).trans e_13
  have ne_59 : q_44 ≠ q_53 := fun z => hq_54 (z ▸ hin_51)
  have e_47 := (hk_55 _ ne_59).trans e_47
  have hT := ok_psl hT hq_54 hk_55
  refine lv_dup hx hb d_Po_init_56 rfl ?_
  refine sm_vK (K := [q_53]) (ty := ty_se) hI hT (va_runIN (As := []) (rest := [.ref q_53, .ref h0]) ⟨hx, hb, hml, hown, hts⟩ (c_Se_init l D ca _ _ q_53 e_56) ⟨va_cnB 0 hts (wg_in0 tw_255) rfl rfl rfl (hE.1 _ tn_253 rfl) (hts _ tw_9) (by decide +kernel) ⟨Nat.le_of_ble_eq_true rfl, Nat.le_of_ble_eq_true rfl⟩, rfl, hts _ tw_254⟩ (sd_preS hI hE) rfl rfl hl.1 rfl (lv_room (Nat.le_of_ble_eq_true rfl)) d_Po_init_57 ⟨(Nat.le_of_ble_eq_true rfl), (Nat.le_of_ble_eq_true rfl)⟩) (fun T L H locs f hle1 hI hT t_60 hk_61 => ?_)
  obtain ⟨hin0, z_62, z_63⟩ := hk_61 _ hin0
  have e0 := z_62.trans e0
  have tn0 := z_63.trans tn0
  obtain ⟨hin_16, z_64, z_65⟩ := hk_61 _ hin_16
  have e_13 := z_64.trans e_13
  have tn_15 := z_65.trans tn_15
  obtain ⟨hin_51, z_66, z_67⟩ := hk_61 _ hin_51
  have e_47 := z_66.trans e_47
  have tn_50 := z_67.trans tn_50
  have t_8 := hle1 _ _ t_8
  have t_24 := hle1 _ _ t_24
  have t_37 := hle1 _ _ t_37
  refine ra_putF (ci := 0) (C := R_Po) (T := F_Po) (N := 15) (ty := (.object "TelecontrolPost$Selection")) hx hb hts in_Po t_Po t_Po_ok n_Po hown hI hin0 e0 rfl 12 (by decide) (hts _ tw_374) (fun _ h9 => h9) rfl hnm rfl (by decide +kernel) rfl rfl (Nat.le_of_ble_eq_true rfl) d_Po_init_60 (fun H locs f hI e0 hk_68 => ?_)
  have e0 : f h0 = .inr (0, [.int 0, .ref q_1, .int 0, .ref q_10, .ref q_18, .ref q_31, .ref q_44, .int 0, .int 0, .long 0, .int 0, .long 0, .ref q_53, .null, .null]) := e0
  have e_13 := (hk_68 _ (Ne.symm ne_14)).trans e_13
  have e_47 := (hk_68 _ (Ne.symm ne_48)).trans e_47
  have hT := ok_rawk hT tn0 hk_68
  refine lv_aload_n hx hb d_Po_init_63 rfl (lv_at hl 0 rfl) ?_
  refine ra_new (ci := 1) (C := R_Br) (T := F_Br) (N := 2) (fs := [.null, .int 0]) hx hb hts in_Br t_Br t_Br_ok hown (hts _ tw_276) (hts _ tw_42) (hts _ tw_4) hI rfl (by decide) (Nat.le_of_ble_eq_true rfl) (Nat.le_of_ble_eq_true rfl) d_Po_init_64 (fun q_69 H f hq_70 hI e_72 hk_71 => ?_)
  have ne_73 : h0 ≠ q_69 := fun z => hq_70 (z ▸ hin0)
  have e0 := (hk_71 _ ne_73).trans e0
  have ne_74 : q_10 ≠ q_69 := fun z => hq_70 (z ▸ hin_16)
  have e_13 := (hk_71 _ ne_74).trans e_13
  have ne_75 : q_44 ≠ q_69 := fun z => hq_70 (z ▸ hin_51)
  have e_47 := (hk_71 _ ne_75).trans e_47
  have hT := ok_psl hT hq_70 hk_71
  refine lv_dup hx hb d_Po_init_67 rfl ?_
  refine lv_sipush (v := 259) hx hb d_Po_init_68 (by decide) ?_
  refine sm_vK (K := [q_69]) (ty := ty_row 4148) hI hT (va_runI (As := [.int (259)]) (rest := [.ref q_69, .ref h0]) ⟨hx, hb, hml, hown, hts⟩ (c_Br_init l D ca _ _ q_69 e_72 (4148) (by decide)) (ki_Br_init hts rfl rfl (hts _ tw_277) ⟨Nat.le_of_ble_eq_true rfl, Nat.le_of_ble_eq_true rfl⟩) (sd_preS hI hE) rfl rfl hl.1 rfl (lv_room (Nat.le_of_ble_eq_true rfl)) d_Po_init_71 ⟨(Nat.le_of_ble_eq_true rfl), (Nat.le_of_ble_eq_true rfl)⟩) (fun T L H locs f hle1 hI hT t_76 hk_77 => ?_)
  obtain ⟨hin0, z_78, z_79⟩ := hk_77 _ hin0
  have e0 := z_78.trans e0
  have tn0 := z_79.trans tn0
  obtain ⟨hin_16, z_80, z_81⟩ := hk_77 _ hin_16
  have e_13 := z_80.trans e_13
  have tn_15 := z_81.trans tn_15
  obtain ⟨hin_51, z_82, z_83⟩ := hk_77 _ hin_51
  have e_47 := z_82.trans e_47
  have tn_50 := z_83.trans tn_50
  have t_8 := hle1 _ _ t_8
  have t_24 := hle1 _ _ t_24
  have t_37 := hle1 _ _ t_37
  have t_60 := hle1 _ _ t_60
  refine ra_putF (ci := 0) (C := R_Po) (T := F_Po) (N := 15) (ty := (.object "TelecontrolPost$ByteRow")) hx hb hts in_Po t_Po t_Po_ok n_Po hown hI hin0 e0 rfl 13 (by decide) (hts _ tw_375) (fun _ h9 => h9) rfl hnm rfl (by decide +kernel) rfl rfl (Nat.le_of_ble_eq_true rfl) d_Po_init_74 (fun H locs f hI e0 hk_84 => ?_)
  have e0 : f h0 = .inr (0, [.int 0, .ref q_1, .int 0, .ref q_10, .ref q_18, .ref q_31, .ref q_44, .int 0, .int 0, .long 0, .int 0, .long 0, .ref q_53, .ref q_69, .null]) := e0
  have e_13 := (hk_84 _ (Ne.symm ne_14)).trans e_13
  have e_47 := (hk_84 _ (Ne.symm ne_48)).trans e_47
  have hT := ok_rawk hT tn0 hk_84
  refine lv_aload_n hx hb d_Po_init_77 rfl (lv_at hl 0 rfl) ?_
  refine ra_new (ci := 1) (C := R_Br) (T := F_Br) (N := 2) (fs := [.null, .int 0]) hx hb hts in_Br t_Br t_Br_ok hown (hts _ tw_276) (hts _ tw_42) (hts _ tw_4) hI rfl (by decide) (Nat.le_of_ble_eq_true rfl) (Nat.le_of_ble_eq_true rfl) d_Po_init_78 (fun q_85 H f hq_86 hI e_88 hk_87 => ?_)
  have ne_89 : h0 ≠ q_85 := fun z => hq_86 (z ▸ hin0)
  have e0 := (hk_87 _ ne_89).trans e0
  have ne_90 : q_10 ≠ q_85 := fun z => hq_86 (z ▸ hin_16)
  have e_13 := (hk_87 _ ne_90).trans e_13
  have ne_91 : q_44 ≠ q_85 := fun z => hq_86 (z ▸ hin_51)
  have e_47 := (hk_87 _ ne_91).trans e_47
  have hT := ok_psl hT hq_86 hk_87
  refine lv_dup hx hb d_Po_init_81 rfl ?_
  refine lv_sipush (v := 259) hx hb d_Po_init_82 (by decide) ?_
  refine sm_vK (K := [q_85]) (ty := ty_row 4149) hI hT (va_runI (As := [.int (259)]) (rest := [.ref q_85, .ref h0]) ⟨hx, hb, hml, hown, hts⟩ (c_Br_init l D ca _ _ q_85 e_88 (4149) (by decide)) (ki_Br_init hts rfl rfl (hts _ tw_277) ⟨Nat.le_of_ble_eq_true rfl, Nat.le_of_ble_eq_true rfl⟩) (sd_preS hI hE) rfl rfl hl.1 rfl (lv_room (Nat.le_of_ble_eq_true rfl)) d_Po_init_85 ⟨(Nat.le_of_ble_eq_true rfl), (Nat.le_of_ble_eq_true rfl)⟩) (fun T L H locs f hle1 hI hT t_92 hk_93 => ?_)
  obtain ⟨hin0, z_94, z_95⟩ := hk_93 _ hin0
  have e0 := z_94.trans e0
  have tn0 := z_95.trans tn0
  obtain ⟨hin_16, z_96, z_97⟩ := hk_93 _ hin_16
  have e_13 := z_96.trans e_13
  have tn_15 := z_97.trans tn_15
  obtain ⟨hin_51, z_98, z_99⟩ := hk_93 _ hin_51
  have e_47 := z_98.trans e_47
  have tn_50 := z_99.trans tn_50
  have t_8 := hle1 _ _ t_8
  have t_24 := hle1 _ _ t_24
  have t_37 := hle1 _ _ t_37
  have t_60 := hle1 _ _ t_60
  have t_76 := hle1 _ _ t_76
  refine ra_putF (ci := 0) (C := R_Po) (T := F_Po) (N := 15) (ty := (.object "TelecontrolPost$ByteRow")) hx hb hts in_Po t_Po t_Po_ok n_Po hown hI hin0 e0 rfl 14 (by decide) (hts _ tw_376) (fun _ h9 => h9) rfl hnm rfl (by decide +kernel) rfl rfl (Nat.le_of_ble_eq_true rfl) d_Po_init_88 (fun H locs f hI e0 hk_100 => ?_)
  have e0 : f h0 = .inr (0, [.int 0, .ref q_1, .int 0, .ref q_10, .ref q_18, .ref q_31, .ref q_44, .int 0, .int 0, .long 0, .int 0, .long 0, .ref q_53, .ref q_69, .ref q_85]) := e0
  have e_13 := (hk_100 _ (Ne.symm ne_14)).trans e_13
  have e_47 := (hk_100 _ (Ne.symm ne_48)).trans e_47
  have hT := ok_rawk hT tn0 hk_100
  refine lv_aload_n hx hb d_Po_init_91 rfl (lv_at hl 0 rfl) ?_
  refine lv_iload_n hx hb d_Po_init_92 rfl (lv_at hl 1 rfl) ?_
  refine lv_iconst (v := 1) hx hb d_Po_init_93 (by decide) ?_
  refine lv_icmp_lt (tgt := 107) hx hb d_Po_init_94 (by decide) (fun c_101 => ?_) (fun c_101 => ?_)
  · refine lv_iconst (v := 1) hx hb d_Po_init_107 (by decide) ?_
    refine ra_putF (ci := 0) (C := R_Po) (T := F_Po) (N := 15) (ty := .int) hx hb hts in_Po t_Po t_Po_ok n_Po hown hI hin0 e0 rfl 0 (by decide) (hts _ tw_362) (fun _ h9 => h9) rfl hnm rfl (by decide +kernel) rfl rfl (Nat.le_of_ble_eq_true rfl) d_Po_init_108 (fun H locs f hI e0 hk_102 => ?_)
    have e0 : f h0 = .inr (0, [.int (1), .ref q_1, .int 0, .ref q_10, .ref q_18, .ref q_31, .ref q_44, .int 0, .int 0, .long 0, .int 0, .long 0, .ref q_53, .ref q_69, .ref q_85]) := e0
    have e_13 := (hk_102 _ (Ne.symm ne_14)).trans e_13
    have e_47 := (hk_102 _ (Ne.symm ne_48)).trans e_47
    have hT := ok_rawk hT tn0 hk_102
    refine lv_iconst (v := 0) hx hb d_Po_init_111 (by decide) ?_
    refine lv_istore_n (lv' := [(2, .int (0)), (0, .ref h0), (1, .int (x1))]) hx hb d_Po_init_112 rfl hl (by decide) rfl (fun ls hl => ?_)
    have hJ_113 : ∀ (N k : Nat) (T : ty_e) (L : List Nat) (H : Heap) (locs : List Loc) (f : Nat → va_E) (g113 : Nat → Option Nat) (ls : Array Slot), 3 + 1 - k ≤ N → k ≤ 3 → (sw_I D cl_all (ty_s ca) (va_A (va_pl [h0] f0) sz) s H locs L f) → (ok_T ca T L f) → (h0 ∈ L) → (T h0 = none) → (f h0 = .inr (0, [.int (1), .ref q_1, .int 0, .ref q_10, .ref q_18, .ref q_31, .ref q_44, .int 0, .int 0, .long 0, .int 0, .long 0, .ref q_53, .ref q_69, .ref q_85])) → (q_10 ∈ L) → (T q_10 = none) → (f q_10 = .inl (ca 4, 3, .inr (.inr (.inr (.inr g113))))) → (∀ j, j < k → ∃ b : Nat, g113 j = some b ∧ T b = some ((fun j => ty_cn j) j)) → (q_44 ∈ L) → (T q_44 = none) → (f q_44 = .inl (ca 5, 24, .inr (.inr (.inr (.inr (fun _ => none)))))) → (T q_1 = some (ty_pts [])) → (T q_18 = some (ty_sr)) → (T q_31 = some (ty_es)) → (T q_53 = some (ty_se)) → (T q_69 = some (ty_row 4148)) → (T q_85 = some (ty_row 4149)) → lv_has ls 3 [(0, .ref h0), (1, .int (x1)), (2, .int (nI k))] → W p l e { frames := 6, cells := 471, slots := 9870, locals := 126 } s m ([.ref h0, .int (x1)] : List Value).toArray below meth c H locs (219 + k * 59) (2834 + k * 1759) (MQ below (sm_Qv D (ty_s ca) [h0] f0 sz (fun u => po_k ca h0 (ty_po []) u)) ([.ref h0, .int (x1)] : List Value).toArray s 471 9870 (va_A (va_pl [h0] f0) sz)) (F0 m 113 ls []) := by
      intro N
      induction N with
      | zero => intros; omega
      | succ N ih =>
        intro k T L H locs f g113 ls hN hk hI hT hin0 tn0 e0 hin_16 tn_15 e_13 hel113 hin_51 tn_50 e_47 t_8 t_24 t_37 t_60 t_76 t_92 hl
        refine lv_iload_n hx hb d_Po_init_113 rfl (lv_at hl 2 rfl) ?_
        refine lv_aload_n hx hb d_Po_init_114 rfl (lv_at hl 0 rfl) ?_
        refine sw_get (ci := 0) (C := R_Po) (T := F_Po) (N := 15) (v := .ref q_10) hx hb hts in_Po hown hI hin0 e0 rfl 3 (by decide) (hts _ tw_365) (fun _ h9 => h9) rfl d_Po_init_115 ?_
        refine sw_alen (v := nI 3) hx hb hI hin_16 4 e_13 rfl rfl d_Po_init_118 ?_
        refine lv_icmp_ge (tgt := 142) hx hb d_Po_init_119 (by decide) (fun c_103 => ?_) (fun c_103 => ?_)
        · have k_104 : 3 ≤ k := (nI_leI (a := 3) (b := k) (by omega) (by omega)).mp c_103
          refine lv_iconst (v := 0) hx hb d_Po_init_142 (by decide) ?_
          refine lv_istore_n (lv' := [(2, .int (0)), (0, .ref h0), (1, .int (x1))]) hx hb d_Po_init_143 rfl hl (by decide) rfl (fun ls hl => ?_)
          have hel113 := el_sub (n := 3) hel113 (by omega)
          have hJ_144 : ∀ (N k : Nat) (T : ty_e) (L : List Nat) (H : Heap) (locs : List Loc) (f : Nat → va_E) (g144 : Nat → Option Nat) (ls : Array Slot), 24 + 1 - k ≤ N → k ≤ 24 → (sw_I D cl_all (ty_s ca) (va_A (va_pl [h0] f0) sz) s H locs L f) → (ok_T ca T L f) → (h0 ∈ L) → (T h0 = none) → (f h0 = .inr (0, [.int (1), .ref q_1, .int 0, .ref q_10, .ref q_18, .ref q_31, .ref q_44, .int 0, .int 0, .long 0, .int 0, .long 0, .ref q_53, .ref q_69, .ref q_85])) → (q_44 ∈ L) → (T q_44 = none) → (f q_44 = .inl (ca 5, 24, .inr (.inr (.inr (.inr g144))))) → (∀ j, j < k → ∃ b : Nat, g144 j = some b ∧ T b = some ((fun _ => ty_op) j)) → (q_10 ∈ L) → (T q_10 = none) → (f q_10 = .inl (ca 4, 3, .inr (.inr (.inr (.inr g113))))) → (∀ j, j < 3 → ∃ b : Nat, g113 j = some b ∧ T b = some ((fun j => ty_cn j) j)) → (T q_1 = some (ty_pts [])) → (T q_18 = some (ty_sr)) → (T q_31 = some (ty_es)) → (T q_53 = some (ty_se)) → (T q_69 = some (ty_row 4148)) → (T q_85 = some (ty_row 4149)) → lv_has ls 3 [(0, .ref h0), (1, .int (x1)), (2, .int (nI k))] → W p l e { frames := 6, cells := 471, slots := 9870, locals := 126 } s m ([.ref h0, .int (x1)] : List Value).toArray below meth c H locs (396 + k * 3) (8111 + k * 28) (MQ below (sm_Qv D (ty_s ca) [h0] f0 sz (fun u => po_k ca h0 (ty_po []) u)) ([.ref h0, .int (x1)] : List Value).toArray s 471 9870 (va_A (va_pl [h0] f0) sz)) (F0 m 144 ls []) := by
            intro N
            induction N with
            | zero => intros; omega
            | succ N ih =>
              intro k T L H locs f g144 ls hN hk hI hT hin0 tn0 e0 hin_51 tn_50 e_47 hel144 hin_16 tn_15 e_13 hel113 t_8 t_24 t_37 t_60 t_76 t_92 hl
              refine lv_iload_n hx hb d_Po_init_144 rfl (lv_at hl 2 rfl) ?_
              refine lv_aload_n hx hb d_Po_init_145 rfl (lv_at hl 0 rfl) ?_
              refine sw_get (ci := 0) (C := R_Po) (T := F_Po) (N := 15) (v := .ref q_44) hx hb hts in_Po hown hI hin0 e0 rfl 6 (by decide) (hts _ tw_368) (fun _ h9 => h9) rfl d_Po_init_146 ?_
              refine sw_alen (v := nI 24) hx hb hI hin_51 5 e_47 rfl rfl d_Po_init_149 ?_
              refine lv_icmp_ge (tgt := 172) hx hb d_Po_init_150 (by decide) (fun c_105 => ?_) (fun c_105 => ?_)
              · have k_106 : 24 ≤ k := (nI_leI (a := 24) (b := k) (by omega) (by omega)).mp c_105
                obtain ⟨T, hle1, hTt, t_107, hnn⟩ := ok_typ (ty := ty_cns) hT hin_16 tn_15 (fun T2 hle1 => by rw [e_13]; exact ⟨_, rfl, fun j hj => el_le hle1 hel113 j (by omega)⟩)
                have tn0 := (hnn _ ne_14).trans tn0
                have tn_50 := (hnn _ (Ne.symm ne_49)).trans tn_50
                have t_8 := hle1 _ _ t_8
                have t_24 := hle1 _ _ t_24
                have t_37 := hle1 _ _ t_37
                have t_60 := hle1 _ _ t_60
                have t_76 := hle1 _ _ t_76
                have t_92 := hle1 _ _ t_92
                have hel144 := el_le hle1 hel144
                have hT := hTt
                obtain ⟨T, hle1, hTt, t_108, hnn⟩ := ok_typ (ty := ty_ops) hT hin_51 tn_50 (fun T2 hle1 => by rw [e_47]; exact ⟨_, rfl, fun j hj => el_le hle1 hel144 j (by omega)⟩)
                have tn0 := (hnn _ ne_48).trans tn0
                have t_8 := hle1 _ _ t_8
                have t_24 := hle1 _ _ t_24
                have t_37 := hle1 _ _ t_37
                have t_60 := hle1 _ _ t_60
                have t_76 := hle1 _ _ t_76
                have t_92 := hle1 _ _ t_92
                have t_107 := hle1 _ _ t_107
                have hT := hTt
                obtain ⟨T, hle1, hTt, tfin, hnn⟩ := ok_typ (ty := ty_po []) hT hin0 tn0 (fun T2 hle1 => by rw [e0]; exact ⟨_, _, _, _, _, _, _, _, _, _, _, _, _, _, rfl, hle1 _ _ t_8, hle1 _ _ t_107, hle1 _ _ t_24, hle1 _ _ t_37, hle1 _ _ t_108, (by first | exact Or.inl rfl | exact Or.inl rfl), hle1 _ _ t_60, hle1 _ _ t_76, hle1 _ _ t_92, Nat.zero_le _⟩)
                refine W.widen (k := 471) (n := 9870) (by first | exact Nat.le_of_ble_eq_true rfl | omega) (by first | exact Nat.le_of_ble_eq_true rfl | omega) ?_
                exact sm_vret hx hb hr hlk hI ⟨_, hTt, tfin⟩ d_Po_init_172
              · have k_109 : k < 24 := Nat.lt_of_not_le (fun q => c_105 ((nI_leI (a := 24) (b := k) (by omega) (by omega)).mpr q))
                refine lv_aload_n hx hb d_Po_init_153 rfl (lv_at hl 0 rfl) ?_
                refine sw_get (ci := 0) (C := R_Po) (T := F_Po) (N := 15) (v := .ref q_44) hx hb hts in_Po hown hI hin0 e0 rfl 6 (by decide) (hts _ tw_368) (fun _ h9 => h9) rfl d_Po_init_154 ?_
                refine lv_iload_n hx hb d_Po_init_157 rfl (lv_at hl 2 rfl) ?_
                refine ra_new (ci := 9) (C := R_Op) (T := F_Op) (N := 8) (fs := [.int 0, .int 0, .int 0, .int 0, .int 0, .int 0, .int 0, .null]) hx hb hts in_Op t_Op t_Op_ok hown (hts _ tw_249) (hts _ tw_328) (hts _ tw_11) hI rfl (by decide) (by show _ + 1 ≤ 471; omega) (by show _ + 8 ≤ 9870; omega) d_Po_init_158 (fun q_110 H f hq_111 hI e_113 hk_112 => ?_)
                have ne_114 : h0 ≠ q_110 := fun z => hq_111 (z ▸ hin0)
                have e0 := (hk_112 _ ne_114).trans e0
                have ne_115 : q_10 ≠ q_110 := fun z => hq_111 (z ▸ hin_16)
                have e_13 := (hk_112 _ ne_115).trans e_13
                have ne_116 : q_44 ≠ q_110 := fun z => hq_111 (z ▸ hin_51)
                have e_47 := (hk_112 _ ne_116).trans e_47
                have hT := ok_psl hT hq_111 hk_112
                refine lv_dup hx hb d_Po_init_161 rfl ?_
                refine sm_vK (K := [q_110]) (ty := ty_op) hI hT (va_runIN (As := []) (rest := [.ref q_110, .int (nI k), .ref q_44]) ⟨hx, hb, hml, hown, hts⟩ (c_Op_init l D ca _ _ q_110 e_113) ⟨va_cnB 0 hts (wg_in0 tw_331) rfl rfl rfl (hE.1 _ tn_329 rfl) (hts _ tw_11) (by decide +kernel) ⟨Nat.le_of_ble_eq_true rfl, Nat.le_of_ble_eq_true rfl⟩, rfl, hts _ tw_330⟩ (sd_preS hI hE) rfl rfl hl.1 rfl (lv_room (Nat.le_of_ble_eq_true rfl)) d_Po_init_162 ⟨(by show _ + 2 ≤ 471; omega), (by show _ + 20 ≤ 9870; omega)⟩) (fun T L H locs f hle1 hI hT t_117 hk_118 => ?_)
                obtain ⟨hin0, z_119, z_120⟩ := hk_118 _ hin0
                have e0 := z_119.trans e0
                have tn0 := z_120.trans tn0
                obtain ⟨hin_16, z_121, z_122⟩ := hk_118 _ hin_16
                have e_13 := z_121.trans e_13
                have tn_15 := z_122.trans tn_15
                obtain ⟨hin_51, z_123, z_124⟩ := hk_118 _ hin_51
                have e_47 := z_123.trans e_47
                have tn_50 := z_124.trans tn_50
                have t_8 := hle1 _ _ t_8
                have t_24 := hle1 _ _ t_24
                have t_37 := hle1 _ _ t_37
                have t_60 := hle1 _ _ t_60
                have t_76 := hle1 _ _ t_76
                have t_92 := hle1 _ _ t_92
                have hel113 := el_le hle1 hel113
                have hel144 := el_le hle1 hel144
                obtain ⟨x_126_in, x_126_vs, x_126_e⟩ := oc_Op hT t_117
                refine ra_ast (j := k) (r := (R_Op, F_Op, 8)) hx hb hI hin_51 5 9 e_47 rfl x_126_in x_126_e rfl (by omega) (by decide) d_Po_init_165 (fun H locs f hI e_47 hk_125 => ?_)
                have e0 := (hk_125 _ ne_48).trans e0
                have e_13 := (hk_125 _ ne_49).trans e_13
                have hT := ok_rawk hT tn_50 hk_125
                have hel144 := el_up hel144 t_117
                refine lv_iinc (v := nI (k + 1)) (lv' := [(2, .int (nI (k + 1))), (0, .ref h0), (1, .int (x1))]) hx hb d_Po_init_166 hl (k := 2) rfl (nI_1 _) (by decide) rfl (fun ls hl => ?_)
                refine lv_goto (tgt := 144) hx hb d_Po_init_169 (by decide) ?_
                refine W.widen (k := 396 + (k + 1) * 3) (n := 8111 + (k + 1) * 28) (by omega) (by omega) ?_
                exact ih (k + 1) _ _ _ _ _ _ _ (by omega) (by omega) hI hT hin0 tn0 e0 hin_51 tn_50 e_47 hel144 hin_16 tn_15 e_13 hel113 t_8 t_24 t_37 t_60 t_76 t_92 (lv_sub hl [1, 2, 0] rfl)
          refine W.widen (k := 396 + 0 * 3) (n := 8111 + 0 * 28) (by omega) (by omega) ?_
          exact hJ_144 _ 0 _ _ _ _ _ _ _ (Nat.le_refl _) (by omega) hI hT hin0 tn0 e0 hin_51 tn_50 e_47 (fun j hj => absurd hj (Nat.not_lt_zero j)) hin_16 tn_15 e_13 hel113 t_8 t_24 t_37 t_60 t_76 t_92 (lv_sub hl [1, 2, 0] rfl)
        · have k_127 : k < 3 := Nat.lt_of_not_le (fun q => c_103 ((nI_leI (a := 3) (b := k) (by omega) (by omega)).mpr q))
          refine lv_aload_n hx hb d_Po_init_122 rfl (lv_at hl 0 rfl) ?_
          refine sw_get (ci := 0) (C := R_Po) (T := F_Po) (N := 15) (v := .ref q_10) hx hb hts in_Po hown hI hin0 e0 rfl 3 (by decide) (hts _ tw_365) (fun _ h9 => h9) rfl d_Po_init_123 ?_
          refine lv_iload_n hx hb d_Po_init_126 rfl (lv_at hl 2 rfl) ?_
          refine ra_new (ci := 6) (C := R_Cn) (T := F_Cn) (N := 19) (fs := [.int 0, .int 0, .null, .int 0, .int 0, .long 0, .int 0, .long 0, .int 0, .null, .null, .null, .int 0, .int 0, .int 0, .int 0, .long 0, .int 0, .int 0]) hx hb hts in_Cn t_Cn t_Cn_ok hown (hts _ tw_30) (hts _ tw_279) (hts _ tw_10) hI rfl (by decide) (by show _ + 1 ≤ 471; omega) (by show _ + 19 ≤ 9870; omega) d_Po_init_127 (fun q_128 H f hq_129 hI e_131 hk_130 => ?_)
          have ne_132 : h0 ≠ q_128 := fun z => hq_129 (z ▸ hin0)
          have e0 := (hk_130 _ ne_132).trans e0
          have ne_133 : q_10 ≠ q_128 := fun z => hq_129 (z ▸ hin_16)
          have e_13 := (hk_130 _ ne_133).trans e_13
          have ne_134 : q_44 ≠ q_128 := fun z => hq_129 (z ▸ hin_51)
          have e_47 := (hk_130 _ ne_134).trans e_47
          have hT := ok_psl hT hq_129 hk_130
          refine lv_dup hx hb d_Po_init_130 rfl ?_
          refine lv_iload_n hx hb d_Po_init_131 rfl (lv_at hl 2 rfl) ?_
          refine sm_vK (K := [q_128]) (ty := ty_cn k) hI hT (va_runI (As := [.int (nI k)]) (rest := [.ref q_128, .int (nI k), .ref q_10]) ⟨hx, hb, hml, hown, hts⟩ (c_Cn_init l D ca _ _ q_128 e_131 k (by omega)) (ki_Cn_init hts rfl rfl (hts _ tw_280) ⟨Nat.le_of_ble_eq_true rfl, Nat.le_of_ble_eq_true rfl⟩) (sd_preS hI hE) rfl rfl hl.1 rfl (lv_room (Nat.le_of_ble_eq_true rfl)) d_Po_init_132 ⟨(by show _ + 58 ≤ 471; omega), (by show _ + 1740 ≤ 9870; omega)⟩) (fun T L H locs f hle1 hI hT t_135 hk_136 => ?_)
          obtain ⟨hin0, z_137, z_138⟩ := hk_136 _ hin0
          have e0 := z_137.trans e0
          have tn0 := z_138.trans tn0
          obtain ⟨hin_16, z_139, z_140⟩ := hk_136 _ hin_16
          have e_13 := z_139.trans e_13
          have tn_15 := z_140.trans tn_15
          obtain ⟨hin_51, z_141, z_142⟩ := hk_136 _ hin_51
          have e_47 := z_141.trans e_47
          have tn_50 := z_142.trans tn_50
          have t_8 := hle1 _ _ t_8
          have t_24 := hle1 _ _ t_24
          have t_37 := hle1 _ _ t_37
          have t_60 := hle1 _ _ t_60
          have t_76 := hle1 _ _ t_76
          have t_92 := hle1 _ _ t_92
          have hel113 := el_le hle1 hel113
          obtain ⟨x_144_in, x_144_vs, x_144_e⟩ := oc_Cn hT t_135
          refine ra_ast (j := k) (r := (R_Cn, F_Cn, 19)) hx hb hI hin_16 4 6 e_13 rfl x_144_in x_144_e rfl (by omega) (by decide) d_Po_init_135 (fun H locs f hI e_13 hk_143 => ?_)
          have e0 := (hk_143 _ ne_14).trans e0
          have e_47 := (hk_143 _ (Ne.symm ne_49)).trans e_47
          have hT := ok_rawk hT tn_15 hk_143
          have hel113 := el_up hel113 t_135
          refine lv_iinc (v := nI (k + 1)) (lv' := [(2, .int (nI (k + 1))), (0, .ref h0), (1, .int (x1))]) hx hb d_Po_init_136 hl (k := 2) rfl (nI_1 _) (by decide) rfl (fun ls hl => ?_)
          refine lv_goto (tgt := 113) hx hb d_Po_init_139 (by decide) ?_
          refine W.widen (k := 219 + (k + 1) * 59) (n := 2834 + (k + 1) * 1759) (by omega) (by omega) ?_
          exact ih (k + 1) _ _ _ _ _ _ _ (by omega) (by omega) hI hT hin0 tn0 e0 hin_16 tn_15 e_13 hel113 hin_51 tn_50 e_47 t_8 t_24 t_37 t_60 t_76 t_92 (lv_sub hl [1, 2, 0] rfl)
    refine W.widen (k := 219 + 0 * 59) (n := 2834 + 0 * 1759) (Nat.le_of_ble_eq_true rfl) (Nat.le_of_ble_eq_true rfl) ?_
    exact hJ_113 _ 0 _ _ _ _ _ _ _ (Nat.le_refl _) (by omega) hI hT hin0 tn0 e0 hin_16 tn_15 e_13 (fun j hj => absurd hj (Nat.not_lt_zero j)) hin_51 tn_50 e_47 t_8 t_24 t_37 t_60 t_76 t_92 (lv_sub hl [1, 2, 0] rfl)
  · refine lv_iload_n hx hb d_Po_init_97 rfl (lv_at hl 1 rfl) ?_
    refine lv_ldc (v := 65534) hx hb hown (hts _ tw_278) d_Po_init_98 ?_
    refine lv_icmp_gt (tgt := 107) hx hb d_Po_init_100 (by decide) (fun c_145 => ?_) (fun c_145 => ?_)
    · refine lv_iconst (v := 1) hx hb d_Po_init_107 (by decide) ?_
      refine ra_putF (ci := 0) (C := R_Po) (T := F_Po) (N := 15) (ty := .int) hx hb hts in_Po t_Po t_Po_ok n_Po hown hI hin0 e0 rfl 0 (by decide) (hts _ tw_362) (fun _ h9 => h9) rfl hnm rfl (by decide +kernel) rfl rfl (Nat.le_of_ble_eq_true rfl) d_Po_init_108 (fun H locs f hI e0 hk_146 => ?_)
      have e0 : f h0 = .inr (0, [.int (1), .ref q_1, .int 0, .ref q_10, .ref q_18, .ref q_31, .ref q_44, .int 0, .int 0, .long 0, .int 0, .long 0, .ref q_53, .ref q_69, .ref q_85]) := e0
      have e_13 := (hk_146 _ (Ne.symm ne_14)).trans e_13
      have e_47 := (hk_146 _ (Ne.symm ne_48)).trans e_47
      have hT := ok_rawk hT tn0 hk_146
      refine lv_iconst (v := 0) hx hb d_Po_init_111 (by decide) ?_
      refine lv_istore_n (lv' := [(2, .int (0)), (0, .ref h0), (1, .int (x1))]) hx hb d_Po_init_112 rfl hl (by decide) rfl (fun ls hl => ?_)
      have hJ_113 : ∀ (N k : Nat) (T : ty_e) (L : List Nat) (H : Heap) (locs : List Loc) (f : Nat → va_E) (g113 : Nat → Option Nat) (ls : Array Slot), 3 + 1 - k ≤ N → k ≤ 3 → (sw_I D cl_all (ty_s ca) (va_A (va_pl [h0] f0) sz) s H locs L f) → (ok_T ca T L f) → (h0 ∈ L) → (T h0 = none) → (f h0 = .inr (0, [.int (1), .ref q_1, .int 0, .ref q_10, .ref q_18, .ref q_31, .ref q_44, .int 0, .int 0, .long 0, .int 0, .long 0, .ref q_53, .ref q_69, .ref q_85])) → (q_10 ∈ L) → (T q_10 = none) → (f q_10 = .inl (ca 4, 3, .inr (.inr (.inr (.inr g113))))) → (∀ j, j < k → ∃ b : Nat, g113 j = some b ∧ T b = some ((fun j => ty_cn j) j)) → (q_44 ∈ L) → (T q_44 = none) → (f q_44 = .inl (ca 5, 24, .inr (.inr (.inr (.inr (fun _ => none)))))) → (T q_1 = some (ty_pts [])) → (T q_18 = some (ty_sr)) → (T q_31 = some (ty_es)) → (T q_53 = some (ty_se)) → (T q_69 = some (ty_row 4148)) → (T q_85 = some (ty_row 4149)) → lv_has ls 3 [(0, .ref h0), (1, .int (x1)), (2, .int (nI k))] → W p l e { frames := 6, cells := 471, slots := 9870, locals := 126 } s m ([.ref h0, .int (x1)] : List Value).toArray below meth c H locs (219 + k * 59) (2834 + k * 1759) (MQ below (sm_Qv D (ty_s ca) [h0] f0 sz (fun u => po_k ca h0 (ty_po []) u)) ([.ref h0, .int (x1)] : List Value).toArray s 471 9870 (va_A (va_pl [h0] f0) sz)) (F0 m 113 ls []) := by
        intro N
        induction N with
        | zero => intros; omega
        | succ N ih =>
          intro k T L H locs f g113 ls hN hk hI hT hin0 tn0 e0 hin_16 tn_15 e_13 hel113 hin_51 tn_50 e_47 t_8 t_24 t_37 t_60 t_76 t_92 hl
          refine lv_iload_n hx hb d_Po_init_113 rfl (lv_at hl 2 rfl) ?_
          refine lv_aload_n hx hb d_Po_init_114 rfl (lv_at hl 0 rfl) ?_
          refine sw_get (ci := 0) (C := R_Po) (T := F_Po) (N := 15) (v := .ref q_10) hx hb hts in_Po hown hI hin0 e0 rfl 3 (by decide) (hts _ tw_365) (fun _ h9 => h9) rfl d_Po_init_115 ?_
          refine sw_alen (v := nI 3) hx hb hI hin_16 4 e_13 rfl rfl d_Po_init_118 ?_
          refine lv_icmp_ge (tgt := 142) hx hb d_Po_init_119 (by decide) (fun c_147 => ?_) (fun c_147 => ?_)
          · have k_148 : 3 ≤ k := (nI_leI (a := 3) (b := k) (by omega) (by omega)).mp c_147
            refine lv_iconst (v := 0) hx hb d_Po_init_142 (by decide) ?_
            refine lv_istore_n (lv' := [(2, .int (0)), (0, .ref h0), (1, .int (x1))]) hx hb d_Po_init_143 rfl hl (by decide) rfl (fun ls hl => ?_)
            have hel113 := el_sub (n := 3) hel113 (by omega)
            have hJ_144 : ∀ (N k : Nat) (T : ty_e) (L : List Nat) (H : Heap) (locs : List Loc) (f : Nat → va_E) (g144 : Nat → Option Nat) (ls : Array Slot), 24 + 1 - k ≤ N → k ≤ 24 → (sw_I D cl_all (ty_s ca) (va_A (va_pl [h0] f0) sz) s H locs L f) → (ok_T ca T L f) → (h0 ∈ L) → (T h0 = none) → (f h0 = .inr (0, [.int (1), .ref q_1, .int 0, .ref q_10, .ref q_18, .ref q_31, .ref q_44, .int 0, .int 0, .long 0, .int 0, .long 0, .ref q_53, .ref q_69, .ref q_85])) → (q_44 ∈ L) → (T q_44 = none) → (f q_44 = .inl (ca 5, 24, .inr (.inr (.inr (.inr g144))))) → (∀ j, j < k → ∃ b : Nat, g144 j = some b ∧ T b = some ((fun _ => ty_op) j)) → (q_10 ∈ L) → (T q_10 = none) → (f q_10 = .inl (ca 4, 3, .inr (.inr (.inr (.inr g113))))) → (∀ j, j < 3 → ∃ b : Nat, g113 j = some b ∧ T b = some ((fun j => ty_cn j) j)) → (T q_1 = some (ty_pts [])) → (T q_18 = some (ty_sr)) → (T q_31 = some (ty_es)) → (T q_53 = some (ty_se)) → (T q_69 = some (ty_row 4148)) → (T q_85 = some (ty_row 4149)) → lv_has ls 3 [(0, .ref h0), (1, .int (x1)), (2, .int (nI k))] → W p l e { frames := 6, cells := 471, slots := 9870, locals := 126 } s m ([.ref h0, .int (x1)] : List Value).toArray below meth c H locs (396 + k * 3) (8111 + k * 28) (MQ below (sm_Qv D (ty_s ca) [h0] f0 sz (fun u => po_k ca h0 (ty_po []) u)) ([.ref h0, .int (x1)] : List Value).toArray s 471 9870 (va_A (va_pl [h0] f0) sz)) (F0 m 144 ls []) := by
              intro N
              induction N with
              | zero => intros; omega
              | succ N ih =>
                intro k T L H locs f g144 ls hN hk hI hT hin0 tn0 e0 hin_51 tn_50 e_47 hel144 hin_16 tn_15 e_13 hel113 t_8 t_24 t_37 t_60 t_76 t_92 hl
                refine lv_iload_n hx hb d_Po_init_144 rfl (lv_at hl 2 rfl) ?_
                refine lv_aload_n hx hb d_Po_init_145 rfl (lv_at hl 0 rfl) ?_
                refine sw_get (ci := 0) (C := R_Po) (T := F_Po) (N := 15) (v := .ref q_44) hx hb hts in_Po hown hI hin0 e0 rfl 6 (by decide) (hts _ tw_368) (fun _ h9 => h9) rfl d_Po_init_146 ?_
                refine sw_alen (v := nI 24) hx hb hI hin_51 5 e_47 rfl rfl d_Po_init_149 ?_
                refine lv_icmp_ge (tgt := 172) hx hb d_Po_init_150 (by decide) (fun c_149 => ?_) (fun c_149 => ?_)
                · have k_150 : 24 ≤ k := (nI_leI (a := 24) (b := k) (by omega) (by omega)).mp c_149
                  obtain ⟨T, hle1, hTt, t_151, hnn⟩ := ok_typ (ty := ty_cns) hT hin_16 tn_15 (fun T2 hle1 => by rw [e_13]; exact ⟨_, rfl, fun j hj => el_le hle1 hel113 j (by omega)⟩)
                  have tn0 := (hnn _ ne_14).trans tn0
                  have tn_50 := (hnn _ (Ne.symm ne_49)).trans tn_50
                  have t_8 := hle1 _ _ t_8
                  have t_24 := hle1 _ _ t_24
                  have t_37 := hle1 _ _ t_37
                  have t_60 := hle1 _ _ t_60
                  have t_76 := hle1 _ _ t_76
                  have t_92 := hle1 _ _ t_92
                  have hel144 := el_le hle1 hel144
                  have hT := hTt
                  obtain ⟨T, hle1, hTt, t_152, hnn⟩ := ok_typ (ty := ty_ops) hT hin_51 tn_50 (fun T2 hle1 => by rw [e_47]; exact ⟨_, rfl, fun j hj => el_le hle1 hel144 j (by omega)⟩)
                  have tn0 := (hnn _ ne_48).trans tn0
                  have t_8 := hle1 _ _ t_8
                  have t_24 := hle1 _ _ t_24
                  have t_37 := hle1 _ _ t_37
                  have t_60 := hle1 _ _ t_60
                  have t_76 := hle1 _ _ t_76
                  have t_92 := hle1 _ _ t_92
                  have t_151 := hle1 _ _ t_151
                  have hT := hTt
                  obtain ⟨T, hle1, hTt, tfin, hnn⟩ := ok_typ (ty := ty_po []) hT hin0 tn0 (fun T2 hle1 => by rw [e0]; exact ⟨_, _, _, _, _, _, _, _, _, _, _, _, _, _, rfl, hle1 _ _ t_8, hle1 _ _ t_151, hle1 _ _ t_24, hle1 _ _ t_37, hle1 _ _ t_152, (by first | exact Or.inl rfl | exact Or.inl rfl), hle1 _ _ t_60, hle1 _ _ t_76, hle1 _ _ t_92, Nat.zero_le _⟩)
                  refine W.widen (k := 471) (n := 9870) (by first | exact Nat.le_of_ble_eq_true rfl | omega) (by first | exact Nat.le_of_ble_eq_true rfl | omega) ?_
                  exact sm_vret hx hb hr hlk hI ⟨_, hTt, tfin⟩ d_Po_init_172
                · have k_153 : k < 24 := Nat.lt_of_not_le (fun q => c_149 ((nI_leI (a := 24) (b := k) (by omega) (by omega)).mpr q))
                  refine lv_aload_n hx hb d_Po_init_153 rfl (lv_at hl 0 rfl) ?_
                  refine sw_get (ci := 0) (C := R_Po) (T := F_Po) (N := 15) (v := .ref q_44) hx hb hts in_Po hown hI hin0 e0 rfl 6 (by decide) (hts _ tw_368) (fun _ h9 => h9) rfl d_Po_init_154 ?_
                  refine lv_iload_n hx hb d_Po_init_157 rfl (lv_at hl 2 rfl) ?_
                  refine ra_new (ci := 9) (C := R_Op) (T := F_Op) (N := 8) (fs := [.int 0, .int 0, .int 0, .int 0, .int 0, .int 0, .int 0, .null]) hx hb hts in_Op t_Op t_Op_ok hown (hts _ tw_249) (hts _ tw_328) (hts _ tw_11) hI rfl (by decide) (by show _ + 1 ≤ 471; omega) (by show _ + 8 ≤ 9870; omega) d_Po_init_158 (fun q_154 H f hq_155 hI e_157 hk_156 => ?_)
                  have ne_158 : h0 ≠ q_154 := fun z => hq_155 (z ▸ hin0)
                  have e0 := (hk_156 _ ne_158).trans e0
                  have ne_159 : q_10 ≠ q_154 := fun z => hq_155 (z ▸ hin_16)
                  have e_13 := (hk_156 _ ne_159).trans e_13
                  have ne_160 : q_44 ≠ q_154 := fun z => hq_155 (z ▸ hin_51)
                  have e_47 := (hk_156 _ ne_160).trans e_47
                  have hT := ok_psl hT hq_155 hk_156
                  refine lv_dup hx hb d_Po_init_161 rfl ?_
                  refine sm_vK (K := [q_154]) (ty := ty_op) hI hT (va_runIN (As := []) (rest := [.ref q_154, .int (nI k), .ref q_44]) ⟨hx, hb, hml, hown, hts⟩ (c_Op_init l D ca _ _ q_154 e_157) ⟨va_cnB 0 hts (wg_in0 tw_331) rfl rfl rfl (hE.1 _ tn_329 rfl) (hts _ tw_11) (by decide +kernel) ⟨Nat.le_of_ble_eq_true rfl, Nat.le_of_ble_eq_true rfl⟩, rfl, hts _ tw_330⟩ (sd_preS hI hE) rfl rfl hl.1 rfl (lv_room (Nat.le_of_ble_eq_true rfl)) d_Po_init_162 ⟨(by show _ + 2 ≤ 471; omega), (by show _ + 20 ≤ 9870; omega)⟩) (fun T L H locs f hle1 hI hT t_161 hk_162 => ?_)
                  obtain ⟨hin0, z_163, z_164⟩ := hk_162 _ hin0
                  have e0 := z_163.trans e0
                  have tn0 := z_164.trans tn0
                  obtain ⟨hin_16, z_165, z_166⟩ := hk_162 _ hin_16
                  have e_13 := z_165.trans e_13
                  have tn_15 := z_166.trans tn_15
                  obtain ⟨hin_51, z_167, z_168⟩ := hk_162 _ hin_51
                  have e_47 := z_167.trans e_47
                  have tn_50 := z_168.trans tn_50
                  have t_8 := hle1 _ _ t_8
                  have t_24 := hle1 _ _ t_24
                  have t_37 := hle1 _ _ t_37
                  have t_60 := hle1 _ _ t_60
                  have t_76 := hle1 _ _ t_76
                  have t_92 := hle1 _ _ t_92
                  have hel113 := el_le hle1 hel113
                  have hel144 := el_le hle1 hel144
                  obtain ⟨x_170_in, x_170_vs, x_170_e⟩ := oc_Op hT t_161
                  refine ra_ast (j := k) (r := (R_Op, F_Op, 8)) hx hb hI hin_51 5 9 e_47 rfl x_170_in x_170_e rfl (by omega) (by decide) d_Po_init_165 (fun H locs f hI e_47 hk_169 => ?_)
                  have e0 := (hk_169 _ ne_48).trans e0
                  have e_13 := (hk_169 _ ne_49).trans e_13
                  have hT := ok_rawk hT tn_50 hk_169
                  have hel144 := el_up hel144 t_161
                  refine lv_iinc (v := nI (k + 1)) (lv' := [(2, .int (nI (k + 1))), (0, .ref h0), (1, .int (x1))]) hx hb d_Po_init_166 hl (k := 2) rfl (nI_1 _) (by decide) rfl (fun ls hl => ?_)
                  refine lv_goto (tgt := 144) hx hb d_Po_init_169 (by decide) ?_
                  refine W.widen (k := 396 + (k + 1) * 3) (n := 8111 + (k + 1) * 28) (by omega) (by omega) ?_
                  exact ih (k + 1) _ _ _ _ _ _ _ (by omega) (by omega) hI hT hin0 tn0 e0 hin_51 tn_50 e_47 hel144 hin_16 tn_15 e_13 hel113 t_8 t_24 t_37 t_60 t_76 t_92 (lv_sub hl [1, 2, 0] rfl)
            refine W.widen (k := 396 + 0 * 3) (n := 8111 + 0 * 28) (by omega) (by omega) ?_
            exact hJ_144 _ 0 _ _ _ _ _ _ _ (Nat.le_refl _) (by omega) hI hT hin0 tn0 e0 hin_51 tn_50 e_47 (fun j hj => absurd hj (Nat.not_lt_zero j)) hin_16 tn_15 e_13 hel113 t_8 t_24 t_37 t_60 t_76 t_92 (lv_sub hl [1, 2, 0] rfl)
          · have k_171 : k < 3 := Nat.lt_of_not_le (fun q => c_147 ((nI_leI (a := 3) (b := k) (by omega) (by omega)).mpr q))
            refine lv_aload_n hx hb d_Po_init_122 rfl (lv_at hl 0 rfl) ?_
            refine sw_get (ci := 0) (C := R_Po) (T := F_Po) (N := 15) (v := .ref q_10) hx hb hts in_Po hown hI hin0 e0 rfl 3 (by decide) (hts _ tw_365) (fun _ h9 => h9) rfl d_Po_init_123 ?_
            refine lv_iload_n hx hb d_Po_init_126 rfl (lv_at hl 2 rfl) ?_
            refine ra_new (ci := 6) (C := R_Cn) (T := F_Cn) (N := 19) (fs := [.int 0, .int 0, .null, .int 0, .int 0, .long 0, .int 0, .long 0, .int 0, .null, .null, .null, .int 0, .int 0, .int 0, .int 0, .long 0, .int 0, .int 0]) hx hb hts in_Cn t_Cn t_Cn_ok hown (hts _ tw_30) (hts _ tw_279) (hts _ tw_10) hI rfl (by decide) (by show _ + 1 ≤ 471; omega) (by show _ + 19 ≤ 9870; omega) d_Po_init_127 (fun q_172 H f hq_173 hI e_175 hk_174 => ?_)
            have ne_176 : h0 ≠ q_172 := fun z => hq_173 (z ▸ hin0)
            have e0 := (hk_174 _ ne_176).trans e0
            have ne_177 : q_10 ≠ q_172 := fun z => hq_173 (z ▸ hin_16)
            have e_13 := (hk_174 _ ne_177).trans e_13
            have ne_178 : q_44 ≠ q_172 := fun z => hq_173 (z ▸ hin_51)
            have e_47 := (hk_174 _ ne_178).trans e_47
            have hT := ok_psl hT hq_173 hk_174
            refine lv_dup hx hb d_Po_init_130 rfl ?_
            refine lv_iload_n hx hb d_Po_init_131 rfl (lv_at hl 2 rfl) ?_
            refine sm_vK (K := [q_172]) (ty := ty_cn k) hI hT (va_runI (As := [.int (nI k)]) (rest := [.ref q_172, .int (nI k), .ref q_10]) ⟨hx, hb, hml, hown, hts⟩ (c_Cn_init l D ca _ _ q_172 e_175 k (by omega)) (ki_Cn_init hts rfl rfl (hts _ tw_280) ⟨Nat.le_of_ble_eq_true rfl, Nat.le_of_ble_eq_true rfl⟩) (sd_preS hI hE) rfl rfl hl.1 rfl (lv_room (Nat.le_of_ble_eq_true rfl)) d_Po_init_132 ⟨(by show _ + 58 ≤ 471; omega), (by show _ + 1740 ≤ 9870; omega)⟩) (fun T L H locs f hle1 hI hT t_179 hk_180 => ?_)
            obtain ⟨hin0, z_181, z_182⟩ := hk_180 _ hin0
            have e0 := z_181.trans e0
            have tn0 := z_182.trans tn0
            obtain ⟨hin_16, z_183, z_184⟩ := hk_180 _ hin_16
            have e_13 := z_183.trans e_13
            have tn_15 := z_184.trans tn_15
            obtain ⟨hin_51, z_185, z_186⟩ := hk_180 _ hin_51
            have e_47 := z_185.trans e_47
            have tn_50 := z_186.trans tn_50
            have t_8 := hle1 _ _ t_8
            have t_24 := hle1 _ _ t_24
            have t_37 := hle1 _ _ t_37
            have t_60 := hle1 _ _ t_60
            have t_76 := hle1 _ _ t_76
            have t_92 := hle1 _ _ t_92
            have hel113 := el_le hle1 hel113
            obtain ⟨x_188_in, x_188_vs, x_188_e⟩ := oc_Cn hT t_179
            refine ra_ast (j := k) (r := (R_Cn, F_Cn, 19)) hx hb hI hin_16 4 6 e_13 rfl x_188_in x_188_e rfl (by omega) (by decide) d_Po_init_135 (fun H locs f hI e_13 hk_187 => ?_)
            have e0 := (hk_187 _ ne_14).trans e0
            have e_47 := (hk_187 _ (Ne.symm ne_49)).trans e_47
            have hT := ok_rawk hT tn_15 hk_187
            have hel113 := el_up hel113 t_179
            refine lv_iinc (v := nI (k + 1)) (lv' := [(2, .int (nI (k + 1))), (0, .ref h0), (1, .int (x1))]) hx hb d_Po_init_136 hl (k := 2) rfl (nI_1 _) (by decide) rfl (fun ls hl => ?_)
            refine lv_goto (tgt := 113) hx hb d_Po_init_139 (by decide) ?_
            refine W.widen (k := 219 + (k + 1) * 59) (n := 2834 + (k + 1) * 1759) (by omega) (by omega) ?_
            exact ih (k + 1) _ _ _ _ _ _ _ (by omega) (by omega) hI hT hin0 tn0 e0 hin_16 tn_15 e_13 hel113 hin_51 tn_50 e_47 t_8 t_24 t_37 t_60 t_76 t_92 (lv_sub hl [1, 2, 0] rfl)
      refine W.widen (k := 219 + 0 * 59) (n := 2834 + 0 * 1759) (Nat.le_of_ble_eq_true rfl) (Nat.le_of_ble_eq_true rfl) ?_
      exact hJ_113 _ 0 _ _ _ _ _ _ _ (Nat.le_refl _) (by omega) hI hT hin0 tn0 e0 hin_16 tn_15 e_13 (fun j hj => absurd hj (Nat.not_lt_zero j)) hin_51 tn_50 e_47 t_8 t_24 t_37 t_60 t_76 t_92 (lv_sub hl [1, 2, 0] rfl)
    · refine lv_iload_n hx hb d_Po_init_103 rfl (lv_at hl 1 rfl) ?_
      refine lv_goto (tgt := 108) hx hb d_Po_init_104 (by decide) ?_
      refine ra_putF (ci := 0) (C := R_Po) (T := F_Po) (N := 15) (ty := .int) hx hb hts in_Po t_Po t_Po_ok n_Po hown hI hin0 e0 rfl 0 (by decide) (hts _ tw_362) (fun _ h9 => h9) rfl hnm rfl (by decide +kernel) rfl rfl (Nat.le_of_ble_eq_true rfl) d_Po_init_108 (fun H locs f hI e0 hk_189 => ?_)
      have e0 : f h0 = .inr (0, [.int (x1), .ref q_1, .int 0, .ref q_10, .ref q_18, .ref q_31, .ref q_44, .int 0, .int 0, .long 0, .int 0, .long 0, .ref q_53, .ref q_69, .ref q_85]) := e0
      have e_13 := (hk_189 _ (Ne.symm ne_14)).trans e_13
      have e_47 := (hk_189 _ (Ne.symm ne_48)).trans e_47
      have hT := ok_rawk hT tn0 hk_189
      refine lv_iconst (v := 0) hx hb d_Po_init_111 (by decide) ?_
      refine lv_istore_n (lv' := [(2, .int (0)), (0, .ref h0), (1, .int (x1))]) hx hb d_Po_init_112 rfl hl (by decide) rfl (fun ls hl => ?_)
      have hJ_113 : ∀ (N k : Nat) (T : ty_e) (L : List Nat) (H : Heap) (locs : List Loc) (f : Nat → va_E) (g113 : Nat → Option Nat) (ls : Array Slot), 3 + 1 - k ≤ N → k ≤ 3 → (sw_I D cl_all (ty_s ca) (va_A (va_pl [h0] f0) sz) s H locs L f) → (ok_T ca T L f) → (h0 ∈ L) → (T h0 = none) → (f h0 = .inr (0, [.int (x1), .ref q_1, .int 0, .ref q_10, .ref q_18, .ref q_31, .ref q_44, .int 0, .int 0, .long 0, .int 0, .long 0, .ref q_53, .ref q_69, .ref q_85])) → (q_10 ∈ L) → (T q_10 = none) → (f q_10 = .inl (ca 4, 3, .inr (.inr (.inr (.inr g113))))) → (∀ j, j < k → ∃ b : Nat, g113 j = some b ∧ T b = some ((fun j => ty_cn j) j)) → (q_44 ∈ L) → (T q_44 = none) → (f q_44 = .inl (ca 5, 24, .inr (.inr (.inr (.inr (fun _ => none)))))) → (T q_1 = some (ty_pts [])) → (T q_18 = some (ty_sr)) → (T q_31 = some (ty_es)) → (T q_53 = some (ty_se)) → (T q_69 = some (ty_row 4148)) → (T q_85 = some (ty_row 4149)) → lv_has ls 3 [(0, .ref h0), (1, .int (x1)), (2, .int (nI k))] → W p l e { frames := 6, cells := 471, slots := 9870, locals := 126 } s m ([.ref h0, .int (x1)] : List Value).toArray below meth c H locs (219 + k * 59) (2834 + k * 1759) (MQ below (sm_Qv D (ty_s ca) [h0] f0 sz (fun u => po_k ca h0 (ty_po []) u)) ([.ref h0, .int (x1)] : List Value).toArray s 471 9870 (va_A (va_pl [h0] f0) sz)) (F0 m 113 ls []) := by
        intro N
        induction N with
        | zero => intros; omega
        | succ N ih =>
          intro k T L H locs f g113 ls hN hk hI hT hin0 tn0 e0 hin_16 tn_15 e_13 hel113 hin_51 tn_50 e_47 t_8 t_24 t_37 t_60 t_76 t_92 hl
          refine lv_iload_n hx hb d_Po_init_113 rfl (lv_at hl 2 rfl) ?_
          refine lv_aload_n hx hb d_Po_init_114 rfl (lv_at hl 0 rfl) ?_
          refine sw_get (ci := 0) (C := R_Po) (T := F_Po) (N := 15) (v := .ref q_10) hx hb hts in_Po hown hI hin0 e0 rfl 3 (by decide) (hts _ tw_365) (fun _ h9 => h9) rfl d_Po_init_115 ?_
          refine sw_alen (v := nI 3) hx hb hI hin_16 4 e_13 rfl rfl d_Po_init_118 ?_
          refine lv_icmp_ge (tgt := 142) hx hb d_Po_init_119 (by decide) (fun c_190 => ?_) (fun c_190 => ?_)
          · have k_191 : 3 ≤ k := (nI_leI (a := 3) (b := k) (by omega) (by omega)).mp c_190
            refine lv_iconst (v := 0) hx hb d_Po_init_142 (by decide) ?_
            refine lv_istore_n (lv' := [(2, .int (0)), (0, .ref h0), (1, .int (x1))]) hx hb d_Po_init_143 rfl hl (by decide) rfl (fun ls hl => ?_)
            have hel113 := el_sub (n := 3) hel113 (by omega)
            have hJ_144 : ∀ (N k : Nat) (T : ty_e) (L : List Nat) (H : Heap) (locs : List Loc) (f : Nat → va_E) (g144 : Nat → Option Nat) (ls : Array Slot), 24 + 1 - k ≤ N → k ≤ 24 → (sw_I D cl_all (ty_s ca) (va_A (va_pl [h0] f0) sz) s H locs L f) → (ok_T ca T L f) → (h0 ∈ L) → (T h0 = none) → (f h0 = .inr (0, [.int (x1), .ref q_1, .int 0, .ref q_10, .ref q_18, .ref q_31, .ref q_44, .int 0, .int 0, .long 0, .int 0, .long 0, .ref q_53, .ref q_69, .ref q_85])) → (q_44 ∈ L) → (T q_44 = none) → (f q_44 = .inl (ca 5, 24, .inr (.inr (.inr (.inr g144))))) → (∀ j, j < k → ∃ b : Nat, g144 j = some b ∧ T b = some ((fun _ => ty_op) j)) → (q_10 ∈ L) → (T q_10 = none) → (f q_10 = .inl (ca 4, 3, .inr (.inr (.inr (.inr g113))))) → (∀ j, j < 3 → ∃ b : Nat, g113 j = some b ∧ T b = some ((fun j => ty_cn j) j)) → (T q_1 = some (ty_pts [])) → (T q_18 = some (ty_sr)) → (T q_31 = some (ty_es)) → (T q_53 = some (ty_se)) → (T q_69 = some (ty_row 4148)) → (T q_85 = some (ty_row 4149)) → lv_has ls 3 [(0, .ref h0), (1, .int (x1)), (2, .int (nI k))] → W p l e { frames := 6, cells := 471, slots := 9870, locals := 126 } s m ([.ref h0, .int (x1)] : List Value).toArray below meth c H locs (396 + k * 3) (8111 + k * 28) (MQ below (sm_Qv D (ty_s ca) [h0] f0 sz (fun u => po_k ca h0 (ty_po []) u)) ([.ref h0, .int (x1)] : List Value).toArray s 471 9870 (va_A (va_pl [h0] f0) sz)) (F0 m 144 ls []) := by
              intro N
              induction N with
              | zero => intros; omega
              | succ N ih =>
                intro k T L H locs f g144 ls hN hk hI hT hin0 tn0 e0 hin_51 tn_50 e_47 hel144 hin_16 tn_15 e_13 hel113 t_8 t_24 t_37 t_60 t_76 t_92 hl
                refine lv_iload_n hx hb d_Po_init_144 rfl (lv_at hl 2 rfl) ?_
                refine lv_aload_n hx hb d_Po_init_145 rfl (lv_at hl 0 rfl) ?_
                refine sw_get (ci := 0) (C := R_Po) (T := F_Po) (N := 15) (v := .ref q_44) hx hb hts in_Po hown hI hin0 e0 rfl 6 (by decide) (hts _ tw_368) (fun _ h9 => h9) rfl d_Po_init_146 ?_
                refine sw_alen (v := nI 24) hx hb hI hin_51 5 e_47 rfl rfl d_Po_init_149 ?_
                refine lv_icmp_ge (tgt := 172) hx hb d_Po_init_150 (by decide) (fun c_192 => ?_) (fun c_192 => ?_)
                · have k_193 : 24 ≤ k := (nI_leI (a := 24) (b := k) (by omega) (by omega)).mp c_192
                  obtain ⟨T, hle1, hTt, t_194, hnn⟩ := ok_typ (ty := ty_cns) hT hin_16 tn_15 (fun T2 hle1 => by rw [e_13]; exact ⟨_, rfl, fun j hj => el_le hle1 hel113 j (by omega)⟩)
                  have tn0 := (hnn _ ne_14).trans tn0
                  have tn_50 := (hnn _ (Ne.symm ne_49)).trans tn_50
                  have t_8 := hle1 _ _ t_8
                  have t_24 := hle1 _ _ t_24
                  have t_37 := hle1 _ _ t_37
                  have t_60 := hle1 _ _ t_60
                  have t_76 := hle1 _ _ t_76
                  have t_92 := hle1 _ _ t_92
                  have hel144 := el_le hle1 hel144
                  have hT := hTt
                  obtain ⟨T, hle1, hTt, t_195, hnn⟩ := ok_typ (ty := ty_ops) hT hin_51 tn_50 (fun T2 hle1 => by rw [e_47]; exact ⟨_, rfl, fun j hj => el_le hle1 hel144 j (by omega)⟩)
                  have tn0 := (hnn _ ne_48).trans tn0
                  have t_8 := hle1 _ _ t_8
                  have t_24 := hle1 _ _ t_24
                  have t_37 := hle1 _ _ t_37
                  have t_60 := hle1 _ _ t_60
                  have t_76 := hle1 _ _ t_76
                  have t_92 := hle1 _ _ t_92
                  have t_194 := hle1 _ _ t_194
                  have hT := hTt
                  obtain ⟨T, hle1, hTt, tfin, hnn⟩ := ok_typ (ty := ty_po []) hT hin0 tn0 (fun T2 hle1 => by rw [e0]; exact ⟨_, _, _, _, _, _, _, _, _, _, _, _, _, _, rfl, hle1 _ _ t_8, hle1 _ _ t_194, hle1 _ _ t_24, hle1 _ _ t_37, hle1 _ _ t_195, (by first | exact Or.inl rfl | exact Or.inl rfl), hle1 _ _ t_60, hle1 _ _ t_76, hle1 _ _ t_92, Nat.zero_le _⟩)
                  refine W.widen (k := 471) (n := 9870) (by first | exact Nat.le_of_ble_eq_true rfl | omega) (by first | exact Nat.le_of_ble_eq_true rfl | omega) ?_
                  exact sm_vret hx hb hr hlk hI ⟨_, hTt, tfin⟩ d_Po_init_172
                · have k_196 : k < 24 := Nat.lt_of_not_le (fun q => c_192 ((nI_leI (a := 24) (b := k) (by omega) (by omega)).mpr q))
                  refine lv_aload_n hx hb d_Po_init_153 rfl (lv_at hl 0 rfl) ?_
                  refine sw_get (ci := 0) (C := R_Po) (T := F_Po) (N := 15) (v := .ref q_44) hx hb hts in_Po hown hI hin0 e0 rfl 6 (by decide) (hts _ tw_368) (fun _ h9 => h9) rfl d_Po_init_154 ?_
                  refine lv_iload_n hx hb d_Po_init_157 rfl (lv_at hl 2 rfl) ?_
                  refine ra_new (ci := 9) (C := R_Op) (T := F_Op) (N := 8) (fs := [.int 0, .int 0, .int 0, .int 0, .int 0, .int 0, .int 0, .null]) hx hb hts in_Op t_Op t_Op_ok hown (hts _ tw_249) (hts _ tw_328) (hts _ tw_11) hI rfl (by decide) (by show _ + 1 ≤ 471; omega) (by show _ + 8 ≤ 9870; omega) d_Po_init_158 (fun q_197 H f hq_198 hI e_200 hk_199 => ?_)
                  have ne_201 : h0 ≠ q_197 := fun z => hq_198 (z ▸ hin0)
                  have e0 := (hk_199 _ ne_201).trans e0
                  have ne_202 : q_10 ≠ q_197 := fun z => hq_198 (z ▸ hin_16)
                  have e_13 := (hk_199 _ ne_202).trans e_13
                  have ne_203 : q_44 ≠ q_197 := fun z => hq_198 (z ▸ hin_51)
                  have e_47 := (hk_199 _ ne_203).trans e_47
                  have hT := ok_psl hT hq_198 hk_199
                  refine lv_dup hx hb d_Po_init_161 rfl ?_
                  refine sm_vK (K := [q_197]) (ty := ty_op) hI hT (va_runIN (As := []) (rest := [.ref q_197, .int (nI k), .ref q_44]) ⟨hx, hb, hml, hown, hts⟩ (c_Op_init l D ca _ _ q_197 e_200) ⟨va_cnB 0 hts (wg_in0 tw_331) rfl rfl rfl (hE.1 _ tn_329 rfl) (hts _ tw_11) (by decide +kernel) ⟨Nat.le_of_ble_eq_true rfl, Nat.le_of_ble_eq_true rfl⟩, rfl, hts _ tw_330⟩ (sd_preS hI hE) rfl rfl hl.1 rfl (lv_room (Nat.le_of_ble_eq_true rfl)) d_Po_init_162 ⟨(by show _ + 2 ≤ 471; omega), (by show _ + 20 ≤ 9870; omega)⟩) (fun T L H locs f hle1 hI hT t_204 hk_205 => ?_)
                  obtain ⟨hin0, z_206, z_207⟩ := hk_205 _ hin0
                  have e0 := z_206.trans e0
                  have tn0 := z_207.trans tn0
                  obtain ⟨hin_16, z_208, z_209⟩ := hk_205 _ hin_16
                  have e_13 := z_208.trans e_13
                  have tn_15 := z_209.trans tn_15
                  obtain ⟨hin_51, z_210, z_211⟩ := hk_205 _ hin_51
                  have e_47 := z_210.trans e_47
                  have tn_50 := z_211.trans tn_50
                  have t_8 := hle1 _ _ t_8
                  have t_24 := hle1 _ _ t_24
                  have t_37 := hle1 _ _ t_37
                  have t_60 := hle1 _ _ t_60
                  have t_76 := hle1 _ _ t_76
                  have t_92 := hle1 _ _ t_92
                  have hel113 := el_le hle1 hel113
                  have hel144 := el_le hle1 hel144
                  obtain ⟨x_213_in, x_213_vs, x_213_e⟩ := oc_Op hT t_204
                  refine ra_ast (j := k) (r := (R_Op, F_Op, 8)) hx hb hI hin_51 5 9 e_47 rfl x_213_in x_213_e rfl (by omega) (by decide) d_Po_init_165 (fun H locs f hI e_47 hk_212 => ?_)
                  have e0 := (hk_212 _ ne_48).trans e0
                  have e_13 := (hk_212 _ ne_49).trans e_13
                  have hT := ok_rawk hT tn_50 hk_212
                  have hel144 := el_up hel144 t_204
                  refine lv_iinc (v := nI (k + 1)) (lv' := [(2, .int (nI (k + 1))), (0, .ref h0), (1, .int (x1))]) hx hb d_Po_init_166 hl (k := 2) rfl (nI_1 _) (by decide) rfl (fun ls hl => ?_)
                  refine lv_goto (tgt := 144) hx hb d_Po_init_169 (by decide) ?_
                  refine W.widen (k := 396 + (k + 1) * 3) (n := 8111 + (k + 1) * 28) (by omega) (by omega) ?_
                  exact ih (k + 1) _ _ _ _ _ _ _ (by omega) (by omega) hI hT hin0 tn0 e0 hin_51 tn_50 e_47 hel144 hin_16 tn_15 e_13 hel113 t_8 t_24 t_37 t_60 t_76 t_92 (lv_sub hl [1, 2, 0] rfl)
            refine W.widen (k := 396 + 0 * 3) (n := 8111 + 0 * 28) (by omega) (by omega) ?_
            exact hJ_144 _ 0 _ _ _ _ _ _ _ (Nat.le_refl _) (by omega) hI hT hin0 tn0 e0 hin_51 tn_50 e_47 (fun j hj => absurd hj (Nat.not_lt_zero j)) hin_16 tn_15 e_13 hel113 t_8 t_24 t_37 t_60 t_76 t_92 (lv_sub hl [1, 2, 0] rfl)
          · have k_214 : k < 3 := Nat.lt_of_not_le (fun q => c_190 ((nI_leI (a := 3) (b := k) (by omega) (by omega)).mpr q))
            refine lv_aload_n hx hb d_Po_init_122 rfl (lv_at hl 0 rfl) ?_
            refine sw_get (ci := 0) (C := R_Po) (T := F_Po) (N := 15) (v := .ref q_10) hx hb hts in_Po hown hI hin0 e0 rfl 3 (by decide) (hts _ tw_365) (fun _ h9 => h9) rfl d_Po_init_123 ?_
            refine lv_iload_n hx hb d_Po_init_126 rfl (lv_at hl 2 rfl) ?_
            refine ra_new (ci := 6) (C := R_Cn) (T := F_Cn) (N := 19) (fs := [.int 0, .int 0, .null, .int 0, .int 0, .long 0, .int 0, .long 0, .int 0, .null, .null, .null, .int 0, .int 0, .int 0, .int 0, .long 0, .int 0, .int 0]) hx hb hts in_Cn t_Cn t_Cn_ok hown (hts _ tw_30) (hts _ tw_279) (hts _ tw_10) hI rfl (by decide) (by show _ + 1 ≤ 471; omega) (by show _ + 19 ≤ 9870; omega) d_Po_init_127 (fun q_215 H f hq_216 hI e_218 hk_217 => ?_)
            have ne_219 : h0 ≠ q_215 := fun z => hq_216 (z ▸ hin0)
            have e0 := (hk_217 _ ne_219).trans e0
            have ne_220 : q_10 ≠ q_215 := fun z => hq_216 (z ▸ hin_16)
            have e_13 := (hk_217 _ ne_220).trans e_13
            have ne_221 : q_44 ≠ q_215 := fun z => hq_216 (z ▸ hin_51)
            have e_47 := (hk_217 _ ne_221).trans e_47
            have hT := ok_psl hT hq_216 hk_217
            refine lv_dup hx hb d_Po_init_130 rfl ?_
            refine lv_iload_n hx hb d_Po_init_131 rfl (lv_at hl 2 rfl) ?_
            refine sm_vK (K := [q_215]) (ty := ty_cn k) hI hT (va_runI (As := [.int (nI k)]) (rest := [.ref q_215, .int (nI k), .ref q_10]) ⟨hx, hb, hml, hown, hts⟩ (c_Cn_init l D ca _ _ q_215 e_218 k (by omega)) (ki_Cn_init hts rfl rfl (hts _ tw_280) ⟨Nat.le_of_ble_eq_true rfl, Nat.le_of_ble_eq_true rfl⟩) (sd_preS hI hE) rfl rfl hl.1 rfl (lv_room (Nat.le_of_ble_eq_true rfl)) d_Po_init_132 ⟨(by show _ + 58 ≤ 471; omega), (by show _ + 1740 ≤ 9870; omega)⟩) (fun T L H locs f hle1 hI hT t_222 hk_223 => ?_)
            obtain ⟨hin0, z_224, z_225⟩ := hk_223 _ hin0
            have e0 := z_224.trans e0
            have tn0 := z_225.trans tn0
            obtain ⟨hin_16, z_226, z_227⟩ := hk_223 _ hin_16
            have e_13 := z_226.trans e_13
            have tn_15 := z_227.trans tn_15
            obtain ⟨hin_51, z_228, z_229⟩ := hk_223 _ hin_51
            have e_47 := z_228.trans e_47
            have tn_50 := z_229.trans tn_50
            have t_8 := hle1 _ _ t_8
            have t_24 := hle1 _ _ t_24
            have t_37 := hle1 _ _ t_37
            have t_60 := hle1 _ _ t_60
            have t_76 := hle1 _ _ t_76
            have t_92 := hle1 _ _ t_92
            have hel113 := el_le hle1 hel113
            obtain ⟨x_231_in, x_231_vs, x_231_e⟩ := oc_Cn hT t_222
            refine ra_ast (j := k) (r := (R_Cn, F_Cn, 19)) hx hb hI hin_16 4 6 e_13 rfl x_231_in x_231_e rfl (by omega) (by decide) d_Po_init_135 (fun H locs f hI e_13 hk_230 => ?_)
            have e0 := (hk_230 _ ne_14).trans e0
            have e_47 := (hk_230 _ (Ne.symm ne_49)).trans e_47
            have hT := ok_rawk hT tn_15 hk_230
            have hel113 := el_up hel113 t_222
            refine lv_iinc (v := nI (k + 1)) (lv' := [(2, .int (nI (k + 1))), (0, .ref h0), (1, .int (x1))]) hx hb d_Po_init_136 hl (k := 2) rfl (nI_1 _) (by decide) rfl (fun ls hl => ?_)
            refine lv_goto (tgt := 113) hx hb d_Po_init_139 (by decide) ?_
            refine W.widen (k := 219 + (k + 1) * 59) (n := 2834 + (k + 1) * 1759) (by omega) (by omega) ?_
            exact ih (k + 1) _ _ _ _ _ _ _ (by omega) (by omega) hI hT hin0 tn0 e0 hin_16 tn_15 e_13 hel113 hin_51 tn_50 e_47 t_8 t_24 t_37 t_60 t_76 t_92 (lv_sub hl [1, 2, 0] rfl)
      refine W.widen (k := 219 + 0 * 59) (n := 2834 + 0 * 1759) (Nat.le_of_ble_eq_true rfl) (Nat.le_of_ble_eq_true rfl) ?_
      exact hJ_113 _ 0 _ _ _ _ _ _ _ (Nat.le_refl _) (by omega) hI hT hin0 tn0 e0 hin_16 tn_15 e_13 (fun j hj => absurd hj (Nat.not_lt_zero j)) hin_51 tn_50 e_47 t_8 t_24 t_37 t_60 t_76 t_92 (lv_sub hl [1, 2, 0] rfl)
