/-! ByteRow.copyFrom where the row may grow (written by wip/tools) -/
set_option maxRecDepth 100000 in
set_option maxHeartbeats 4000000 in
theorem c_Br_copyFromA (l : Launch) (D : va_G) (ca : Nat → ClassId) (T0 : ty_e) (L0 : List Nat) (f0 : Nat → va_E) (sz : Nat) (hT : ok_T ca T0 L0 f0) {m0 : Nat} (h0 : Nat) (t0 : T0 h0 = some (ty_row m0)) {m1 : Nat} (x1 : Nat) (t1 : T0 x1 = some (ty_row m1)) (j2 : Nat) (q2 : j2 ≤ 6) (x3 : Int32) (hc : m0 / 16 = 18) (hd : m1 / 16 ≤ 259) (hm : m0 ≠ m1) (hlo : -1000 ≤ x3.toInt) :
    Met l y_Br_copyFrom (Cond.code y_Br_copyFrom b_Br_copyFrom 6 none :: wg) { frames := 0, cells := 1, slots := 259, locals := 0 } (va_Pc [.ref h0, .ref x1, .int (nI j2), .int (x3)] (sm_P D cl_all (ty_s ca) ek L0 f0 sz)) (sm_Qv D (ty_s ca) L0 f0 sz (fun u => po_a ca T0 (fun _ => True) u)) 1 259 (va_A (va_pl L0 f0) sz) := by
  refine sm_start (by decide) (Nat.le_of_ble_eq_true rfl) ?_
  intro p e s m below meth c ls hx hb hml hr hlk hnm hts hown hsz hE hI hl
  have hl : lv_has ls 6 [(0, .ref h0), (1, .ref x1), (2, .int (nI j2)), (3, .int (x3))] := hl
  have hle : ty_le T0 T0 := ty_rf
  obtain ⟨b1, n1, l1, hrw1⟩ := rw_of hT t1
  have hl1 := hrw1.2.2.1
  have hn1 : n1 ≤ 259 := by rcases hrw1.2.2.2.1 with z | z <;> omega
  have hne : x1 ≠ h0 := fun q => by rw [q, t0] at t1; simp only [Option.some.injEq, Prod.mk.injEq] at t1; omega
  have hJ_47 : ∀ (N k : Nat) (T : ty_e) (L : List Nat) (H : Heap) (locs : List Loc) (f : Nat → va_E) (ls : Array Slot) (y4 : Int32), 1000 + 1 - k ≤ N → k ≤ 1000 → ty_le T0 T → sw_I D cl_all (ty_s ca) (va_A (va_pl L0 f0) sz) s H locs L f → ok_T ca T L f → lv_has ls 6 [(0, .ref h0), (1, .ref x1), (2, .int (nI j2)), (3, .int (x3)), (4, .int (y4)), (5, .int (nI k))] → (rw_is T f x1 m1 b1 n1 l1) → (y4.toInt + j2 ≤ l1) → (∀ b n len : Nat, rw_is T f h0 m0 b n len → len = k) → W p l e { frames := 0, cells := 1, slots := 259, locals := 0 } s m ([.ref h0, .ref x1, .int (nI j2), .int (x3)] : List Value).toArray below meth c H locs 1 259 (MQ below (sm_Qv D (ty_s ca) L0 f0 sz (fun u => po_a ca T0 (fun _ => True) u)) ([.ref h0, .ref x1, .int (nI j2), .int (x3)] : List Value).toArray s 1 259 (va_A (va_pl L0 f0) sz)) (F0 m 47 ls []) := by
    intro N
    induction N with
    | zero => intros; omega
    | succ N ih =>
      intro k T L H locs f ls y4 hN hk hle hI hT hl hrw1 hs hv
      have t0 := hle _ _ t0
      have t1 := hle _ _ t1
      obtain ⟨bb, nn, ll, hrw⟩ := rw_of hT t0
      have hrl := hrw.2.2.1
      have hrn := hrw.2.2.2.2
      have hv1 := hv _ _ _ hrw
      refine lv_iload hx hb d_Br_copyFrom_47 (lv_at hl 5 rfl) ?_
      refine lv_iload hx hb d_Br_copyFrom_49 (lv_at hl 4 rfl) ?_
      refine lv_icmp_ge (tgt := 96) hx hb d_Br_copyFrom_51 (by decide) (fun c_1 => ?_) (fun c_1 => ?_)
      · refine W.widen (k := 1) (n := 259) (by decide) (by decide) ?_
        exact sm_vret hx hb hr hlk hI ⟨_, hle, hT, trivial⟩ d_Br_copyFrom_96
      · refine lv_iload hx hb d_Br_copyFrom_54 (lv_at hl 5 rfl) ?_
        refine lv_aload_n hx hb d_Br_copyFrom_56 rfl (lv_at hl 0 rfl) ?_
        refine fgr_bytes hx hb hts hown hI hT t0 hrw (hts _ tw_47) d_Br_copyFrom_57 ?_
        refine fl_I hx hb hI hT hrw.2.1 d_Br_copyFrom_60 ?_
        refine lv_icmp_ge (tgt := 96) hx hb d_Br_copyFrom_61 (by decide) (fun c_2 => ?_) (fun c_2 => ?_)
        · have k_3 : nn ≤ k := (nI_leI (a := nn) (b := k) (by omega) (by omega)).mp c_2
          refine W.widen (k := 1) (n := 259) (by decide) (by decide) ?_
          exact sm_vret hx hb hr hlk hI ⟨_, hle, hT, trivial⟩ d_Br_copyFrom_96
        · have k_4 : k < nn := Nat.lt_of_not_le (fun q => c_2 ((nI_leI (a := nn) (b := k) (by omega) (by omega)).mpr q))
          refine lv_aload_n hx hb d_Br_copyFrom_64 rfl (lv_at hl 0 rfl) ?_
          refine fgr_bytes hx hb hts hown hI hT t0 hrw (hts _ tw_47) d_Br_copyFrom_65 ?_
          refine lv_iload hx hb d_Br_copyFrom_68 (lv_at hl 5 rfl) ?_
          refine lv_aload_n hx hb d_Br_copyFrom_70 rfl (lv_at hl 1 rfl) ?_
          refine fgr_bytes hx hb hts hown hI hT t1 hrw1 (hts _ tw_47) d_Br_copyFrom_71 ?_
          refine lv_iload_n hx hb d_Br_copyFrom_74 rfl (lv_at hl 2 rfl) ?_
          refine lv_iload hx hb d_Br_copyFrom_75 (lv_at hl 5 rfl) ?_
          refine lv_iadd hx hb d_Br_copyFrom_77 ?_
          refine lv_topi (fun x_5 e_6 => ?_)
          obtain rfl : x_5 = nI (j2 + k) := by rw [e_6]; exact nI_add _ _
          refine fa_I hx hb hI hT hrw1.2.1 (vp_in_nI (cp_ix c_1 hs hl1 (by omega)) (by omega)) d_Br_copyFrom_78 (fun x_7 => ?_)
          have hrq := rw_ne hT hrw
          have hrq1 := rw_nI hT hrw1 hrw.2.1
          refine fs_I hx hb hI hT hrw.2.1 (vp_in_nI (by omega) (by omega)) d_Br_copyFrom_79 (fun H locs f hI hT hkk => ?_)
          have hrw := rw_keep hrw hrq hkk
          have hrw1 := rw_keep hrw1 hrq1 hkk
          refine lv_aload_n hx hb d_Br_copyFrom_80 rfl (lv_at hl 0 rfl) ?_
          refine lv_dup hx hb d_Br_copyFrom_81 rfl ?_
          refine fgr_length hx hb hts hown hI hT t0 hrw (hts _ tw_48) d_Br_copyFrom_82 ?_
          refine lv_iconst (v := 1) hx hb d_Br_copyFrom_85 (by decide) ?_
          refine lv_iadd hx hb d_Br_copyFrom_86 ?_
          refine lv_topi (fun x_8 e_9 => ?_)
          obtain rfl : x_8 = nI (ll + 1) := by rw [e_9]; exact nI_add _ _
          refine fpr_length (v := (ll + 1)) hx hb hts hown hI hT t0 hrw (hts _ tw_48) (by omega) d_Br_copyFrom_87 (fun H locs f hI hT hrw hkk => ?_)
          have hrl := hrw.2.2.1
          have hrw1 := rw_keep hrw1 hne hkk
          refine lv_iinc (v := nI (k + 1)) (lv' := [(5, .int (nI (k + 1))), (0, .ref h0), (1, .ref x1), (2, .int (nI j2)), (3, .int (x3)), (4, .int (y4))]) hx hb d_Br_copyFrom_90 hl (k := 5) rfl (nI_1 _) (by decide) rfl (fun ls hl => ?_)
          refine lv_goto (tgt := 47) hx hb d_Br_copyFrom_93 (by decide) ?_
          refine W.widen (k := 1) (n := 259) (by decide) (by decide) ?_
          exact ih ((k + 1)) _ _ _ _ _ _ y4 (by omega) (by omega) hle hI hT (lv_sub hl [1, 2, 3, 4, 5, 0] rfl) hrw1 hs (fun b n len z => by obtain ⟨_, _, z2⟩ := rw_uniq hrw z; omega)
  obtain ⟨bb, nn, ll, hrw⟩ := rw_of hT t0
  have hrl := hrw.2.2.1
  have hrn := hrw.2.2.2.2
  have hnn : nn = 18 ∨ nn = 259 := by rcases hrw.2.2.2.1 with z | z <;> omega
  refine lv_iload_n hx hb d_Br_copyFrom_0 rfl (lv_at hl 3 rfl) ?_
  refine lv_aload_n hx hb d_Br_copyFrom_1 rfl (lv_at hl 1 rfl) ?_
  refine fgr_length hx hb hts hown hI hT t1 hrw1 (hts _ tw_48) d_Br_copyFrom_2 ?_
  refine lv_icmp_ge (tgt := 12) hx hb d_Br_copyFrom_5 (by decide) (fun c_10 => ?_) (fun c_10 => ?_)
  · refine lv_aload_n hx hb d_Br_copyFrom_12 rfl (lv_at hl 1 rfl) ?_
    refine fgr_length hx hb hts hown hI hT t1 hrw1 (hts _ tw_48) d_Br_copyFrom_13 ?_
    refine lv_iload_n hx hb d_Br_copyFrom_16 rfl (lv_at hl 2 rfl) ?_
    refine lv_isub hx hb d_Br_copyFrom_17 ?_
    refine lv_topi (fun x_11 e_12 => ?_)
    have hs : x_11.toInt + j2 ≤ l1 := cp_sz (A := l1) (B := j2) e_12 (by omega) (by omega) (by omega)
    refine lv_istore (lv' := [(4, .int (x_11)), (0, .ref h0), (1, .ref x1), (2, .int (nI j2)), (3, .int (x3))]) hx hb d_Br_copyFrom_18 hl (by decide) rfl (fun ls hl => ?_)
    refine lv_iload hx hb d_Br_copyFrom_20 (lv_at hl 0 rfl) ?_
    refine lv_aload_n hx hb d_Br_copyFrom_22 rfl (lv_at hl 1 rfl) ?_
    refine fgr_bytes hx hb hts hown hI hT t0 hrw (hts _ tw_47) d_Br_copyFrom_23 ?_
    refine fl_I hx hb hI hT hrw.2.1 d_Br_copyFrom_26 ?_
    refine lv_icmp_le (tgt := 39) hx hb d_Br_copyFrom_27 (by decide) (fun c_13 => ?_) (fun c_13 => ?_)
    · refine lv_aload_n hx hb d_Br_copyFrom_39 rfl (lv_at hl 1 rfl) ?_
      refine lv_iconst (v := 0) hx hb d_Br_copyFrom_40 (by decide) ?_
      refine fpr_length (v := 0) hx hb hts hown hI hT t0 hrw (hts _ tw_48) (by omega) d_Br_copyFrom_41 (fun H locs f hI hT hrw hkk => ?_)
      have hrl := hrw.2.2.1
      have hrw1 := rw_keep hrw1 hne hkk
      refine lv_iconst (v := 0) hx hb d_Br_copyFrom_44 (by decide) ?_
      refine lv_istore (lv' := [(5, .int (0)), (4, .int (x_11)), (0, .ref h0), (1, .ref x1), (2, .int (nI j2)), (3, .int (x3))]) hx hb d_Br_copyFrom_45 hl (by decide) rfl (fun ls hl => ?_)
      refine W.widen (k := 1) (n := 259) (by decide) (by decide) ?_
      exact hJ_47 _ (0) _ _ _ _ _ _ x_11 (Nat.le_refl _) (by omega) hle hI hT (lv_sub hl [2, 3, 4, 5, 1, 0] rfl) hrw1 hs (fun b n len z => by obtain ⟨_, _, z2⟩ := rw_uniq hrw z; omega)
    · refine lv_aload_n hx hb d_Br_copyFrom_30 rfl (lv_at hl 1 rfl) ?_
      refine lv_sipush (v := 259) hx hb d_Br_copyFrom_31 (by decide) ?_
      have hz0 := (hT _ _ t0).1
      have hz1 := (hT _ _ t1).1
      refine sw_newa (atype := .int) (ty := .int) (N' := 259) (a0 := (259, .inl (fun _ => 0))) hx hb (hts _ tw_57) rfl hI 0 rfl (nw_I 259) (by decide) (by decide) (by decide) (Nat.le_of_ble_eq_true rfl) (Nat.le_of_ble_eq_true rfl) d_Br_copyFrom_34 (fun qq H hqq hI => ?_)
      obtain ⟨hle1, hT⟩ := ok_new (ty := ty_I 259) hT hqq ⟨_, rfl⟩
      have hle := ty_tr hle hle1
      have t0 := hle1 _ _ t0
      have t1 := hle1 _ _ t1
      have hrw := rw_grow (q := qq) (e := .inl (ca 0, 259, .inl (fun _ => 0))) hle1 hrw (fun z => hqq (z ▸ hz0))
      have hrw1 := rw_grow (q := qq) (e := .inl (ca 0, 259, .inl (fun _ => 0))) hle1 hrw1 (fun z => hqq (z ▸ hz1))
      refine fpr_bytes (b2 := qq) (n2 := 259) hx hb hts hown hI hT t0 hrw (hts _ tw_47) (by simp [ty_up]) (by omega) (by omega) (by omega) d_Br_copyFrom_36 (fun H locs f hI hT hrw hkk => ?_)
      have hrl := hrw.2.2.1
      have hrw1 := rw_keep hrw1 hne hkk
      refine lv_aload_n hx hb d_Br_copyFrom_39 rfl (lv_at hl 1 rfl) ?_
      refine lv_iconst (v := 0) hx hb d_Br_copyFrom_40 (by decide) ?_
      refine fpr_length (v := 0) hx hb hts hown hI hT t0 hrw (hts _ tw_48) (by omega) d_Br_copyFrom_41 (fun H locs f hI hT hrw hkk => ?_)
      have hrl := hrw.2.2.1
      have hrw1 := rw_keep hrw1 hne hkk
      refine lv_iconst (v := 0) hx hb d_Br_copyFrom_44 (by decide) ?_
      refine lv_istore (lv' := [(5, .int (0)), (4, .int (x_11)), (0, .ref h0), (1, .ref x1), (2, .int (nI j2)), (3, .int (x3))]) hx hb d_Br_copyFrom_45 hl (by decide) rfl (fun ls hl => ?_)
      refine W.widen (k := 1) (n := 259) (by decide) (by decide) ?_
      exact hJ_47 _ (0) _ _ _ _ _ _ x_11 (Nat.le_refl _) (by omega) hle hI hT (lv_sub hl [2, 3, 4, 5, 1, 0] rfl) hrw1 hs (fun b n len z => by obtain ⟨_, _, z2⟩ := rw_uniq hrw z; omega)
  · refine lv_iload_n hx hb d_Br_copyFrom_8 rfl (lv_at hl 3 rfl) ?_
    refine lv_goto (tgt := 16) hx hb d_Br_copyFrom_9 (by decide) ?_
    refine lv_iload_n hx hb d_Br_copyFrom_16 rfl (lv_at hl 2 rfl) ?_
    refine lv_isub hx hb d_Br_copyFrom_17 ?_
    refine lv_topi (fun x_14 e_15 => ?_)
    have hs : x_14.toInt + j2 ≤ l1 := cp_szI e_15 c_10 hlo (by omega) (by omega)
    refine lv_istore (lv' := [(4, .int (x_14)), (0, .ref h0), (1, .ref x1), (2, .int (nI j2)), (3, .int (x3))]) hx hb d_Br_copyFrom_18 hl (by decide) rfl (fun ls hl => ?_)
    refine lv_iload hx hb d_Br_copyFrom_20 (lv_at hl 0 rfl) ?_
    refine lv_aload_n hx hb d_Br_copyFrom_22 rfl (lv_at hl 1 rfl) ?_
    refine fgr_bytes hx hb hts hown hI hT t0 hrw (hts _ tw_47) d_Br_copyFrom_23 ?_
    refine fl_I hx hb hI hT hrw.2.1 d_Br_copyFrom_26 ?_
    refine lv_icmp_le (tgt := 39) hx hb d_Br_copyFrom_27 (by decide) (fun c_16 => ?_) (fun c_16 => ?_)
    · refine lv_aload_n hx hb d_Br_copyFrom_39 rfl (lv_at hl 1 rfl) ?_
      refine lv_iconst (v := 0) hx hb d_Br_copyFrom_40 (by decide) ?_
      refine fpr_length (v := 0) hx hb hts hown hI hT t0 hrw (hts _ tw_48) (by omega) d_Br_copyFrom_41 (fun H locs f hI hT hrw hkk => ?_)
      have hrl := hrw.2.2.1
      have hrw1 := rw_keep hrw1 hne hkk
      refine lv_iconst (v := 0) hx hb d_Br_copyFrom_44 (by decide) ?_
      refine lv_istore (lv' := [(5, .int (0)), (4, .int (x_14)), (0, .ref h0), (1, .ref x1), (2, .int (nI j2)), (3, .int (x3))]) hx hb d_Br_copyFrom_45 hl (by decide) rfl (fun ls hl => ?_)
      refine W.widen (k := 1) (n := 259) (by decide) (by decide) ?_
      exact hJ_47 _ (0) _ _ _ _ _ _ x_14 (Nat.le_refl _) (by omega) hle hI hT (lv_sub hl [2, 3, 4, 5, 1, 0] rfl) hrw1 hs (fun b n len z => by obtain ⟨_, _, z2⟩ := rw_uniq hrw z; omega)
    · refine lv_aload_n hx hb d_Br_copyFrom_30 rfl (lv_at hl 1 rfl) ?_
      refine lv_sipush (v := 259) hx hb d_Br_copyFrom_31 (by decide) ?_
      have hz0 := (hT _ _ t0).1
      have hz1 := (hT _ _ t1).1
      refine sw_newa (atype := .int) (ty := .int) (N' := 259) (a0 := (259, .inl (fun _ => 0))) hx hb (hts _ tw_57) rfl hI 0 rfl (nw_I 259) (by decide) (by decide) (by decide) (Nat.le_of_ble_eq_true rfl) (Nat.le_of_ble_eq_true rfl) d_Br_copyFrom_34 (fun qq H hqq hI => ?_)
      obtain ⟨hle1, hT⟩ := ok_new (ty := ty_I 259) hT hqq ⟨_, rfl⟩
      have hle := ty_tr hle hle1
      have t0 := hle1 _ _ t0
      have t1 := hle1 _ _ t1
      have hrw := rw_grow (q := qq) (e := .inl (ca 0, 259, .inl (fun _ => 0))) hle1 hrw (fun z => hqq (z ▸ hz0))
      have hrw1 := rw_grow (q := qq) (e := .inl (ca 0, 259, .inl (fun _ => 0))) hle1 hrw1 (fun z => hqq (z ▸ hz1))
      refine fpr_bytes (b2 := qq) (n2 := 259) hx hb hts hown hI hT t0 hrw (hts _ tw_47) (by simp [ty_up]) (by omega) (by omega) (by omega) d_Br_copyFrom_36 (fun H locs f hI hT hrw hkk => ?_)
      have hrl := hrw.2.2.1
      have hrw1 := rw_keep hrw1 hne hkk
      refine lv_aload_n hx hb d_Br_copyFrom_39 rfl (lv_at hl 1 rfl) ?_
      refine lv_iconst (v := 0) hx hb d_Br_copyFrom_40 (by decide) ?_
      refine fpr_length (v := 0) hx hb hts hown hI hT t0 hrw (hts _ tw_48) (by omega) d_Br_copyFrom_41 (fun H locs f hI hT hrw hkk => ?_)
      have hrl := hrw.2.2.1
      have hrw1 := rw_keep hrw1 hne hkk
      refine lv_iconst (v := 0) hx hb d_Br_copyFrom_44 (by decide) ?_
      refine lv_istore (lv' := [(5, .int (0)), (4, .int (x_14)), (0, .ref h0), (1, .ref x1), (2, .int (nI j2)), (3, .int (x3))]) hx hb d_Br_copyFrom_45 hl (by decide) rfl (fun ls hl => ?_)
      refine W.widen (k := 1) (n := 259) (by decide) (by decide) ?_
      exact hJ_47 _ (0) _ _ _ _ _ _ x_14 (Nat.le_refl _) (by omega) hle hI hT (lv_sub hl [2, 3, 4, 5, 1, 0] rfl) hrw1 hs (fun b n len z => by obtain ⟨_, _, z2⟩ := rw_uniq hrw z; omega)
