/-! ByteRow.copyFrom where the row has room (written by wip/tools) -/
theorem d_Br_copyFrom_0 : decode b_Br_copyFrom 0 = .ok (.iload_n 3, 1) := by decide +kernel
theorem d_Br_copyFrom_1 : decode b_Br_copyFrom 1 = .ok (.aload_n 1, 1) := by decide +kernel
theorem d_Br_copyFrom_2 : decode b_Br_copyFrom 2 = .ok (.getfield 15, 3) := by decide +kernel
theorem d_Br_copyFrom_5 : decode b_Br_copyFrom 5 = .ok (.if_icmp .ge 7, 3) := by decide +kernel
theorem d_Br_copyFrom_8 : decode b_Br_copyFrom 8 = .ok (.iload_n 3, 1) := by decide +kernel
theorem d_Br_copyFrom_9 : decode b_Br_copyFrom 9 = .ok (.goto 7, 3) := by decide +kernel
theorem d_Br_copyFrom_12 : decode b_Br_copyFrom 12 = .ok (.aload_n 1, 1) := by decide +kernel
theorem d_Br_copyFrom_13 : decode b_Br_copyFrom 13 = .ok (.getfield 15, 3) := by decide +kernel
theorem d_Br_copyFrom_16 : decode b_Br_copyFrom 16 = .ok (.iload_n 2, 1) := by decide +kernel
theorem d_Br_copyFrom_17 : decode b_Br_copyFrom 17 = .ok (.isub, 1) := by decide +kernel
theorem d_Br_copyFrom_18 : decode b_Br_copyFrom 18 = .ok (.istore 4, 2) := by decide +kernel
theorem d_Br_copyFrom_20 : decode b_Br_copyFrom 20 = .ok (.iload 4, 2) := by decide +kernel
theorem d_Br_copyFrom_22 : decode b_Br_copyFrom 22 = .ok (.aload_n 0, 1) := by decide +kernel
theorem d_Br_copyFrom_23 : decode b_Br_copyFrom 23 = .ok (.getfield 9, 3) := by decide +kernel
theorem d_Br_copyFrom_26 : decode b_Br_copyFrom 26 = .ok (.arraylength, 1) := by decide +kernel
theorem d_Br_copyFrom_27 : decode b_Br_copyFrom 27 = .ok (.if_icmp .le 12, 3) := by decide +kernel
theorem d_Br_copyFrom_30 : decode b_Br_copyFrom 30 = .ok (.aload_n 0, 1) := by decide +kernel
theorem d_Br_copyFrom_31 : decode b_Br_copyFrom 31 = .ok (.sipush 259, 3) := by decide +kernel
theorem d_Br_copyFrom_34 : decode b_Br_copyFrom 34 = .ok (.newarray .int, 2) := by decide +kernel
theorem d_Br_copyFrom_36 : decode b_Br_copyFrom 36 = .ok (.putfield 9, 3) := by decide +kernel
theorem d_Br_copyFrom_39 : decode b_Br_copyFrom 39 = .ok (.aload_n 0, 1) := by decide +kernel
theorem d_Br_copyFrom_40 : decode b_Br_copyFrom 40 = .ok (.iconst 0, 1) := by decide +kernel
theorem d_Br_copyFrom_41 : decode b_Br_copyFrom 41 = .ok (.putfield 15, 3) := by decide +kernel
theorem d_Br_copyFrom_44 : decode b_Br_copyFrom 44 = .ok (.iconst 0, 1) := by decide +kernel
theorem d_Br_copyFrom_45 : decode b_Br_copyFrom 45 = .ok (.istore 5, 2) := by decide +kernel
theorem d_Br_copyFrom_47 : decode b_Br_copyFrom 47 = .ok (.iload 5, 2) := by decide +kernel
theorem d_Br_copyFrom_49 : decode b_Br_copyFrom 49 = .ok (.iload 4, 2) := by decide +kernel
theorem d_Br_copyFrom_51 : decode b_Br_copyFrom 51 = .ok (.if_icmp .ge 45, 3) := by decide +kernel
theorem d_Br_copyFrom_54 : decode b_Br_copyFrom 54 = .ok (.iload 5, 2) := by decide +kernel
theorem d_Br_copyFrom_56 : decode b_Br_copyFrom 56 = .ok (.aload_n 0, 1) := by decide +kernel
theorem d_Br_copyFrom_57 : decode b_Br_copyFrom 57 = .ok (.getfield 9, 3) := by decide +kernel
theorem d_Br_copyFrom_60 : decode b_Br_copyFrom 60 = .ok (.arraylength, 1) := by decide +kernel
theorem d_Br_copyFrom_61 : decode b_Br_copyFrom 61 = .ok (.if_icmp .ge 35, 3) := by decide +kernel
theorem d_Br_copyFrom_64 : decode b_Br_copyFrom 64 = .ok (.aload_n 0, 1) := by decide +kernel
theorem d_Br_copyFrom_65 : decode b_Br_copyFrom 65 = .ok (.getfield 9, 3) := by decide +kernel
theorem d_Br_copyFrom_68 : decode b_Br_copyFrom 68 = .ok (.iload 5, 2) := by decide +kernel
theorem d_Br_copyFrom_70 : decode b_Br_copyFrom 70 = .ok (.aload_n 1, 1) := by decide +kernel
theorem d_Br_copyFrom_71 : decode b_Br_copyFrom 71 = .ok (.getfield 9, 3) := by decide +kernel
theorem d_Br_copyFrom_74 : decode b_Br_copyFrom 74 = .ok (.iload_n 2, 1) := by decide +kernel
theorem d_Br_copyFrom_75 : decode b_Br_copyFrom 75 = .ok (.iload 5, 2) := by decide +kernel
theorem d_Br_copyFrom_77 : decode b_Br_copyFrom 77 = .ok (.iadd, 1) := by decide +kernel
theorem d_Br_copyFrom_78 : decode b_Br_copyFrom 78 = .ok (.iaload, 1) := by decide +kernel
theorem d_Br_copyFrom_79 : decode b_Br_copyFrom 79 = .ok (.iastore, 1) := by decide +kernel
theorem d_Br_copyFrom_80 : decode b_Br_copyFrom 80 = .ok (.aload_n 0, 1) := by decide +kernel
theorem d_Br_copyFrom_81 : decode b_Br_copyFrom 81 = .ok (.dup, 1) := by decide +kernel
theorem d_Br_copyFrom_82 : decode b_Br_copyFrom 82 = .ok (.getfield 15, 3) := by decide +kernel
theorem d_Br_copyFrom_85 : decode b_Br_copyFrom 85 = .ok (.iconst 1, 1) := by decide +kernel
theorem d_Br_copyFrom_86 : decode b_Br_copyFrom 86 = .ok (.iadd, 1) := by decide +kernel
theorem d_Br_copyFrom_87 : decode b_Br_copyFrom 87 = .ok (.putfield 15, 3) := by decide +kernel
theorem d_Br_copyFrom_90 : decode b_Br_copyFrom 90 = .ok (.iinc 5 1, 3) := by decide +kernel
theorem d_Br_copyFrom_93 : decode b_Br_copyFrom 93 = .ok (.goto (-46), 3) := by decide +kernel
theorem d_Br_copyFrom_96 : decode b_Br_copyFrom 96 = .ok (.return_, 1) := by decide +kernel
set_option maxRecDepth 100000 in
set_option maxHeartbeats 4000000 in
theorem c_Br_copyFrom (l : Launch) (D : va_G) (ca : Nat → ClassId) (T : ty_e) (L : List Nat) (f0 : Nat → va_E) (sz : Nat) (hT : ok_T ca T L f0) {m0 : Nat} (h0 : Nat) (t0 : T h0 = some (ty_row m0)) {m1 : Nat} (x1 : Nat) (t1 : T x1 = some (ty_row m1)) (j2 : Nat) (q2 : j2 ≤ 6) (x3 : Int32) (hc : m0 / 16 = 259) (hd : m1 / 16 ≤ 259) (hm : m0 ≠ m1) (hlo : -1000 ≤ x3.toInt) :
    Met l y_Br_copyFrom (Cond.code y_Br_copyFrom b_Br_copyFrom 6 none :: wg) { frames := 0, cells := 0, slots := 0, locals := 0 } (va_Pc [.ref h0, .ref x1, .int (nI j2), .int (x3)] (sm_P D cl_all (ty_s ca) ek L f0 sz)) (sm_Qv D (ty_s ca) L f0 sz (fun u => po_m ca T L u)) 0 0 (va_A (va_pl L f0) sz) := by
  refine sm_start (by decide) (Nat.le_of_ble_eq_true rfl) ?_
  intro p e s m below meth c ls hx hb hml hr hlk hnm hts hown hsz hE hI hl
  have hl : lv_has ls 6 [(0, .ref h0), (1, .ref x1), (2, .int (nI j2)), (3, .int (x3))] := hl
  obtain ⟨b1, n1, l1, hrw1⟩ := rw_of hT t1
  have hl1 := hrw1.2.2.1
  have hn1 : n1 ≤ 259 := by rcases hrw1.2.2.2.1 with z | z <;> omega
  have hne : x1 ≠ h0 := fun q => by rw [q, t0] at t1; simp only [Option.some.injEq, Prod.mk.injEq] at t1; omega
  have hJ_47 : ∀ (N k : Nat) (H : Heap) (locs : List Loc) (f : Nat → va_E) (ls : Array Slot) (y4 : Int32), 1000 + 1 - k ≤ N → k ≤ 1000 → sw_I D cl_all (ty_s ca) (va_A (va_pl L f0) sz) s H locs L f → ok_T ca T L f → lv_has ls 6 [(0, .ref h0), (1, .ref x1), (2, .int (nI j2)), (3, .int (x3)), (4, .int (y4)), (5, .int (nI k))] → (rw_is T f x1 m1 b1 n1 l1) → (y4.toInt + j2 ≤ l1) → (∀ b n len : Nat, rw_is T f h0 m0 b n len → len = k) → W p l e { frames := 0, cells := 0, slots := 0, locals := 0 } s m ([.ref h0, .ref x1, .int (nI j2), .int (x3)] : List Value).toArray below meth c H locs 0 0 (MQ below (sm_Qv D (ty_s ca) L f0 sz (fun u => po_m ca T L u)) ([.ref h0, .ref x1, .int (nI j2), .int (x3)] : List Value).toArray s 0 0 (va_A (va_pl L f0) sz)) (F0 m 47 ls []) := by
    intro N
    induction N with
    | zero => intros; omega
    | succ N ih =>
      intro k H locs f ls y4 hN hk hI hT hl hrw1 hs hv
      obtain ⟨bb, nn, ll, hrw⟩ := rw_of hT t0
      have hrl := hrw.2.2.1
      have hrn := hrw.2.2.2.2
      have hv1 := hv _ _ _ hrw
      refine lv_iload hx hb d_Br_copyFrom_47 (lv_at hl 5 rfl) ?_
      refine lv_iload hx hb d_Br_copyFrom_49 (lv_at hl 4 rfl) ?_
      refine lv_icmp_ge (tgt := 96) hx hb d_Br_copyFrom_51 (by decide) (fun c_1 => ?_) (fun c_1 => ?_)
      · exact sm_vret hx hb hr hlk hI ⟨rfl, hT⟩ d_Br_copyFrom_96
      · refine lv_iload hx hb d_Br_copyFrom_54 (lv_at hl 5 rfl) ?_
        refine lv_aload_n hx hb d_Br_copyFrom_56 rfl (lv_at hl 0 rfl) ?_
        refine fgr_bytes hx hb hts hown hI hT t0 hrw (hts _ tw_47) d_Br_copyFrom_57 ?_
        refine fl_I hx hb hI hT hrw.2.1 d_Br_copyFrom_60 ?_
        refine lv_icmp_ge (tgt := 96) hx hb d_Br_copyFrom_61 (by decide) (fun c_2 => ?_) (fun c_2 => ?_)
        · have k_3 : nn ≤ k := (nI_leI (a := nn) (b := k) (by omega) (by omega)).mp c_2
          exact sm_vret hx hb hr hlk hI ⟨rfl, hT⟩ d_Br_copyFrom_96
        · have k_4 : k < nn := Nat.lt_of_not_le (fun q => c_2 ((nI_leI (a := nn) (b := k) (by omega) (by omega)).mpr q))
          refine lv_aload_n hx hb d_Br_copyFrom_64 rfl (lv_at hl 0 rfl) ?_
          refine fgr_bytes hx hb hts hown hI hT t0 hrw (hts _ tw_47) d_Br_copyFrom_65 ?_
          refine lv_iload hx hb d_Br_copyFrom_68 (lv_at hl 5 rfl) ?_
          refine lv_aload_n hx hb d_Br_copyFrom_70 rfl (lv_at hl 1 rfl) ?_
          refine fgr_bytes hx hb hts hown hI hT t1 hrw1 (hts _ tw_47) d_Br_copyFrom_71 ?_
          refine lv_iload_n hx hb d_Br_copyFrom_74 rfl (lv_at hl 2 rfl) ?_
          refine lv_iload hx hb d_Br_copyFrom_75 (lv_at hl 5 rfl) ?_
          refine lv_iadd hx hb d_Br_copyFrom_77 ?_
          refine lv_topi (fun x_5 e_6 => ?_)
          obtain rfl : x_5 = nI (j2 + k) := by rw [e_6]; exact nI_add _ _
          refine fa_I hx hb hI hT hrw1.2.1 (vp_in_nI (cp_ix c_1 hs hl1 (by omega)) (by omega)) d_Br_copyFrom_78 (fun x_7 => ?_)
          have hrq := rw_ne hT hrw
          have hrq1 := rw_nI hT hrw1 hrw.2.1
          refine fs_I hx hb hI hT hrw.2.1 (vp_in_nI (by omega) (by omega)) d_Br_copyFrom_79 (fun H locs f hI hT hkk => ?_)
          have hrw := rw_keep hrw hrq hkk
          have hrw1 := rw_keep hrw1 hrq1 hkk
          refine lv_aload_n hx hb d_Br_copyFrom_80 rfl (lv_at hl 0 rfl) ?_
          refine lv_dup hx hb d_Br_copyFrom_81 rfl ?_
          refine fgr_length hx hb hts hown hI hT t0 hrw (hts _ tw_48) d_Br_copyFrom_82 ?_
          refine lv_iconst (v := 1) hx hb d_Br_copyFrom_85 (by decide) ?_
          refine lv_iadd hx hb d_Br_copyFrom_86 ?_
          refine lv_topi (fun x_8 e_9 => ?_)
          obtain rfl : x_8 = nI (ll + 1) := by rw [e_9]; exact nI_add _ _
          refine fpr_length (v := (ll + 1)) hx hb hts hown hI hT t0 hrw (hts _ tw_48) (by omega) d_Br_copyFrom_87 (fun H locs f hI hT hrw hkk => ?_)
          have hrl := hrw.2.2.1
          have hrw1 := rw_keep hrw1 hne hkk
          refine lv_iinc (v := nI (k + 1)) (lv' := [(5, .int (nI (k + 1))), (0, .ref h0), (1, .ref x1), (2, .int (nI j2)), (3, .int (x3)), (4, .int (y4))]) hx hb d_Br_copyFrom_90 hl (k := 5) rfl (nI_1 _) (by decide) rfl (fun ls hl => ?_)
          refine lv_goto (tgt := 47) hx hb d_Br_copyFrom_93 (by decide) ?_
          exact ih ((k + 1)) _ _ _ _ y4 (by omega) (by omega) hI hT (lv_sub hl [1, 2, 3, 4, 5, 0] rfl) hrw1 hs (fun b n len z => by obtain ⟨_, _, z2⟩ := rw_uniq hrw z; omega)
  obtain ⟨bb, nn, ll, hrw⟩ := rw_of hT t0
  have hrl := hrw.2.2.1
  have hrn := hrw.2.2.2.2
  have hnn : nn = 259 := by rcases hrw.2.2.2.1 with z | z <;> omega
  refine lv_iload_n hx hb d_Br_copyFrom_0 rfl (lv_at hl 3 rfl) ?_
  refine lv_aload_n hx hb d_Br_copyFrom_1 rfl (lv_at hl 1 rfl) ?_
  refine fgr_length hx hb hts hown hI hT t1 hrw1 (hts _ tw_48) d_Br_copyFrom_2 ?_
  refine lv_icmp_ge (tgt := 12) hx hb d_Br_copyFrom_5 (by decide) (fun c_10 => ?_) (fun c_10 => ?_)
  · refine lv_aload_n hx hb d_Br_copyFrom_12 rfl (lv_at hl 1 rfl) ?_
    refine fgr_length hx hb hts hown hI hT t1 hrw1 (hts _ tw_48) d_Br_copyFrom_13 ?_
    refine lv_iload_n hx hb d_Br_copyFrom_16 rfl (lv_at hl 2 rfl) ?_
    refine lv_isub hx hb d_Br_copyFrom_17 ?_
    refine lv_topi (fun x_11 e_12 => ?_)
    have hs : x_11.toInt + j2 ≤ l1 := cp_sz (A := l1) (B := j2) e_12 (by omega) (by omega) (by omega)
    refine lv_istore (lv' := [(4, .int (x_11)), (0, .ref h0), (1, .ref x1), (2, .int (nI j2)), (3, .int (x3))]) hx hb d_Br_copyFrom_18 hl (by decide) rfl (fun ls hl => ?_)
    refine lv_iload hx hb d_Br_copyFrom_20 (lv_at hl 0 rfl) ?_
    refine lv_aload_n hx hb d_Br_copyFrom_22 rfl (lv_at hl 1 rfl) ?_
    refine fgr_bytes hx hb hts hown hI hT t0 hrw (hts _ tw_47) d_Br_copyFrom_23 ?_
    refine fl_I hx hb hI hT hrw.2.1 d_Br_copyFrom_26 ?_
    refine lv_icmp_le (tgt := 39) hx hb d_Br_copyFrom_27 (by decide) (fun c_13 => ?_) (fun c_13 => ?_)
    · refine lv_aload_n hx hb d_Br_copyFrom_39 rfl (lv_at hl 1 rfl) ?_
      refine lv_iconst (v := 0) hx hb d_Br_copyFrom_40 (by decide) ?_
      refine fpr_length (v := 0) hx hb hts hown hI hT t0 hrw (hts _ tw_48) (by omega) d_Br_copyFrom_41 (fun H locs f hI hT hrw hkk => ?_)
      have hrl := hrw.2.2.1
      have hrw1 := rw_keep hrw1 hne hkk
      refine lv_iconst (v := 0) hx hb d_Br_copyFrom_44 (by decide) ?_
      refine lv_istore (lv' := [(5, .int (0)), (4, .int (x_11)), (0, .ref h0), (1, .ref x1), (2, .int (nI j2)), (3, .int (x3))]) hx hb d_Br_copyFrom_45 hl (by decide) rfl (fun ls hl => ?_)
      exact hJ_47 _ (0) _ _ _ _ x_11 (Nat.le_refl _) (by omega) hI hT (lv_sub hl [2, 3, 4, 5, 1, 0] rfl) hrw1 hs (fun b n len z => by obtain ⟨_, _, z2⟩ := rw_uniq hrw z; omega)
    · exact absurd (cp_le hs (by omega) (by omega)) c_13
  · refine lv_iload_n hx hb d_Br_copyFrom_8 rfl (lv_at hl 3 rfl) ?_
    refine lv_goto (tgt := 16) hx hb d_Br_copyFrom_9 (by decide) ?_
    refine lv_iload_n hx hb d_Br_copyFrom_16 rfl (lv_at hl 2 rfl) ?_
    refine lv_isub hx hb d_Br_copyFrom_17 ?_
    refine lv_topi (fun x_14 e_15 => ?_)
    have hs : x_14.toInt + j2 ≤ l1 := cp_szI e_15 c_10 hlo (by omega) (by omega)
    refine lv_istore (lv' := [(4, .int (x_14)), (0, .ref h0), (1, .ref x1), (2, .int (nI j2)), (3, .int (x3))]) hx hb d_Br_copyFrom_18 hl (by decide) rfl (fun ls hl => ?_)
    refine lv_iload hx hb d_Br_copyFrom_20 (lv_at hl 0 rfl) ?_
    refine lv_aload_n hx hb d_Br_copyFrom_22 rfl (lv_at hl 1 rfl) ?_
    refine fgr_bytes hx hb hts hown hI hT t0 hrw (hts _ tw_47) d_Br_copyFrom_23 ?_
    refine fl_I hx hb hI hT hrw.2.1 d_Br_copyFrom_26 ?_
    refine lv_icmp_le (tgt := 39) hx hb d_Br_copyFrom_27 (by decide) (fun c_16 => ?_) (fun c_16 => ?_)
    · refine lv_aload_n hx hb d_Br_copyFrom_39 rfl (lv_at hl 1 rfl) ?_
      refine lv_iconst (v := 0) hx hb d_Br_copyFrom_40 (by decide) ?_
      refine fpr_length (v := 0) hx hb hts hown hI hT t0 hrw (hts _ tw_48) (by omega) d_Br_copyFrom_41 (fun H locs f hI hT hrw hkk => ?_)
      have hrl := hrw.2.2.1
      have hrw1 := rw_keep hrw1 hne hkk
      refine lv_iconst (v := 0) hx hb d_Br_copyFrom_44 (by decide) ?_
      refine lv_istore (lv' := [(5, .int (0)), (4, .int (x_14)), (0, .ref h0), (1, .ref x1), (2, .int (nI j2)), (3, .int (x3))]) hx hb d_Br_copyFrom_45 hl (by decide) rfl (fun ls hl => ?_)
      exact hJ_47 _ (0) _ _ _ _ x_14 (Nat.le_refl _) (by omega) hI hT (lv_sub hl [2, 3, 4, 5, 1, 0] rfl) hrw1 hs (fun b n len z => by obtain ⟨_, _, z2⟩ := rw_uniq hrw z; omega)
    · exact absurd (cp_le hs (by omega) (by omega)) c_16
