/-! TelecontrolPost: what is asked (written by wip/tools) -/
theorem d_Po_objectionTo_0 : decode b_Po_objectionTo 0 = .ok (.aload_n 0, 1) := by decide +kernel
theorem d_Po_objectionTo_1 : decode b_Po_objectionTo 1 = .ok (.getfield 53, 3) := by decide +kernel
theorem d_Po_objectionTo_4 : decode b_Po_objectionTo 4 = .ok (.iload_n 3, 1) := by decide +kernel
theorem d_Po_objectionTo_5 : decode b_Po_objectionTo 5 = .ok (.aload_n 1, 1) := by decide +kernel
theorem d_Po_objectionTo_6 : decode b_Po_objectionTo 6 = .ok (.getfield 467, 3) := by decide +kernel
theorem d_Po_objectionTo_9 : decode b_Po_objectionTo 9 = .ok (.invokevirtual 377, 3) := by decide +kernel
theorem d_Po_objectionTo_12 : decode b_Po_objectionTo 12 = .ok (.istore 4, 2) := by decide +kernel
theorem d_Po_objectionTo_14 : decode b_Po_objectionTo 14 = .ok (.aload_n 0, 1) := by decide +kernel
theorem d_Po_objectionTo_15 : decode b_Po_objectionTo 15 = .ok (.iload 4, 2) := by decide +kernel
theorem d_Po_objectionTo_17 : decode b_Po_objectionTo 17 = .ok (.invokevirtual 80, 3) := by decide +kernel
theorem d_Po_objectionTo_20 : decode b_Po_objectionTo 20 = .ok (.istore 5, 2) := by decide +kernel
theorem d_Po_objectionTo_22 : decode b_Po_objectionTo 22 = .ok (.iload_n 2, 1) := by decide +kernel
theorem d_Po_objectionTo_23 : decode b_Po_objectionTo 23 = .ok (.aload_n 0, 1) := by decide +kernel
theorem d_Po_objectionTo_24 : decode b_Po_objectionTo 24 = .ok (.getfield 53, 3) := by decide +kernel
theorem d_Po_objectionTo_27 : decode b_Po_objectionTo 27 = .ok (.iconst 2, 1) := by decide +kernel
theorem d_Po_objectionTo_28 : decode b_Po_objectionTo 28 = .ok (.invokevirtual 216, 3) := by decide +kernel
theorem d_Po_objectionTo_31 : decode b_Po_objectionTo 31 = .ok (.bipush 63, 2) := by decide +kernel
theorem d_Po_objectionTo_33 : decode b_Po_objectionTo 33 = .ok (.iand, 1) := by decide +kernel
theorem d_Po_objectionTo_34 : decode b_Po_objectionTo 34 = .ok (.invokestatic 597, 3) := by decide +kernel
theorem d_Po_objectionTo_37 : decode b_Po_objectionTo 37 = .ok (.ifCond .ne 6, 3) := by decide +kernel
theorem d_Po_objectionTo_40 : decode b_Po_objectionTo 40 = .ok (.bipush 45, 2) := by decide +kernel
theorem d_Po_objectionTo_42 : decode b_Po_objectionTo 42 = .ok (.ireturn, 1) := by decide +kernel
theorem d_Po_objectionTo_43 : decode b_Po_objectionTo 43 = .ok (.aload_n 0, 1) := by decide +kernel
theorem d_Po_objectionTo_44 : decode b_Po_objectionTo 44 = .ok (.aload_n 1, 1) := by decide +kernel
theorem d_Po_objectionTo_45 : decode b_Po_objectionTo 45 = .ok (.iload_n 2, 1) := by decide +kernel
theorem d_Po_objectionTo_46 : decode b_Po_objectionTo 46 = .ok (.invokevirtual 600, 3) := by decide +kernel
theorem d_Po_objectionTo_49 : decode b_Po_objectionTo 49 = .ok (.ifCond .ne 6, 3) := by decide +kernel
theorem d_Po_objectionTo_52 : decode b_Po_objectionTo 52 = .ok (.bipush 46, 2) := by decide +kernel
theorem d_Po_objectionTo_54 : decode b_Po_objectionTo 54 = .ok (.ireturn, 1) := by decide +kernel
theorem d_Po_objectionTo_55 : decode b_Po_objectionTo 55 = .ok (.iload_n 2, 1) := by decide +kernel
theorem d_Po_objectionTo_56 : decode b_Po_objectionTo 56 = .ok (.bipush 102, 2) := by decide +kernel
theorem d_Po_objectionTo_58 : decode b_Po_objectionTo 58 = .ok (.if_icmp .eq 10, 3) := by decide +kernel
theorem d_Po_objectionTo_61 : decode b_Po_objectionTo 61 = .ok (.iload_n 2, 1) := by decide +kernel
theorem d_Po_objectionTo_62 : decode b_Po_objectionTo 62 = .ok (.invokestatic 583, 3) := by decide +kernel
theorem d_Po_objectionTo_65 : decode b_Po_objectionTo 65 = .ok (.ifCond .eq 7, 3) := by decide +kernel
theorem d_Po_objectionTo_68 : decode b_Po_objectionTo 68 = .ok (.iconst 1, 1) := by decide +kernel
theorem d_Po_objectionTo_69 : decode b_Po_objectionTo 69 = .ok (.goto 4, 3) := by decide +kernel
theorem d_Po_objectionTo_72 : decode b_Po_objectionTo 72 = .ok (.iconst 0, 1) := by decide +kernel
theorem d_Po_objectionTo_73 : decode b_Po_objectionTo 73 = .ok (.istore 6, 2) := by decide +kernel
theorem d_Po_objectionTo_75 : decode b_Po_objectionTo 75 = .ok (.iload 6, 2) := by decide +kernel
theorem d_Po_objectionTo_77 : decode b_Po_objectionTo 77 = .ok (.ifCond .eq 30, 3) := by decide +kernel
theorem d_Po_objectionTo_80 : decode b_Po_objectionTo 80 = .ok (.iload 5, 2) := by decide +kernel
theorem d_Po_objectionTo_82 : decode b_Po_objectionTo 82 = .ok (.ifCond .lt 21, 3) := by decide +kernel
theorem d_Po_objectionTo_85 : decode b_Po_objectionTo 85 = .ok (.aload_n 0, 1) := by decide +kernel
theorem d_Po_objectionTo_86 : decode b_Po_objectionTo 86 = .ok (.getfield 11, 3) := by decide +kernel
theorem d_Po_objectionTo_89 : decode b_Po_objectionTo 89 = .ok (.iload 5, 2) := by decide +kernel
theorem d_Po_objectionTo_91 : decode b_Po_objectionTo 91 = .ok (.aaload, 1) := by decide +kernel
theorem d_Po_objectionTo_92 : decode b_Po_objectionTo 92 = .ok (.iload_n 2, 1) := by decide +kernel
theorem d_Po_objectionTo_93 : decode b_Po_objectionTo 93 = .ok (.invokevirtual 603, 3) := by decide +kernel
theorem d_Po_objectionTo_96 : decode b_Po_objectionTo 96 = .ok (.ifCond .eq 7, 3) := by decide +kernel
theorem d_Po_objectionTo_99 : decode b_Po_objectionTo 99 = .ok (.iconst 1, 1) := by decide +kernel
theorem d_Po_objectionTo_100 : decode b_Po_objectionTo 100 = .ok (.goto 17, 3) := by decide +kernel
theorem d_Po_objectionTo_103 : decode b_Po_objectionTo 103 = .ok (.iconst 0, 1) := by decide +kernel
theorem d_Po_objectionTo_104 : decode b_Po_objectionTo 104 = .ok (.goto 13, 3) := by decide +kernel
theorem d_Po_objectionTo_107 : decode b_Po_objectionTo 107 = .ok (.iload 4, 2) := by decide +kernel
theorem d_Po_objectionTo_109 : decode b_Po_objectionTo 109 = .ok (.ifCond .ne 7, 3) := by decide +kernel
theorem d_Po_objectionTo_112 : decode b_Po_objectionTo 112 = .ok (.iconst 1, 1) := by decide +kernel
theorem d_Po_objectionTo_113 : decode b_Po_objectionTo 113 = .ok (.goto 4, 3) := by decide +kernel
theorem d_Po_objectionTo_116 : decode b_Po_objectionTo 116 = .ok (.iconst 0, 1) := by decide +kernel
theorem d_Po_objectionTo_117 : decode b_Po_objectionTo 117 = .ok (.istore 7, 2) := by decide +kernel
theorem d_Po_objectionTo_119 : decode b_Po_objectionTo 119 = .ok (.iload 7, 2) := by decide +kernel
theorem d_Po_objectionTo_121 : decode b_Po_objectionTo 121 = .ok (.ifCond .eq 7, 3) := by decide +kernel
theorem d_Po_objectionTo_124 : decode b_Po_objectionTo 124 = .ok (.iconst 0, 1) := by decide +kernel
theorem d_Po_objectionTo_125 : decode b_Po_objectionTo 125 = .ok (.goto 5, 3) := by decide +kernel
theorem d_Po_objectionTo_128 : decode b_Po_objectionTo 128 = .ok (.bipush 47, 2) := by decide +kernel
theorem d_Po_objectionTo_130 : decode b_Po_objectionTo 130 = .ok (.ireturn, 1) := by decide +kernel
set_option maxRecDepth 100000 in
set_option maxHeartbeats 4000000 in
theorem c_Po_objectionTo (l : Launch) (D : va_G) (ca : Nat → ClassId) (T : ty_e) (L : List Nat) (f0 : Nat → va_E) (sz : Nat) (hT : ok_T ca T L f0) {g0 : List (Int32 × Int32)} (h0 : Nat) (t0 : T h0 = some (ty_po g0)) (x1 : Nat) (t1 : is_li T x1) (x2 : Int32) (x3 : Int32) :
    Met l y_Po_objectionTo (Cond.code y_Po_objectionTo b_Po_objectionTo 8 (some .int) :: wg) { frames := 3, cells := 0, slots := 0, locals := 70 } (va_Pc [.ref h0, .ref x1, .int (x2), .int (x3)] (sm_P D cl_all (ty_s ca) ek L f0 sz)) (sm_Qi D (ty_s ca) L f0 sz (fun r u => (∀ (ar ob : Nat), po_as f0 h0 ar → li_os f0 x1 ob → ob ≤ 3 → r = 0 → (x2 = 102 ∨ x2 = 45 ∨ x2 = 46 ∨ x2 = 50) → ∃ (j : Nat) (q : Int32 × Int32), g0[j]? = some q ∧ fp_of g0 (rw_nm f0 ar x3 ob 0) = nI j ∧ (x2 = 102 → q.2.toInt ≤ 6)) ∧ u = (L, f0))) 0 0 (va_A (va_pl L f0) sz) := by
  refine sm_start (by decide) (Nat.le_of_ble_eq_true rfl) ?_
  intro p e s m below meth c ls hx hb hml hr hlk hnm hts hown hsz hE hI hl
  have hl : lv_has ls 8 [(0, .ref h0), (1, .ref x1), (2, .int (x2)), (3, .int (x3))] := hl
  have hg := po_len hT t0
  refine lv_aload_n hx hb d_Po_objectionTo_0 rfl (lv_at hl 0 rfl) ?_
  refine fd_Po_asked hx hb hts hown hI hT t0 (hts _ tw_375) (fun _ h9 => h9) d_Po_objectionTo_1 (fun r_1 t_2 hd_3 => ?_)
  refine lv_iload_n hx hb d_Po_objectionTo_4 rfl (lv_at hl 3 rfl) ?_
  refine lv_aload_n hx hb d_Po_objectionTo_5 rfl (lv_at hl 1 rfl) ?_
  refine fd_Li_objectSize hx hb hts hown hI hT t1 (hts _ tw_162) (fun _ h9 => h9) d_Po_objectionTo_6 (fun n_4 t_5 hd_6 => ?_)
  refine sm_iP hI (va_runV (As := [.int (x3), .int (nI n_4)]) (rest := []) ⟨hx, hb, hml, hown, hts⟩ (c_Br_number l D ca _ _ _ _ hT r_1 t_2 x3 (n_4) (by omega)) (kv_Br_number hts rfl rfl (hts _ tw_940) ⟨Nat.le_of_ble_eq_true rfl, Nat.le_of_ble_eq_true rfl⟩) (pv_Br hI hE hT t_2) rfl rfl hl.1 rfl (lv_room (Nat.le_of_ble_eq_true rfl)) d_Po_objectionTo_9 ⟨Nat.le_of_ble_eq_true rfl, Nat.le_of_ble_eq_true rfl⟩) (fun x_7 H locs p_8 hI => ?_)
  refine lv_istore (lv' := [(4, .int (x_7)), (0, .ref h0), (1, .ref x1), (2, .int (x2)), (3, .int (x3))]) hx hb d_Po_objectionTo_12 hl (by decide) rfl (fun ls hl => ?_)
  refine lv_aload_n hx hb d_Po_objectionTo_14 rfl (lv_at hl 1 rfl) ?_
  refine lv_iload hx hb d_Po_objectionTo_15 (lv_at hl 0 rfl) ?_
  refine sm_iP hI (va_runV (As := [.int (x_7)]) (rest := []) ⟨hx, hb, hml, hown, hts⟩ (c_Po_findPoint l D ca _ _ _ _ hT h0 t0 x_7) (kv_Po_findPoint hts rfl rfl (hts _ tw_493) ⟨Nat.le_of_ble_eq_true rfl, Nat.le_of_ble_eq_true rfl⟩) (pv_Po hI hE hT t0) rfl rfl hl.1 rfl (lv_room (Nat.le_of_ble_eq_true rfl)) d_Po_objectionTo_17 ⟨Nat.le_of_ble_eq_true rfl, Nat.le_of_ble_eq_true rfl⟩) (fun x_9 H locs p_10 hI => ?_)
  rcases fp_cases g0 x_7 with z_13 | ⟨j_11, z_13, h_12⟩
  · rw [z_13] at p_10
    subst p_10
    refine lv_istore (lv' := [(5, .int (-1)), (4, .int (x_7)), (0, .ref h0), (1, .ref x1), (2, .int (x2)), (3, .int (x3))]) hx hb d_Po_objectionTo_20 hl (by decide) rfl (fun ls hl => ?_)
    refine lv_iload_n hx hb d_Po_objectionTo_22 rfl (lv_at hl 4 rfl) ?_
    refine lv_aload_n hx hb d_Po_objectionTo_23 rfl (lv_at hl 2 rfl) ?_
    refine fd_Po_asked hx hb hts hown hI hT t0 (hts _ tw_375) (fun _ h9 => h9) d_Po_objectionTo_24 (fun r_14 t_15 hd_16 => ?_)
    refine lv_iconst (v := 2) hx hb d_Po_objectionTo_27 (by decide) ?_
    refine sm_iP hI (va_runV (As := [.int (2)]) (rest := [.int (x2)]) ⟨hx, hb, hml, hown, hts⟩ (c_Br_at l D ca _ _ _ _ hT r_14 t_15 2) (kv_Br_at hts rfl rfl (hts _ tw_697) ⟨Nat.le_of_ble_eq_true rfl, Nat.le_of_ble_eq_true rfl⟩) (pv_Br hI hE hT t_15) rfl rfl hl.1 rfl (lv_room (Nat.le_of_ble_eq_true rfl)) d_Po_objectionTo_28 ⟨Nat.le_of_ble_eq_true rfl, Nat.le_of_ble_eq_true rfl⟩) (fun x_17 H locs p_18 hI => ?_)
    refine lv_bipush (v := 63) hx hb d_Po_objectionTo_31 (by decide) ?_
    refine lv_iand hx hb d_Po_objectionTo_33 ?_
    refine lv_topi (fun x_19 e_20 => ?_)
    refine sm_iP hI (va_runS (As := [.int (x2), .int (x_19)]) (rest := []) ⟨hx, hb, hml, hown, hts⟩ (c_Po_mayHaveCause l D ca _ _ _ _ hT x2 x_19) (ks_Po_mayHaveCause hts rfl rfl (hts _ tw_948) ⟨Nat.le_of_ble_eq_true rfl, Nat.le_of_ble_eq_true rfl⟩) (sm_preS hI hE) rfl rfl hl.1 rfl (lv_room (Nat.le_of_ble_eq_true rfl)) d_Po_objectionTo_34 ⟨Nat.le_of_ble_eq_true rfl, Nat.le_of_ble_eq_true rfl⟩) (fun x_21 H locs p_22 hI => ?_)
    refine lv_if_ne (tgt := 43) hx hb d_Po_objectionTo_37 (by decide) (fun c_23 => ?_) (fun c_23 => ?_)
    · refine lv_aload_n hx hb d_Po_objectionTo_43 rfl (lv_at hl 2 rfl) ?_
      refine lv_aload_n hx hb d_Po_objectionTo_44 rfl (lv_at hl 3 rfl) ?_
      refine lv_iload_n hx hb d_Po_objectionTo_45 rfl (lv_at hl 4 rfl) ?_
      refine sm_iP hI (va_runV (As := [.ref x1, .int (x2)]) (rest := []) ⟨hx, hb, hml, hown, hts⟩ (c_Po_isForStation l D ca _ _ _ _ hT h0 t0 x1 t1 x2) (kv_Po_isForStation hts rfl rfl (hts _ tw_954) ⟨Nat.le_of_ble_eq_true rfl, Nat.le_of_ble_eq_true rfl⟩) (pv_Po hI hE hT t0) rfl rfl hl.1 rfl (lv_room (Nat.le_of_ble_eq_true rfl)) d_Po_objectionTo_46 ⟨Nat.le_of_ble_eq_true rfl, Nat.le_of_ble_eq_true rfl⟩) (fun x_24 H locs p_25 hI => ?_)
      refine lv_if_ne (tgt := 55) hx hb d_Po_objectionTo_49 (by decide) (fun c_26 => ?_) (fun c_26 => ?_)
      · refine lv_iload_n hx hb d_Po_objectionTo_55 rfl (lv_at hl 4 rfl) ?_
        refine lv_bipush (v := 102) hx hb d_Po_objectionTo_56 (by decide) ?_
        refine lv_icmp_eq (tgt := 68) hx hb d_Po_objectionTo_58 (by decide) (fun c_27 => ?_) (fun c_27 => ?_)
        · refine lv_iconst (v := 1) hx hb d_Po_objectionTo_68 (by decide) ?_
          refine lv_goto (tgt := 73) hx hb d_Po_objectionTo_69 (by decide) ?_
          refine lv_istore (lv' := [(6, .int (1)), (5, .int (-1)), (4, .int (x_7)), (0, .ref h0), (1, .ref x1), (2, .int (x2)), (3, .int (x3))]) hx hb d_Po_objectionTo_73 hl (by decide) rfl (fun ls hl => ?_)
          refine lv_iload hx hb d_Po_objectionTo_75 (lv_at hl 0 rfl) ?_
          refine lv_if_eq (tgt := 107) hx hb d_Po_objectionTo_77 (by decide) (fun c_28 => ?_) (fun c_28 => ?_)
          · exact absurd c_28 (by decide)
          · refine lv_iload hx hb d_Po_objectionTo_80 (lv_at hl 1 rfl) ?_
            refine lv_if_lt (tgt := 103) hx hb d_Po_objectionTo_82 (by decide) (fun c_29 => ?_) (fun c_29 => ?_)
            · refine lv_iconst (v := 0) hx hb d_Po_objectionTo_103 (by decide) ?_
              refine lv_goto (tgt := 117) hx hb d_Po_objectionTo_104 (by decide) ?_
              refine lv_istore (lv' := [(7, .int (0)), (6, .int (1)), (5, .int (-1)), (4, .int (x_7)), (0, .ref h0), (1, .ref x1), (2, .int (x2)), (3, .int (x3))]) hx hb d_Po_objectionTo_117 hl (by decide) rfl (fun ls hl => ?_)
              refine lv_iload hx hb d_Po_objectionTo_119 (lv_at hl 0 rfl) ?_
              refine lv_if_eq (tgt := 128) hx hb d_Po_objectionTo_121 (by decide) (fun c_30 => ?_) (fun c_30 => ?_)
              · refine lv_bipush (v := 47) hx hb d_Po_objectionTo_128 (by decide) ?_
                exact sm_iret hx hb hr hlk hI ⟨(fun _ _ _ _ _ h => absurd h (by decide)), rfl⟩ d_Po_objectionTo_130
              · exact absurd c_30 (by decide)
            · exact absurd c_29 (by decide)
        · refine lv_iload_n hx hb d_Po_objectionTo_61 rfl (lv_at hl 4 rfl) ?_
          refine sm_iP hI (va_runS (As := [.int (x2)]) (rest := []) ⟨hx, hb, hml, hown, hts⟩ (c_Po_isCommandType l D ca _ _ _ _ hT x2) (ks_Po_isCommandType hts rfl rfl (hts _ tw_951) ⟨Nat.le_of_ble_eq_true rfl, Nat.le_of_ble_eq_true rfl⟩) (sm_preS hI hE) rfl rfl hl.1 rfl (lv_room (Nat.le_of_ble_eq_true rfl)) d_Po_objectionTo_62 ⟨Nat.le_of_ble_eq_true rfl, Nat.le_of_ble_eq_true rfl⟩) (fun x_31 H locs p_32 hI => ?_)
          refine lv_if_eq (tgt := 72) hx hb d_Po_objectionTo_65 (by decide) (fun c_33 => ?_) (fun c_33 => ?_)
          · refine lv_iconst (v := 0) hx hb d_Po_objectionTo_72 (by decide) ?_
            refine lv_istore (lv' := [(6, .int (0)), (5, .int (-1)), (4, .int (x_7)), (0, .ref h0), (1, .ref x1), (2, .int (x2)), (3, .int (x3))]) hx hb d_Po_objectionTo_73 hl (by decide) rfl (fun ls hl => ?_)
            refine lv_iload hx hb d_Po_objectionTo_75 (lv_at hl 0 rfl) ?_
            refine lv_if_eq (tgt := 107) hx hb d_Po_objectionTo_77 (by decide) (fun c_34 => ?_) (fun c_34 => ?_)
            · refine lv_iload hx hb d_Po_objectionTo_107 (lv_at hl 2 rfl) ?_
              refine lv_if_ne (tgt := 116) hx hb d_Po_objectionTo_109 (by decide) (fun c_35 => ?_) (fun c_35 => ?_)
              · refine lv_iconst (v := 0) hx hb d_Po_objectionTo_116 (by decide) ?_
                refine lv_istore (lv' := [(7, .int (0)), (6, .int (0)), (5, .int (-1)), (4, .int (x_7)), (0, .ref h0), (1, .ref x1), (2, .int (x2)), (3, .int (x3))]) hx hb d_Po_objectionTo_117 hl (by decide) rfl (fun ls hl => ?_)
                refine lv_iload hx hb d_Po_objectionTo_119 (lv_at hl 0 rfl) ?_
                refine lv_if_eq (tgt := 128) hx hb d_Po_objectionTo_121 (by decide) (fun c_36 => ?_) (fun c_36 => ?_)
                · refine lv_bipush (v := 47) hx hb d_Po_objectionTo_128 (by decide) ?_
                  exact sm_iret hx hb hr hlk hI ⟨(fun _ _ _ _ _ h => absurd h (by decide)), rfl⟩ d_Po_objectionTo_130
                · exact absurd c_36 (by decide)
              · refine lv_iconst (v := 1) hx hb d_Po_objectionTo_112 (by decide) ?_
                refine lv_goto (tgt := 117) hx hb d_Po_objectionTo_113 (by decide) ?_
                refine lv_istore (lv' := [(7, .int (1)), (6, .int (0)), (5, .int (-1)), (4, .int (x_7)), (0, .ref h0), (1, .ref x1), (2, .int (x2)), (3, .int (x3))]) hx hb d_Po_objectionTo_117 hl (by decide) rfl (fun ls hl => ?_)
                refine lv_iload hx hb d_Po_objectionTo_119 (lv_at hl 0 rfl) ?_
                refine lv_if_eq (tgt := 128) hx hb d_Po_objectionTo_121 (by decide) (fun c_37 => ?_) (fun c_37 => ?_)
                · exact absurd c_37 (by decide)
                · refine lv_iconst (v := 0) hx hb d_Po_objectionTo_124 (by decide) ?_
                  refine lv_goto (tgt := 130) hx hb d_Po_objectionTo_125 (by decide) ?_
                  exact sm_iret hx hb hr hlk hI ⟨(fun _ _ _ _ _ _ h => (h.elim c_27 (fun h => absurd (p_32.2.mpr h) (by rw [c_33]; decide))).elim), rfl⟩ d_Po_objectionTo_130
            · exact absurd c_34 (by decide)
          · refine lv_iconst (v := 1) hx hb d_Po_objectionTo_68 (by decide) ?_
            refine lv_goto (tgt := 73) hx hb d_Po_objectionTo_69 (by decide) ?_
            refine lv_istore (lv' := [(6, .int (1)), (5, .int (-1)), (4, .int (x_7)), (0, .ref h0), (1, .ref x1), (2, .int (x2)), (3, .int (x3))]) hx hb d_Po_objectionTo_73 hl (by decide) rfl (fun ls hl => ?_)
            refine lv_iload hx hb d_Po_objectionTo_75 (lv_at hl 0 rfl) ?_
            refine lv_if_eq (tgt := 107) hx hb d_Po_objectionTo_77 (by decide) (fun c_38 => ?_) (fun c_38 => ?_)
            · exact absurd c_38 (by decide)
            · refine lv_iload hx hb d_Po_objectionTo_80 (lv_at hl 1 rfl) ?_
              refine lv_if_lt (tgt := 103) hx hb d_Po_objectionTo_82 (by decide) (fun c_39 => ?_) (fun c_39 => ?_)
              · refine lv_iconst (v := 0) hx hb d_Po_objectionTo_103 (by decide) ?_
                refine lv_goto (tgt := 117) hx hb d_Po_objectionTo_104 (by decide) ?_
                refine lv_istore (lv' := [(7, .int (0)), (6, .int (1)), (5, .int (-1)), (4, .int (x_7)), (0, .ref h0), (1, .ref x1), (2, .int (x2)), (3, .int (x3))]) hx hb d_Po_objectionTo_117 hl (by decide) rfl (fun ls hl => ?_)
                refine lv_iload hx hb d_Po_objectionTo_119 (lv_at hl 0 rfl) ?_
                refine lv_if_eq (tgt := 128) hx hb d_Po_objectionTo_121 (by decide) (fun c_40 => ?_) (fun c_40 => ?_)
                · refine lv_bipush (v := 47) hx hb d_Po_objectionTo_128 (by decide) ?_
                  exact sm_iret hx hb hr hlk hI ⟨(fun _ _ _ _ _ h => absurd h (by decide)), rfl⟩ d_Po_objectionTo_130
                · exact absurd c_40 (by decide)
              · exact absurd c_39 (by decide)
      · refine lv_bipush (v := 46) hx hb d_Po_objectionTo_52 (by decide) ?_
        exact sm_iret hx hb hr hlk hI ⟨(fun _ _ _ _ _ h => absurd h (by decide)), rfl⟩ d_Po_objectionTo_54
    · refine lv_bipush (v := 45) hx hb d_Po_objectionTo_40 (by decide) ?_
      exact sm_iret hx hb hr hlk hI ⟨(fun _ _ _ _ _ h => absurd h (by decide)), rfl⟩ d_Po_objectionTo_42
  · rw [z_13] at p_10
    subst p_10
    refine lv_istore (lv' := [(5, .int (nI j_11)), (4, .int (x_7)), (0, .ref h0), (1, .ref x1), (2, .int (x2)), (3, .int (x3))]) hx hb d_Po_objectionTo_20 hl (by decide) rfl (fun ls hl => ?_)
    refine lv_iload_n hx hb d_Po_objectionTo_22 rfl (lv_at hl 4 rfl) ?_
    refine lv_aload_n hx hb d_Po_objectionTo_23 rfl (lv_at hl 2 rfl) ?_
    refine fd_Po_asked hx hb hts hown hI hT t0 (hts _ tw_375) (fun _ h9 => h9) d_Po_objectionTo_24 (fun r_41 t_42 hd_43 => ?_)
    refine lv_iconst (v := 2) hx hb d_Po_objectionTo_27 (by decide) ?_
    refine sm_iP hI (va_runV (As := [.int (2)]) (rest := [.int (x2)]) ⟨hx, hb, hml, hown, hts⟩ (c_Br_at l D ca _ _ _ _ hT r_41 t_42 2) (kv_Br_at hts rfl rfl (hts _ tw_697) ⟨Nat.le_of_ble_eq_true rfl, Nat.le_of_ble_eq_true rfl⟩) (pv_Br hI hE hT t_42) rfl rfl hl.1 rfl (lv_room (Nat.le_of_ble_eq_true rfl)) d_Po_objectionTo_28 ⟨Nat.le_of_ble_eq_true rfl, Nat.le_of_ble_eq_true rfl⟩) (fun x_44 H locs p_45 hI => ?_)
    refine lv_bipush (v := 63) hx hb d_Po_objectionTo_31 (by decide) ?_
    refine lv_iand hx hb d_Po_objectionTo_33 ?_
    refine lv_topi (fun x_46 e_47 => ?_)
    refine sm_iP hI (va_runS (As := [.int (x2), .int (x_46)]) (rest := []) ⟨hx, hb, hml, hown, hts⟩ (c_Po_mayHaveCause l D ca _ _ _ _ hT x2 x_46) (ks_Po_mayHaveCause hts rfl rfl (hts _ tw_948) ⟨Nat.le_of_ble_eq_true rfl, Nat.le_of_ble_eq_true rfl⟩) (sm_preS hI hE) rfl rfl hl.1 rfl (lv_room (Nat.le_of_ble_eq_true rfl)) d_Po_objectionTo_34 ⟨Nat.le_of_ble_eq_true rfl, Nat.le_of_ble_eq_true rfl⟩) (fun x_48 H locs p_49 hI => ?_)
    refine lv_if_ne (tgt := 43) hx hb d_Po_objectionTo_37 (by decide) (fun c_50 => ?_) (fun c_50 => ?_)
    · refine lv_aload_n hx hb d_Po_objectionTo_43 rfl (lv_at hl 2 rfl) ?_
      refine lv_aload_n hx hb d_Po_objectionTo_44 rfl (lv_at hl 3 rfl) ?_
      refine lv_iload_n hx hb d_Po_objectionTo_45 rfl (lv_at hl 4 rfl) ?_
      refine sm_iP hI (va_runV (As := [.ref x1, .int (x2)]) (rest := []) ⟨hx, hb, hml, hown, hts⟩ (c_Po_isForStation l D ca _ _ _ _ hT h0 t0 x1 t1 x2) (kv_Po_isForStation hts rfl rfl (hts _ tw_954) ⟨Nat.le_of_ble_eq_true rfl, Nat.le_of_ble_eq_true rfl⟩) (pv_Po hI hE hT t0) rfl rfl hl.1 rfl (lv_room (Nat.le_of_ble_eq_true rfl)) d_Po_objectionTo_46 ⟨Nat.le_of_ble_eq_true rfl, Nat.le_of_ble_eq_true rfl⟩) (fun x_51 H locs p_52 hI => ?_)
      refine lv_if_ne (tgt := 55) hx hb d_Po_objectionTo_49 (by decide) (fun c_53 => ?_) (fun c_53 => ?_)
      · refine lv_iload_n hx hb d_Po_objectionTo_55 rfl (lv_at hl 4 rfl) ?_
        refine lv_bipush (v := 102) hx hb d_Po_objectionTo_56 (by decide) ?_
        refine lv_icmp_eq (tgt := 68) hx hb d_Po_objectionTo_58 (by decide) (fun c_54 => ?_) (fun c_54 => ?_)
        · refine lv_iconst (v := 1) hx hb d_Po_objectionTo_68 (by decide) ?_
          refine lv_goto (tgt := 73) hx hb d_Po_objectionTo_69 (by decide) ?_
          refine lv_istore (lv' := [(6, .int (1)), (5, .int (nI j_11)), (4, .int (x_7)), (0, .ref h0), (1, .ref x1), (2, .int (x2)), (3, .int (x3))]) hx hb d_Po_objectionTo_73 hl (by decide) rfl (fun ls hl => ?_)
          refine lv_iload hx hb d_Po_objectionTo_75 (lv_at hl 0 rfl) ?_
          refine lv_if_eq (tgt := 107) hx hb d_Po_objectionTo_77 (by decide) (fun c_55 => ?_) (fun c_55 => ?_)
          · exact absurd c_55 (by decide)
          · refine lv_iload hx hb d_Po_objectionTo_80 (lv_at hl 1 rfl) ?_
            refine lv_if_lt (tgt := 103) hx hb d_Po_objectionTo_82 (by decide) (fun c_56 => ?_) (fun c_56 => ?_)
            · exact absurd c_56 (nI_pos (by omega))
            · refine lv_aload_n hx hb d_Po_objectionTo_85 rfl (lv_at hl 3 rfl) ?_
              refine fg_Po_points hx hb hts hown hI hT t0 (hts _ tw_363) (fun _ h9 => h9) d_Po_objectionTo_86 (fun r_58 t_59 => ?_)
              refine lv_iload hx hb d_Po_objectionTo_89 (lv_at hl 1 rfl) ?_
              obtain ⟨q_60, h_61⟩ : ∃ z, g0[j_11]? = some z := ⟨_, List.getElem?_eq_getElem (by omega)⟩
              refine fa_pts (j := j_11) hx hb hI hT t_59 h_61 (by omega) d_Po_objectionTo_91 (fun r_62 t_63 => ?_)
              refine lv_iload_n hx hb d_Po_objectionTo_92 rfl (lv_at hl 5 rfl) ?_
              refine sm_iP hI (va_runV (As := [.int (x2)]) (rest := []) ⟨hx, hb, hml, hown, hts⟩ (c_Pt_fits l D ca _ _ _ _ hT r_62 t_63 x2) (kv_Pt_fits hts rfl rfl (hts _ tw_958) ⟨Nat.le_of_ble_eq_true rfl, Nat.le_of_ble_eq_true rfl⟩) (pv_Pt hI hE hT t_63) rfl rfl hl.1 rfl (lv_room (Nat.le_of_ble_eq_true rfl)) d_Po_objectionTo_93 ⟨Nat.le_of_ble_eq_true rfl, Nat.le_of_ble_eq_true rfl⟩) (fun x_64 H locs p_65 hI => ?_)
              refine lv_if_eq (tgt := 103) hx hb d_Po_objectionTo_96 (by decide) (fun c_66 => ?_) (fun c_66 => ?_)
              · refine lv_iconst (v := 0) hx hb d_Po_objectionTo_103 (by decide) ?_
                refine lv_goto (tgt := 117) hx hb d_Po_objectionTo_104 (by decide) ?_
                refine lv_istore (lv' := [(7, .int (0)), (6, .int (1)), (5, .int (nI j_11)), (4, .int (x_7)), (0, .ref h0), (1, .ref x1), (2, .int (x2)), (3, .int (x3))]) hx hb d_Po_objectionTo_117 hl (by decide) rfl (fun ls hl => ?_)
                refine lv_iload hx hb d_Po_objectionTo_119 (lv_at hl 0 rfl) ?_
                refine lv_if_eq (tgt := 128) hx hb d_Po_objectionTo_121 (by decide) (fun c_67 => ?_) (fun c_67 => ?_)
                · refine lv_bipush (v := 47) hx hb d_Po_objectionTo_128 (by decide) ?_
                  exact sm_iret hx hb hr hlk hI ⟨(fun _ _ _ _ _ h => absurd h (by decide)), rfl⟩ d_Po_objectionTo_130
                · exact absurd c_67 (by decide)
              · refine lv_iconst (v := 1) hx hb d_Po_objectionTo_99 (by decide) ?_
                refine lv_goto (tgt := 117) hx hb d_Po_objectionTo_100 (by decide) ?_
                refine lv_istore (lv' := [(7, .int (1)), (6, .int (1)), (5, .int (nI j_11)), (4, .int (x_7)), (0, .ref h0), (1, .ref x1), (2, .int (x2)), (3, .int (x3))]) hx hb d_Po_objectionTo_117 hl (by decide) rfl (fun ls hl => ?_)
                refine lv_iload hx hb d_Po_objectionTo_119 (lv_at hl 0 rfl) ?_
                refine lv_if_eq (tgt := 128) hx hb d_Po_objectionTo_121 (by decide) (fun c_68 => ?_) (fun c_68 => ?_)
                · exact absurd c_68 (by decide)
                · refine lv_iconst (v := 0) hx hb d_Po_objectionTo_124 (by decide) ?_
                  refine lv_goto (tgt := 130) hx hb d_Po_objectionTo_125 (by decide) ?_
                  exact sm_iret hx hb hr hlk hI ⟨(fun ar ob ha ho hob _ _ => by obtain rfl := po_as_un ha hd_3; obtain rfl := li_os_un ho hd_6 hob (by omega); exact ⟨j_11, q_60, h_61, p_8 ▸ z_13, fun h => p_65.2 (p_65.1.resolve_left c_66) h⟩), rfl⟩ d_Po_objectionTo_130
        · refine lv_iload_n hx hb d_Po_objectionTo_61 rfl (lv_at hl 4 rfl) ?_
          refine sm_iP hI (va_runS (As := [.int (x2)]) (rest := []) ⟨hx, hb, hml, hown, hts⟩ (c_Po_isCommandType l D ca _ _ _ _ hT x2) (ks_Po_isCommandType hts rfl rfl (hts _ tw_951) ⟨Nat.le_of_ble_eq_true rfl, Nat.le_of_ble_eq_true rfl⟩) (sm_preS hI hE) rfl rfl hl.1 rfl (lv_room (Nat.le_of_ble_eq_true rfl)) d_Po_objectionTo_62 ⟨Nat.le_of_ble_eq_true rfl, Nat.le_of_ble_eq_true rfl⟩) (fun x_69 H locs p_70 hI => ?_)
          refine lv_if_eq (tgt := 72) hx hb d_Po_objectionTo_65 (by decide) (fun c_71 => ?_) (fun c_71 => ?_)
          · refine lv_iconst (v := 0) hx hb d_Po_objectionTo_72 (by decide) ?_
            refine lv_istore (lv' := [(6, .int (0)), (5, .int (nI j_11)), (4, .int (x_7)), (0, .ref h0), (1, .ref x1), (2, .int (x2)), (3, .int (x3))]) hx hb d_Po_objectionTo_73 hl (by decide) rfl (fun ls hl => ?_)
            refine lv_iload hx hb d_Po_objectionTo_75 (lv_at hl 0 rfl) ?_
            refine lv_if_eq (tgt := 107) hx hb d_Po_objectionTo_77 (by decide) (fun c_72 => ?_) (fun c_72 => ?_)
            · refine lv_iload hx hb d_Po_objectionTo_107 (lv_at hl 2 rfl) ?_
              refine lv_if_ne (tgt := 116) hx hb d_Po_objectionTo_109 (by decide) (fun c_73 => ?_) (fun c_73 => ?_)
              · refine lv_iconst (v := 0) hx hb d_Po_objectionTo_116 (by decide) ?_
                refine lv_istore (lv' := [(7, .int (0)), (6, .int (0)), (5, .int (nI j_11)), (4, .int (x_7)), (0, .ref h0), (1, .ref x1), (2, .int (x2)), (3, .int (x3))]) hx hb d_Po_objectionTo_117 hl (by decide) rfl (fun ls hl => ?_)
                refine lv_iload hx hb d_Po_objectionTo_119 (lv_at hl 0 rfl) ?_
                refine lv_if_eq (tgt := 128) hx hb d_Po_objectionTo_121 (by decide) (fun c_74 => ?_) (fun c_74 => ?_)
                · refine lv_bipush (v := 47) hx hb d_Po_objectionTo_128 (by decide) ?_
                  exact sm_iret hx hb hr hlk hI ⟨(fun _ _ _ _ _ h => absurd h (by decide)), rfl⟩ d_Po_objectionTo_130
                · exact absurd c_74 (by decide)
              · refine lv_iconst (v := 1) hx hb d_Po_objectionTo_112 (by decide) ?_
                refine lv_goto (tgt := 117) hx hb d_Po_objectionTo_113 (by decide) ?_
                refine lv_istore (lv' := [(7, .int (1)), (6, .int (0)), (5, .int (nI j_11)), (4, .int (x_7)), (0, .ref h0), (1, .ref x1), (2, .int (x2)), (3, .int (x3))]) hx hb d_Po_objectionTo_117 hl (by decide) rfl (fun ls hl => ?_)
                refine lv_iload hx hb d_Po_objectionTo_119 (lv_at hl 0 rfl) ?_
                refine lv_if_eq (tgt := 128) hx hb d_Po_objectionTo_121 (by decide) (fun c_75 => ?_) (fun c_75 => ?_)
                · exact absurd c_75 (by decide)
                · refine lv_iconst (v := 0) hx hb d_Po_objectionTo_124 (by decide) ?_
                  refine lv_goto (tgt := 130) hx hb d_Po_objectionTo_125 (by decide) ?_
                  exact sm_iret hx hb hr hlk hI ⟨(fun _ _ _ _ _ _ h => (h.elim c_54 (fun h => absurd (p_70.2.mpr h) (by rw [c_71]; decide))).elim), rfl⟩ d_Po_objectionTo_130
            · exact absurd c_72 (by decide)
          · refine lv_iconst (v := 1) hx hb d_Po_objectionTo_68 (by decide) ?_
            refine lv_goto (tgt := 73) hx hb d_Po_objectionTo_69 (by decide) ?_
            refine lv_istore (lv' := [(6, .int (1)), (5, .int (nI j_11)), (4, .int (x_7)), (0, .ref h0), (1, .ref x1), (2, .int (x2)), (3, .int (x3))]) hx hb d_Po_objectionTo_73 hl (by decide) rfl (fun ls hl => ?_)
            refine lv_iload hx hb d_Po_objectionTo_75 (lv_at hl 0 rfl) ?_
            refine lv_if_eq (tgt := 107) hx hb d_Po_objectionTo_77 (by decide) (fun c_76 => ?_) (fun c_76 => ?_)
            · exact absurd c_76 (by decide)
            · refine lv_iload hx hb d_Po_objectionTo_80 (lv_at hl 1 rfl) ?_
              refine lv_if_lt (tgt := 103) hx hb d_Po_objectionTo_82 (by decide) (fun c_77 => ?_) (fun c_77 => ?_)
              · exact absurd c_77 (nI_pos (by omega))
              · refine lv_aload_n hx hb d_Po_objectionTo_85 rfl (lv_at hl 3 rfl) ?_
                refine fg_Po_points hx hb hts hown hI hT t0 (hts _ tw_363) (fun _ h9 => h9) d_Po_objectionTo_86 (fun r_79 t_80 => ?_)
                refine lv_iload hx hb d_Po_objectionTo_89 (lv_at hl 1 rfl) ?_
                obtain ⟨q_81, h_82⟩ : ∃ z, g0[j_11]? = some z := ⟨_, List.getElem?_eq_getElem (by omega)⟩
                refine fa_pts (j := j_11) hx hb hI hT t_80 h_82 (by omega) d_Po_objectionTo_91 (fun r_83 t_84 => ?_)
                refine lv_iload_n hx hb d_Po_objectionTo_92 rfl (lv_at hl 5 rfl) ?_
                refine sm_iP hI (va_runV (As := [.int (x2)]) (rest := []) ⟨hx, hb, hml, hown, hts⟩ (c_Pt_fits l D ca _ _ _ _ hT r_83 t_84 x2) (kv_Pt_fits hts rfl rfl (hts _ tw_958) ⟨Nat.le_of_ble_eq_true rfl, Nat.le_of_ble_eq_true rfl⟩) (pv_Pt hI hE hT t_84) rfl rfl hl.1 rfl (lv_room (Nat.le_of_ble_eq_true rfl)) d_Po_objectionTo_93 ⟨Nat.le_of_ble_eq_true rfl, Nat.le_of_ble_eq_true rfl⟩) (fun x_85 H locs p_86 hI => ?_)
                refine lv_if_eq (tgt := 103) hx hb d_Po_objectionTo_96 (by decide) (fun c_87 => ?_) (fun c_87 => ?_)
                · refine lv_iconst (v := 0) hx hb d_Po_objectionTo_103 (by decide) ?_
                  refine lv_goto (tgt := 117) hx hb d_Po_objectionTo_104 (by decide) ?_
                  refine lv_istore (lv' := [(7, .int (0)), (6, .int (1)), (5, .int (nI j_11)), (4, .int (x_7)), (0, .ref h0), (1, .ref x1), (2, .int (x2)), (3, .int (x3))]) hx hb d_Po_objectionTo_117 hl (by decide) rfl (fun ls hl => ?_)
                  refine lv_iload hx hb d_Po_objectionTo_119 (lv_at hl 0 rfl) ?_
                  refine lv_if_eq (tgt := 128) hx hb d_Po_objectionTo_121 (by decide) (fun c_88 => ?_) (fun c_88 => ?_)
                  · refine lv_bipush (v := 47) hx hb d_Po_objectionTo_128 (by decide) ?_
                    exact sm_iret hx hb hr hlk hI ⟨(fun _ _ _ _ _ h => absurd h (by decide)), rfl⟩ d_Po_objectionTo_130
                  · exact absurd c_88 (by decide)
                · refine lv_iconst (v := 1) hx hb d_Po_objectionTo_99 (by decide) ?_
                  refine lv_goto (tgt := 117) hx hb d_Po_objectionTo_100 (by decide) ?_
                  refine lv_istore (lv' := [(7, .int (1)), (6, .int (1)), (5, .int (nI j_11)), (4, .int (x_7)), (0, .ref h0), (1, .ref x1), (2, .int (x2)), (3, .int (x3))]) hx hb d_Po_objectionTo_117 hl (by decide) rfl (fun ls hl => ?_)
                  refine lv_iload hx hb d_Po_objectionTo_119 (lv_at hl 0 rfl) ?_
                  refine lv_if_eq (tgt := 128) hx hb d_Po_objectionTo_121 (by decide) (fun c_89 => ?_) (fun c_89 => ?_)
                  · exact absurd c_89 (by decide)
                  · refine lv_iconst (v := 0) hx hb d_Po_objectionTo_124 (by decide) ?_
                    refine lv_goto (tgt := 130) hx hb d_Po_objectionTo_125 (by decide) ?_
                    exact sm_iret hx hb hr hlk hI ⟨(fun ar ob ha ho hob _ _ => by obtain rfl := po_as_un ha hd_3; obtain rfl := li_os_un ho hd_6 hob (by omega); exact ⟨j_11, q_81, h_82, p_8 ▸ z_13, fun h => p_86.2 (p_86.1.resolve_left c_87) h⟩), rfl⟩ d_Po_objectionTo_130
      · refine lv_bipush (v := 46) hx hb d_Po_objectionTo_52 (by decide) ?_
        exact sm_iret hx hb hr hlk hI ⟨(fun _ _ _ _ _ h => absurd h (by decide)), rfl⟩ d_Po_objectionTo_54
    · refine lv_bipush (v := 45) hx hb d_Po_objectionTo_40 (by decide) ?_
      exact sm_iret hx hb hr hlk hI ⟨(fun _ _ _ _ _ h => absurd h (by decide)), rfl⟩ d_Po_objectionTo_42
theorem d_Po_ask_0 : decode b_Po_ask 0 = .ok (.iconst 2, 1) := by decide +kernel
theorem d_Po_ask_1 : decode b_Po_ask 1 = .ok (.aload_n 1, 1) := by decide +kernel
theorem d_Po_ask_2 : decode b_Po_ask 2 = .ok (.getfield 517, 3) := by decide +kernel
theorem d_Po_ask_5 : decode b_Po_ask 5 = .ok (.iadd, 1) := by decide +kernel
theorem d_Po_ask_6 : decode b_Po_ask 6 = .ok (.aload_n 1, 1) := by decide +kernel
theorem d_Po_ask_7 : decode b_Po_ask 7 = .ok (.getfield 520, 3) := by decide +kernel
theorem d_Po_ask_10 : decode b_Po_ask 10 = .ok (.iadd, 1) := by decide +kernel
theorem d_Po_ask_11 : decode b_Po_ask 11 = .ok (.istore_n 2, 1) := by decide +kernel
theorem d_Po_ask_12 : decode b_Po_ask 12 = .ok (.aload_n 0, 1) := by decide +kernel
theorem d_Po_ask_13 : decode b_Po_ask 13 = .ok (.getfield 53, 3) := by decide +kernel
theorem d_Po_ask_16 : decode b_Po_ask 16 = .ok (.iconst 0, 1) := by decide +kernel
theorem d_Po_ask_17 : decode b_Po_ask 17 = .ok (.invokevirtual 216, 3) := by decide +kernel
theorem d_Po_ask_20 : decode b_Po_ask 20 = .ok (.istore_n 3, 1) := by decide +kernel
theorem d_Po_ask_21 : decode b_Po_ask 21 = .ok (.iload_n 3, 1) := by decide +kernel
theorem d_Po_ask_22 : decode b_Po_ask 22 = .ok (.invokestatic 576, 3) := by decide +kernel
theorem d_Po_ask_25 : decode b_Po_ask 25 = .ok (.istore 4, 2) := by decide +kernel
theorem d_Po_ask_27 : decode b_Po_ask 27 = .ok (.aload_n 0, 1) := by decide +kernel
theorem d_Po_ask_28 : decode b_Po_ask 28 = .ok (.getfield 53, 3) := by decide +kernel
theorem d_Po_ask_31 : decode b_Po_ask 31 = .ok (.iconst 1, 1) := by decide +kernel
theorem d_Po_ask_32 : decode b_Po_ask 32 = .ok (.invokevirtual 216, 3) := by decide +kernel
theorem d_Po_ask_35 : decode b_Po_ask 35 = .ok (.iconst 1, 1) := by decide +kernel
theorem d_Po_ask_36 : decode b_Po_ask 36 = .ok (.if_icmp .ne 26, 3) := by decide +kernel
theorem d_Po_ask_39 : decode b_Po_ask 39 = .ok (.aload_n 0, 1) := by decide +kernel
theorem d_Po_ask_40 : decode b_Po_ask 40 = .ok (.getfield 53, 3) := by decide +kernel
theorem d_Po_ask_43 : decode b_Po_ask 43 = .ok (.getfield 207, 3) := by decide +kernel
theorem d_Po_ask_46 : decode b_Po_ask 46 = .ok (.iload_n 2, 1) := by decide +kernel
theorem d_Po_ask_47 : decode b_Po_ask 47 = .ok (.aload_n 1, 1) := by decide +kernel
theorem d_Po_ask_48 : decode b_Po_ask 48 = .ok (.getfield 467, 3) := by decide +kernel
theorem d_Po_ask_51 : decode b_Po_ask 51 = .ok (.iadd, 1) := by decide +kernel
theorem d_Po_ask_52 : decode b_Po_ask 52 = .ok (.iload 4, 2) := by decide +kernel
theorem d_Po_ask_54 : decode b_Po_ask 54 = .ok (.iadd, 1) := by decide +kernel
theorem d_Po_ask_55 : decode b_Po_ask 55 = .ok (.if_icmp .ne 7, 3) := by decide +kernel
theorem d_Po_ask_58 : decode b_Po_ask 58 = .ok (.iconst 1, 1) := by decide +kernel
theorem d_Po_ask_59 : decode b_Po_ask 59 = .ok (.goto 4, 3) := by decide +kernel
theorem d_Po_ask_62 : decode b_Po_ask 62 = .ok (.iconst 0, 1) := by decide +kernel
theorem d_Po_ask_63 : decode b_Po_ask 63 = .ok (.istore 5, 2) := by decide +kernel
theorem d_Po_ask_65 : decode b_Po_ask 65 = .ok (.aload_n 0, 1) := by decide +kernel
theorem d_Po_ask_66 : decode b_Po_ask 66 = .ok (.getfield 53, 3) := by decide +kernel
theorem d_Po_ask_69 : decode b_Po_ask 69 = .ok (.getfield 207, 3) := by decide +kernel
theorem d_Po_ask_72 : decode b_Po_ask 72 = .ok (.iload_n 2, 1) := by decide +kernel
theorem d_Po_ask_73 : decode b_Po_ask 73 = .ok (.if_icmp .lt 13, 3) := by decide +kernel
theorem d_Po_ask_76 : decode b_Po_ask 76 = .ok (.iload 4, 2) := by decide +kernel
theorem d_Po_ask_78 : decode b_Po_ask 78 = .ok (.ifCond .lt 14, 3) := by decide +kernel
theorem d_Po_ask_81 : decode b_Po_ask 81 = .ok (.iload 5, 2) := by decide +kernel
theorem d_Po_ask_83 : decode b_Po_ask 83 = .ok (.ifCond .ne 9, 3) := by decide +kernel
theorem d_Po_ask_86 : decode b_Po_ask 86 = .ok (.aload_n 0, 1) := by decide +kernel
theorem d_Po_ask_87 : decode b_Po_ask 87 = .ok (.aload_n 1, 1) := by decide +kernel
theorem d_Po_ask_88 : decode b_Po_ask 88 = .ok (.invokevirtual 191, 3) := by decide +kernel
theorem d_Po_ask_91 : decode b_Po_ask 91 = .ok (.return_, 1) := by decide +kernel
theorem d_Po_ask_92 : decode b_Po_ask 92 = .ok (.aload_n 0, 1) := by decide +kernel
theorem d_Po_ask_93 : decode b_Po_ask 93 = .ok (.aload_n 0, 1) := by decide +kernel
theorem d_Po_ask_94 : decode b_Po_ask 94 = .ok (.getfield 53, 3) := by decide +kernel
theorem d_Po_ask_97 : decode b_Po_ask 97 = .ok (.iload_n 2, 1) := by decide +kernel
theorem d_Po_ask_98 : decode b_Po_ask 98 = .ok (.aload_n 1, 1) := by decide +kernel
theorem d_Po_ask_99 : decode b_Po_ask 99 = .ok (.getfield 467, 3) := by decide +kernel
theorem d_Po_ask_102 : decode b_Po_ask 102 = .ok (.invokevirtual 377, 3) := by decide +kernel
theorem d_Po_ask_105 : decode b_Po_ask 105 = .ok (.invokevirtual 80, 3) := by decide +kernel
theorem d_Po_ask_108 : decode b_Po_ask 108 = .ok (.istore 6, 2) := by decide +kernel
theorem d_Po_ask_110 : decode b_Po_ask 110 = .ok (.iload 4, 2) := by decide +kernel
theorem d_Po_ask_112 : decode b_Po_ask 112 = .ok (.ifCond .ge 8, 3) := by decide +kernel
theorem d_Po_ask_115 : decode b_Po_ask 115 = .ok (.bipush 44, 2) := by decide +kernel
theorem d_Po_ask_117 : decode b_Po_ask 117 = .ok (.goto 10, 3) := by decide +kernel
theorem d_Po_ask_120 : decode b_Po_ask 120 = .ok (.aload_n 0, 1) := by decide +kernel
theorem d_Po_ask_121 : decode b_Po_ask 121 = .ok (.aload_n 1, 1) := by decide +kernel
theorem d_Po_ask_122 : decode b_Po_ask 122 = .ok (.iload_n 3, 1) := by decide +kernel
theorem d_Po_ask_123 : decode b_Po_ask 123 = .ok (.iload_n 2, 1) := by decide +kernel
theorem d_Po_ask_124 : decode b_Po_ask 124 = .ok (.invokevirtual 579, 3) := by decide +kernel
theorem d_Po_ask_127 : decode b_Po_ask 127 = .ok (.istore 7, 2) := by decide +kernel
theorem d_Po_ask_129 : decode b_Po_ask 129 = .ok (.iload 7, 2) := by decide +kernel
theorem d_Po_ask_131 : decode b_Po_ask 131 = .ok (.ifCond .eq 21, 3) := by decide +kernel
theorem d_Po_ask_134 : decode b_Po_ask 134 = .ok (.aload_n 0, 1) := by decide +kernel
theorem d_Po_ask_135 : decode b_Po_ask 135 = .ok (.aload_n 1, 1) := by decide +kernel
theorem d_Po_ask_136 : decode b_Po_ask 136 = .ok (.aload_n 0, 1) := by decide +kernel
theorem d_Po_ask_137 : decode b_Po_ask 137 = .ok (.getfield 53, 3) := by decide +kernel
theorem d_Po_ask_140 : decode b_Po_ask 140 = .ok (.iload 7, 2) := by decide +kernel
theorem d_Po_ask_142 : decode b_Po_ask 142 = .ok (.bipush 64, 2) := by decide +kernel
theorem d_Po_ask_144 : decode b_Po_ask 144 = .ok (.ior, 1) := by decide +kernel
theorem d_Po_ask_145 : decode b_Po_ask 145 = .ok (.invokevirtual 239, 3) := by decide +kernel
theorem d_Po_ask_148 : decode b_Po_ask 148 = .ok (.pop, 1) := by decide +kernel
theorem d_Po_ask_149 : decode b_Po_ask 149 = .ok (.goto 59, 3) := by decide +kernel
theorem d_Po_ask_152 : decode b_Po_ask 152 = .ok (.iload_n 3, 1) := by decide +kernel
theorem d_Po_ask_153 : decode b_Po_ask 153 = .ok (.invokestatic 583, 3) := by decide +kernel
theorem d_Po_ask_156 : decode b_Po_ask 156 = .ok (.ifCond .eq 19, 3) := by decide +kernel
theorem d_Po_ask_159 : decode b_Po_ask 159 = .ok (.aload_n 0, 1) := by decide +kernel
theorem d_Po_ask_160 : decode b_Po_ask 160 = .ok (.aload_n 1, 1) := by decide +kernel
theorem d_Po_ask_161 : decode b_Po_ask 161 = .ok (.iload 6, 2) := by decide +kernel
theorem d_Po_ask_163 : decode b_Po_ask 163 = .ok (.iload_n 2, 1) := by decide +kernel
theorem d_Po_ask_164 : decode b_Po_ask 164 = .ok (.aload_n 1, 1) := by decide +kernel
theorem d_Po_ask_165 : decode b_Po_ask 165 = .ok (.getfield 467, 3) := by decide +kernel
theorem d_Po_ask_168 : decode b_Po_ask 168 = .ok (.iadd, 1) := by decide +kernel
theorem d_Po_ask_169 : decode b_Po_ask 169 = .ok (.invokevirtual 586, 3) := by decide +kernel
theorem d_Po_ask_172 : decode b_Po_ask 172 = .ok (.goto 36, 3) := by decide +kernel
theorem d_Po_ask_175 : decode b_Po_ask 175 = .ok (.iload_n 3, 1) := by decide +kernel
theorem d_Po_ask_176 : decode b_Po_ask 176 = .ok (.bipush 102, 2) := by decide +kernel
theorem d_Po_ask_178 : decode b_Po_ask 178 = .ok (.if_icmp .ne 18, 3) := by decide +kernel
theorem d_Po_ask_181 : decode b_Po_ask 181 = .ok (.aload_n 0, 1) := by decide +kernel
theorem d_Po_ask_182 : decode b_Po_ask 182 = .ok (.aload_n 1, 1) := by decide +kernel
theorem d_Po_ask_183 : decode b_Po_ask 183 = .ok (.aload_n 0, 1) := by decide +kernel
theorem d_Po_ask_184 : decode b_Po_ask 184 = .ok (.getfield 11, 3) := by decide +kernel
theorem d_Po_ask_187 : decode b_Po_ask 187 = .ok (.iload 6, 2) := by decide +kernel
theorem d_Po_ask_189 : decode b_Po_ask 189 = .ok (.aaload, 1) := by decide +kernel
theorem d_Po_ask_190 : decode b_Po_ask 190 = .ok (.invokevirtual 590, 3) := by decide +kernel
theorem d_Po_ask_193 : decode b_Po_ask 193 = .ok (.goto 15, 3) := by decide +kernel
theorem d_Po_ask_196 : decode b_Po_ask 196 = .ok (.aload_n 0, 1) := by decide +kernel
theorem d_Po_ask_197 : decode b_Po_ask 197 = .ok (.aload_n 1, 1) := by decide +kernel
theorem d_Po_ask_198 : decode b_Po_ask 198 = .ok (.iload_n 3, 1) := by decide +kernel
theorem d_Po_ask_199 : decode b_Po_ask 199 = .ok (.iload_n 2, 1) := by decide +kernel
theorem d_Po_ask_200 : decode b_Po_ask 200 = .ok (.aload_n 1, 1) := by decide +kernel
theorem d_Po_ask_201 : decode b_Po_ask 201 = .ok (.getfield 467, 3) := by decide +kernel
theorem d_Po_ask_204 : decode b_Po_ask 204 = .ok (.iadd, 1) := by decide +kernel
theorem d_Po_ask_205 : decode b_Po_ask 205 = .ok (.invokevirtual 594, 3) := by decide +kernel
theorem d_Po_ask_208 : decode b_Po_ask 208 = .ok (.aload_n 0, 1) := by decide +kernel
theorem d_Po_ask_209 : decode b_Po_ask 209 = .ok (.aload_n 1, 1) := by decide +kernel
theorem d_Po_ask_210 : decode b_Po_ask 210 = .ok (.invokevirtual 243, 3) := by decide +kernel
theorem d_Po_ask_213 : decode b_Po_ask 213 = .ok (.return_, 1) := by decide +kernel
set_option maxRecDepth 100000 in
set_option maxHeartbeats 4000000 in
theorem c_Po_ask (l : Launch) (D : va_G) (ca : Nat → ClassId) (T0 : ty_e) (L0 : List Nat) (f0 : Nat → va_E) (sz : Nat) (hT : ok_T ca T0 L0 f0) {g0 : List (Int32 × Int32)} (h0 : Nat) (t0 : T0 h0 = some (ty_po g0)) (x1 : Nat) (t1 : is_li T0 x1) :
    Met l y_Po_ask (Cond.code y_Po_ask b_Po_ask 8 none :: wg) { frames := 5, cells := 2, slots := 518, locals := 124 } (va_Pc [.ref h0, .ref x1] (sm_P D cl_all (ty_s ca) ek L0 f0 sz)) (sm_Qv D (ty_s ca) L0 f0 sz (fun u => po_a ca T0 (fun _ => True) u)) 2 518 (va_A (va_pl L0 f0) sz) := by
  refine sm_start (by decide) (Nat.le_of_ble_eq_true rfl) ?_
  intro p e s m below meth c ls hx hb hml hr hlk hnm hts hown hsz hE hI hl
  have hl : lv_has ls 8 [(0, .ref h0), (1, .ref x1)] := hl
  have hle : ty_le T0 T0 := ty_rf
  have hJ_208 : ∀ (T : ty_e) (L : List Nat) (H : Heap) (locs : List Loc) (f : Nat → va_E) (ls : Array Slot) (y2 : Int32) (y3 : Int32) (y4 : Int32) (y5 : Int32) (y6 : Int32) (y7 : Int32), ty_le T0 T → sw_I D cl_all (ty_s ca) (va_A (va_pl L0 f0) sz) s H locs L f → ok_T ca T L f → lv_has ls 8 [(0, .ref h0), (1, .ref x1), (2, .int (y2)), (3, .int (y3)), (4, .int (y4)), (5, .int (y5)), (6, .int (y6)), (7, .int (y7))] → (y5 = 0 ∨ y5 = 1) → W p l e { frames := 5, cells := 2, slots := 518, locals := 124 } s m ([.ref h0, .ref x1] : List Value).toArray below meth c H locs 2 518 (MQ below (sm_Qv D (ty_s ca) L0 f0 sz (fun u => po_a ca T0 (fun _ => True) u)) ([.ref h0, .ref x1] : List Value).toArray s 2 518 (va_A (va_pl L0 f0) sz)) (F0 m 208 ls []) := by
    intro T L H locs f ls y2 y3 y4 y5 y6 y7 hle hI hT hl py5
    have t0 := hle _ _ t0
    have t1 := li_up hle t1
    refine lv_aload_n hx hb d_Po_ask_208 rfl (lv_at hl 0 rfl) ?_
    refine lv_aload_n hx hb d_Po_ask_209 rfl (lv_at hl 1 rfl) ?_
    refine sm_v hI (va_runV (As := [.ref x1]) (rest := []) ⟨hx, hb, hml, hown, hts⟩ (c_Po_shutIfTooMany l D ca _ _ _ _ hT h0 t0 x1 t1) (kv_Po_shutIfTooMany hts rfl rfl (hts _ tw_1038) ⟨Nat.le_of_ble_eq_true rfl, Nat.le_of_ble_eq_true rfl⟩) (pv_Po hI hE hT t0) rfl rfl hl.1 rfl (lv_room (Nat.le_of_ble_eq_true rfl)) d_Po_ask_210 ⟨Nat.le_of_ble_eq_true rfl, Nat.le_of_ble_eq_true rfl⟩) (fun H locs f hI hT => ?_)
    refine W.widen (k := 2) (n := 518) (by decide) (by decide) ?_
    exact sm_vret hx hb hr hlk hI ⟨_, hle, hT, trivial⟩ d_Po_ask_213
  have hJ_92 : ∀ (T : ty_e) (L : List Nat) (H : Heap) (locs : List Loc) (f : Nat → va_E) (ls : Array Slot) (y2 : Int32) (y3 : Int32) (y4 : Int32) (y5 : Int32), ty_le T0 T → sw_I D cl_all (ty_s ca) (va_A (va_pl L0 f0) sz) s H locs L f → ok_T ca T L f → lv_has ls 8 [(0, .ref h0), (1, .ref x1), (2, .int (y2)), (3, .int (y3)), (4, .int (y4)), (5, .int (y5))] → (y5 = 0 ∨ y5 = 1) → W p l e { frames := 5, cells := 2, slots := 518, locals := 124 } s m ([.ref h0, .ref x1] : List Value).toArray below meth c H locs 0 0 (MQ below (sm_Qv D (ty_s ca) L0 f0 sz (fun u => po_a ca T0 (fun _ => True) u)) ([.ref h0, .ref x1] : List Value).toArray s 2 518 (va_A (va_pl L0 f0) sz)) (F0 m 92 ls []) := by
    intro T L H locs f ls y2 y3 y4 y5 hle hI hT hl py5
    have t0 := hle _ _ t0
    have t1 := li_up hle t1
    have hg := po_len hT t0
    refine lv_aload_n hx hb d_Po_ask_92 rfl (lv_at hl 0 rfl) ?_
    refine lv_aload_n hx hb d_Po_ask_93 rfl (lv_at hl 0 rfl) ?_
    refine fd_Po_asked hx hb hts hown hI hT t0 (hts _ tw_375) (fun _ h9 => h9) d_Po_ask_94 (fun r_1 t_2 hd_3 => ?_)
    refine lv_iload_n hx hb d_Po_ask_97 rfl (lv_at hl 2 rfl) ?_
    refine lv_aload_n hx hb d_Po_ask_98 rfl (lv_at hl 1 rfl) ?_
    refine fd_Li_objectSize hx hb hts hown hI hT t1 (hts _ tw_162) (fun _ h9 => h9) d_Po_ask_99 (fun n_4 t_5 hd_6 => ?_)
    refine sm_iP hI (va_runV (As := [.int (y2), .int (nI n_4)]) (rest := [.ref h0]) ⟨hx, hb, hml, hown, hts⟩ (c_Br_number l D ca _ _ _ _ hT r_1 t_2 y2 (n_4) (by omega)) (kv_Br_number hts rfl rfl (hts _ tw_940) ⟨Nat.le_of_ble_eq_true rfl, Nat.le_of_ble_eq_true rfl⟩) (pv_Br hI hE hT t_2) rfl rfl hl.1 rfl (lv_room (Nat.le_of_ble_eq_true rfl)) d_Po_ask_102 ⟨Nat.le_of_ble_eq_true rfl, Nat.le_of_ble_eq_true rfl⟩) (fun x_7 H locs p_8 hI => ?_)
    refine sm_iP hI (va_runV (As := [.int (x_7)]) (rest := []) ⟨hx, hb, hml, hown, hts⟩ (c_Po_findPoint l D ca _ _ _ _ hT h0 t0 x_7) (kv_Po_findPoint hts rfl rfl (hts _ tw_493) ⟨Nat.le_of_ble_eq_true rfl, Nat.le_of_ble_eq_true rfl⟩) (pv_Po hI hE hT t0) rfl rfl hl.1 rfl (lv_room (Nat.le_of_ble_eq_true rfl)) d_Po_ask_105 ⟨Nat.le_of_ble_eq_true rfl, Nat.le_of_ble_eq_true rfl⟩) (fun x_9 H locs p_10 hI => ?_)
    rcases fp_cases g0 x_7 with z_13 | ⟨j_11, z_13, h_12⟩
    · rw [z_13] at p_10
      subst p_10
      refine lv_istore (lv' := [(6, .int (-1)), (0, .ref h0), (1, .ref x1), (2, .int (y2)), (3, .int (y3)), (4, .int (y4)), (5, .int (y5))]) hx hb d_Po_ask_108 hl (by decide) rfl (fun ls hl => ?_)
      refine lv_iload hx hb d_Po_ask_110 (lv_at hl 5 rfl) ?_
      refine lv_if_ge (tgt := 120) hx hb d_Po_ask_112 (by decide) (fun c_14 => ?_) (fun c_14 => ?_)
      · refine lv_aload_n hx hb d_Po_ask_120 rfl (lv_at hl 1 rfl) ?_
        refine lv_aload_n hx hb d_Po_ask_121 rfl (lv_at hl 2 rfl) ?_
        refine lv_iload_n hx hb d_Po_ask_122 rfl (lv_at hl 4 rfl) ?_
        refine lv_iload_n hx hb d_Po_ask_123 rfl (lv_at hl 3 rfl) ?_
        refine sm_iP hI (va_runV (As := [.ref x1, .int (y3), .int (y2)]) (rest := []) ⟨hx, hb, hml, hown, hts⟩ (c_Po_objectionTo l D ca _ _ _ _ hT h0 t0 x1 t1 y3 y2) (kv_Po_objectionTo hts rfl rfl (hts _ tw_944) ⟨Nat.le_of_ble_eq_true rfl, Nat.le_of_ble_eq_true rfl⟩) (pv_Po hI hE hT t0) rfl rfl hl.1 rfl (lv_room (Nat.le_of_ble_eq_true rfl)) d_Po_ask_124 ⟨Nat.le_of_ble_eq_true rfl, Nat.le_of_ble_eq_true rfl⟩) (fun x_15 H locs p_16 hI => ?_)
        refine lv_istore (lv' := [(7, .int (x_15)), (6, .int (-1)), (0, .ref h0), (1, .ref x1), (2, .int (y2)), (3, .int (y3)), (4, .int (y4)), (5, .int (y5))]) hx hb d_Po_ask_127 hl (by decide) rfl (fun ls hl => ?_)
        refine lv_iload hx hb d_Po_ask_129 (lv_at hl 0 rfl) ?_
        refine lv_if_eq (tgt := 152) hx hb d_Po_ask_131 (by decide) (fun c_17 => ?_) (fun c_17 => ?_)
        · refine lv_iload_n hx hb d_Po_ask_152 rfl (lv_at hl 5 rfl) ?_
          refine sm_iP hI (va_runS (As := [.int (y3)]) (rest := []) ⟨hx, hb, hml, hown, hts⟩ (c_Po_isCommandType l D ca _ _ _ _ hT y3) (ks_Po_isCommandType hts rfl rfl (hts _ tw_951) ⟨Nat.le_of_ble_eq_true rfl, Nat.le_of_ble_eq_true rfl⟩) (sm_preS hI hE) rfl rfl hl.1 rfl (lv_room (Nat.le_of_ble_eq_true rfl)) d_Po_ask_153 ⟨Nat.le_of_ble_eq_true rfl, Nat.le_of_ble_eq_true rfl⟩) (fun x_18 H locs p_19 hI => ?_)
          refine lv_if_eq (tgt := 175) hx hb d_Po_ask_156 (by decide) (fun c_20 => ?_) (fun c_20 => ?_)
          · refine lv_iload_n hx hb d_Po_ask_175 rfl (lv_at hl 5 rfl) ?_
            refine lv_bipush (v := 102) hx hb d_Po_ask_176 (by decide) ?_
            refine lv_icmp_ne (tgt := 196) hx hb d_Po_ask_178 (by decide) (fun c_21 => ?_) (fun c_21 => ?_)
            · refine lv_aload_n hx hb d_Po_ask_196 rfl (lv_at hl 2 rfl) ?_
              refine lv_aload_n hx hb d_Po_ask_197 rfl (lv_at hl 3 rfl) ?_
              refine lv_iload_n hx hb d_Po_ask_198 rfl (lv_at hl 5 rfl) ?_
              refine lv_iload_n hx hb d_Po_ask_199 rfl (lv_at hl 4 rfl) ?_
              refine lv_aload_n hx hb d_Po_ask_200 rfl (lv_at hl 3 rfl) ?_
              refine fd_Li_objectSize hx hb hts hown hI hT t1 (hts _ tw_162) (fun _ h9 => h9) d_Po_ask_201 (fun n_22 t_23 hd_24 => ?_)
              refine lv_iadd hx hb d_Po_ask_204 ?_
              refine lv_topi (fun x_25 e_26 => ?_)
              refine sm_vA hI (va_runV (As := [.ref x1, .int (y3), .int (x_25)]) (rest := []) ⟨hx, hb, hml, hown, hts⟩ (c_Po_askStation l D ca _ _ _ _ hT h0 t0 x1 t1 y3 x_25) (kv_Po_askStation hts rfl rfl (hts _ tw_1017) ⟨Nat.le_of_ble_eq_true rfl, Nat.le_of_ble_eq_true rfl⟩) (pv_Po hI hE hT t0) rfl rfl hl.1 rfl (lv_room (Nat.le_of_ble_eq_true rfl)) d_Po_ask_205 ⟨Nat.le_of_ble_eq_true rfl, Nat.le_of_ble_eq_true rfl⟩) (fun T L H locs f hle1 hI hT => ?_)
              have hle := ty_tr hle hle1
              have t0 := hle1 _ _ t0
              have t1 := li_up hle1 t1
              refine W.widen (k := 2) (n := 518) (by decide) (by decide) ?_
              exact hJ_208 _ _ _ _ _ _ y2 y3 y4 y5 (-1) x_15 hle hI hT (lv_sub hl [2, 3, 4, 5, 6, 7, 1, 0] rfl) py5
            · obtain ⟨j9, q9, hq9, hf9, hk9⟩ := p_16 _ _ hd_3 hd_6 (by omega) c_17 (Or.inl c_21); exact (fp_m1 hq9 hg (Eq.trans (p_8 ▸ z_13).symm hf9)).elim
          · obtain ⟨j9, q9, hq9, hf9, hk9⟩ := p_16 _ _ hd_3 hd_6 (by omega) c_17 (Or.inr (p_19.2.mp (p_19.1.resolve_left c_20))); exact (fp_m1 hq9 hg (Eq.trans (p_8 ▸ z_13).symm hf9)).elim
        · refine lv_aload_n hx hb d_Po_ask_134 rfl (lv_at hl 2 rfl) ?_
          refine lv_aload_n hx hb d_Po_ask_135 rfl (lv_at hl 3 rfl) ?_
          refine lv_aload_n hx hb d_Po_ask_136 rfl (lv_at hl 2 rfl) ?_
          refine fd_Po_asked hx hb hts hown hI hT t0 (hts _ tw_375) (fun _ h9 => h9) d_Po_ask_137 (fun r_27 t_28 hd_29 => ?_)
          refine lv_iload hx hb d_Po_ask_140 (lv_at hl 0 rfl) ?_
          refine lv_bipush (v := 64) hx hb d_Po_ask_142 (by decide) ?_
          refine lv_ior hx hb d_Po_ask_144 ?_
          refine lv_topi (fun x_30 e_31 => ?_)
          refine sm_qA hI (va_runV (As := [.ref x1, .ref r_27, .int (x_30)]) (rest := []) ⟨hx, hb, hml, hown, hts⟩ (c_Po_comeBack l D ca _ _ _ _ hT h0 t0 x1 t1 r_27 t_28 x_30 (by omega) (by omega)) (kv_Po_comeBack hts rfl rfl (hts _ tw_962) ⟨Nat.le_of_ble_eq_true rfl, Nat.le_of_ble_eq_true rfl⟩) (pv_Po hI hE hT t0) rfl rfl hl.1 rfl (lv_room (Nat.le_of_ble_eq_true rfl)) d_Po_ask_145 ⟨Nat.le_of_ble_eq_true rfl, Nat.le_of_ble_eq_true rfl⟩) (fun o_32 T L H locs f p_33 hle1 hI hT => ?_)
          have hle := ty_tr hle hle1
          have t0 := hle1 _ _ t0
          have t1 := li_up hle1 t1
          rcases o_32 with _ | r_34
          · refine lv_pop hx hb d_Po_ask_148 rfl ?_
            refine lv_goto (tgt := 208) hx hb d_Po_ask_149 (by decide) ?_
            refine W.widen (k := 2) (n := 518) (by decide) (by decide) ?_
            exact hJ_208 _ _ _ _ _ _ y2 y3 y4 y5 (-1) x_15 hle hI hT (lv_sub hl [2, 3, 4, 5, 6, 7, 1, 0] rfl) py5
          · have t_35 := p_33 r_34 rfl
            refine lv_pop hx hb d_Po_ask_148 rfl ?_
            refine lv_goto (tgt := 208) hx hb d_Po_ask_149 (by decide) ?_
            refine W.widen (k := 2) (n := 518) (by decide) (by decide) ?_
            exact hJ_208 _ _ _ _ _ _ y2 y3 y4 y5 (-1) x_15 hle hI hT (lv_sub hl [2, 3, 4, 5, 6, 7, 1, 0] rfl) py5
      · refine lv_bipush (v := 44) hx hb d_Po_ask_115 (by decide) ?_
        refine lv_goto (tgt := 127) hx hb d_Po_ask_117 (by decide) ?_
        refine lv_istore (lv' := [(7, .int (44)), (6, .int (-1)), (0, .ref h0), (1, .ref x1), (2, .int (y2)), (3, .int (y3)), (4, .int (y4)), (5, .int (y5))]) hx hb d_Po_ask_127 hl (by decide) rfl (fun ls hl => ?_)
        refine lv_iload hx hb d_Po_ask_129 (lv_at hl 0 rfl) ?_
        refine lv_if_eq (tgt := 152) hx hb d_Po_ask_131 (by decide) (fun c_36 => ?_) (fun c_36 => ?_)
        · exact absurd c_36 (by decide)
        · refine lv_aload_n hx hb d_Po_ask_134 rfl (lv_at hl 2 rfl) ?_
          refine lv_aload_n hx hb d_Po_ask_135 rfl (lv_at hl 3 rfl) ?_
          refine lv_aload_n hx hb d_Po_ask_136 rfl (lv_at hl 2 rfl) ?_
          refine fd_Po_asked hx hb hts hown hI hT t0 (hts _ tw_375) (fun _ h9 => h9) d_Po_ask_137 (fun r_37 t_38 hd_39 => ?_)
          refine lv_iload hx hb d_Po_ask_140 (lv_at hl 0 rfl) ?_
          refine lv_bipush (v := 64) hx hb d_Po_ask_142 (by decide) ?_
          refine lv_ior hx hb d_Po_ask_144 ?_
          refine lv_topi (fun x_40 e_41 => ?_)
          refine sm_qA hI (va_runV (As := [.ref x1, .ref r_37, .int (x_40)]) (rest := []) ⟨hx, hb, hml, hown, hts⟩ (c_Po_comeBack l D ca _ _ _ _ hT h0 t0 x1 t1 r_37 t_38 x_40 (by omega) (by omega)) (kv_Po_comeBack hts rfl rfl (hts _ tw_962) ⟨Nat.le_of_ble_eq_true rfl, Nat.le_of_ble_eq_true rfl⟩) (pv_Po hI hE hT t0) rfl rfl hl.1 rfl (lv_room (Nat.le_of_ble_eq_true rfl)) d_Po_ask_145 ⟨Nat.le_of_ble_eq_true rfl, Nat.le_of_ble_eq_true rfl⟩) (fun o_42 T L H locs f p_43 hle1 hI hT => ?_)
          have hle := ty_tr hle hle1
          have t0 := hle1 _ _ t0
          have t1 := li_up hle1 t1
          rcases o_42 with _ | r_44
          · refine lv_pop hx hb d_Po_ask_148 rfl ?_
            refine lv_goto (tgt := 208) hx hb d_Po_ask_149 (by decide) ?_
            refine W.widen (k := 2) (n := 518) (by decide) (by decide) ?_
            exact hJ_208 _ _ _ _ _ _ y2 y3 y4 y5 (-1) 44 hle hI hT (lv_sub hl [2, 3, 4, 5, 6, 7, 1, 0] rfl) py5
          · have t_45 := p_43 r_44 rfl
            refine lv_pop hx hb d_Po_ask_148 rfl ?_
            refine lv_goto (tgt := 208) hx hb d_Po_ask_149 (by decide) ?_
            refine W.widen (k := 2) (n := 518) (by decide) (by decide) ?_
            exact hJ_208 _ _ _ _ _ _ y2 y3 y4 y5 (-1) 44 hle hI hT (lv_sub hl [2, 3, 4, 5, 6, 7, 1, 0] rfl) py5
    · rw [z_13] at p_10
      subst p_10
      refine lv_istore (lv' := [(6, .int (nI j_11)), (0, .ref h0), (1, .ref x1), (2, .int (y2)), (3, .int (y3)), (4, .int (y4)), (5, .int (y5))]) hx hb d_Po_ask_108 hl (by decide) rfl (fun ls hl => ?_)
      refine lv_iload hx hb d_Po_ask_110 (lv_at hl 5 rfl) ?_
      refine lv_if_ge (tgt := 120) hx hb d_Po_ask_112 (by decide) (fun c_46 => ?_) (fun c_46 => ?_)
      · refine lv_aload_n hx hb d_Po_ask_120 rfl (lv_at hl 1 rfl) ?_
        refine lv_aload_n hx hb d_Po_ask_121 rfl (lv_at hl 2 rfl) ?_
        refine lv_iload_n hx hb d_Po_ask_122 rfl (lv_at hl 4 rfl) ?_
        refine lv_iload_n hx hb d_Po_ask_123 rfl (lv_at hl 3 rfl) ?_
        refine sm_iP hI (va_runV (As := [.ref x1, .int (y3), .int (y2)]) (rest := []) ⟨hx, hb, hml, hown, hts⟩ (c_Po_objectionTo l D ca _ _ _ _ hT h0 t0 x1 t1 y3 y2) (kv_Po_objectionTo hts rfl rfl (hts _ tw_944) ⟨Nat.le_of_ble_eq_true rfl, Nat.le_of_ble_eq_true rfl⟩) (pv_Po hI hE hT t0) rfl rfl hl.1 rfl (lv_room (Nat.le_of_ble_eq_true rfl)) d_Po_ask_124 ⟨Nat.le_of_ble_eq_true rfl, Nat.le_of_ble_eq_true rfl⟩) (fun x_47 H locs p_48 hI => ?_)
        refine lv_istore (lv' := [(7, .int (x_47)), (6, .int (nI j_11)), (0, .ref h0), (1, .ref x1), (2, .int (y2)), (3, .int (y3)), (4, .int (y4)), (5, .int (y5))]) hx hb d_Po_ask_127 hl (by decide) rfl (fun ls hl => ?_)
        refine lv_iload hx hb d_Po_ask_129 (lv_at hl 0 rfl) ?_
        refine lv_if_eq (tgt := 152) hx hb d_Po_ask_131 (by decide) (fun c_49 => ?_) (fun c_49 => ?_)
        · refine lv_iload_n hx hb d_Po_ask_152 rfl (lv_at hl 5 rfl) ?_
          refine sm_iP hI (va_runS (As := [.int (y3)]) (rest := []) ⟨hx, hb, hml, hown, hts⟩ (c_Po_isCommandType l D ca _ _ _ _ hT y3) (ks_Po_isCommandType hts rfl rfl (hts _ tw_951) ⟨Nat.le_of_ble_eq_true rfl, Nat.le_of_ble_eq_true rfl⟩) (sm_preS hI hE) rfl rfl hl.1 rfl (lv_room (Nat.le_of_ble_eq_true rfl)) d_Po_ask_153 ⟨Nat.le_of_ble_eq_true rfl, Nat.le_of_ble_eq_true rfl⟩) (fun x_50 H locs p_51 hI => ?_)
          refine lv_if_eq (tgt := 175) hx hb d_Po_ask_156 (by decide) (fun c_52 => ?_) (fun c_52 => ?_)
          · refine lv_iload_n hx hb d_Po_ask_175 rfl (lv_at hl 5 rfl) ?_
            refine lv_bipush (v := 102) hx hb d_Po_ask_176 (by decide) ?_
            refine lv_icmp_ne (tgt := 196) hx hb d_Po_ask_178 (by decide) (fun c_53 => ?_) (fun c_53 => ?_)
            · refine lv_aload_n hx hb d_Po_ask_196 rfl (lv_at hl 2 rfl) ?_
              refine lv_aload_n hx hb d_Po_ask_197 rfl (lv_at hl 3 rfl) ?_
              refine lv_iload_n hx hb d_Po_ask_198 rfl (lv_at hl 5 rfl) ?_
              refine lv_iload_n hx hb d_Po_ask_199 rfl (lv_at hl 4 rfl) ?_
              refine lv_aload_n hx hb d_Po_ask_200 rfl (lv_at hl 3 rfl) ?_
              refine fd_Li_objectSize hx hb hts hown hI hT t1 (hts _ tw_162) (fun _ h9 => h9) d_Po_ask_201 (fun n_54 t_55 hd_56 => ?_)
              refine lv_iadd hx hb d_Po_ask_204 ?_
              refine lv_topi (fun x_57 e_58 => ?_)
              refine sm_vA hI (va_runV (As := [.ref x1, .int (y3), .int (x_57)]) (rest := []) ⟨hx, hb, hml, hown, hts⟩ (c_Po_askStation l D ca _ _ _ _ hT h0 t0 x1 t1 y3 x_57) (kv_Po_askStation hts rfl rfl (hts _ tw_1017) ⟨Nat.le_of_ble_eq_true rfl, Nat.le_of_ble_eq_true rfl⟩) (pv_Po hI hE hT t0) rfl rfl hl.1 rfl (lv_room (Nat.le_of_ble_eq_true rfl)) d_Po_ask_205 ⟨Nat.le_of_ble_eq_true rfl, Nat.le_of_ble_eq_true rfl⟩) (fun T L H locs f hle1 hI hT => ?_)
              have hle := ty_tr hle hle1
              have t0 := hle1 _ _ t0
              have t1 := li_up hle1 t1
              refine W.widen (k := 2) (n := 518) (by decide) (by decide) ?_
              exact hJ_208 _ _ _ _ _ _ y2 y3 y4 y5 (nI j_11) x_47 hle hI hT (lv_sub hl [2, 3, 4, 5, 6, 7, 1, 0] rfl) py5
            · refine lv_aload_n hx hb d_Po_ask_181 rfl (lv_at hl 2 rfl) ?_
              refine lv_aload_n hx hb d_Po_ask_182 rfl (lv_at hl 3 rfl) ?_
              refine lv_aload_n hx hb d_Po_ask_183 rfl (lv_at hl 2 rfl) ?_
              refine fg_Po_points hx hb hts hown hI hT t0 (hts _ tw_363) (fun _ h9 => h9) d_Po_ask_184 (fun r_59 t_60 => ?_)
              refine lv_iload hx hb d_Po_ask_187 (lv_at hl 1 rfl) ?_
              obtain ⟨q_61, h_62⟩ : ∃ z, g0[j_11]? = some z := ⟨_, List.getElem?_eq_getElem (by omega)⟩
              refine fa_pts (j := j_11) hx hb hI hT t_60 h_62 (by omega) d_Po_ask_189 (fun r_63 t_64 => ?_)
              refine sm_vA hI (va_runV (As := [.ref x1, .ref r_63]) (rest := []) ⟨hx, hb, hml, hown, hts⟩ (c_Po_tellOne l D ca _ _ _ _ hT h0 t0 x1 t1 r_63 t_64 (by obtain ⟨j9, q9, hq9, hf9, hk9⟩ := p_48 _ _ hd_3 hd_6 (by omega) c_49 (Or.inl c_53); exact fp_kk hq9 h_62 hg (Eq.trans (p_8 ▸ z_13).symm hf9) (hk9 c_53))) (kv_Po_tellOne hts rfl rfl (hts _ tw_1013) ⟨Nat.le_of_ble_eq_true rfl, Nat.le_of_ble_eq_true rfl⟩) (pv_Po hI hE hT t0) rfl rfl hl.1 rfl (lv_room (Nat.le_of_ble_eq_true rfl)) d_Po_ask_190 ⟨Nat.le_of_ble_eq_true rfl, Nat.le_of_ble_eq_true rfl⟩) (fun T L H locs f hle1 hI hT => ?_)
              have hle := ty_tr hle hle1
              have t0 := hle1 _ _ t0
              have t1 := li_up hle1 t1
              refine lv_goto (tgt := 208) hx hb d_Po_ask_193 (by decide) ?_
              refine W.widen (k := 2) (n := 518) (by decide) (by decide) ?_
              exact hJ_208 _ _ _ _ _ _ y2 y3 y4 y5 (nI j_11) x_47 hle hI hT (lv_sub hl [2, 3, 4, 5, 6, 7, 1, 0] rfl) py5
          · refine lv_aload_n hx hb d_Po_ask_159 rfl (lv_at hl 2 rfl) ?_
            refine lv_aload_n hx hb d_Po_ask_160 rfl (lv_at hl 3 rfl) ?_
            refine lv_iload hx hb d_Po_ask_161 (lv_at hl 1 rfl) ?_
            refine lv_iload_n hx hb d_Po_ask_163 rfl (lv_at hl 4 rfl) ?_
            refine lv_aload_n hx hb d_Po_ask_164 rfl (lv_at hl 3 rfl) ?_
            refine fd_Li_objectSize hx hb hts hown hI hT t1 (hts _ tw_162) (fun _ h9 => h9) d_Po_ask_165 (fun n_65 t_66 hd_67 => ?_)
            refine lv_iadd hx hb d_Po_ask_168 ?_
            refine lv_topi (fun x_68 e_69 => ?_)
            refine sm_vA hI (va_runV (As := [.ref x1, .int (nI j_11), .int (x_68)]) (rest := []) ⟨hx, hb, hml, hown, hts⟩ (c_Po_command l D ca _ _ _ _ hT h0 t0 x1 t1 (j_11) (by omega) x_68 (by omega)) (kv_Po_command hts rfl rfl (hts _ tw_974) ⟨Nat.le_of_ble_eq_true rfl, Nat.le_of_ble_eq_true rfl⟩) (pv_Po hI hE hT t0) rfl rfl hl.1 rfl (lv_room (Nat.le_of_ble_eq_true rfl)) d_Po_ask_169 ⟨Nat.le_of_ble_eq_true rfl, Nat.le_of_ble_eq_true rfl⟩) (fun T L H locs f hle1 hI hT => ?_)
            have hle := ty_tr hle hle1
            have t0 := hle1 _ _ t0
            have t1 := li_up hle1 t1
            refine lv_goto (tgt := 208) hx hb d_Po_ask_172 (by decide) ?_
            refine W.widen (k := 2) (n := 518) (by decide) (by decide) ?_
            exact hJ_208 _ _ _ _ _ _ y2 y3 y4 y5 (nI j_11) x_47 hle hI hT (lv_sub hl [2, 3, 4, 5, 6, 7, 1, 0] rfl) py5
        · refine lv_aload_n hx hb d_Po_ask_134 rfl (lv_at hl 2 rfl) ?_
          refine lv_aload_n hx hb d_Po_ask_135 rfl (lv_at hl 3 rfl) ?_
          refine lv_aload_n hx hb d_Po_ask_136 rfl (lv_at hl 2 rfl) ?_
          refine fd_Po_asked hx hb hts hown hI hT t0 (hts _ tw_375) (fun _ h9 => h9) d_Po_ask_137 (fun r_70 t_71 hd_72 => ?_)
          refine lv_iload hx hb d_Po_ask_140 (lv_at hl 0 rfl) ?_
          refine lv_bipush (v := 64) hx hb d_Po_ask_142 (by decide) ?_
          refine lv_ior hx hb d_Po_ask_144 ?_
          refine lv_topi (fun x_73 e_74 => ?_)
          refine sm_qA hI (va_runV (As := [.ref x1, .ref r_70, .int (x_73)]) (rest := []) ⟨hx, hb, hml, hown, hts⟩ (c_Po_comeBack l D ca _ _ _ _ hT h0 t0 x1 t1 r_70 t_71 x_73 (by omega) (by omega)) (kv_Po_comeBack hts rfl rfl (hts _ tw_962) ⟨Nat.le_of_ble_eq_true rfl, Nat.le_of_ble_eq_true rfl⟩) (pv_Po hI hE hT t0) rfl rfl hl.1 rfl (lv_room (Nat.le_of_ble_eq_true rfl)) d_Po_ask_145 ⟨Nat.le_of_ble_eq_true rfl, Nat.le_of_ble_eq_true rfl⟩) (fun o_75 T L H locs f p_76 hle1 hI hT => ?_)
          have hle := ty_tr hle hle1
          have t0 := hle1 _ _ t0
          have t1 := li_up hle1 t1
          rcases o_75 with _ | r_77
          · refine lv_pop hx hb d_Po_ask_148 rfl ?_
            refine lv_goto (tgt := 208) hx hb d_Po_ask_149 (by decide) ?_
            refine W.widen (k := 2) (n := 518) (by decide) (by decide) ?_
            exact hJ_208 _ _ _ _ _ _ y2 y3 y4 y5 (nI j_11) x_47 hle hI hT (lv_sub hl [2, 3, 4, 5, 6, 7, 1, 0] rfl) py5
          · have t_78 := p_76 r_77 rfl
            refine lv_pop hx hb d_Po_ask_148 rfl ?_
            refine lv_goto (tgt := 208) hx hb d_Po_ask_149 (by decide) ?_
            refine W.widen (k := 2) (n := 518) (by decide) (by decide) ?_
            exact hJ_208 _ _ _ _ _ _ y2 y3 y4 y5 (nI j_11) x_47 hle hI hT (lv_sub hl [2, 3, 4, 5, 6, 7, 1, 0] rfl) py5
      · refine lv_bipush (v := 44) hx hb d_Po_ask_115 (by decide) ?_
        refine lv_goto (tgt := 127) hx hb d_Po_ask_117 (by decide) ?_
        refine lv_istore (lv' := [(7, .int (44)), (6, .int (nI j_11)), (0, .ref h0), (1, .ref x1), (2, .int (y2)), (3, .int (y3)), (4, .int (y4)), (5, .int (y5))]) hx hb d_Po_ask_127 hl (by decide) rfl (fun ls hl => ?_)
        refine lv_iload hx hb d_Po_ask_129 (lv_at hl 0 rfl) ?_
        refine lv_if_eq (tgt := 152) hx hb d_Po_ask_131 (by decide) (fun c_79 => ?_) (fun c_79 => ?_)
        · exact absurd c_79 (by decide)
        · refine lv_aload_n hx hb d_Po_ask_134 rfl (lv_at hl 2 rfl) ?_
          refine lv_aload_n hx hb d_Po_ask_135 rfl (lv_at hl 3 rfl) ?_
          refine lv_aload_n hx hb d_Po_ask_136 rfl (lv_at hl 2 rfl) ?_
          refine fd_Po_asked hx hb hts hown hI hT t0 (hts _ tw_375) (fun _ h9 => h9) d_Po_ask_137 (fun r_80 t_81 hd_82 => ?_)
          refine lv_iload hx hb d_Po_ask_140 (lv_at hl 0 rfl) ?_
          refine lv_bipush (v := 64) hx hb d_Po_ask_142 (by decide) ?_
          refine lv_ior hx hb d_Po_ask_144 ?_
          refine lv_topi (fun x_83 e_84 => ?_)
          refine sm_qA hI (va_runV (As := [.ref x1, .ref r_80, .int (x_83)]) (rest := []) ⟨hx, hb, hml, hown, hts⟩ (c_Po_comeBack l D ca _ _ _ _ hT h0 t0 x1 t1 r_80 t_81 x_83 (by omega) (by omega)) (kv_Po_comeBack hts rfl rfl (hts _ tw_962) ⟨Nat.le_of_ble_eq_true rfl, Nat.le_of_ble_eq_true rfl⟩) (pv_Po hI hE hT t0) rfl rfl hl.1 rfl (lv_room (Nat.le_of_ble_eq_true rfl)) d_Po_ask_145 ⟨Nat.le_of_ble_eq_true rfl, Nat.le_of_ble_eq_true rfl⟩) (fun o_85 T L H locs f p_86 hle1 hI hT => ?_)
          have hle := ty_tr hle hle1
          have t0 := hle1 _ _ t0
          have t1 := li_up hle1 t1
          rcases o_85 with _ | r_87
          · refine lv_pop hx hb d_Po_ask_148 rfl ?_
            refine lv_goto (tgt := 208) hx hb d_Po_ask_149 (by decide) ?_
            refine W.widen (k := 2) (n := 518) (by decide) (by decide) ?_
            exact hJ_208 _ _ _ _ _ _ y2 y3 y4 y5 (nI j_11) 44 hle hI hT (lv_sub hl [2, 3, 4, 5, 6, 7, 1, 0] rfl) py5
          · have t_88 := p_86 r_87 rfl
            refine lv_pop hx hb d_Po_ask_148 rfl ?_
            refine lv_goto (tgt := 208) hx hb d_Po_ask_149 (by decide) ?_
            refine W.widen (k := 2) (n := 518) (by decide) (by decide) ?_
            exact hJ_208 _ _ _ _ _ _ y2 y3 y4 y5 (nI j_11) 44 hle hI hT (lv_sub hl [2, 3, 4, 5, 6, 7, 1, 0] rfl) py5
  refine lv_iconst (v := 2) hx hb d_Po_ask_0 (by decide) ?_
  refine lv_aload_n hx hb d_Po_ask_1 rfl (lv_at hl 1 rfl) ?_
  refine fg_Li_causeSize hx hb hts hown hI hT t1 (hts _ tw_154) (fun _ h9 => h9) d_Po_ask_2 (fun n_89 h_90 => ?_)
  refine lv_iadd hx hb d_Po_ask_5 ?_
  refine lv_topi (fun x_91 e_92 => ?_)
  obtain rfl : x_91 = nI (2 + n_89) := by rw [e_92]; exact nI_add _ _
  refine lv_aload_n hx hb d_Po_ask_6 rfl (lv_at hl 1 rfl) ?_
  refine fg_Li_stationSize hx hb hts hown hI hT t1 (hts _ tw_158) (fun _ h9 => h9) d_Po_ask_7 (fun n_93 h_94 => ?_)
  refine lv_iadd hx hb d_Po_ask_10 ?_
  refine lv_topi (fun x_95 e_96 => ?_)
  obtain rfl : x_95 = nI ((2 + n_89) + n_93) := by rw [e_96]; exact nI_add _ _
  refine lv_istore_n (lv' := [(2, .int (nI ((2 + n_89) + n_93))), (0, .ref h0), (1, .ref x1)]) hx hb d_Po_ask_11 rfl hl (by decide) rfl (fun ls hl => ?_)
  refine lv_aload_n hx hb d_Po_ask_12 rfl (lv_at hl 1 rfl) ?_
  refine fd_Po_asked hx hb hts hown hI hT t0 (hts _ tw_375) (fun _ h9 => h9) d_Po_ask_13 (fun r_97 t_98 hd_99 => ?_)
  refine lv_iconst (v := 0) hx hb d_Po_ask_16 (by decide) ?_
  refine sm_iP hI (va_runV (As := [.int (0)]) (rest := []) ⟨hx, hb, hml, hown, hts⟩ (c_Br_at l D ca _ _ _ _ hT r_97 t_98 0) (kv_Br_at hts rfl rfl (hts _ tw_697) ⟨Nat.le_of_ble_eq_true rfl, Nat.le_of_ble_eq_true rfl⟩) (pv_Br hI hE hT t_98) rfl rfl hl.1 rfl (lv_room (Nat.le_of_ble_eq_true rfl)) d_Po_ask_17 ⟨Nat.le_of_ble_eq_true rfl, Nat.le_of_ble_eq_true rfl⟩) (fun x_100 H locs p_101 hI => ?_)
  refine lv_istore_n (lv' := [(3, .int (x_100)), (2, .int (nI ((2 + n_89) + n_93))), (0, .ref h0), (1, .ref x1)]) hx hb d_Po_ask_20 rfl hl (by decide) rfl (fun ls hl => ?_)
  refine lv_iload_n hx hb d_Po_ask_21 rfl (lv_at hl 0 rfl) ?_
  refine sm_iP hI (va_runS (As := [.int (x_100)]) (rest := []) ⟨hx, hb, hml, hown, hts⟩ (c_Po_bytesWanted l D ca _ _ _ _ hT x_100) (ks_Po_bytesWanted hts rfl rfl (hts _ tw_937) ⟨Nat.le_of_ble_eq_true rfl, Nat.le_of_ble_eq_true rfl⟩) (sm_preS hI hE) rfl rfl hl.1 rfl (lv_room (Nat.le_of_ble_eq_true rfl)) d_Po_ask_22 ⟨Nat.le_of_ble_eq_true rfl, Nat.le_of_ble_eq_true rfl⟩) (fun x_102 H locs p_103 hI => ?_)
  refine lv_istore (lv' := [(4, .int (x_102)), (3, .int (x_100)), (2, .int (nI ((2 + n_89) + n_93))), (0, .ref h0), (1, .ref x1)]) hx hb d_Po_ask_25 hl (by decide) rfl (fun ls hl => ?_)
  refine lv_aload_n hx hb d_Po_ask_27 rfl (lv_at hl 3 rfl) ?_
  refine fd_Po_asked hx hb hts hown hI hT t0 (hts _ tw_375) (fun _ h9 => h9) d_Po_ask_28 (fun r_104 t_105 hd_106 => ?_)
  refine lv_iconst (v := 1) hx hb d_Po_ask_31 (by decide) ?_
  refine sm_iP hI (va_runV (As := [.int (1)]) (rest := []) ⟨hx, hb, hml, hown, hts⟩ (c_Br_at l D ca _ _ _ _ hT r_104 t_105 1) (kv_Br_at hts rfl rfl (hts _ tw_697) ⟨Nat.le_of_ble_eq_true rfl, Nat.le_of_ble_eq_true rfl⟩) (pv_Br hI hE hT t_105) rfl rfl hl.1 rfl (lv_room (Nat.le_of_ble_eq_true rfl)) d_Po_ask_32 ⟨Nat.le_of_ble_eq_true rfl, Nat.le_of_ble_eq_true rfl⟩) (fun x_107 H locs p_108 hI => ?_)
  refine lv_iconst (v := 1) hx hb d_Po_ask_35 (by decide) ?_
  refine lv_icmp_ne (tgt := 62) hx hb d_Po_ask_36 (by decide) (fun c_109 => ?_) (fun c_109 => ?_)
  · refine lv_iconst (v := 0) hx hb d_Po_ask_62 (by decide) ?_
    refine lv_istore (lv' := [(5, .int (0)), (4, .int (x_102)), (3, .int (x_100)), (2, .int (nI ((2 + n_89) + n_93))), (0, .ref h0), (1, .ref x1)]) hx hb d_Po_ask_63 hl (by decide) rfl (fun ls hl => ?_)
    refine lv_aload_n hx hb d_Po_ask_65 rfl (lv_at hl 4 rfl) ?_
    refine fd_Po_asked hx hb hts hown hI hT t0 (hts _ tw_375) (fun _ h9 => h9) d_Po_ask_66 (fun r_110 t_111 hd_112 => ?_)
    refine fgN_Br_length hx hb hts hown hI hT t_111 (va_Nw.use rfl (hE.1 _ tn_51 rfl)) (fun _ h9 => h9) d_Po_ask_69 (fun n_113 h_114 => ?_)
    refine lv_iload_n hx hb d_Po_ask_72 rfl (lv_at hl 3 rfl) ?_
    refine lv_icmp_lt (tgt := 86) hx hb d_Po_ask_73 (by decide) (fun c_115 => ?_) (fun c_115 => ?_)
    · have k_116 : n_113 < ((2 + n_89) + n_93) := (nI_ltI (a := n_113) (b := ((2 + n_89) + n_93)) (by omega) (by omega)).mp c_115
      refine lv_aload_n hx hb d_Po_ask_86 rfl (lv_at hl 4 rfl) ?_
      refine lv_aload_n hx hb d_Po_ask_87 rfl (lv_at hl 5 rfl) ?_
      refine sm_v hI (va_runV (As := [.ref x1]) (rest := []) ⟨hx, hb, hml, hown, hts⟩ (c_Po_refuse l D ca _ _ _ _ hT h0 t0 x1 t1) (kv_Po_refuse hts rfl rfl (hts _ tw_855) ⟨Nat.le_of_ble_eq_true rfl, Nat.le_of_ble_eq_true rfl⟩) (pv_Po hI hE hT t0) rfl rfl hl.1 rfl (lv_room (Nat.le_of_ble_eq_true rfl)) d_Po_ask_88 ⟨Nat.le_of_ble_eq_true rfl, Nat.le_of_ble_eq_true rfl⟩) (fun H locs f hI hT => ?_)
      refine W.widen (k := 2) (n := 518) (by decide) (by decide) ?_
      exact sm_vret hx hb hr hlk hI ⟨_, hle, hT, trivial⟩ d_Po_ask_91
    · have k_117 : ((2 + n_89) + n_93) ≤ n_113 := Nat.le_of_not_lt (fun q => c_115 ((nI_ltI (a := n_113) (b := ((2 + n_89) + n_93)) (by omega) (by omega)).mpr q))
      refine lv_iload hx hb d_Po_ask_76 (lv_at hl 1 rfl) ?_
      refine lv_if_lt (tgt := 92) hx hb d_Po_ask_78 (by decide) (fun c_118 => ?_) (fun c_118 => ?_)
      · refine W.widen (k := 0) (n := 0) (by decide) (by decide) ?_
        exact hJ_92 _ _ _ _ _ _ (nI ((2 + n_89) + n_93)) x_100 x_102 0 hle hI hT (lv_sub hl [4, 5, 3, 2, 1, 0] rfl) (by decide)
      · refine lv_iload hx hb d_Po_ask_81 (lv_at hl 0 rfl) ?_
        refine lv_if_ne (tgt := 92) hx hb d_Po_ask_83 (by decide) (fun c_119 => ?_) (fun c_119 => ?_)
        · exact absurd c_119 (by decide)
        · refine lv_aload_n hx hb d_Po_ask_86 rfl (lv_at hl 4 rfl) ?_
          refine lv_aload_n hx hb d_Po_ask_87 rfl (lv_at hl 5 rfl) ?_
          refine sm_v hI (va_runV (As := [.ref x1]) (rest := []) ⟨hx, hb, hml, hown, hts⟩ (c_Po_refuse l D ca _ _ _ _ hT h0 t0 x1 t1) (kv_Po_refuse hts rfl rfl (hts _ tw_855) ⟨Nat.le_of_ble_eq_true rfl, Nat.le_of_ble_eq_true rfl⟩) (pv_Po hI hE hT t0) rfl rfl hl.1 rfl (lv_room (Nat.le_of_ble_eq_true rfl)) d_Po_ask_88 ⟨Nat.le_of_ble_eq_true rfl, Nat.le_of_ble_eq_true rfl⟩) (fun H locs f hI hT => ?_)
          refine W.widen (k := 2) (n := 518) (by decide) (by decide) ?_
          exact sm_vret hx hb hr hlk hI ⟨_, hle, hT, trivial⟩ d_Po_ask_91
  · refine lv_aload_n hx hb d_Po_ask_39 rfl (lv_at hl 3 rfl) ?_
    refine fd_Po_asked hx hb hts hown hI hT t0 (hts _ tw_375) (fun _ h9 => h9) d_Po_ask_40 (fun r_120 t_121 hd_122 => ?_)
    refine fgN_Br_length hx hb hts hown hI hT t_121 (va_Nw.use rfl (hE.1 _ tn_51 rfl)) (fun _ h9 => h9) d_Po_ask_43 (fun n_123 h_124 => ?_)
    refine lv_iload_n hx hb d_Po_ask_46 rfl (lv_at hl 2 rfl) ?_
    refine lv_aload_n hx hb d_Po_ask_47 rfl (lv_at hl 4 rfl) ?_
    refine fd_Li_objectSize hx hb hts hown hI hT t1 (hts _ tw_162) (fun _ h9 => h9) d_Po_ask_48 (fun n_125 t_126 hd_127 => ?_)
    refine lv_iadd hx hb d_Po_ask_51 ?_
    refine lv_topi (fun x_128 e_129 => ?_)
    obtain rfl : x_128 = nI (((2 + n_89) + n_93) + n_125) := by rw [e_129]; exact nI_add _ _
    refine lv_iload hx hb d_Po_ask_52 (lv_at hl 0 rfl) ?_
    refine lv_iadd hx hb d_Po_ask_54 ?_
    refine lv_topi (fun x_130 e_131 => ?_)
    refine lv_icmp_ne (tgt := 62) hx hb d_Po_ask_55 (by decide) (fun c_132 => ?_) (fun c_132 => ?_)
    · refine lv_iconst (v := 0) hx hb d_Po_ask_62 (by decide) ?_
      refine lv_istore (lv' := [(5, .int (0)), (4, .int (x_102)), (3, .int (x_100)), (2, .int (nI ((2 + n_89) + n_93))), (0, .ref h0), (1, .ref x1)]) hx hb d_Po_ask_63 hl (by decide) rfl (fun ls hl => ?_)
      refine lv_aload_n hx hb d_Po_ask_65 rfl (lv_at hl 4 rfl) ?_
      refine fd_Po_asked hx hb hts hown hI hT t0 (hts _ tw_375) (fun _ h9 => h9) d_Po_ask_66 (fun r_133 t_134 hd_135 => ?_)
      refine fgN_Br_length hx hb hts hown hI hT t_134 (va_Nw.use rfl (hE.1 _ tn_51 rfl)) (fun _ h9 => h9) d_Po_ask_69 (fun n_136 h_137 => ?_)
      refine lv_iload_n hx hb d_Po_ask_72 rfl (lv_at hl 3 rfl) ?_
      refine lv_icmp_lt (tgt := 86) hx hb d_Po_ask_73 (by decide) (fun c_138 => ?_) (fun c_138 => ?_)
      · have k_139 : n_136 < ((2 + n_89) + n_93) := (nI_ltI (a := n_136) (b := ((2 + n_89) + n_93)) (by omega) (by omega)).mp c_138
        refine lv_aload_n hx hb d_Po_ask_86 rfl (lv_at hl 4 rfl) ?_
        refine lv_aload_n hx hb d_Po_ask_87 rfl (lv_at hl 5 rfl) ?_
        refine sm_v hI (va_runV (As := [.ref x1]) (rest := []) ⟨hx, hb, hml, hown, hts⟩ (c_Po_refuse l D ca _ _ _ _ hT h0 t0 x1 t1) (kv_Po_refuse hts rfl rfl (hts _ tw_855) ⟨Nat.le_of_ble_eq_true rfl, Nat.le_of_ble_eq_true rfl⟩) (pv_Po hI hE hT t0) rfl rfl hl.1 rfl (lv_room (Nat.le_of_ble_eq_true rfl)) d_Po_ask_88 ⟨Nat.le_of_ble_eq_true rfl, Nat.le_of_ble_eq_true rfl⟩) (fun H locs f hI hT => ?_)
        refine W.widen (k := 2) (n := 518) (by decide) (by decide) ?_
        exact sm_vret hx hb hr hlk hI ⟨_, hle, hT, trivial⟩ d_Po_ask_91
      · have k_140 : ((2 + n_89) + n_93) ≤ n_136 := Nat.le_of_not_lt (fun q => c_138 ((nI_ltI (a := n_136) (b := ((2 + n_89) + n_93)) (by omega) (by omega)).mpr q))
        refine lv_iload hx hb d_Po_ask_76 (lv_at hl 1 rfl) ?_
        refine lv_if_lt (tgt := 92) hx hb d_Po_ask_78 (by decide) (fun c_141 => ?_) (fun c_141 => ?_)
        · refine W.widen (k := 0) (n := 0) (by decide) (by decide) ?_
          exact hJ_92 _ _ _ _ _ _ (nI ((2 + n_89) + n_93)) x_100 x_102 0 hle hI hT (lv_sub hl [4, 5, 3, 2, 1, 0] rfl) (by decide)
        · refine lv_iload hx hb d_Po_ask_81 (lv_at hl 0 rfl) ?_
          refine lv_if_ne (tgt := 92) hx hb d_Po_ask_83 (by decide) (fun c_142 => ?_) (fun c_142 => ?_)
          · exact absurd c_142 (by decide)
          · refine lv_aload_n hx hb d_Po_ask_86 rfl (lv_at hl 4 rfl) ?_
            refine lv_aload_n hx hb d_Po_ask_87 rfl (lv_at hl 5 rfl) ?_
            refine sm_v hI (va_runV (As := [.ref x1]) (rest := []) ⟨hx, hb, hml, hown, hts⟩ (c_Po_refuse l D ca _ _ _ _ hT h0 t0 x1 t1) (kv_Po_refuse hts rfl rfl (hts _ tw_855) ⟨Nat.le_of_ble_eq_true rfl, Nat.le_of_ble_eq_true rfl⟩) (pv_Po hI hE hT t0) rfl rfl hl.1 rfl (lv_room (Nat.le_of_ble_eq_true rfl)) d_Po_ask_88 ⟨Nat.le_of_ble_eq_true rfl, Nat.le_of_ble_eq_true rfl⟩) (fun H locs f hI hT => ?_)
            refine W.widen (k := 2) (n := 518) (by decide) (by decide) ?_
            exact sm_vret hx hb hr hlk hI ⟨_, hle, hT, trivial⟩ d_Po_ask_91
    · refine lv_iconst (v := 1) hx hb d_Po_ask_58 (by decide) ?_
      refine lv_goto (tgt := 63) hx hb d_Po_ask_59 (by decide) ?_
      refine lv_istore (lv' := [(5, .int (1)), (4, .int (x_102)), (3, .int (x_100)), (2, .int (nI ((2 + n_89) + n_93))), (0, .ref h0), (1, .ref x1)]) hx hb d_Po_ask_63 hl (by decide) rfl (fun ls hl => ?_)
      refine lv_aload_n hx hb d_Po_ask_65 rfl (lv_at hl 4 rfl) ?_
      refine fd_Po_asked hx hb hts hown hI hT t0 (hts _ tw_375) (fun _ h9 => h9) d_Po_ask_66 (fun r_143 t_144 hd_145 => ?_)
      refine fgN_Br_length hx hb hts hown hI hT t_144 (va_Nw.use rfl (hE.1 _ tn_51 rfl)) (fun _ h9 => h9) d_Po_ask_69 (fun n_146 h_147 => ?_)
      refine lv_iload_n hx hb d_Po_ask_72 rfl (lv_at hl 3 rfl) ?_
      refine lv_icmp_lt (tgt := 86) hx hb d_Po_ask_73 (by decide) (fun c_148 => ?_) (fun c_148 => ?_)
      · have k_149 : n_146 < ((2 + n_89) + n_93) := (nI_ltI (a := n_146) (b := ((2 + n_89) + n_93)) (by omega) (by omega)).mp c_148
        refine lv_aload_n hx hb d_Po_ask_86 rfl (lv_at hl 4 rfl) ?_
        refine lv_aload_n hx hb d_Po_ask_87 rfl (lv_at hl 5 rfl) ?_
        refine sm_v hI (va_runV (As := [.ref x1]) (rest := []) ⟨hx, hb, hml, hown, hts⟩ (c_Po_refuse l D ca _ _ _ _ hT h0 t0 x1 t1) (kv_Po_refuse hts rfl rfl (hts _ tw_855) ⟨Nat.le_of_ble_eq_true rfl, Nat.le_of_ble_eq_true rfl⟩) (pv_Po hI hE hT t0) rfl rfl hl.1 rfl (lv_room (Nat.le_of_ble_eq_true rfl)) d_Po_ask_88 ⟨Nat.le_of_ble_eq_true rfl, Nat.le_of_ble_eq_true rfl⟩) (fun H locs f hI hT => ?_)
        refine W.widen (k := 2) (n := 518) (by decide) (by decide) ?_
        exact sm_vret hx hb hr hlk hI ⟨_, hle, hT, trivial⟩ d_Po_ask_91
      · have k_150 : ((2 + n_89) + n_93) ≤ n_146 := Nat.le_of_not_lt (fun q => c_148 ((nI_ltI (a := n_146) (b := ((2 + n_89) + n_93)) (by omega) (by omega)).mpr q))
        refine lv_iload hx hb d_Po_ask_76 (lv_at hl 1 rfl) ?_
        refine lv_if_lt (tgt := 92) hx hb d_Po_ask_78 (by decide) (fun c_151 => ?_) (fun c_151 => ?_)
        · refine W.widen (k := 0) (n := 0) (by decide) (by decide) ?_
          exact hJ_92 _ _ _ _ _ _ (nI ((2 + n_89) + n_93)) x_100 x_102 1 hle hI hT (lv_sub hl [4, 5, 3, 2, 1, 0] rfl) (by decide)
        · refine lv_iload hx hb d_Po_ask_81 (lv_at hl 0 rfl) ?_
          refine lv_if_ne (tgt := 92) hx hb d_Po_ask_83 (by decide) (fun c_152 => ?_) (fun c_152 => ?_)
          · refine W.widen (k := 0) (n := 0) (by decide) (by decide) ?_
            exact hJ_92 _ _ _ _ _ _ (nI ((2 + n_89) + n_93)) x_100 x_102 1 hle hI hT (lv_sub hl [4, 5, 3, 2, 1, 0] rfl) (by decide)
          · exact absurd c_152 (by decide)
theorem d_Po_hearFrame_0 : decode b_Po_hearFrame 0 = .ok (.aload_n 1, 1) := by decide +kernel
theorem d_Po_hearFrame_1 : decode b_Po_hearFrame 1 = .ok (.invokevirtual 341, 3) := by decide +kernel
theorem d_Po_hearFrame_4 : decode b_Po_hearFrame 4 = .ok (.ifCond .ne 11, 3) := by decide +kernel
theorem d_Po_hearFrame_7 : decode b_Po_hearFrame 7 = .ok (.aload_n 0, 1) := by decide +kernel
theorem d_Po_hearFrame_8 : decode b_Po_hearFrame 8 = .ok (.aload_n 1, 1) := by decide +kernel
theorem d_Po_hearFrame_9 : decode b_Po_hearFrame 9 = .ok (.invokevirtual 166, 3) := by decide +kernel
theorem d_Po_hearFrame_12 : decode b_Po_hearFrame 12 = .ok (.goto 23, 3) := by decide +kernel
theorem d_Po_hearFrame_15 : decode b_Po_hearFrame 15 = .ok (.aload_n 1, 1) := by decide +kernel
theorem d_Po_hearFrame_16 : decode b_Po_hearFrame 16 = .ok (.invokevirtual 344, 3) := by decide +kernel
theorem d_Po_hearFrame_19 : decode b_Po_hearFrame 19 = .ok (.ifCond .eq 11, 3) := by decide +kernel
theorem d_Po_hearFrame_22 : decode b_Po_hearFrame 22 = .ok (.aload_n 0, 1) := by decide +kernel
theorem d_Po_hearFrame_23 : decode b_Po_hearFrame 23 = .ok (.aload_n 1, 1) := by decide +kernel
theorem d_Po_hearFrame_24 : decode b_Po_hearFrame 24 = .ok (.invokevirtual 347, 3) := by decide +kernel
theorem d_Po_hearFrame_27 : decode b_Po_hearFrame 27 = .ok (.goto 8, 3) := by decide +kernel
theorem d_Po_hearFrame_30 : decode b_Po_hearFrame 30 = .ok (.aload_n 0, 1) := by decide +kernel
theorem d_Po_hearFrame_31 : decode b_Po_hearFrame 31 = .ok (.aload_n 1, 1) := by decide +kernel
theorem d_Po_hearFrame_32 : decode b_Po_hearFrame 32 = .ok (.invokevirtual 350, 3) := by decide +kernel
theorem d_Po_hearFrame_35 : decode b_Po_hearFrame 35 = .ok (.aload_n 1, 1) := by decide +kernel
theorem d_Po_hearFrame_36 : decode b_Po_hearFrame 36 = .ok (.getfield 150, 3) := by decide +kernel
theorem d_Po_hearFrame_39 : decode b_Po_hearFrame 39 = .ok (.iconst 2, 1) := by decide +kernel
theorem d_Po_hearFrame_40 : decode b_Po_hearFrame 40 = .ok (.if_icmp .ne 43, 3) := by decide +kernel
theorem d_Po_hearFrame_43 : decode b_Po_hearFrame 43 = .ok (.aload_n 1, 1) := by decide +kernel
theorem d_Po_hearFrame_44 : decode b_Po_hearFrame 44 = .ok (.invokevirtual 353, 3) := by decide +kernel
theorem d_Po_hearFrame_47 : decode b_Po_hearFrame 47 = .ok (.ifCond .eq 36, 3) := by decide +kernel
theorem d_Po_hearFrame_50 : decode b_Po_hearFrame 50 = .ok (.aload_n 1, 1) := by decide +kernel
theorem d_Po_hearFrame_51 : decode b_Po_hearFrame 51 = .ok (.aload_n 0, 1) := by decide +kernel
theorem d_Po_hearFrame_52 : decode b_Po_hearFrame 52 = .ok (.getfield 147, 3) := by decide +kernel
theorem d_Po_hearFrame_55 : decode b_Po_hearFrame 55 = .ok (.invokevirtual 356, 3) := by decide +kernel
theorem d_Po_hearFrame_58 : decode b_Po_hearFrame 58 = .ok (.aload_n 0, 1) := by decide +kernel
theorem d_Po_hearFrame_59 : decode b_Po_hearFrame 59 = .ok (.getfield 53, 3) := by decide +kernel
theorem d_Po_hearFrame_62 : decode b_Po_hearFrame 62 = .ok (.aload_n 1, 1) := by decide +kernel
theorem d_Po_hearFrame_63 : decode b_Po_hearFrame 63 = .ok (.getfield 360, 3) := by decide +kernel
theorem d_Po_hearFrame_66 : decode b_Po_hearFrame 66 = .ok (.bipush 6, 2) := by decide +kernel
theorem d_Po_hearFrame_68 : decode b_Po_hearFrame 68 = .ok (.aload_n 1, 1) := by decide +kernel
theorem d_Po_hearFrame_69 : decode b_Po_hearFrame 69 = .ok (.getfield 360, 3) := by decide +kernel
theorem d_Po_hearFrame_72 : decode b_Po_hearFrame 72 = .ok (.getfield 207, 3) := by decide +kernel
theorem d_Po_hearFrame_75 : decode b_Po_hearFrame 75 = .ok (.invokevirtual 361, 3) := by decide +kernel
theorem d_Po_hearFrame_78 : decode b_Po_hearFrame 78 = .ok (.aload_n 0, 1) := by decide +kernel
theorem d_Po_hearFrame_79 : decode b_Po_hearFrame 79 = .ok (.aload_n 1, 1) := by decide +kernel
theorem d_Po_hearFrame_80 : decode b_Po_hearFrame 80 = .ok (.invokevirtual 365, 3) := by decide +kernel
theorem d_Po_hearFrame_83 : decode b_Po_hearFrame 83 = .ok (.aload_n 0, 1) := by decide +kernel
theorem d_Po_hearFrame_84 : decode b_Po_hearFrame 84 = .ok (.aload_n 1, 1) := by decide +kernel
theorem d_Po_hearFrame_85 : decode b_Po_hearFrame 85 = .ok (.invokevirtual 368, 3) := by decide +kernel
theorem d_Po_hearFrame_88 : decode b_Po_hearFrame 88 = .ok (.aload_n 0, 1) := by decide +kernel
theorem d_Po_hearFrame_89 : decode b_Po_hearFrame 89 = .ok (.aload_n 1, 1) := by decide +kernel
theorem d_Po_hearFrame_90 : decode b_Po_hearFrame 90 = .ok (.getfield 303, 3) := by decide +kernel
theorem d_Po_hearFrame_93 : decode b_Po_hearFrame 93 = .ok (.invokevirtual 131, 3) := by decide +kernel
theorem d_Po_hearFrame_96 : decode b_Po_hearFrame 96 = .ok (.aload_n 1, 1) := by decide +kernel
theorem d_Po_hearFrame_97 : decode b_Po_hearFrame 97 = .ok (.getfield 371, 3) := by decide +kernel
theorem d_Po_hearFrame_100 : decode b_Po_hearFrame 100 = .ok (.bipush 8, 2) := by decide +kernel
theorem d_Po_hearFrame_102 : decode b_Po_hearFrame 102 = .ok (.if_icmp .lt 8, 3) := by decide +kernel
theorem d_Po_hearFrame_105 : decode b_Po_hearFrame 105 = .ok (.aload_n 0, 1) := by decide +kernel
theorem d_Po_hearFrame_106 : decode b_Po_hearFrame 106 = .ok (.aload_n 1, 1) := by decide +kernel
theorem d_Po_hearFrame_107 : decode b_Po_hearFrame 107 = .ok (.invokevirtual 374, 3) := by decide +kernel
theorem d_Po_hearFrame_110 : decode b_Po_hearFrame 110 = .ok (.return_, 1) := by decide +kernel
set_option maxRecDepth 100000 in
set_option maxHeartbeats 4000000 in
theorem c_Po_hearFrame (l : Launch) (D : va_G) (ca : Nat → ClassId) (T0 : ty_e) (L0 : List Nat) (f0 : Nat → va_E) (sz : Nat) (hT : ok_T ca T0 L0 f0) {g0 : List (Int32 × Int32)} (h0 : Nat) (t0 : T0 h0 = some (ty_po g0)) {k1 : Nat} (x1 : Nat) (t1 : T0 x1 = some (ty_cn k1)) :
    Met l y_Po_hearFrame (Cond.code y_Po_hearFrame b_Po_hearFrame 2 none :: wg) { frames := 6, cells := 2, slots := 518, locals := 151 } (va_Pc [.ref h0, .ref x1] (sm_P D cl_all (ty_s ca) ek L0 f0 sz)) (sm_Qv D (ty_s ca) L0 f0 sz (fun u => po_a ca T0 (fun _ => True) u)) 2 518 (va_A (va_pl L0 f0) sz) := by
  refine sm_start (by decide) (Nat.le_of_ble_eq_true rfl) ?_
  intro p e s m below meth c ls hx hb hml hr hlk hnm hts hown hsz hE hI hl
  have hl : lv_has ls 2 [(0, .ref h0), (1, .ref x1)] := hl
  have hle : ty_le T0 T0 := ty_rf
  have hJ_83 : ∀ (T : ty_e) (L : List Nat) (H : Heap) (locs : List Loc) (f : Nat → va_E) (ls : Array Slot) , ty_le T0 T → sw_I D cl_all (ty_s ca) (va_A (va_pl L0 f0) sz) s H locs L f → ok_T ca T L f → lv_has ls 2 [(0, .ref h0), (1, .ref x1)] → W p l e { frames := 6, cells := 2, slots := 518, locals := 151 } s m ([.ref h0, .ref x1] : List Value).toArray below meth c H locs 2 518 (MQ below (sm_Qv D (ty_s ca) L0 f0 sz (fun u => po_a ca T0 (fun _ => True) u)) ([.ref h0, .ref x1] : List Value).toArray s 2 518 (va_A (va_pl L0 f0) sz)) (F0 m 83 ls []) := by
    intro T L H locs f ls  hle hI hT hl 
    have t0 := hle _ _ t0
    have t1 := hle _ _ t1
    refine lv_aload_n hx hb d_Po_hearFrame_83 rfl (lv_at hl 0 rfl) ?_
    refine lv_aload_n hx hb d_Po_hearFrame_84 rfl (lv_at hl 1 rfl) ?_
    refine sm_v hI (va_runV (As := [.ref x1]) (rest := []) ⟨hx, hb, hml, hown, hts⟩ (c_Po_stopWhenConfirmed l D ca _ _ _ _ hT h0 t0 x1 t1) (kv_Po_stopWhenConfirmed hts rfl rfl (hts _ tw_1099) ⟨Nat.le_of_ble_eq_true rfl, Nat.le_of_ble_eq_true rfl⟩) (pv_Po hI hE hT t0) rfl rfl hl.1 rfl (lv_room (Nat.le_of_ble_eq_true rfl)) d_Po_hearFrame_85 ⟨Nat.le_of_ble_eq_true rfl, Nat.le_of_ble_eq_true rfl⟩) (fun H locs f hI hT => ?_)
    refine lv_aload_n hx hb d_Po_hearFrame_88 rfl (lv_at hl 0 rfl) ?_
    refine lv_aload_n hx hb d_Po_hearFrame_89 rfl (lv_at hl 1 rfl) ?_
    refine fg_Cn_index hx hb hts hown hI hT t1 (hts _ tw_121) (fun x9 h9 => u_same (hts _ tw_122) x9 h9) d_Po_hearFrame_90 (fun h_1 => ?_)
    refine sm_v hI (va_runV (As := [.int (nI k1)]) (rest := []) ⟨hx, hb, hml, hown, hts⟩ (c_Po_sendWhatMay l D ca _ _ _ _ hT h0 t0 (nI k1)) (kv_Po_sendWhatMay hts rfl rfl (hts _ tw_657) ⟨Nat.le_of_ble_eq_true rfl, Nat.le_of_ble_eq_true rfl⟩) (pv_Po hI hE hT t0) rfl rfl hl.1 rfl (lv_room (Nat.le_of_ble_eq_true rfl)) d_Po_hearFrame_93 ⟨Nat.le_of_ble_eq_true rfl, Nat.le_of_ble_eq_true rfl⟩) (fun H locs f hI hT => ?_)
    refine lv_aload_n hx hb d_Po_hearFrame_96 rfl (lv_at hl 1 rfl) ?_
    refine fgN_Cn_came hx hb hts hown hI hT t1 (va_Nw.use rfl (hE.1 _ tn_292 rfl)) (fun _ h9 => h9) d_Po_hearFrame_97 (fun x_2 => ?_)
    refine lv_bipush (v := 8) hx hb d_Po_hearFrame_100 (by decide) ?_
    refine lv_icmp_lt (tgt := 110) hx hb d_Po_hearFrame_102 (by decide) (fun c_3 => ?_) (fun c_3 => ?_)
    · refine W.widen (k := 2) (n := 518) (by decide) (by decide) ?_
      exact sm_vret hx hb hr hlk hI ⟨_, hle, hT, trivial⟩ d_Po_hearFrame_110
    · refine lv_aload_n hx hb d_Po_hearFrame_105 rfl (lv_at hl 0 rfl) ?_
      refine lv_aload_n hx hb d_Po_hearFrame_106 rfl (lv_at hl 1 rfl) ?_
      refine sm_v hI (va_runV (As := [.ref x1]) (rest := []) ⟨hx, hb, hml, hown, hts⟩ (c_Po_sendSupervisory l D ca _ _ _ _ hT h0 t0 x1 t1) (kv_Po_sendSupervisory hts rfl rfl (hts _ tw_794) ⟨Nat.le_of_ble_eq_true rfl, Nat.le_of_ble_eq_true rfl⟩) (pv_Po hI hE hT t0) rfl rfl hl.1 rfl (lv_room (Nat.le_of_ble_eq_true rfl)) d_Po_hearFrame_107 ⟨Nat.le_of_ble_eq_true rfl, Nat.le_of_ble_eq_true rfl⟩) (fun H locs f hI hT => ?_)
      refine W.widen (k := 2) (n := 518) (by decide) (by decide) ?_
      exact sm_vret hx hb hr hlk hI ⟨_, hle, hT, trivial⟩ d_Po_hearFrame_110
  have hJ_35 : ∀ (T : ty_e) (L : List Nat) (H : Heap) (locs : List Loc) (f : Nat → va_E) (ls : Array Slot) , ty_le T0 T → sw_I D cl_all (ty_s ca) (va_A (va_pl L0 f0) sz) s H locs L f → ok_T ca T L f → lv_has ls 2 [(0, .ref h0), (1, .ref x1)] → W p l e { frames := 6, cells := 2, slots := 518, locals := 151 } s m ([.ref h0, .ref x1] : List Value).toArray below meth c H locs 0 0 (MQ below (sm_Qv D (ty_s ca) L0 f0 sz (fun u => po_a ca T0 (fun _ => True) u)) ([.ref h0, .ref x1] : List Value).toArray s 2 518 (va_A (va_pl L0 f0) sz)) (F0 m 35 ls []) := by
    intro T L H locs f ls  hle hI hT hl 
    have t0 := hle _ _ t0
    have t1 := hle _ _ t1
    refine lv_aload_n hx hb d_Po_hearFrame_35 rfl (lv_at hl 1 rfl) ?_
    refine fg_Cn_state hx hb hts hown hI hT t1 (hts _ tw_148) (fun x9 h9 => u_same (hts _ tw_147) x9 h9) d_Po_hearFrame_36 (fun x_4 => ?_)
    refine lv_iconst (v := 2) hx hb d_Po_hearFrame_39 (by decide) ?_
    refine lv_icmp_ne (tgt := 83) hx hb d_Po_hearFrame_40 (by decide) (fun c_5 => ?_) (fun c_5 => ?_)
    · refine W.widen (k := 2) (n := 518) (by decide) (by decide) ?_
      exact hJ_83 _ _ _ _ _ _  hle hI hT (lv_sub hl [0, 1] rfl) 
    · refine lv_aload_n hx hb d_Po_hearFrame_43 rfl (lv_at hl 1 rfl) ?_
      refine sm_iP hI (va_runV (As := []) (rest := []) ⟨hx, hb, hml, hown, hts⟩ (c_Cn_isInformation l D ca _ _ _ _ hT x1 t1) (kv_Cn_isInformation hts rfl rfl (hts _ tw_1094) ⟨Nat.le_of_ble_eq_true rfl, Nat.le_of_ble_eq_true rfl⟩) (pv_Cn hI hE hT t1) rfl rfl hl.1 rfl (lv_room (Nat.le_of_ble_eq_true rfl)) d_Po_hearFrame_44 ⟨Nat.le_of_ble_eq_true rfl, Nat.le_of_ble_eq_true rfl⟩) (fun x_6 H locs p_7 hI => ?_)
      refine lv_if_eq (tgt := 83) hx hb d_Po_hearFrame_47 (by decide) (fun c_8 => ?_) (fun c_8 => ?_)
      · refine W.widen (k := 2) (n := 518) (by decide) (by decide) ?_
        exact hJ_83 _ _ _ _ _ _  hle hI hT (lv_sub hl [0, 1] rfl) 
      · refine lv_aload_n hx hb d_Po_hearFrame_50 rfl (lv_at hl 1 rfl) ?_
        refine lv_aload_n hx hb d_Po_hearFrame_51 rfl (lv_at hl 0 rfl) ?_
        refine fg_Po_now hx hb hts hown hI hT t0 (hts _ tw_373) (fun _ h9 => h9) d_Po_hearFrame_52 (fun x_9 => ?_)
        refine sm_v hI (va_runV (As := [.long (x_9)]) (rest := []) ⟨hx, hb, hml, hown, hts⟩ (c_Cn_noteCame l D ca _ _ _ _ hT x1 t1 x_9) (kv_Cn_noteCame hts rfl rfl (hts _ tw_1095) ⟨Nat.le_of_ble_eq_true rfl, Nat.le_of_ble_eq_true rfl⟩) (pv_Cn hI hE hT t1) rfl rfl hl.1 rfl (lv_room (Nat.le_of_ble_eq_true rfl)) d_Po_hearFrame_55 ⟨Nat.le_of_ble_eq_true rfl, Nat.le_of_ble_eq_true rfl⟩) (fun H locs f hI hT => ?_)
        refine lv_aload_n hx hb d_Po_hearFrame_58 rfl (lv_at hl 0 rfl) ?_
        refine fg_Po_asked hx hb hts hown hI hT t0 (hts _ tw_375) (fun _ h9 => h9) d_Po_hearFrame_59 (fun r_10 t_11 => ?_)
        refine lv_aload_n hx hb d_Po_hearFrame_62 rfl (lv_at hl 1 rfl) ?_
        refine fg_Cn_heard hx hb hts hown hI hT t1 (hts _ tw_136) (fun x9 h9 => u_same (hts _ tw_132) x9 h9) d_Po_hearFrame_63 (fun r_12 t_13 => ?_)
        refine lv_bipush (v := 6) hx hb d_Po_hearFrame_66 (by decide) ?_
        refine lv_aload_n hx hb d_Po_hearFrame_68 rfl (lv_at hl 1 rfl) ?_
        refine fg_Cn_heard hx hb hts hown hI hT t1 (hts _ tw_136) (fun x9 h9 => u_same (hts _ tw_132) x9 h9) d_Po_hearFrame_69 (fun r_14 t_15 => ?_)
        refine fgN_Br_length hx hb hts hown hI hT t_15 (va_Nw.use rfl (hE.1 _ tn_51 rfl)) (fun _ h9 => h9) d_Po_hearFrame_72 (fun n_16 h_17 => ?_)
        refine sm_v hI (va_runV (As := [.ref r_12, .int (6), .int (nI n_16)]) (rest := []) ⟨hx, hb, hml, hown, hts⟩ (c_Br_copyFrom l D ca _ _ _ _ hT r_10 t_11 r_12 t_13 (6) (by omega) (nI n_16) (by omega) (by omega) (by omega) (lo_nI (by omega))) (kv_Br_copyFrom hts rfl rfl (hts _ tw_718) ⟨Nat.le_of_ble_eq_true rfl, Nat.le_of_ble_eq_true rfl⟩) (pv_Br hI hE hT t_11) rfl rfl hl.1 rfl (lv_room (Nat.le_of_ble_eq_true rfl)) d_Po_hearFrame_75 ⟨Nat.le_of_ble_eq_true rfl, Nat.le_of_ble_eq_true rfl⟩) (fun H locs f hI hT => ?_)
        refine lv_aload_n hx hb d_Po_hearFrame_78 rfl (lv_at hl 0 rfl) ?_
        refine lv_aload_n hx hb d_Po_hearFrame_79 rfl (lv_at hl 1 rfl) ?_
        refine sm_vA hI (va_runV (As := [.ref x1]) (rest := []) ⟨hx, hb, hml, hown, hts⟩ (c_Po_ask l D ca _ _ _ _ hT h0 t0 x1 (Or.inl ⟨_, t1⟩)) (kv_Po_ask hts rfl rfl (hts _ tw_933) ⟨Nat.le_of_ble_eq_true rfl, Nat.le_of_ble_eq_true rfl⟩) (pv_Po hI hE hT t0) rfl rfl hl.1 rfl (lv_room (Nat.le_of_ble_eq_true rfl)) d_Po_hearFrame_80 ⟨Nat.le_of_ble_eq_true rfl, Nat.le_of_ble_eq_true rfl⟩) (fun T L H locs f hle1 hI hT => ?_)
        have hle := ty_tr hle hle1
        have t0 := hle1 _ _ t0
        have t1 := hle1 _ _ t1
        refine W.widen (k := 2) (n := 518) (by decide) (by decide) ?_
        exact hJ_83 _ _ _ _ _ _  hle hI hT (lv_sub hl [0, 1] rfl) 
  refine lv_aload_n hx hb d_Po_hearFrame_0 rfl (lv_at hl 1 rfl) ?_
  refine sm_iP hI (va_runV (As := []) (rest := []) ⟨hx, hb, hml, hown, hts⟩ (c_Cn_isAnyFrame l D ca _ _ _ _ hT x1 t1) (kv_Cn_isAnyFrame hts rfl rfl (hts _ tw_1050) ⟨Nat.le_of_ble_eq_true rfl, Nat.le_of_ble_eq_true rfl⟩) (pv_Cn hI hE hT t1) rfl rfl hl.1 rfl (lv_room (Nat.le_of_ble_eq_true rfl)) d_Po_hearFrame_1 ⟨Nat.le_of_ble_eq_true rfl, Nat.le_of_ble_eq_true rfl⟩) (fun x_18 H locs p_19 hI => ?_)
  refine lv_if_ne (tgt := 15) hx hb d_Po_hearFrame_4 (by decide) (fun c_20 => ?_) (fun c_20 => ?_)
  · refine lv_aload_n hx hb d_Po_hearFrame_15 rfl (lv_at hl 1 rfl) ?_
    refine sm_iP hI (va_runV (As := []) (rest := []) ⟨hx, hb, hml, hown, hts⟩ (c_Cn_isUnnumbered l D ca _ _ _ _ hT x1 t1) (kv_Cn_isUnnumbered hts rfl rfl (hts _ tw_1071) ⟨Nat.le_of_ble_eq_true rfl, Nat.le_of_ble_eq_true rfl⟩) (pv_Cn hI hE hT t1) rfl rfl hl.1 rfl (lv_room (Nat.le_of_ble_eq_true rfl)) d_Po_hearFrame_16 ⟨Nat.le_of_ble_eq_true rfl, Nat.le_of_ble_eq_true rfl⟩) (fun x_21 H locs p_22 hI => ?_)
    refine lv_if_eq (tgt := 30) hx hb d_Po_hearFrame_19 (by decide) (fun c_23 => ?_) (fun c_23 => ?_)
    · refine lv_aload_n hx hb d_Po_hearFrame_30 rfl (lv_at hl 0 rfl) ?_
      refine lv_aload_n hx hb d_Po_hearFrame_31 rfl (lv_at hl 1 rfl) ?_
      refine sm_v hI (va_runV (As := [.ref x1]) (rest := []) ⟨hx, hb, hml, hown, hts⟩ (c_Po_confirm l D ca _ _ _ _ hT h0 t0 x1 t1) (kv_Po_confirm hts rfl rfl (hts _ tw_1084) ⟨Nat.le_of_ble_eq_true rfl, Nat.le_of_ble_eq_true rfl⟩) (pv_Po hI hE hT t0) rfl rfl hl.1 rfl (lv_room (Nat.le_of_ble_eq_true rfl)) d_Po_hearFrame_32 ⟨Nat.le_of_ble_eq_true rfl, Nat.le_of_ble_eq_true rfl⟩) (fun H locs f hI hT => ?_)
      refine W.widen (k := 0) (n := 0) (by decide) (by decide) ?_
      exact hJ_35 _ _ _ _ _ _  hle hI hT (lv_sub hl [0, 1] rfl) 
    · refine lv_aload_n hx hb d_Po_hearFrame_22 rfl (lv_at hl 0 rfl) ?_
      refine lv_aload_n hx hb d_Po_hearFrame_23 rfl (lv_at hl 1 rfl) ?_
      refine sm_v hI (va_runV (As := [.ref x1]) (rest := []) ⟨hx, hb, hml, hown, hts⟩ (c_Po_hearUnnumbered l D ca _ _ _ _ hT h0 t0 x1 t1) (kv_Po_hearUnnumbered hts rfl rfl (hts _ tw_1072) ⟨Nat.le_of_ble_eq_true rfl, Nat.le_of_ble_eq_true rfl⟩) (pv_Po hI hE hT t0) rfl rfl hl.1 rfl (lv_room (Nat.le_of_ble_eq_true rfl)) d_Po_hearFrame_24 ⟨Nat.le_of_ble_eq_true rfl, Nat.le_of_ble_eq_true rfl⟩) (fun H locs f hI hT => ?_)
      refine lv_goto (tgt := 35) hx hb d_Po_hearFrame_27 (by decide) ?_
      refine W.widen (k := 0) (n := 0) (by decide) (by decide) ?_
      exact hJ_35 _ _ _ _ _ _  hle hI hT (lv_sub hl [0, 1] rfl) 
  · refine lv_aload_n hx hb d_Po_hearFrame_7 rfl (lv_at hl 0 rfl) ?_
    refine lv_aload_n hx hb d_Po_hearFrame_8 rfl (lv_at hl 1 rfl) ?_
    refine sm_v hI (va_runV (As := [.ref x1]) (rest := []) ⟨hx, hb, hml, hown, hts⟩ (c_Po_shut l D ca _ _ _ _ hT h0 t0 x1 t1) (kv_Po_shut hts rfl rfl (hts _ tw_778) ⟨Nat.le_of_ble_eq_true rfl, Nat.le_of_ble_eq_true rfl⟩) (pv_Po hI hE hT t0) rfl rfl hl.1 rfl (lv_room (Nat.le_of_ble_eq_true rfl)) d_Po_hearFrame_9 ⟨Nat.le_of_ble_eq_true rfl, Nat.le_of_ble_eq_true rfl⟩) (fun H locs f hI hT => ?_)
    refine lv_goto (tgt := 35) hx hb d_Po_hearFrame_12 (by decide) ?_
    refine W.widen (k := 0) (n := 0) (by decide) (by decide) ?_
    exact hJ_35 _ _ _ _ _ _  hle hI hT (lv_sub hl [0, 1] rfl) 
theorem d_Po_hearSerialFrame_0 : decode b_Po_hearSerialFrame 0 = .ok (.aload_n 0, 1) := by decide +kernel
theorem d_Po_hearSerialFrame_1 : decode b_Po_hearSerialFrame 1 = .ok (.getfield 24, 3) := by decide +kernel
theorem d_Po_hearSerialFrame_4 : decode b_Po_hearSerialFrame 4 = .ok (.invokevirtual 523, 3) := by decide +kernel
theorem d_Po_hearSerialFrame_7 : decode b_Po_hearSerialFrame 7 = .ok (.istore_n 1, 1) := by decide +kernel
theorem d_Po_hearSerialFrame_8 : decode b_Po_hearSerialFrame 8 = .ok (.iload_n 1, 1) := by decide +kernel
theorem d_Po_hearSerialFrame_9 : decode b_Po_hearSerialFrame 9 = .ok (.invokestatic 526, 3) := by decide +kernel
theorem d_Po_hearSerialFrame_12 : decode b_Po_hearSerialFrame 12 = .ok (.ifCond .eq 43, 3) := by decide +kernel
theorem d_Po_hearSerialFrame_15 : decode b_Po_hearSerialFrame 15 = .ok (.aload_n 0, 1) := by decide +kernel
theorem d_Po_hearSerialFrame_16 : decode b_Po_hearSerialFrame 16 = .ok (.getfield 24, 3) := by decide +kernel
theorem d_Po_hearSerialFrame_19 : decode b_Po_hearSerialFrame 19 = .ok (.invokevirtual 530, 3) := by decide +kernel
theorem d_Po_hearSerialFrame_22 : decode b_Po_hearSerialFrame 22 = .ok (.ifCond .eq 11, 3) := by decide +kernel
theorem d_Po_hearSerialFrame_25 : decode b_Po_hearSerialFrame 25 = .ok (.aload_n 0, 1) := by decide +kernel
theorem d_Po_hearSerialFrame_26 : decode b_Po_hearSerialFrame 26 = .ok (.getfield 24, 3) := by decide +kernel
theorem d_Po_hearSerialFrame_29 : decode b_Po_hearSerialFrame 29 = .ok (.invokevirtual 533, 3) := by decide +kernel
theorem d_Po_hearSerialFrame_32 : decode b_Po_hearSerialFrame 32 = .ok (.return_, 1) := by decide +kernel
theorem d_Po_hearSerialFrame_33 : decode b_Po_hearSerialFrame 33 = .ok (.aload_n 0, 1) := by decide +kernel
theorem d_Po_hearSerialFrame_34 : decode b_Po_hearSerialFrame 34 = .ok (.getfield 24, 3) := by decide +kernel
theorem d_Po_hearSerialFrame_37 : decode b_Po_hearSerialFrame 37 = .ok (.aload_n 0, 1) := by decide +kernel
theorem d_Po_hearSerialFrame_38 : decode b_Po_hearSerialFrame 38 = .ok (.getfield 24, 3) := by decide +kernel
theorem d_Po_hearSerialFrame_41 : decode b_Po_hearSerialFrame 41 = .ok (.invokevirtual 536, 3) := by decide +kernel
theorem d_Po_hearSerialFrame_44 : decode b_Po_hearSerialFrame 44 = .ok (.putfield 539, 3) := by decide +kernel
theorem d_Po_hearSerialFrame_47 : decode b_Po_hearSerialFrame 47 = .ok (.aload_n 0, 1) := by decide +kernel
theorem d_Po_hearSerialFrame_48 : decode b_Po_hearSerialFrame 48 = .ok (.getfield 31, 3) := by decide +kernel
theorem d_Po_hearSerialFrame_51 : decode b_Po_hearSerialFrame 51 = .ok (.iconst 3, 1) := by decide +kernel
theorem d_Po_hearSerialFrame_52 : decode b_Po_hearSerialFrame 52 = .ok (.invokevirtual 542, 3) := by decide +kernel
theorem d_Po_hearSerialFrame_55 : decode b_Po_hearSerialFrame 55 = .ok (.iload_n 1, 1) := by decide +kernel
theorem d_Po_hearSerialFrame_56 : decode b_Po_hearSerialFrame 56 = .ok (.tableswitch 153 0 11 #[64, 153, 153, 88, 88, 153, 153, 153, 153, 71, 145, 145], 64) := by decide +kernel
theorem d_Po_hearSerialFrame_120 : decode b_Po_hearSerialFrame 120 = .ok (.aload_n 0, 1) := by decide +kernel
theorem d_Po_hearSerialFrame_121 : decode b_Po_hearSerialFrame 121 = .ok (.invokevirtual 545, 3) := by decide +kernel
theorem d_Po_hearSerialFrame_124 : decode b_Po_hearSerialFrame 124 = .ok (.goto 85, 3) := by decide +kernel
theorem d_Po_hearSerialFrame_127 : decode b_Po_hearSerialFrame 127 = .ok (.aload_n 0, 1) := by decide +kernel
theorem d_Po_hearSerialFrame_128 : decode b_Po_hearSerialFrame 128 = .ok (.aload_n 0, 1) := by decide +kernel
theorem d_Po_hearSerialFrame_129 : decode b_Po_hearSerialFrame 129 = .ok (.getfield 24, 3) := by decide +kernel
theorem d_Po_hearSerialFrame_132 : decode b_Po_hearSerialFrame 132 = .ok (.getfield 548, 3) := by decide +kernel
theorem d_Po_hearSerialFrame_135 : decode b_Po_hearSerialFrame 135 = .ok (.bipush 11, 2) := by decide +kernel
theorem d_Po_hearSerialFrame_137 : decode b_Po_hearSerialFrame 137 = .ok (.iconst 0, 1) := by decide +kernel
theorem d_Po_hearSerialFrame_138 : decode b_Po_hearSerialFrame 138 = .ok (.invokevirtual 551, 3) := by decide +kernel
theorem d_Po_hearSerialFrame_141 : decode b_Po_hearSerialFrame 141 = .ok (.goto 68, 3) := by decide +kernel
theorem d_Po_hearSerialFrame_144 : decode b_Po_hearSerialFrame 144 = .ok (.aload_n 0, 1) := by decide +kernel
theorem d_Po_hearSerialFrame_145 : decode b_Po_hearSerialFrame 145 = .ok (.getfield 53, 3) := by decide +kernel
theorem d_Po_hearSerialFrame_148 : decode b_Po_hearSerialFrame 148 = .ok (.aload_n 0, 1) := by decide +kernel
theorem d_Po_hearSerialFrame_149 : decode b_Po_hearSerialFrame 149 = .ok (.getfield 24, 3) := by decide +kernel
theorem d_Po_hearSerialFrame_152 : decode b_Po_hearSerialFrame 152 = .ok (.getfield 555, 3) := by decide +kernel
theorem d_Po_hearSerialFrame_155 : decode b_Po_hearSerialFrame 155 = .ok (.bipush 6, 2) := by decide +kernel
theorem d_Po_hearSerialFrame_157 : decode b_Po_hearSerialFrame 157 = .ok (.aload_n 0, 1) := by decide +kernel
theorem d_Po_hearSerialFrame_158 : decode b_Po_hearSerialFrame 158 = .ok (.getfield 24, 3) := by decide +kernel
theorem d_Po_hearSerialFrame_161 : decode b_Po_hearSerialFrame 161 = .ok (.getfield 555, 3) := by decide +kernel
theorem d_Po_hearSerialFrame_164 : decode b_Po_hearSerialFrame 164 = .ok (.getfield 207, 3) := by decide +kernel
theorem d_Po_hearSerialFrame_167 : decode b_Po_hearSerialFrame 167 = .ok (.iconst 2, 1) := by decide +kernel
theorem d_Po_hearSerialFrame_168 : decode b_Po_hearSerialFrame 168 = .ok (.isub, 1) := by decide +kernel
theorem d_Po_hearSerialFrame_169 : decode b_Po_hearSerialFrame 169 = .ok (.invokevirtual 361, 3) := by decide +kernel
theorem d_Po_hearSerialFrame_172 : decode b_Po_hearSerialFrame 172 = .ok (.aload_n 0, 1) := by decide +kernel
theorem d_Po_hearSerialFrame_173 : decode b_Po_hearSerialFrame 173 = .ok (.aload_n 0, 1) := by decide +kernel
theorem d_Po_hearSerialFrame_174 : decode b_Po_hearSerialFrame 174 = .ok (.getfield 24, 3) := by decide +kernel
theorem d_Po_hearSerialFrame_177 : decode b_Po_hearSerialFrame 177 = .ok (.invokevirtual 365, 3) := by decide +kernel
theorem d_Po_hearSerialFrame_180 : decode b_Po_hearSerialFrame 180 = .ok (.iload_n 1, 1) := by decide +kernel
theorem d_Po_hearSerialFrame_181 : decode b_Po_hearSerialFrame 181 = .ok (.iconst 3, 1) := by decide +kernel
theorem d_Po_hearSerialFrame_182 : decode b_Po_hearSerialFrame 182 = .ok (.if_icmp .ne 27, 3) := by decide +kernel
theorem d_Po_hearSerialFrame_185 : decode b_Po_hearSerialFrame 185 = .ok (.aload_n 0, 1) := by decide +kernel
theorem d_Po_hearSerialFrame_186 : decode b_Po_hearSerialFrame 186 = .ok (.aload_n 0, 1) := by decide +kernel
theorem d_Po_hearSerialFrame_187 : decode b_Po_hearSerialFrame 187 = .ok (.getfield 24, 3) := by decide +kernel
theorem d_Po_hearSerialFrame_190 : decode b_Po_hearSerialFrame 190 = .ok (.getfield 556, 3) := by decide +kernel
theorem d_Po_hearSerialFrame_193 : decode b_Po_hearSerialFrame 193 = .ok (.iconst 0, 1) := by decide +kernel
theorem d_Po_hearSerialFrame_194 : decode b_Po_hearSerialFrame 194 = .ok (.iconst 0, 1) := by decide +kernel
theorem d_Po_hearSerialFrame_195 : decode b_Po_hearSerialFrame 195 = .ok (.invokevirtual 551, 3) := by decide +kernel
theorem d_Po_hearSerialFrame_198 : decode b_Po_hearSerialFrame 198 = .ok (.goto 11, 3) := by decide +kernel
theorem d_Po_hearSerialFrame_201 : decode b_Po_hearSerialFrame 201 = .ok (.aload_n 0, 1) := by decide +kernel
theorem d_Po_hearSerialFrame_202 : decode b_Po_hearSerialFrame 202 = .ok (.iload_n 1, 1) := by decide +kernel
theorem d_Po_hearSerialFrame_203 : decode b_Po_hearSerialFrame 203 = .ok (.invokevirtual 559, 3) := by decide +kernel
theorem d_Po_hearSerialFrame_206 : decode b_Po_hearSerialFrame 206 = .ok (.goto 3, 3) := by decide +kernel
theorem d_Po_hearSerialFrame_209 : decode b_Po_hearSerialFrame 209 = .ok (.return_, 1) := by decide +kernel
set_option maxRecDepth 100000 in
set_option maxHeartbeats 4000000 in
theorem c_Po_hearSerialFrame (l : Launch) (D : va_G) (ca : Nat → ClassId) (T0 : ty_e) (L0 : List Nat) (f0 : Nat → va_E) (sz : Nat) (hT : ok_T ca T0 L0 f0) {g0 : List (Int32 × Int32)} (h0 : Nat) (t0 : T0 h0 = some (ty_po g0)) :
    Met l y_Po_hearSerialFrame (Cond.code y_Po_hearSerialFrame b_Po_hearSerialFrame 2 none :: wg) { frames := 6, cells := 2, slots := 518, locals := 151 } (va_Pc [.ref h0] (sm_P D cl_all (ty_s ca) ek L0 f0 sz)) (sm_Qv D (ty_s ca) L0 f0 sz (fun u => po_a ca T0 (fun _ => True) u)) 2 518 (va_A (va_pl L0 f0) sz) := by
  refine sm_start (by decide) (Nat.le_of_ble_eq_true rfl) ?_
  intro p e s m below meth c ls hx hb hml hr hlk hnm hts hown hsz hE hI hl
  have hl : lv_has ls 2 [(0, .ref h0)] := hl
  have hle : ty_le T0 T0 := ty_rf
  have hJ_55 : ∀ (T : ty_e) (L : List Nat) (H : Heap) (locs : List Loc) (f : Nat → va_E) (ls : Array Slot) (y1 : Int32), ty_le T0 T → sw_I D cl_all (ty_s ca) (va_A (va_pl L0 f0) sz) s H locs L f → ok_T ca T L f → lv_has ls 2 [(0, .ref h0), (1, .int (y1))] → W p l e { frames := 6, cells := 2, slots := 518, locals := 151 } s m ([.ref h0] : List Value).toArray below meth c H locs 0 0 (MQ below (sm_Qv D (ty_s ca) L0 f0 sz (fun u => po_a ca T0 (fun _ => True) u)) ([.ref h0] : List Value).toArray s 2 518 (va_A (va_pl L0 f0) sz)) (F0 m 55 ls []) := by
    intro T L H locs f ls y1 hle hI hT hl 
    have t0 := hle _ _ t0
    refine lv_iload_n hx hb d_Po_hearSerialFrame_55 rfl (lv_at hl 1 rfl) ?_
    by_cases c_1 : y1.toInt = 0
    · refine lv_tableIn (off := 64) (tgt := 120) hx hb d_Po_hearSerialFrame_56 (by omega) (by omega) (by rw [c_1]; rfl) (by decide) ?_
      refine lv_aload_n hx hb d_Po_hearSerialFrame_120 rfl (lv_at hl 0 rfl) ?_
      refine sm_v hI (va_runV (As := []) (rest := []) ⟨hx, hb, hml, hown, hts⟩ (c_Po_resetSerial l D ca _ _ _ _ hT h0 t0) (kv_Po_resetSerial hts rfl rfl (hts _ tw_907) ⟨Nat.le_of_ble_eq_true rfl, Nat.le_of_ble_eq_true rfl⟩) (pv_Po hI hE hT t0) rfl rfl hl.1 rfl (lv_room (Nat.le_of_ble_eq_true rfl)) d_Po_hearSerialFrame_121 ⟨Nat.le_of_ble_eq_true rfl, Nat.le_of_ble_eq_true rfl⟩) (fun H locs f hI hT => ?_)
      refine lv_goto (tgt := 209) hx hb d_Po_hearSerialFrame_124 (by decide) ?_
      refine W.widen (k := 2) (n := 518) (by decide) (by decide) ?_
      exact sm_vret hx hb hr hlk hI ⟨_, hle, hT, trivial⟩ d_Po_hearSerialFrame_209
    by_cases c_2 : y1.toInt = 1
    · refine lv_tableIn (off := 153) (tgt := 209) hx hb d_Po_hearSerialFrame_56 (by omega) (by omega) (by rw [c_2]; rfl) (by decide) ?_
      refine W.widen (k := 2) (n := 518) (by decide) (by decide) ?_
      exact sm_vret hx hb hr hlk hI ⟨_, hle, hT, trivial⟩ d_Po_hearSerialFrame_209
    by_cases c_3 : y1.toInt = 2
    · refine lv_tableIn (off := 153) (tgt := 209) hx hb d_Po_hearSerialFrame_56 (by omega) (by omega) (by rw [c_3]; rfl) (by decide) ?_
      refine W.widen (k := 2) (n := 518) (by decide) (by decide) ?_
      exact sm_vret hx hb hr hlk hI ⟨_, hle, hT, trivial⟩ d_Po_hearSerialFrame_209
    by_cases c_4 : y1.toInt = 3
    · refine lv_tableIn (off := 88) (tgt := 144) hx hb d_Po_hearSerialFrame_56 (by omega) (by omega) (by rw [c_4]; rfl) (by decide) ?_
      refine lv_aload_n hx hb d_Po_hearSerialFrame_144 rfl (lv_at hl 0 rfl) ?_
      refine fg_Po_asked hx hb hts hown hI hT t0 (hts _ tw_375) (fun _ h9 => h9) d_Po_hearSerialFrame_145 (fun r_5 t_6 => ?_)
      refine lv_aload_n hx hb d_Po_hearSerialFrame_148 rfl (lv_at hl 0 rfl) ?_
      refine fg_Po_serialLine hx hb hts hown hI hT t0 (hts _ tw_366) (fun _ h9 => h9) d_Po_hearSerialFrame_149 (fun r_7 t_8 => ?_)
      refine fg_Sr_heard hx hb hts hown hI hT t_8 (hts _ tw_137) (fun x9 h9 => u_same (hts _ tw_134) x9 h9) d_Po_hearSerialFrame_152 (fun r_9 t_10 => ?_)
      refine lv_bipush (v := 6) hx hb d_Po_hearSerialFrame_155 (by decide) ?_
      refine lv_aload_n hx hb d_Po_hearSerialFrame_157 rfl (lv_at hl 0 rfl) ?_
      refine fg_Po_serialLine hx hb hts hown hI hT t0 (hts _ tw_366) (fun _ h9 => h9) d_Po_hearSerialFrame_158 (fun r_11 t_12 => ?_)
      refine fg_Sr_heard hx hb hts hown hI hT t_12 (hts _ tw_137) (fun x9 h9 => u_same (hts _ tw_134) x9 h9) d_Po_hearSerialFrame_161 (fun r_13 t_14 => ?_)
      refine fgN_Br_length hx hb hts hown hI hT t_14 (va_Nw.use rfl (hE.1 _ tn_51 rfl)) (fun _ h9 => h9) d_Po_hearSerialFrame_164 (fun n_15 h_16 => ?_)
      refine lv_iconst (v := 2) hx hb d_Po_hearSerialFrame_167 (by decide) ?_
      refine lv_isub hx hb d_Po_hearSerialFrame_168 ?_
      refine lv_topi (fun x_17 e_18 => ?_)
      refine sm_v hI (va_runV (As := [.ref r_9, .int (6), .int (x_17)]) (rest := []) ⟨hx, hb, hml, hown, hts⟩ (c_Br_copyFrom l D ca _ _ _ _ hT r_5 t_6 r_9 t_10 (6) (by omega) x_17 (by omega) (by omega) (by omega) (lo_sub (n := n_15) (by omega) e_18)) (kv_Br_copyFrom hts rfl rfl (hts _ tw_718) ⟨Nat.le_of_ble_eq_true rfl, Nat.le_of_ble_eq_true rfl⟩) (pv_Br hI hE hT t_6) rfl rfl hl.1 rfl (lv_room (Nat.le_of_ble_eq_true rfl)) d_Po_hearSerialFrame_169 ⟨Nat.le_of_ble_eq_true rfl, Nat.le_of_ble_eq_true rfl⟩) (fun H locs f hI hT => ?_)
      refine lv_aload_n hx hb d_Po_hearSerialFrame_172 rfl (lv_at hl 0 rfl) ?_
      refine lv_aload_n hx hb d_Po_hearSerialFrame_173 rfl (lv_at hl 0 rfl) ?_
      refine fg_Po_serialLine hx hb hts hown hI hT t0 (hts _ tw_366) (fun _ h9 => h9) d_Po_hearSerialFrame_174 (fun r_19 t_20 => ?_)
      refine sm_vA hI (va_runV (As := [.ref r_19]) (rest := []) ⟨hx, hb, hml, hown, hts⟩ (c_Po_ask l D ca _ _ _ _ hT h0 t0 r_19 (Or.inr t_20)) (kv_Po_ask hts rfl rfl (hts _ tw_933) ⟨Nat.le_of_ble_eq_true rfl, Nat.le_of_ble_eq_true rfl⟩) (pv_Po hI hE hT t0) rfl rfl hl.1 rfl (lv_room (Nat.le_of_ble_eq_true rfl)) d_Po_hearSerialFrame_177 ⟨Nat.le_of_ble_eq_true rfl, Nat.le_of_ble_eq_true rfl⟩) (fun T L H locs f hle1 hI hT => ?_)
      have hle := ty_tr hle hle1
      have t0 := hle1 _ _ t0
      refine lv_iload_n hx hb d_Po_hearSerialFrame_180 rfl (lv_at hl 1 rfl) ?_
      refine lv_iconst (v := 3) hx hb d_Po_hearSerialFrame_181 (by decide) ?_
      refine lv_icmp_ne (tgt := 209) hx hb d_Po_hearSerialFrame_182 (by decide) (fun c_21 => ?_) (fun c_21 => ?_)
      · refine W.widen (k := 2) (n := 518) (by decide) (by decide) ?_
        exact sm_vret hx hb hr hlk hI ⟨_, hle, hT, trivial⟩ d_Po_hearSerialFrame_209
      · refine lv_aload_n hx hb d_Po_hearSerialFrame_185 rfl (lv_at hl 0 rfl) ?_
        refine lv_aload_n hx hb d_Po_hearSerialFrame_186 rfl (lv_at hl 0 rfl) ?_
        refine fg_Po_serialLine hx hb hts hown hI hT t0 (hts _ tw_366) (fun _ h9 => h9) d_Po_hearSerialFrame_187 (fun r_22 t_23 => ?_)
        refine fgN_Sr_kept hx hb hts hown hI hT t_23 (va_Nw.use rfl (hE.1 _ tn_116 rfl)) (fun _ h9 => h9) d_Po_hearSerialFrame_190 (fun r_24 t_25 => ?_)
        refine lv_iconst (v := 0) hx hb d_Po_hearSerialFrame_193 (by decide) ?_
        refine lv_iconst (v := 0) hx hb d_Po_hearSerialFrame_194 (by decide) ?_
        refine sm_v hI (va_runV (As := [.ref r_24, .int (0), .int (0)]) (rest := []) ⟨hx, hb, hml, hown, hts⟩ (c_Po_answerSerial l D ca _ _ _ _ hT h0 t0 r_24 t_25 0 0 (by decide)) (kv_Po_answerSerial hts rfl rfl (hts _ tw_923) ⟨Nat.le_of_ble_eq_true rfl, Nat.le_of_ble_eq_true rfl⟩) (pv_Po hI hE hT t0) rfl rfl hl.1 rfl (lv_room (Nat.le_of_ble_eq_true rfl)) d_Po_hearSerialFrame_195 ⟨Nat.le_of_ble_eq_true rfl, Nat.le_of_ble_eq_true rfl⟩) (fun H locs f hI hT => ?_)
        refine lv_goto (tgt := 209) hx hb d_Po_hearSerialFrame_198 (by decide) ?_
        refine W.widen (k := 2) (n := 518) (by decide) (by decide) ?_
        exact sm_vret hx hb hr hlk hI ⟨_, hle, hT, trivial⟩ d_Po_hearSerialFrame_209
    by_cases c_26 : y1.toInt = 4
    · refine lv_tableIn (off := 88) (tgt := 144) hx hb d_Po_hearSerialFrame_56 (by omega) (by omega) (by rw [c_26]; rfl) (by decide) ?_
      refine lv_aload_n hx hb d_Po_hearSerialFrame_144 rfl (lv_at hl 0 rfl) ?_
      refine fg_Po_asked hx hb hts hown hI hT t0 (hts _ tw_375) (fun _ h9 => h9) d_Po_hearSerialFrame_145 (fun r_27 t_28 => ?_)
      refine lv_aload_n hx hb d_Po_hearSerialFrame_148 rfl (lv_at hl 0 rfl) ?_
      refine fg_Po_serialLine hx hb hts hown hI hT t0 (hts _ tw_366) (fun _ h9 => h9) d_Po_hearSerialFrame_149 (fun r_29 t_30 => ?_)
      refine fg_Sr_heard hx hb hts hown hI hT t_30 (hts _ tw_137) (fun x9 h9 => u_same (hts _ tw_134) x9 h9) d_Po_hearSerialFrame_152 (fun r_31 t_32 => ?_)
      refine lv_bipush (v := 6) hx hb d_Po_hearSerialFrame_155 (by decide) ?_
      refine lv_aload_n hx hb d_Po_hearSerialFrame_157 rfl (lv_at hl 0 rfl) ?_
      refine fg_Po_serialLine hx hb hts hown hI hT t0 (hts _ tw_366) (fun _ h9 => h9) d_Po_hearSerialFrame_158 (fun r_33 t_34 => ?_)
      refine fg_Sr_heard hx hb hts hown hI hT t_34 (hts _ tw_137) (fun x9 h9 => u_same (hts _ tw_134) x9 h9) d_Po_hearSerialFrame_161 (fun r_35 t_36 => ?_)
      refine fgN_Br_length hx hb hts hown hI hT t_36 (va_Nw.use rfl (hE.1 _ tn_51 rfl)) (fun _ h9 => h9) d_Po_hearSerialFrame_164 (fun n_37 h_38 => ?_)
      refine lv_iconst (v := 2) hx hb d_Po_hearSerialFrame_167 (by decide) ?_
      refine lv_isub hx hb d_Po_hearSerialFrame_168 ?_
      refine lv_topi (fun x_39 e_40 => ?_)
      refine sm_v hI (va_runV (As := [.ref r_31, .int (6), .int (x_39)]) (rest := []) ⟨hx, hb, hml, hown, hts⟩ (c_Br_copyFrom l D ca _ _ _ _ hT r_27 t_28 r_31 t_32 (6) (by omega) x_39 (by omega) (by omega) (by omega) (lo_sub (n := n_37) (by omega) e_40)) (kv_Br_copyFrom hts rfl rfl (hts _ tw_718) ⟨Nat.le_of_ble_eq_true rfl, Nat.le_of_ble_eq_true rfl⟩) (pv_Br hI hE hT t_28) rfl rfl hl.1 rfl (lv_room (Nat.le_of_ble_eq_true rfl)) d_Po_hearSerialFrame_169 ⟨Nat.le_of_ble_eq_true rfl, Nat.le_of_ble_eq_true rfl⟩) (fun H locs f hI hT => ?_)
      refine lv_aload_n hx hb d_Po_hearSerialFrame_172 rfl (lv_at hl 0 rfl) ?_
      refine lv_aload_n hx hb d_Po_hearSerialFrame_173 rfl (lv_at hl 0 rfl) ?_
      refine fg_Po_serialLine hx hb hts hown hI hT t0 (hts _ tw_366) (fun _ h9 => h9) d_Po_hearSerialFrame_174 (fun r_41 t_42 => ?_)
      refine sm_vA hI (va_runV (As := [.ref r_41]) (rest := []) ⟨hx, hb, hml, hown, hts⟩ (c_Po_ask l D ca _ _ _ _ hT h0 t0 r_41 (Or.inr t_42)) (kv_Po_ask hts rfl rfl (hts _ tw_933) ⟨Nat.le_of_ble_eq_true rfl, Nat.le_of_ble_eq_true rfl⟩) (pv_Po hI hE hT t0) rfl rfl hl.1 rfl (lv_room (Nat.le_of_ble_eq_true rfl)) d_Po_hearSerialFrame_177 ⟨Nat.le_of_ble_eq_true rfl, Nat.le_of_ble_eq_true rfl⟩) (fun T L H locs f hle1 hI hT => ?_)
      have hle := ty_tr hle hle1
      have t0 := hle1 _ _ t0
      refine lv_iload_n hx hb d_Po_hearSerialFrame_180 rfl (lv_at hl 1 rfl) ?_
      refine lv_iconst (v := 3) hx hb d_Po_hearSerialFrame_181 (by decide) ?_
      refine lv_icmp_ne (tgt := 209) hx hb d_Po_hearSerialFrame_182 (by decide) (fun c_43 => ?_) (fun c_43 => ?_)
      · refine W.widen (k := 2) (n := 518) (by decide) (by decide) ?_
        exact sm_vret hx hb hr hlk hI ⟨_, hle, hT, trivial⟩ d_Po_hearSerialFrame_209
      · refine lv_aload_n hx hb d_Po_hearSerialFrame_185 rfl (lv_at hl 0 rfl) ?_
        refine lv_aload_n hx hb d_Po_hearSerialFrame_186 rfl (lv_at hl 0 rfl) ?_
        refine fg_Po_serialLine hx hb hts hown hI hT t0 (hts _ tw_366) (fun _ h9 => h9) d_Po_hearSerialFrame_187 (fun r_44 t_45 => ?_)
        refine fgN_Sr_kept hx hb hts hown hI hT t_45 (va_Nw.use rfl (hE.1 _ tn_116 rfl)) (fun _ h9 => h9) d_Po_hearSerialFrame_190 (fun r_46 t_47 => ?_)
        refine lv_iconst (v := 0) hx hb d_Po_hearSerialFrame_193 (by decide) ?_
        refine lv_iconst (v := 0) hx hb d_Po_hearSerialFrame_194 (by decide) ?_
        refine sm_v hI (va_runV (As := [.ref r_46, .int (0), .int (0)]) (rest := []) ⟨hx, hb, hml, hown, hts⟩ (c_Po_answerSerial l D ca _ _ _ _ hT h0 t0 r_46 t_47 0 0 (by decide)) (kv_Po_answerSerial hts rfl rfl (hts _ tw_923) ⟨Nat.le_of_ble_eq_true rfl, Nat.le_of_ble_eq_true rfl⟩) (pv_Po hI hE hT t0) rfl rfl hl.1 rfl (lv_room (Nat.le_of_ble_eq_true rfl)) d_Po_hearSerialFrame_195 ⟨Nat.le_of_ble_eq_true rfl, Nat.le_of_ble_eq_true rfl⟩) (fun H locs f hI hT => ?_)
        refine lv_goto (tgt := 209) hx hb d_Po_hearSerialFrame_198 (by decide) ?_
        refine W.widen (k := 2) (n := 518) (by decide) (by decide) ?_
        exact sm_vret hx hb hr hlk hI ⟨_, hle, hT, trivial⟩ d_Po_hearSerialFrame_209
    by_cases c_48 : y1.toInt = 5
    · refine lv_tableIn (off := 153) (tgt := 209) hx hb d_Po_hearSerialFrame_56 (by omega) (by omega) (by rw [c_48]; rfl) (by decide) ?_
      refine W.widen (k := 2) (n := 518) (by decide) (by decide) ?_
      exact sm_vret hx hb hr hlk hI ⟨_, hle, hT, trivial⟩ d_Po_hearSerialFrame_209
    by_cases c_49 : y1.toInt = 6
    · refine lv_tableIn (off := 153) (tgt := 209) hx hb d_Po_hearSerialFrame_56 (by omega) (by omega) (by rw [c_49]; rfl) (by decide) ?_
      refine W.widen (k := 2) (n := 518) (by decide) (by decide) ?_
      exact sm_vret hx hb hr hlk hI ⟨_, hle, hT, trivial⟩ d_Po_hearSerialFrame_209
    by_cases c_50 : y1.toInt = 7
    · refine lv_tableIn (off := 153) (tgt := 209) hx hb d_Po_hearSerialFrame_56 (by omega) (by omega) (by rw [c_50]; rfl) (by decide) ?_
      refine W.widen (k := 2) (n := 518) (by decide) (by decide) ?_
      exact sm_vret hx hb hr hlk hI ⟨_, hle, hT, trivial⟩ d_Po_hearSerialFrame_209
    by_cases c_51 : y1.toInt = 8
    · refine lv_tableIn (off := 153) (tgt := 209) hx hb d_Po_hearSerialFrame_56 (by omega) (by omega) (by rw [c_51]; rfl) (by decide) ?_
      refine W.widen (k := 2) (n := 518) (by decide) (by decide) ?_
      exact sm_vret hx hb hr hlk hI ⟨_, hle, hT, trivial⟩ d_Po_hearSerialFrame_209
    by_cases c_52 : y1.toInt = 9
    · refine lv_tableIn (off := 71) (tgt := 127) hx hb d_Po_hearSerialFrame_56 (by omega) (by omega) (by rw [c_52]; rfl) (by decide) ?_
      refine lv_aload_n hx hb d_Po_hearSerialFrame_127 rfl (lv_at hl 0 rfl) ?_
      refine lv_aload_n hx hb d_Po_hearSerialFrame_128 rfl (lv_at hl 0 rfl) ?_
      refine fg_Po_serialLine hx hb hts hown hI hT t0 (hts _ tw_366) (fun _ h9 => h9) d_Po_hearSerialFrame_129 (fun r_53 t_54 => ?_)
      refine fgN_Sr_plain hx hb hts hown hI hT t_54 (va_Nw.use rfl (hE.1 _ tn_118 rfl)) (fun _ h9 => h9) d_Po_hearSerialFrame_132 (fun r_55 t_56 => ?_)
      refine lv_bipush (v := 11) hx hb d_Po_hearSerialFrame_135 (by decide) ?_
      refine lv_iconst (v := 0) hx hb d_Po_hearSerialFrame_137 (by decide) ?_
      refine sm_v hI (va_runV (As := [.ref r_55, .int (11), .int (0)]) (rest := []) ⟨hx, hb, hml, hown, hts⟩ (c_Po_answerSerial l D ca _ _ _ _ hT h0 t0 r_55 t_56 11 0 (by decide)) (kv_Po_answerSerial hts rfl rfl (hts _ tw_923) ⟨Nat.le_of_ble_eq_true rfl, Nat.le_of_ble_eq_true rfl⟩) (pv_Po hI hE hT t0) rfl rfl hl.1 rfl (lv_room (Nat.le_of_ble_eq_true rfl)) d_Po_hearSerialFrame_138 ⟨Nat.le_of_ble_eq_true rfl, Nat.le_of_ble_eq_true rfl⟩) (fun H locs f hI hT => ?_)
      refine lv_goto (tgt := 209) hx hb d_Po_hearSerialFrame_141 (by decide) ?_
      refine W.widen (k := 2) (n := 518) (by decide) (by decide) ?_
      exact sm_vret hx hb hr hlk hI ⟨_, hle, hT, trivial⟩ d_Po_hearSerialFrame_209
    by_cases c_57 : y1.toInt = 10
    · refine lv_tableIn (off := 145) (tgt := 201) hx hb d_Po_hearSerialFrame_56 (by omega) (by omega) (by rw [c_57]; rfl) (by decide) ?_
      refine lv_aload_n hx hb d_Po_hearSerialFrame_201 rfl (lv_at hl 0 rfl) ?_
      refine lv_iload_n hx hb d_Po_hearSerialFrame_202 rfl (lv_at hl 1 rfl) ?_
      refine sm_v hI (va_runV (As := [.int (y1)]) (rest := []) ⟨hx, hb, hml, hown, hts⟩ (c_Po_answerClass l D ca _ _ _ _ hT h0 t0 y1) (kv_Po_answerClass hts rfl rfl (hts _ tw_1042) ⟨Nat.le_of_ble_eq_true rfl, Nat.le_of_ble_eq_true rfl⟩) (pv_Po hI hE hT t0) rfl rfl hl.1 rfl (lv_room (Nat.le_of_ble_eq_true rfl)) d_Po_hearSerialFrame_203 ⟨Nat.le_of_ble_eq_true rfl, Nat.le_of_ble_eq_true rfl⟩) (fun H locs f hI hT => ?_)
      refine lv_goto (tgt := 209) hx hb d_Po_hearSerialFrame_206 (by decide) ?_
      refine W.widen (k := 2) (n := 518) (by decide) (by decide) ?_
      exact sm_vret hx hb hr hlk hI ⟨_, hle, hT, trivial⟩ d_Po_hearSerialFrame_209
    by_cases c_58 : y1.toInt = 11
    · refine lv_tableIn (off := 145) (tgt := 201) hx hb d_Po_hearSerialFrame_56 (by omega) (by omega) (by rw [c_58]; rfl) (by decide) ?_
      refine lv_aload_n hx hb d_Po_hearSerialFrame_201 rfl (lv_at hl 0 rfl) ?_
      refine lv_iload_n hx hb d_Po_hearSerialFrame_202 rfl (lv_at hl 1 rfl) ?_
      refine sm_v hI (va_runV (As := [.int (y1)]) (rest := []) ⟨hx, hb, hml, hown, hts⟩ (c_Po_answerClass l D ca _ _ _ _ hT h0 t0 y1) (kv_Po_answerClass hts rfl rfl (hts _ tw_1042) ⟨Nat.le_of_ble_eq_true rfl, Nat.le_of_ble_eq_true rfl⟩) (pv_Po hI hE hT t0) rfl rfl hl.1 rfl (lv_room (Nat.le_of_ble_eq_true rfl)) d_Po_hearSerialFrame_203 ⟨Nat.le_of_ble_eq_true rfl, Nat.le_of_ble_eq_true rfl⟩) (fun H locs f hI hT => ?_)
      refine lv_goto (tgt := 209) hx hb d_Po_hearSerialFrame_206 (by decide) ?_
      refine W.widen (k := 2) (n := 518) (by decide) (by decide) ?_
      exact sm_vret hx hb hr hlk hI ⟨_, hle, hT, trivial⟩ d_Po_hearSerialFrame_209
    refine lv_tableOut (tgt := 209) hx hb d_Po_hearSerialFrame_56 (by omega) (by decide) ?_
    refine W.widen (k := 2) (n := 518) (by decide) (by decide) ?_
    exact sm_vret hx hb hr hlk hI ⟨_, hle, hT, trivial⟩ d_Po_hearSerialFrame_209
  refine lv_aload_n hx hb d_Po_hearSerialFrame_0 rfl (lv_at hl 0 rfl) ?_
  refine fg_Po_serialLine hx hb hts hown hI hT t0 (hts _ tw_366) (fun _ h9 => h9) d_Po_hearSerialFrame_1 (fun r_59 t_60 => ?_)
  refine sm_iP hI (va_runV (As := []) (rest := []) ⟨hx, hb, hml, hown, hts⟩ (c_Sr_functionHeard l D ca _ _ _ _ hT r_59 t_60) (kv_Sr_functionHeard hts rfl rfl (hts _ tw_872) ⟨Nat.le_of_ble_eq_true rfl, Nat.le_of_ble_eq_true rfl⟩) (pv_Sr hI hE hT t_60) rfl rfl hl.1 rfl (lv_room (Nat.le_of_ble_eq_true rfl)) d_Po_hearSerialFrame_4 ⟨Nat.le_of_ble_eq_true rfl, Nat.le_of_ble_eq_true rfl⟩) (fun x_61 H locs p_62 hI => ?_)
  refine lv_istore_n (lv' := [(1, .int (x_61)), (0, .ref h0)]) hx hb d_Po_hearSerialFrame_7 rfl hl (by decide) rfl (fun ls hl => ?_)
  refine lv_iload_n hx hb d_Po_hearSerialFrame_8 rfl (lv_at hl 0 rfl) ?_
  refine sm_iP hI (va_runS (As := [.int (x_61)]) (rest := []) ⟨hx, hb, hml, hown, hts⟩ (c_Po_isCounted l D ca _ _ _ _ hT x_61) (ks_Po_isCounted hts rfl rfl (hts _ tw_883) ⟨Nat.le_of_ble_eq_true rfl, Nat.le_of_ble_eq_true rfl⟩) (sm_preS hI hE) rfl rfl hl.1 rfl (lv_room (Nat.le_of_ble_eq_true rfl)) d_Po_hearSerialFrame_9 ⟨Nat.le_of_ble_eq_true rfl, Nat.le_of_ble_eq_true rfl⟩) (fun x_63 H locs p_64 hI => ?_)
  refine lv_if_eq (tgt := 55) hx hb d_Po_hearSerialFrame_12 (by decide) (fun c_65 => ?_) (fun c_65 => ?_)
  · refine W.widen (k := 0) (n := 0) (by decide) (by decide) ?_
    exact hJ_55 _ _ _ _ _ _ x_61 hle hI hT (lv_sub hl [1, 0] rfl) 
  · refine lv_aload_n hx hb d_Po_hearSerialFrame_15 rfl (lv_at hl 1 rfl) ?_
    refine fg_Po_serialLine hx hb hts hown hI hT t0 (hts _ tw_366) (fun _ h9 => h9) d_Po_hearSerialFrame_16 (fun r_66 t_67 => ?_)
    refine sm_iP hI (va_runV (As := []) (rest := []) ⟨hx, hb, hml, hown, hts⟩ (c_Sr_isRepeated l D ca _ _ _ _ hT r_66 t_67) (kv_Sr_isRepeated hts rfl rfl (hts _ tw_884) ⟨Nat.le_of_ble_eq_true rfl, Nat.le_of_ble_eq_true rfl⟩) (pv_Sr hI hE hT t_67) rfl rfl hl.1 rfl (lv_room (Nat.le_of_ble_eq_true rfl)) d_Po_hearSerialFrame_19 ⟨Nat.le_of_ble_eq_true rfl, Nat.le_of_ble_eq_true rfl⟩) (fun x_68 H locs p_69 hI => ?_)
    refine lv_if_eq (tgt := 33) hx hb d_Po_hearSerialFrame_22 (by decide) (fun c_70 => ?_) (fun c_70 => ?_)
    · refine lv_aload_n hx hb d_Po_hearSerialFrame_33 rfl (lv_at hl 1 rfl) ?_
      refine fg_Po_serialLine hx hb hts hown hI hT t0 (hts _ tw_366) (fun _ h9 => h9) d_Po_hearSerialFrame_34 (fun r_71 t_72 => ?_)
      refine lv_aload_n hx hb d_Po_hearSerialFrame_37 rfl (lv_at hl 1 rfl) ?_
      refine fg_Po_serialLine hx hb hts hown hI hT t0 (hts _ tw_366) (fun _ h9 => h9) d_Po_hearSerialFrame_38 (fun r_73 t_74 => ?_)
      refine sm_iP hI (va_runV (As := []) (rest := [.ref r_71]) ⟨hx, hb, hml, hown, hts⟩ (c_Sr_frameBit l D ca _ _ _ _ hT r_73 t_74) (kv_Sr_frameBit hts rfl rfl (hts _ tw_902) ⟨Nat.le_of_ble_eq_true rfl, Nat.le_of_ble_eq_true rfl⟩) (pv_Sr hI hE hT t_74) rfl rfl hl.1 rfl (lv_room (Nat.le_of_ble_eq_true rfl)) d_Po_hearSerialFrame_41 ⟨Nat.le_of_ble_eq_true rfl, Nat.le_of_ble_eq_true rfl⟩) (fun x_75 H locs p_76 hI => ?_)
      refine fpN_Sr_latestBit hx hb hts hown hI hT t_72 (va_Nw.use rfl (hE.1 _ tn_114 rfl)) (fun _ h9 => h9) d_Po_hearSerialFrame_44 (fun H locs f hI hT => ?_)
      refine lv_aload_n hx hb d_Po_hearSerialFrame_47 rfl (lv_at hl 1 rfl) ?_
      refine fg_Po_events hx hb hts hown hI hT t0 (hts _ tw_367) (fun _ h9 => h9) d_Po_hearSerialFrame_48 (fun r_77 t_78 => ?_)
      refine lv_iconst (v := 3) hx hb d_Po_hearSerialFrame_51 (by decide) ?_
      refine sm_v hI (va_runV (As := [.int (3)]) (rest := []) ⟨hx, hb, hml, hown, hts⟩ (c_Es_confirmAll l D ca _ _ _ _ hT r_77 t_78 3) (kv_Es_confirmAll hts rfl rfl (hts _ tw_903) ⟨Nat.le_of_ble_eq_true rfl, Nat.le_of_ble_eq_true rfl⟩) (pv_Es hI hE hT t_78) rfl rfl hl.1 rfl (lv_room (Nat.le_of_ble_eq_true rfl)) d_Po_hearSerialFrame_52 ⟨Nat.le_of_ble_eq_true rfl, Nat.le_of_ble_eq_true rfl⟩) (fun H locs f hI hT => ?_)
      refine W.widen (k := 0) (n := 0) (by decide) (by decide) ?_
      exact hJ_55 _ _ _ _ _ _ x_61 hle hI hT (lv_sub hl [1, 0] rfl) 
    · refine lv_aload_n hx hb d_Po_hearSerialFrame_25 rfl (lv_at hl 1 rfl) ?_
      refine fg_Po_serialLine hx hb hts hown hI hT t0 (hts _ tw_366) (fun _ h9 => h9) d_Po_hearSerialFrame_26 (fun r_79 t_80 => ?_)
      refine sm_v hI (va_runV (As := []) (rest := []) ⟨hx, hb, hml, hown, hts⟩ (c_Sr_sendAgain l D ca _ _ _ _ hT r_79 t_80) (kv_Sr_sendAgain hts rfl rfl (hts _ tw_892) ⟨Nat.le_of_ble_eq_true rfl, Nat.le_of_ble_eq_true rfl⟩) (pv_Sr hI hE hT t_80) rfl rfl hl.1 rfl (lv_room (Nat.le_of_ble_eq_true rfl)) d_Po_hearSerialFrame_29 ⟨Nat.le_of_ble_eq_true rfl, Nat.le_of_ble_eq_true rfl⟩) (fun H locs f hI hT => ?_)
      refine W.widen (k := 2) (n := 518) (by decide) (by decide) ?_
      exact sm_vret hx hb hr hlk hI ⟨_, hle, hT, trivial⟩ d_Po_hearSerialFrame_32
