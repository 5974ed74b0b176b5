/-! the reference: answers and frames (written by wip/tools) -/
theorem d_Mo_nextPoint_0 : decode b_Mo_nextPoint 0 = .ok (.aload_n 0, 1) := by decide +kernel
theorem d_Mo_nextPoint_1 : decode b_Mo_nextPoint 1 = .ok (.iload_n 1, 1) := by decide +kernel
theorem d_Mo_nextPoint_2 : decode b_Mo_nextPoint 2 = .ok (.iconst 0, 1) := by decide +kernel
theorem d_Mo_nextPoint_3 : decode b_Mo_nextPoint 3 = .ok (.invokevirtual 290, 3) := by decide +kernel
theorem d_Mo_nextPoint_6 : decode b_Mo_nextPoint 6 = .ok (.sipush 260, 3) := by decide +kernel
theorem d_Mo_nextPoint_9 : decode b_Mo_nextPoint 9 = .ok (.imul, 1) := by decide +kernel
theorem d_Mo_nextPoint_10 : decode b_Mo_nextPoint 10 = .ok (.istore_n 3, 1) := by decide +kernel
theorem d_Mo_nextPoint_11 : decode b_Mo_nextPoint 11 = .ok (.aload_n 0, 1) := by decide +kernel
theorem d_Mo_nextPoint_12 : decode b_Mo_nextPoint 12 = .ok (.iload_n 1, 1) := by decide +kernel
theorem d_Mo_nextPoint_13 : decode b_Mo_nextPoint 13 = .ok (.invokevirtual 293, 3) := by decide +kernel
theorem d_Mo_nextPoint_16 : decode b_Mo_nextPoint 16 = .ok (.aload_n 0, 1) := by decide +kernel
theorem d_Mo_nextPoint_17 : decode b_Mo_nextPoint 17 = .ok (.iload_n 1, 1) := by decide +kernel
theorem d_Mo_nextPoint_18 : decode b_Mo_nextPoint 18 = .ok (.invokevirtual 296, 3) := by decide +kernel
theorem d_Mo_nextPoint_21 : decode b_Mo_nextPoint 21 = .ok (.iadd, 1) := by decide +kernel
theorem d_Mo_nextPoint_22 : decode b_Mo_nextPoint 22 = .ok (.istore 4, 2) := by decide +kernel
theorem d_Mo_nextPoint_24 : decode b_Mo_nextPoint 24 = .ok (.aload_n 0, 1) := by decide +kernel
theorem d_Mo_nextPoint_25 : decode b_Mo_nextPoint 25 = .ok (.getfield 84, 3) := by decide +kernel
theorem d_Mo_nextPoint_28 : decode b_Mo_nextPoint 28 = .ok (.iload_n 3, 1) := by decide +kernel
theorem d_Mo_nextPoint_29 : decode b_Mo_nextPoint 29 = .ok (.iload 4, 2) := by decide +kernel
theorem d_Mo_nextPoint_31 : decode b_Mo_nextPoint 31 = .ok (.iadd, 1) := by decide +kernel
theorem d_Mo_nextPoint_32 : decode b_Mo_nextPoint 32 = .ok (.iaload, 1) := by decide +kernel
theorem d_Mo_nextPoint_33 : decode b_Mo_nextPoint 33 = .ok (.istore 5, 2) := by decide +kernel
theorem d_Mo_nextPoint_35 : decode b_Mo_nextPoint 35 = .ok (.aload_n 0, 1) := by decide +kernel
theorem d_Mo_nextPoint_36 : decode b_Mo_nextPoint 36 = .ok (.getfield 84, 3) := by decide +kernel
theorem d_Mo_nextPoint_39 : decode b_Mo_nextPoint 39 = .ok (.iload_n 3, 1) := by decide +kernel
theorem d_Mo_nextPoint_40 : decode b_Mo_nextPoint 40 = .ok (.iaload, 1) := by decide +kernel
theorem d_Mo_nextPoint_41 : decode b_Mo_nextPoint 41 = .ok (.bipush 101, 2) := by decide +kernel
theorem d_Mo_nextPoint_43 : decode b_Mo_nextPoint 43 = .ok (.if_icmp .ne 7, 3) := by decide +kernel
theorem d_Mo_nextPoint_46 : decode b_Mo_nextPoint 46 = .ok (.iconst 1, 1) := by decide +kernel
theorem d_Mo_nextPoint_47 : decode b_Mo_nextPoint 47 = .ok (.goto 4, 3) := by decide +kernel
theorem d_Mo_nextPoint_50 : decode b_Mo_nextPoint 50 = .ok (.iconst 0, 1) := by decide +kernel
theorem d_Mo_nextPoint_51 : decode b_Mo_nextPoint 51 = .ok (.istore 6, 2) := by decide +kernel
theorem d_Mo_nextPoint_53 : decode b_Mo_nextPoint 53 = .ok (.iload 6, 2) := by decide +kernel
theorem d_Mo_nextPoint_55 : decode b_Mo_nextPoint 55 = .ok (.ifCond .eq 18, 3) := by decide +kernel
theorem d_Mo_nextPoint_58 : decode b_Mo_nextPoint 58 = .ok (.iload 5, 2) := by decide +kernel
theorem d_Mo_nextPoint_60 : decode b_Mo_nextPoint 60 = .ok (.iconst 5, 1) := by decide +kernel
theorem d_Mo_nextPoint_61 : decode b_Mo_nextPoint 61 = .ok (.if_icmp .ne 7, 3) := by decide +kernel
theorem d_Mo_nextPoint_64 : decode b_Mo_nextPoint 64 = .ok (.iconst 0, 1) := by decide +kernel
theorem d_Mo_nextPoint_65 : decode b_Mo_nextPoint 65 = .ok (.goto 13, 3) := by decide +kernel
theorem d_Mo_nextPoint_68 : decode b_Mo_nextPoint 68 = .ok (.iload 5, 2) := by decide +kernel
theorem d_Mo_nextPoint_70 : decode b_Mo_nextPoint 70 = .ok (.goto 8, 3) := by decide +kernel
theorem d_Mo_nextPoint_73 : decode b_Mo_nextPoint 73 = .ok (.iload 5, 2) := by decide +kernel
theorem d_Mo_nextPoint_75 : decode b_Mo_nextPoint 75 = .ok (.bipush 20, 2) := by decide +kernel
theorem d_Mo_nextPoint_77 : decode b_Mo_nextPoint 77 = .ok (.isub, 1) := by decide +kernel
theorem d_Mo_nextPoint_78 : decode b_Mo_nextPoint 78 = .ok (.istore 7, 2) := by decide +kernel
theorem d_Mo_nextPoint_80 : decode b_Mo_nextPoint 80 = .ok (.iconst (-1), 1) := by decide +kernel
theorem d_Mo_nextPoint_81 : decode b_Mo_nextPoint 81 = .ok (.istore 8, 2) := by decide +kernel
theorem d_Mo_nextPoint_83 : decode b_Mo_nextPoint 83 = .ok (.iconst 0, 1) := by decide +kernel
theorem d_Mo_nextPoint_84 : decode b_Mo_nextPoint 84 = .ok (.istore 9, 2) := by decide +kernel
theorem d_Mo_nextPoint_86 : decode b_Mo_nextPoint 86 = .ok (.iload 9, 2) := by decide +kernel
theorem d_Mo_nextPoint_88 : decode b_Mo_nextPoint 88 = .ok (.aload_n 0, 1) := by decide +kernel
theorem d_Mo_nextPoint_89 : decode b_Mo_nextPoint 89 = .ok (.getfield 182, 3) := by decide +kernel
theorem d_Mo_nextPoint_92 : decode b_Mo_nextPoint 92 = .ok (.if_icmp .ge 107, 3) := by decide +kernel
theorem d_Mo_nextPoint_95 : decode b_Mo_nextPoint 95 = .ok (.iload 6, 2) := by decide +kernel
theorem d_Mo_nextPoint_97 : decode b_Mo_nextPoint 97 = .ok (.ifCond .eq 18, 3) := by decide +kernel
theorem d_Mo_nextPoint_100 : decode b_Mo_nextPoint 100 = .ok (.aload_n 0, 1) := by decide +kernel
theorem d_Mo_nextPoint_101 : decode b_Mo_nextPoint 101 = .ok (.getfield 13, 3) := by decide +kernel
theorem d_Mo_nextPoint_104 : decode b_Mo_nextPoint 104 = .ok (.iload 9, 2) := by decide +kernel
theorem d_Mo_nextPoint_106 : decode b_Mo_nextPoint 106 = .ok (.iaload, 1) := by decide +kernel
theorem d_Mo_nextPoint_107 : decode b_Mo_nextPoint 107 = .ok (.bipush 6, 2) := by decide +kernel
theorem d_Mo_nextPoint_109 : decode b_Mo_nextPoint 109 = .ok (.if_icmp .ne 39, 3) := by decide +kernel
theorem d_Mo_nextPoint_112 : decode b_Mo_nextPoint 112 = .ok (.goto 15, 3) := by decide +kernel
theorem d_Mo_nextPoint_115 : decode b_Mo_nextPoint 115 = .ok (.aload_n 0, 1) := by decide +kernel
theorem d_Mo_nextPoint_116 : decode b_Mo_nextPoint 116 = .ok (.getfield 13, 3) := by decide +kernel
theorem d_Mo_nextPoint_119 : decode b_Mo_nextPoint 119 = .ok (.iload 9, 2) := by decide +kernel
theorem d_Mo_nextPoint_121 : decode b_Mo_nextPoint 121 = .ok (.iaload, 1) := by decide +kernel
theorem d_Mo_nextPoint_122 : decode b_Mo_nextPoint 122 = .ok (.bipush 6, 2) := by decide +kernel
theorem d_Mo_nextPoint_124 : decode b_Mo_nextPoint 124 = .ok (.if_icmp .ge 24, 3) := by decide +kernel
theorem d_Mo_nextPoint_127 : decode b_Mo_nextPoint 127 = .ok (.iload 7, 2) := by decide +kernel
theorem d_Mo_nextPoint_129 : decode b_Mo_nextPoint 129 = .ok (.ifCond .eq 15, 3) := by decide +kernel
theorem d_Mo_nextPoint_132 : decode b_Mo_nextPoint 132 = .ok (.aload_n 0, 1) := by decide +kernel
theorem d_Mo_nextPoint_133 : decode b_Mo_nextPoint 133 = .ok (.getfield 16, 3) := by decide +kernel
theorem d_Mo_nextPoint_136 : decode b_Mo_nextPoint 136 = .ok (.iload 9, 2) := by decide +kernel
theorem d_Mo_nextPoint_138 : decode b_Mo_nextPoint 138 = .ok (.iaload, 1) := by decide +kernel
theorem d_Mo_nextPoint_139 : decode b_Mo_nextPoint 139 = .ok (.iload 7, 2) := by decide +kernel
theorem d_Mo_nextPoint_141 : decode b_Mo_nextPoint 141 = .ok (.if_icmp .ne 7, 3) := by decide +kernel
theorem d_Mo_nextPoint_144 : decode b_Mo_nextPoint 144 = .ok (.iconst 1, 1) := by decide +kernel
theorem d_Mo_nextPoint_145 : decode b_Mo_nextPoint 145 = .ok (.goto 4, 3) := by decide +kernel
theorem d_Mo_nextPoint_148 : decode b_Mo_nextPoint 148 = .ok (.iconst 0, 1) := by decide +kernel
theorem d_Mo_nextPoint_149 : decode b_Mo_nextPoint 149 = .ok (.istore 10, 2) := by decide +kernel
theorem d_Mo_nextPoint_151 : decode b_Mo_nextPoint 151 = .ok (.iload 10, 2) := by decide +kernel
theorem d_Mo_nextPoint_153 : decode b_Mo_nextPoint 153 = .ok (.ifCond .eq 40, 3) := by decide +kernel
theorem d_Mo_nextPoint_156 : decode b_Mo_nextPoint 156 = .ok (.aload_n 0, 1) := by decide +kernel
theorem d_Mo_nextPoint_157 : decode b_Mo_nextPoint 157 = .ok (.getfield 7, 3) := by decide +kernel
theorem d_Mo_nextPoint_160 : decode b_Mo_nextPoint 160 = .ok (.iload 9, 2) := by decide +kernel
theorem d_Mo_nextPoint_162 : decode b_Mo_nextPoint 162 = .ok (.iaload, 1) := by decide +kernel
theorem d_Mo_nextPoint_163 : decode b_Mo_nextPoint 163 = .ok (.iload_n 2, 1) := by decide +kernel
theorem d_Mo_nextPoint_164 : decode b_Mo_nextPoint 164 = .ok (.if_icmp .le 29, 3) := by decide +kernel
theorem d_Mo_nextPoint_167 : decode b_Mo_nextPoint 167 = .ok (.iload 8, 2) := by decide +kernel
theorem d_Mo_nextPoint_169 : decode b_Mo_nextPoint 169 = .ok (.ifCond .lt 20, 3) := by decide +kernel
theorem d_Mo_nextPoint_172 : decode b_Mo_nextPoint 172 = .ok (.aload_n 0, 1) := by decide +kernel
theorem d_Mo_nextPoint_173 : decode b_Mo_nextPoint 173 = .ok (.getfield 7, 3) := by decide +kernel
theorem d_Mo_nextPoint_176 : decode b_Mo_nextPoint 176 = .ok (.iload 9, 2) := by decide +kernel
theorem d_Mo_nextPoint_178 : decode b_Mo_nextPoint 178 = .ok (.iaload, 1) := by decide +kernel
theorem d_Mo_nextPoint_179 : decode b_Mo_nextPoint 179 = .ok (.aload_n 0, 1) := by decide +kernel
theorem d_Mo_nextPoint_180 : decode b_Mo_nextPoint 180 = .ok (.getfield 7, 3) := by decide +kernel
theorem d_Mo_nextPoint_183 : decode b_Mo_nextPoint 183 = .ok (.iload 8, 2) := by decide +kernel
theorem d_Mo_nextPoint_185 : decode b_Mo_nextPoint 185 = .ok (.iaload, 1) := by decide +kernel
theorem d_Mo_nextPoint_186 : decode b_Mo_nextPoint 186 = .ok (.if_icmp .ge 7, 3) := by decide +kernel
theorem d_Mo_nextPoint_189 : decode b_Mo_nextPoint 189 = .ok (.iload 9, 2) := by decide +kernel
theorem d_Mo_nextPoint_191 : decode b_Mo_nextPoint 191 = .ok (.istore 8, 2) := by decide +kernel
theorem d_Mo_nextPoint_193 : decode b_Mo_nextPoint 193 = .ok (.iinc 9 1, 3) := by decide +kernel
theorem d_Mo_nextPoint_196 : decode b_Mo_nextPoint 196 = .ok (.goto (-110), 3) := by decide +kernel
theorem d_Mo_nextPoint_199 : decode b_Mo_nextPoint 199 = .ok (.iload 8, 2) := by decide +kernel
theorem d_Mo_nextPoint_201 : decode b_Mo_nextPoint 201 = .ok (.ireturn, 1) := by decide +kernel
set_option maxRecDepth 100000 in
set_option maxHeartbeats 4000000 in
theorem c_Mo_nextPoint (l : Launch) (D : va_G) (ca : Nat → ClassId) (ad : Nat → Nat) (L : List Nat) (f0 : Nat → va_E) (sz : Nat) (σ0 : mq_S) (hM : mq_B ca ad σ0 L f0) (j1 : Nat) (q1 : j1 ≤ 3) (x2 : Int32) :
    Met l y_Mo_nextPoint (Cond.code y_Mo_nextPoint b_Mo_nextPoint 11 (some .int) :: wg) { frames := 2, cells := 0, slots := 0, locals := 42 } (va_Pc [.ref (ad 71), .int (nI j1), .int (x2)] (sm_P D cl_all (ty_s ca) ek L f0 sz)) (sm_Qi D (ty_s ca) L f0 sz (fun r u => ((r = -1 ∧ ¬ np_S σ0 j1 x2) ∨ (∃ n : Nat, r = nI n ∧ n ≤ 31 ∧ np_S σ0 j1 x2)) ∧ u = (L, f0))) 0 0 (va_A (va_pl L f0) sz) := by
  refine sm_start (by decide) (Nat.le_of_ble_eq_true rfl) ?_
  intro p e s m below meth c ls hx hb hml hr hlk hnm hts hown hsz hE hI hl
  have hl : lv_has ls 11 [(0, .ref (ad 71)), (1, .int (nI j1)), (2, .int (x2))] := hl
  have hJ_86 : ∀ (N k : Nat) (H : Heap) (locs : List Loc) (ls : Array Slot) (y3 : Int32) (y4 : Int32) (y5 : Int32) (y6 : Int32) (y7 : Int32) (y8 : Int32), 32 + 1 - k ≤ N → k ≤ 32 → sw_I D cl_all (ty_s ca) (va_A (va_pl L f0) sz) s H locs L f0 → lv_has ls 11 [(0, .ref (ad 71)), (1, .int (nI j1)), (2, .int (x2)), (3, .int (y3)), (4, .int (y4)), (5, .int (y5)), (6, .int (y6)), (7, .int (y7)), (8, .int (y8)), (9, .int (nI k))] → (y6 = 0 ∨ y6 = 1) → ((y6 = 1 ∧ σ0.2.2.1 31 (j1 * 4160) = 101) ∨ (y6 = 0 ∧ ¬ σ0.2.2.1 31 (j1 * 4160) = 101)) → (y7 = np_g (σ0.2.2.1 31) j1 (mq_h σ0 (nI j1))) → (np_I (σ0.1 2).toNatClampNeg (σ0.2.2.1 3) (σ0.2.2.1 4) (σ0.2.2.1 5) (σ0.2.2.1 31) j1 (mq_h σ0 (nI j1)) x2 k y8) → W p l e { frames := 2, cells := 0, slots := 0, locals := 42 } s m ([.ref (ad 71), .int (nI j1), .int (x2)] : List Value).toArray below meth c H locs 0 0 (MQ below (sm_Qi D (ty_s ca) L f0 sz (fun r u => ((r = -1 ∧ ¬ np_S σ0 j1 x2) ∨ (∃ n : Nat, r = nI n ∧ n ≤ 31 ∧ np_S σ0 j1 x2)) ∧ u = (L, f0))) ([.ref (ad 71), .int (nI j1), .int (x2)] : List Value).toArray s 0 0 (va_A (va_pl L f0) sz)) (F0 m 86 ls []) := by
    intro N
    induction N with
    | zero => intros; omega
    | succ N ih =>
      intro k H locs ls y3 y4 y5 y6 y7 y8 hN hk hI hl py6 ht6 ht7 ht8
      refine lv_iload hx hb d_Mo_nextPoint_86 (lv_at hl 9 rfl) ?_
      refine lv_aload_n hx hb d_Mo_nextPoint_88 rfl (lv_at hl 0 rfl) ?_
      obtain ⟨n_1, h_2, h_3, e_4⟩ := hM.2.2.2.2.1 2
      refine mq_get (k := 2) (v := .int (nI n_1)) hx hb hts hown hI hM (by decide) (congrArg (fun z => some (Value.int z)) e_4) rfl (hts _ tw_1171) d_Mo_nextPoint_89 ?_
      refine lv_icmp_ge (tgt := 199) hx hb d_Mo_nextPoint_92 (by decide) (fun c_5 => ?_) (fun c_5 => ?_)
      · have k_6 : n_1 ≤ k := (nI_leI (a := n_1) (b := k) (by omega) (by omega)).mp c_5
        refine lv_iload hx hb d_Mo_nextPoint_199 (lv_at hl 8 rfl) ?_
        exact sm_iret hx hb hr hlk hI ⟨(np_end ht8 (by rw [e_4, nI_clamp (by omega)]; omega)), rfl⟩ d_Mo_nextPoint_201
      · have k_7 : k < n_1 := Nat.lt_of_not_le (fun q => c_5 ((nI_leI (a := n_1) (b := k) (by omega) (by omega)).mpr q))
        refine lv_iload hx hb d_Mo_nextPoint_95 (lv_at hl 6 rfl) ?_
        refine lv_if_eq (tgt := 115) hx hb d_Mo_nextPoint_97 (by decide) (fun c_8 => ?_) (fun c_8 => ?_)
        · refine lv_aload_n hx hb d_Mo_nextPoint_115 rfl (lv_at hl 0 rfl) ?_
          refine mq_get (k := 4) (v := .ref (ad 4)) hx hb hts hown hI hM (by decide) rfl rfl (hts _ tw_1173) d_Mo_nextPoint_116 ?_
          refine lv_iload hx hb d_Mo_nextPoint_119 (lv_at hl 9 rfl) ?_
          obtain ⟨x_9, e_10⟩ : ∃ z, σ0.2.2.1 4 (k) = z := ⟨_, rfl⟩
          refine mq_iald (k := 4) (j := k) (v := x_9) hx hb hI hM (by decide) rfl (by show k < 32; omega) (by decide) e_10 d_Mo_nextPoint_121 ?_
          refine lv_bipush (v := 6) hx hb d_Mo_nextPoint_122 (by decide) ?_
          refine lv_icmp_ge (tgt := 148) hx hb d_Mo_nextPoint_124 (by decide) (fun c_11 => ?_) (fun c_11 => ?_)
          · refine lv_iconst (v := 0) hx hb d_Mo_nextPoint_148 (by decide) ?_
            refine lv_istore (lv' := [(10, .int (0)), (0, .ref (ad 71)), (1, .int (nI j1)), (2, .int (x2)), (3, .int (y3)), (4, .int (y4)), (5, .int (y5)), (6, .int (y6)), (7, .int (y7)), (8, .int (y8)), (9, .int (nI k))]) hx hb d_Mo_nextPoint_149 hl (by decide) rfl (fun ls hl => ?_)
            refine lv_iload hx hb d_Mo_nextPoint_151 (lv_at hl 0 rfl) ?_
            refine lv_if_eq (tgt := 193) hx hb d_Mo_nextPoint_153 (by decide) (fun c_12 => ?_) (fun c_12 => ?_)
            · refine lv_iinc (v := nI (k + 1)) (lv' := [(9, .int (nI (k + 1))), (10, .int (0)), (0, .ref (ad 71)), (1, .int (nI j1)), (2, .int (x2)), (3, .int (y3)), (4, .int (y4)), (5, .int (y5)), (6, .int (y6)), (7, .int (y7)), (8, .int (y8))]) hx hb d_Mo_nextPoint_193 hl (k := 10) rfl (nI_1 _) (by decide) rfl (fun ls hl => ?_)
              refine lv_goto (tgt := 86) hx hb d_Mo_nextPoint_196 (by decide) ?_
              exact ih ((k + 1)) _ _ _ y3 y4 y5 y6 y7 y8 (by omega) (by omega) hI (lv_sub hl [2, 3, 4, 5, 6, 7, 8, 9, 10, 0] rfl) py6 ht6 ht7 (np_no ht8 (nq_B ht6 c_8 e_10 c_11))
            · exact absurd c_12 (by decide)
          · refine lv_iload hx hb d_Mo_nextPoint_127 (lv_at hl 7 rfl) ?_
            refine lv_if_eq (tgt := 144) hx hb d_Mo_nextPoint_129 (by decide) (fun c_13 => ?_) (fun c_13 => ?_)
            · refine lv_iconst (v := 1) hx hb d_Mo_nextPoint_144 (by decide) ?_
              refine lv_goto (tgt := 149) hx hb d_Mo_nextPoint_145 (by decide) ?_
              refine lv_istore (lv' := [(10, .int (1)), (0, .ref (ad 71)), (1, .int (nI j1)), (2, .int (x2)), (3, .int (y3)), (4, .int (y4)), (5, .int (y5)), (6, .int (y6)), (7, .int (y7)), (8, .int (y8)), (9, .int (nI k))]) hx hb d_Mo_nextPoint_149 hl (by decide) rfl (fun ls hl => ?_)
              refine lv_iload hx hb d_Mo_nextPoint_151 (lv_at hl 0 rfl) ?_
              refine lv_if_eq (tgt := 193) hx hb d_Mo_nextPoint_153 (by decide) (fun c_14 => ?_) (fun c_14 => ?_)
              · exact absurd c_14 (by decide)
              · refine lv_aload_n hx hb d_Mo_nextPoint_156 rfl (lv_at hl 1 rfl) ?_
                refine mq_get (k := 3) (v := .ref (ad 3)) hx hb hts hown hI hM (by decide) rfl rfl (hts _ tw_1172) d_Mo_nextPoint_157 ?_
                refine lv_iload hx hb d_Mo_nextPoint_160 (lv_at hl 10 rfl) ?_
                obtain ⟨x_15, e_16⟩ : ∃ z, σ0.2.2.1 3 (k) = z := ⟨_, rfl⟩
                refine mq_iald (k := 3) (j := k) (v := x_15) hx hb hI hM (by decide) rfl (by show k < 32; omega) (by decide) e_16 d_Mo_nextPoint_162 ?_
                refine lv_iload_n hx hb d_Mo_nextPoint_163 rfl (lv_at hl 3 rfl) ?_
                refine lv_icmp_le (tgt := 193) hx hb d_Mo_nextPoint_164 (by decide) (fun c_17 => ?_) (fun c_17 => ?_)
                · refine lv_iinc (v := nI (k + 1)) (lv' := [(9, .int (nI (k + 1))), (10, .int (1)), (0, .ref (ad 71)), (1, .int (nI j1)), (2, .int (x2)), (3, .int (y3)), (4, .int (y4)), (5, .int (y5)), (6, .int (y6)), (7, .int (y7)), (8, .int (y8))]) hx hb d_Mo_nextPoint_193 hl (k := 10) rfl (nI_1 _) (by decide) rfl (fun ls hl => ?_)
                  refine lv_goto (tgt := 86) hx hb d_Mo_nextPoint_196 (by decide) ?_
                  exact ih ((k + 1)) _ _ _ y3 y4 y5 y6 y7 y8 (by omega) (by omega) hI (lv_sub hl [2, 3, 4, 5, 6, 7, 8, 9, 10, 0] rfl) py6 ht6 ht7 (np_no ht8 (nq_D e_16 c_17))
                · refine lv_iload hx hb d_Mo_nextPoint_167 (lv_at hl 9 rfl) ?_
                  refine lv_if_lt (tgt := 189) hx hb d_Mo_nextPoint_169 (by decide) (fun c_18 => ?_) (fun c_18 => ?_)
                  · refine lv_iload hx hb d_Mo_nextPoint_189 (lv_at hl 10 rfl) ?_
                    refine lv_istore (lv' := [(8, .int (nI k)), (10, .int (1)), (0, .ref (ad 71)), (1, .int (nI j1)), (2, .int (x2)), (3, .int (y3)), (4, .int (y4)), (5, .int (y5)), (6, .int (y6)), (7, .int (y7)), (9, .int (nI k))]) hx hb d_Mo_nextPoint_191 hl (by decide) rfl (fun ls hl => ?_)
                    refine lv_iinc (v := nI (k + 1)) (lv' := [(9, .int (nI (k + 1))), (8, .int (nI k)), (10, .int (1)), (0, .ref (ad 71)), (1, .int (nI j1)), (2, .int (x2)), (3, .int (y3)), (4, .int (y4)), (5, .int (y5)), (6, .int (y6)), (7, .int (y7))]) hx hb d_Mo_nextPoint_193 hl (k := 10) rfl (nI_1 _) (by decide) rfl (fun ls hl => ?_)
                    refine lv_goto (tgt := 86) hx hb d_Mo_nextPoint_196 (by decide) ?_
                    exact ih ((k + 1)) _ _ _ y3 y4 y5 y6 y7 (nI k) (by omega) (by omega) hI (lv_sub hl [3, 4, 5, 6, 7, 8, 9, 10, 1, 0] rfl) py6 ht6 ht7 (np_yes (by rw [e_4, nI_clamp (by omega)]; omega) (by omega) ⟨nq_k2 ht6 c_8 e_10 c_11, (Or.inl (Eq.trans ht7.symm c_13)), by rw [e_16]; exact c_17⟩)
                  · refine lv_aload_n hx hb d_Mo_nextPoint_172 rfl (lv_at hl 1 rfl) ?_
                    refine mq_get (k := 3) (v := .ref (ad 3)) hx hb hts hown hI hM (by decide) rfl rfl (hts _ tw_1172) d_Mo_nextPoint_173 ?_
                    refine lv_iload hx hb d_Mo_nextPoint_176 (lv_at hl 10 rfl) ?_
                    obtain ⟨x_19, e_20⟩ : ∃ z, σ0.2.2.1 3 (k) = z := ⟨_, rfl⟩
                    refine mq_iald (k := 3) (j := k) (v := x_19) hx hb hI hM (by decide) rfl (by show k < 32; omega) (by decide) e_20 d_Mo_nextPoint_178 ?_
                    refine lv_aload_n hx hb d_Mo_nextPoint_179 rfl (lv_at hl 1 rfl) ?_
                    refine mq_get (k := 3) (v := .ref (ad 3)) hx hb hts hown hI hM (by decide) rfl rfl (hts _ tw_1172) d_Mo_nextPoint_180 ?_
                    refine lv_iload hx hb d_Mo_nextPoint_183 (lv_at hl 9 rfl) ?_
                    refine lv_topi (fun x_21 e_22 => ?_)
                    obtain ⟨j_23, h_24, rfl⟩ : ∃ j : Nat, j < 32 ∧ x_21 = nI j := by rw [e_22]; exact np_in ht8 c_18
                    obtain ⟨x_25, e_26⟩ : ∃ z, σ0.2.2.1 3 (j_23) = z := ⟨_, rfl⟩
                    refine mq_iald (k := 3) (j := j_23) (v := x_25) hx hb hI hM (by decide) rfl (by show j_23 < 32; omega) (by decide) e_26 d_Mo_nextPoint_185 ?_
                    refine lv_icmp_ge (tgt := 193) hx hb d_Mo_nextPoint_186 (by decide) (fun c_27 => ?_) (fun c_27 => ?_)
                    · refine lv_iinc (v := nI (k + 1)) (lv' := [(9, .int (nI (k + 1))), (10, .int (1)), (0, .ref (ad 71)), (1, .int (nI j1)), (2, .int (x2)), (3, .int (y3)), (4, .int (y4)), (5, .int (y5)), (6, .int (y6)), (7, .int (y7)), (8, .int (y8))]) hx hb d_Mo_nextPoint_193 hl (k := 10) rfl (nI_1 _) (by decide) rfl (fun ls hl => ?_)
                      refine lv_goto (tgt := 86) hx hb d_Mo_nextPoint_196 (by decide) ?_
                      exact ih ((k + 1)) _ _ _ y3 y4 y5 y6 y7 y8 (by omega) (by omega) hI (lv_sub hl [2, 3, 4, 5, 6, 7, 8, 9, 10, 0] rfl) py6 ht6 ht7 (np_more ht8 c_18)
                    · refine lv_iload hx hb d_Mo_nextPoint_189 (lv_at hl 10 rfl) ?_
                      refine lv_istore (lv' := [(8, .int (nI k)), (10, .int (1)), (0, .ref (ad 71)), (1, .int (nI j1)), (2, .int (x2)), (3, .int (y3)), (4, .int (y4)), (5, .int (y5)), (6, .int (y6)), (7, .int (y7)), (9, .int (nI k))]) hx hb d_Mo_nextPoint_191 hl (by decide) rfl (fun ls hl => ?_)
                      refine lv_iinc (v := nI (k + 1)) (lv' := [(9, .int (nI (k + 1))), (8, .int (nI k)), (10, .int (1)), (0, .ref (ad 71)), (1, .int (nI j1)), (2, .int (x2)), (3, .int (y3)), (4, .int (y4)), (5, .int (y5)), (6, .int (y6)), (7, .int (y7))]) hx hb d_Mo_nextPoint_193 hl (k := 10) rfl (nI_1 _) (by decide) rfl (fun ls hl => ?_)
                      refine lv_goto (tgt := 86) hx hb d_Mo_nextPoint_196 (by decide) ?_
                      exact ih ((k + 1)) _ _ _ y3 y4 y5 y6 y7 (nI k) (by omega) (by omega) hI (lv_sub hl [3, 4, 5, 6, 7, 8, 9, 10, 1, 0] rfl) py6 ht6 ht7 (np_yes (by rw [e_4, nI_clamp (by omega)]; omega) (by omega) ⟨nq_k2 ht6 c_8 e_10 c_11, (Or.inl (Eq.trans ht7.symm c_13)), by rw [e_16]; exact c_17⟩)
            · refine lv_aload_n hx hb d_Mo_nextPoint_132 rfl (lv_at hl 0 rfl) ?_
              refine mq_get (k := 5) (v := .ref (ad 5)) hx hb hts hown hI hM (by decide) rfl rfl (hts _ tw_1174) d_Mo_nextPoint_133 ?_
              refine lv_iload hx hb d_Mo_nextPoint_136 (lv_at hl 9 rfl) ?_
              obtain ⟨x_28, e_29⟩ : ∃ z, σ0.2.2.1 5 (k) = z := ⟨_, rfl⟩
              refine mq_iald (k := 5) (j := k) (v := x_28) hx hb hI hM (by decide) rfl (by show k < 32; omega) (by decide) e_29 d_Mo_nextPoint_138 ?_
              refine lv_iload hx hb d_Mo_nextPoint_139 (lv_at hl 7 rfl) ?_
              refine lv_icmp_ne (tgt := 148) hx hb d_Mo_nextPoint_141 (by decide) (fun c_30 => ?_) (fun c_30 => ?_)
              · refine lv_iconst (v := 0) hx hb d_Mo_nextPoint_148 (by decide) ?_
                refine lv_istore (lv' := [(10, .int (0)), (0, .ref (ad 71)), (1, .int (nI j1)), (2, .int (x2)), (3, .int (y3)), (4, .int (y4)), (5, .int (y5)), (6, .int (y6)), (7, .int (y7)), (8, .int (y8)), (9, .int (nI k))]) hx hb d_Mo_nextPoint_149 hl (by decide) rfl (fun ls hl => ?_)
                refine lv_iload hx hb d_Mo_nextPoint_151 (lv_at hl 0 rfl) ?_
                refine lv_if_eq (tgt := 193) hx hb d_Mo_nextPoint_153 (by decide) (fun c_31 => ?_) (fun c_31 => ?_)
                · refine lv_iinc (v := nI (k + 1)) (lv' := [(9, .int (nI (k + 1))), (10, .int (0)), (0, .ref (ad 71)), (1, .int (nI j1)), (2, .int (x2)), (3, .int (y3)), (4, .int (y4)), (5, .int (y5)), (6, .int (y6)), (7, .int (y7)), (8, .int (y8))]) hx hb d_Mo_nextPoint_193 hl (k := 10) rfl (nI_1 _) (by decide) rfl (fun ls hl => ?_)
                  refine lv_goto (tgt := 86) hx hb d_Mo_nextPoint_196 (by decide) ?_
                  exact ih ((k + 1)) _ _ _ y3 y4 y5 y6 y7 y8 (by omega) (by omega) hI (lv_sub hl [2, 3, 4, 5, 6, 7, 8, 9, 10, 0] rfl) py6 ht6 ht7 (np_no ht8 (nq_C ht7 c_13 e_29 c_30))
                · exact absurd c_31 (by decide)
              · refine lv_iconst (v := 1) hx hb d_Mo_nextPoint_144 (by decide) ?_
                refine lv_goto (tgt := 149) hx hb d_Mo_nextPoint_145 (by decide) ?_
                refine lv_istore (lv' := [(10, .int (1)), (0, .ref (ad 71)), (1, .int (nI j1)), (2, .int (x2)), (3, .int (y3)), (4, .int (y4)), (5, .int (y5)), (6, .int (y6)), (7, .int (y7)), (8, .int (y8)), (9, .int (nI k))]) hx hb d_Mo_nextPoint_149 hl (by decide) rfl (fun ls hl => ?_)
                refine lv_iload hx hb d_Mo_nextPoint_151 (lv_at hl 0 rfl) ?_
                refine lv_if_eq (tgt := 193) hx hb d_Mo_nextPoint_153 (by decide) (fun c_32 => ?_) (fun c_32 => ?_)
                · exact absurd c_32 (by decide)
                · refine lv_aload_n hx hb d_Mo_nextPoint_156 rfl (lv_at hl 1 rfl) ?_
                  refine mq_get (k := 3) (v := .ref (ad 3)) hx hb hts hown hI hM (by decide) rfl rfl (hts _ tw_1172) d_Mo_nextPoint_157 ?_
                  refine lv_iload hx hb d_Mo_nextPoint_160 (lv_at hl 10 rfl) ?_
                  obtain ⟨x_33, e_34⟩ : ∃ z, σ0.2.2.1 3 (k) = z := ⟨_, rfl⟩
                  refine mq_iald (k := 3) (j := k) (v := x_33) hx hb hI hM (by decide) rfl (by show k < 32; omega) (by decide) e_34 d_Mo_nextPoint_162 ?_
                  refine lv_iload_n hx hb d_Mo_nextPoint_163 rfl (lv_at hl 3 rfl) ?_
                  refine lv_icmp_le (tgt := 193) hx hb d_Mo_nextPoint_164 (by decide) (fun c_35 => ?_) (fun c_35 => ?_)
                  · refine lv_iinc (v := nI (k + 1)) (lv' := [(9, .int (nI (k + 1))), (10, .int (1)), (0, .ref (ad 71)), (1, .int (nI j1)), (2, .int (x2)), (3, .int (y3)), (4, .int (y4)), (5, .int (y5)), (6, .int (y6)), (7, .int (y7)), (8, .int (y8))]) hx hb d_Mo_nextPoint_193 hl (k := 10) rfl (nI_1 _) (by decide) rfl (fun ls hl => ?_)
                    refine lv_goto (tgt := 86) hx hb d_Mo_nextPoint_196 (by decide) ?_
                    exact ih ((k + 1)) _ _ _ y3 y4 y5 y6 y7 y8 (by omega) (by omega) hI (lv_sub hl [2, 3, 4, 5, 6, 7, 8, 9, 10, 0] rfl) py6 ht6 ht7 (np_no ht8 (nq_D e_34 c_35))
                  · refine lv_iload hx hb d_Mo_nextPoint_167 (lv_at hl 9 rfl) ?_
                    refine lv_if_lt (tgt := 189) hx hb d_Mo_nextPoint_169 (by decide) (fun c_36 => ?_) (fun c_36 => ?_)
                    · refine lv_iload hx hb d_Mo_nextPoint_189 (lv_at hl 10 rfl) ?_
                      refine lv_istore (lv' := [(8, .int (nI k)), (10, .int (1)), (0, .ref (ad 71)), (1, .int (nI j1)), (2, .int (x2)), (3, .int (y3)), (4, .int (y4)), (5, .int (y5)), (6, .int (y6)), (7, .int (y7)), (9, .int (nI k))]) hx hb d_Mo_nextPoint_191 hl (by decide) rfl (fun ls hl => ?_)
                      refine lv_iinc (v := nI (k + 1)) (lv' := [(9, .int (nI (k + 1))), (8, .int (nI k)), (10, .int (1)), (0, .ref (ad 71)), (1, .int (nI j1)), (2, .int (x2)), (3, .int (y3)), (4, .int (y4)), (5, .int (y5)), (6, .int (y6)), (7, .int (y7))]) hx hb d_Mo_nextPoint_193 hl (k := 10) rfl (nI_1 _) (by decide) rfl (fun ls hl => ?_)
                      refine lv_goto (tgt := 86) hx hb d_Mo_nextPoint_196 (by decide) ?_
                      exact ih ((k + 1)) _ _ _ y3 y4 y5 y6 y7 (nI k) (by omega) (by omega) hI (lv_sub hl [3, 4, 5, 6, 7, 8, 9, 10, 1, 0] rfl) py6 ht6 ht7 (np_yes (by rw [e_4, nI_clamp (by omega)]; omega) (by omega) ⟨nq_k2 ht6 c_8 e_10 c_11, (Or.inr (Eq.trans e_29 (Eq.trans c_30 ht7))), by rw [e_34]; exact c_35⟩)
                    · refine lv_aload_n hx hb d_Mo_nextPoint_172 rfl (lv_at hl 1 rfl) ?_
                      refine mq_get (k := 3) (v := .ref (ad 3)) hx hb hts hown hI hM (by decide) rfl rfl (hts _ tw_1172) d_Mo_nextPoint_173 ?_
                      refine lv_iload hx hb d_Mo_nextPoint_176 (lv_at hl 10 rfl) ?_
                      obtain ⟨x_37, e_38⟩ : ∃ z, σ0.2.2.1 3 (k) = z := ⟨_, rfl⟩
                      refine mq_iald (k := 3) (j := k) (v := x_37) hx hb hI hM (by decide) rfl (by show k < 32; omega) (by decide) e_38 d_Mo_nextPoint_178 ?_
                      refine lv_aload_n hx hb d_Mo_nextPoint_179 rfl (lv_at hl 1 rfl) ?_
                      refine mq_get (k := 3) (v := .ref (ad 3)) hx hb hts hown hI hM (by decide) rfl rfl (hts _ tw_1172) d_Mo_nextPoint_180 ?_
                      refine lv_iload hx hb d_Mo_nextPoint_183 (lv_at hl 9 rfl) ?_
                      refine lv_topi (fun x_39 e_40 => ?_)
                      obtain ⟨j_41, h_42, rfl⟩ : ∃ j : Nat, j < 32 ∧ x_39 = nI j := by rw [e_40]; exact np_in ht8 c_36
                      obtain ⟨x_43, e_44⟩ : ∃ z, σ0.2.2.1 3 (j_41) = z := ⟨_, rfl⟩
                      refine mq_iald (k := 3) (j := j_41) (v := x_43) hx hb hI hM (by decide) rfl (by show j_41 < 32; omega) (by decide) e_44 d_Mo_nextPoint_185 ?_
                      refine lv_icmp_ge (tgt := 193) hx hb d_Mo_nextPoint_186 (by decide) (fun c_45 => ?_) (fun c_45 => ?_)
                      · refine lv_iinc (v := nI (k + 1)) (lv' := [(9, .int (nI (k + 1))), (10, .int (1)), (0, .ref (ad 71)), (1, .int (nI j1)), (2, .int (x2)), (3, .int (y3)), (4, .int (y4)), (5, .int (y5)), (6, .int (y6)), (7, .int (y7)), (8, .int (y8))]) hx hb d_Mo_nextPoint_193 hl (k := 10) rfl (nI_1 _) (by decide) rfl (fun ls hl => ?_)
                        refine lv_goto (tgt := 86) hx hb d_Mo_nextPoint_196 (by decide) ?_
                        exact ih ((k + 1)) _ _ _ y3 y4 y5 y6 y7 y8 (by omega) (by omega) hI (lv_sub hl [2, 3, 4, 5, 6, 7, 8, 9, 10, 0] rfl) py6 ht6 ht7 (np_more ht8 c_36)
                      · refine lv_iload hx hb d_Mo_nextPoint_189 (lv_at hl 10 rfl) ?_
                        refine lv_istore (lv' := [(8, .int (nI k)), (10, .int (1)), (0, .ref (ad 71)), (1, .int (nI j1)), (2, .int (x2)), (3, .int (y3)), (4, .int (y4)), (5, .int (y5)), (6, .int (y6)), (7, .int (y7)), (9, .int (nI k))]) hx hb d_Mo_nextPoint_191 hl (by decide) rfl (fun ls hl => ?_)
                        refine lv_iinc (v := nI (k + 1)) (lv' := [(9, .int (nI (k + 1))), (8, .int (nI k)), (10, .int (1)), (0, .ref (ad 71)), (1, .int (nI j1)), (2, .int (x2)), (3, .int (y3)), (4, .int (y4)), (5, .int (y5)), (6, .int (y6)), (7, .int (y7))]) hx hb d_Mo_nextPoint_193 hl (k := 10) rfl (nI_1 _) (by decide) rfl (fun ls hl => ?_)
                        refine lv_goto (tgt := 86) hx hb d_Mo_nextPoint_196 (by decide) ?_
                        exact ih ((k + 1)) _ _ _ y3 y4 y5 y6 y7 (nI k) (by omega) (by omega) hI (lv_sub hl [3, 4, 5, 6, 7, 8, 9, 10, 1, 0] rfl) py6 ht6 ht7 (np_yes (by rw [e_4, nI_clamp (by omega)]; omega) (by omega) ⟨nq_k2 ht6 c_8 e_10 c_11, (Or.inr (Eq.trans e_29 (Eq.trans c_30 ht7))), by rw [e_34]; exact c_35⟩)
        · refine lv_aload_n hx hb d_Mo_nextPoint_100 rfl (lv_at hl 0 rfl) ?_
          refine mq_get (k := 4) (v := .ref (ad 4)) hx hb hts hown hI hM (by decide) rfl rfl (hts _ tw_1173) d_Mo_nextPoint_101 ?_
          refine lv_iload hx hb d_Mo_nextPoint_104 (lv_at hl 9 rfl) ?_
          obtain ⟨x_46, e_47⟩ : ∃ z, σ0.2.2.1 4 (k) = z := ⟨_, rfl⟩
          refine mq_iald (k := 4) (j := k) (v := x_46) hx hb hI hM (by decide) rfl (by show k < 32; omega) (by decide) e_47 d_Mo_nextPoint_106 ?_
          refine lv_bipush (v := 6) hx hb d_Mo_nextPoint_107 (by decide) ?_
          refine lv_icmp_ne (tgt := 148) hx hb d_Mo_nextPoint_109 (by decide) (fun c_48 => ?_) (fun c_48 => ?_)
          · refine lv_iconst (v := 0) hx hb d_Mo_nextPoint_148 (by decide) ?_
            refine lv_istore (lv' := [(10, .int (0)), (0, .ref (ad 71)), (1, .int (nI j1)), (2, .int (x2)), (3, .int (y3)), (4, .int (y4)), (5, .int (y5)), (6, .int (y6)), (7, .int (y7)), (8, .int (y8)), (9, .int (nI k))]) hx hb d_Mo_nextPoint_149 hl (by decide) rfl (fun ls hl => ?_)
            refine lv_iload hx hb d_Mo_nextPoint_151 (lv_at hl 0 rfl) ?_
            refine lv_if_eq (tgt := 193) hx hb d_Mo_nextPoint_153 (by decide) (fun c_49 => ?_) (fun c_49 => ?_)
            · refine lv_iinc (v := nI (k + 1)) (lv' := [(9, .int (nI (k + 1))), (10, .int (0)), (0, .ref (ad 71)), (1, .int (nI j1)), (2, .int (x2)), (3, .int (y3)), (4, .int (y4)), (5, .int (y5)), (6, .int (y6)), (7, .int (y7)), (8, .int (y8))]) hx hb d_Mo_nextPoint_193 hl (k := 10) rfl (nI_1 _) (by decide) rfl (fun ls hl => ?_)
              refine lv_goto (tgt := 86) hx hb d_Mo_nextPoint_196 (by decide) ?_
              exact ih ((k + 1)) _ _ _ y3 y4 y5 y6 y7 y8 (by omega) (by omega) hI (lv_sub hl [2, 3, 4, 5, 6, 7, 8, 9, 10, 0] rfl) py6 ht6 ht7 (np_no ht8 (nq_A ht6 c_8 e_47 c_48))
            · exact absurd c_49 (by decide)
          · refine lv_goto (tgt := 127) hx hb d_Mo_nextPoint_112 (by decide) ?_
            refine lv_iload hx hb d_Mo_nextPoint_127 (lv_at hl 7 rfl) ?_
            refine lv_if_eq (tgt := 144) hx hb d_Mo_nextPoint_129 (by decide) (fun c_50 => ?_) (fun c_50 => ?_)
            · refine lv_iconst (v := 1) hx hb d_Mo_nextPoint_144 (by decide) ?_
              refine lv_goto (tgt := 149) hx hb d_Mo_nextPoint_145 (by decide) ?_
              refine lv_istore (lv' := [(10, .int (1)), (0, .ref (ad 71)), (1, .int (nI j1)), (2, .int (x2)), (3, .int (y3)), (4, .int (y4)), (5, .int (y5)), (6, .int (y6)), (7, .int (y7)), (8, .int (y8)), (9, .int (nI k))]) hx hb d_Mo_nextPoint_149 hl (by decide) rfl (fun ls hl => ?_)
              refine lv_iload hx hb d_Mo_nextPoint_151 (lv_at hl 0 rfl) ?_
              refine lv_if_eq (tgt := 193) hx hb d_Mo_nextPoint_153 (by decide) (fun c_51 => ?_) (fun c_51 => ?_)
              · exact absurd c_51 (by decide)
              · refine lv_aload_n hx hb d_Mo_nextPoint_156 rfl (lv_at hl 1 rfl) ?_
                refine mq_get (k := 3) (v := .ref (ad 3)) hx hb hts hown hI hM (by decide) rfl rfl (hts _ tw_1172) d_Mo_nextPoint_157 ?_
                refine lv_iload hx hb d_Mo_nextPoint_160 (lv_at hl 10 rfl) ?_
                obtain ⟨x_52, e_53⟩ : ∃ z, σ0.2.2.1 3 (k) = z := ⟨_, rfl⟩
                refine mq_iald (k := 3) (j := k) (v := x_52) hx hb hI hM (by decide) rfl (by show k < 32; omega) (by decide) e_53 d_Mo_nextPoint_162 ?_
                refine lv_iload_n hx hb d_Mo_nextPoint_163 rfl (lv_at hl 3 rfl) ?_
                refine lv_icmp_le (tgt := 193) hx hb d_Mo_nextPoint_164 (by decide) (fun c_54 => ?_) (fun c_54 => ?_)
                · refine lv_iinc (v := nI (k + 1)) (lv' := [(9, .int (nI (k + 1))), (10, .int (1)), (0, .ref (ad 71)), (1, .int (nI j1)), (2, .int (x2)), (3, .int (y3)), (4, .int (y4)), (5, .int (y5)), (6, .int (y6)), (7, .int (y7)), (8, .int (y8))]) hx hb d_Mo_nextPoint_193 hl (k := 10) rfl (nI_1 _) (by decide) rfl (fun ls hl => ?_)
                  refine lv_goto (tgt := 86) hx hb d_Mo_nextPoint_196 (by decide) ?_
                  exact ih ((k + 1)) _ _ _ y3 y4 y5 y6 y7 y8 (by omega) (by omega) hI (lv_sub hl [2, 3, 4, 5, 6, 7, 8, 9, 10, 0] rfl) py6 ht6 ht7 (np_no ht8 (nq_D e_53 c_54))
                · refine lv_iload hx hb d_Mo_nextPoint_167 (lv_at hl 9 rfl) ?_
                  refine lv_if_lt (tgt := 189) hx hb d_Mo_nextPoint_169 (by decide) (fun c_55 => ?_) (fun c_55 => ?_)
                  · refine lv_iload hx hb d_Mo_nextPoint_189 (lv_at hl 10 rfl) ?_
                    refine lv_istore (lv' := [(8, .int (nI k)), (10, .int (1)), (0, .ref (ad 71)), (1, .int (nI j1)), (2, .int (x2)), (3, .int (y3)), (4, .int (y4)), (5, .int (y5)), (6, .int (y6)), (7, .int (y7)), (9, .int (nI k))]) hx hb d_Mo_nextPoint_191 hl (by decide) rfl (fun ls hl => ?_)
                    refine lv_iinc (v := nI (k + 1)) (lv' := [(9, .int (nI (k + 1))), (8, .int (nI k)), (10, .int (1)), (0, .ref (ad 71)), (1, .int (nI j1)), (2, .int (x2)), (3, .int (y3)), (4, .int (y4)), (5, .int (y5)), (6, .int (y6)), (7, .int (y7))]) hx hb d_Mo_nextPoint_193 hl (k := 10) rfl (nI_1 _) (by decide) rfl (fun ls hl => ?_)
                    refine lv_goto (tgt := 86) hx hb d_Mo_nextPoint_196 (by decide) ?_
                    exact ih ((k + 1)) _ _ _ y3 y4 y5 y6 y7 (nI k) (by omega) (by omega) hI (lv_sub hl [3, 4, 5, 6, 7, 8, 9, 10, 1, 0] rfl) py6 ht6 ht7 (np_yes (by rw [e_4, nI_clamp (by omega)]; omega) (by omega) ⟨nq_k1 ht6 c_8 e_47 c_48, (Or.inl (Eq.trans ht7.symm c_50)), by rw [e_53]; exact c_54⟩)
                  · refine lv_aload_n hx hb d_Mo_nextPoint_172 rfl (lv_at hl 1 rfl) ?_
                    refine mq_get (k := 3) (v := .ref (ad 3)) hx hb hts hown hI hM (by decide) rfl rfl (hts _ tw_1172) d_Mo_nextPoint_173 ?_
                    refine lv_iload hx hb d_Mo_nextPoint_176 (lv_at hl 10 rfl) ?_
                    obtain ⟨x_56, e_57⟩ : ∃ z, σ0.2.2.1 3 (k) = z := ⟨_, rfl⟩
                    refine mq_iald (k := 3) (j := k) (v := x_56) hx hb hI hM (by decide) rfl (by show k < 32; omega) (by decide) e_57 d_Mo_nextPoint_178 ?_
                    refine lv_aload_n hx hb d_Mo_nextPoint_179 rfl (lv_at hl 1 rfl) ?_
                    refine mq_get (k := 3) (v := .ref (ad 3)) hx hb hts hown hI hM (by decide) rfl rfl (hts _ tw_1172) d_Mo_nextPoint_180 ?_
                    refine lv_iload hx hb d_Mo_nextPoint_183 (lv_at hl 9 rfl) ?_
                    refine lv_topi (fun x_58 e_59 => ?_)
                    obtain ⟨j_60, h_61, rfl⟩ : ∃ j : Nat, j < 32 ∧ x_58 = nI j := by rw [e_59]; exact np_in ht8 c_55
                    obtain ⟨x_62, e_63⟩ : ∃ z, σ0.2.2.1 3 (j_60) = z := ⟨_, rfl⟩
                    refine mq_iald (k := 3) (j := j_60) (v := x_62) hx hb hI hM (by decide) rfl (by show j_60 < 32; omega) (by decide) e_63 d_Mo_nextPoint_185 ?_
                    refine lv_icmp_ge (tgt := 193) hx hb d_Mo_nextPoint_186 (by decide) (fun c_64 => ?_) (fun c_64 => ?_)
                    · refine lv_iinc (v := nI (k + 1)) (lv' := [(9, .int (nI (k + 1))), (10, .int (1)), (0, .ref (ad 71)), (1, .int (nI j1)), (2, .int (x2)), (3, .int (y3)), (4, .int (y4)), (5, .int (y5)), (6, .int (y6)), (7, .int (y7)), (8, .int (y8))]) hx hb d_Mo_nextPoint_193 hl (k := 10) rfl (nI_1 _) (by decide) rfl (fun ls hl => ?_)
                      refine lv_goto (tgt := 86) hx hb d_Mo_nextPoint_196 (by decide) ?_
                      exact ih ((k + 1)) _ _ _ y3 y4 y5 y6 y7 y8 (by omega) (by omega) hI (lv_sub hl [2, 3, 4, 5, 6, 7, 8, 9, 10, 0] rfl) py6 ht6 ht7 (np_more ht8 c_55)
                    · refine lv_iload hx hb d_Mo_nextPoint_189 (lv_at hl 10 rfl) ?_
                      refine lv_istore (lv' := [(8, .int (nI k)), (10, .int (1)), (0, .ref (ad 71)), (1, .int (nI j1)), (2, .int (x2)), (3, .int (y3)), (4, .int (y4)), (5, .int (y5)), (6, .int (y6)), (7, .int (y7)), (9, .int (nI k))]) hx hb d_Mo_nextPoint_191 hl (by decide) rfl (fun ls hl => ?_)
                      refine lv_iinc (v := nI (k + 1)) (lv' := [(9, .int (nI (k + 1))), (8, .int (nI k)), (10, .int (1)), (0, .ref (ad 71)), (1, .int (nI j1)), (2, .int (x2)), (3, .int (y3)), (4, .int (y4)), (5, .int (y5)), (6, .int (y6)), (7, .int (y7))]) hx hb d_Mo_nextPoint_193 hl (k := 10) rfl (nI_1 _) (by decide) rfl (fun ls hl => ?_)
                      refine lv_goto (tgt := 86) hx hb d_Mo_nextPoint_196 (by decide) ?_
                      exact ih ((k + 1)) _ _ _ y3 y4 y5 y6 y7 (nI k) (by omega) (by omega) hI (lv_sub hl [3, 4, 5, 6, 7, 8, 9, 10, 1, 0] rfl) py6 ht6 ht7 (np_yes (by rw [e_4, nI_clamp (by omega)]; omega) (by omega) ⟨nq_k1 ht6 c_8 e_47 c_48, (Or.inl (Eq.trans ht7.symm c_50)), by rw [e_53]; exact c_54⟩)
            · refine lv_aload_n hx hb d_Mo_nextPoint_132 rfl (lv_at hl 0 rfl) ?_
              refine mq_get (k := 5) (v := .ref (ad 5)) hx hb hts hown hI hM (by decide) rfl rfl (hts _ tw_1174) d_Mo_nextPoint_133 ?_
              refine lv_iload hx hb d_Mo_nextPoint_136 (lv_at hl 9 rfl) ?_
              obtain ⟨x_65, e_66⟩ : ∃ z, σ0.2.2.1 5 (k) = z := ⟨_, rfl⟩
              refine mq_iald (k := 5) (j := k) (v := x_65) hx hb hI hM (by decide) rfl (by show k < 32; omega) (by decide) e_66 d_Mo_nextPoint_138 ?_
              refine lv_iload hx hb d_Mo_nextPoint_139 (lv_at hl 7 rfl) ?_
              refine lv_icmp_ne (tgt := 148) hx hb d_Mo_nextPoint_141 (by decide) (fun c_67 => ?_) (fun c_67 => ?_)
              · refine lv_iconst (v := 0) hx hb d_Mo_nextPoint_148 (by decide) ?_
                refine lv_istore (lv' := [(10, .int (0)), (0, .ref (ad 71)), (1, .int (nI j1)), (2, .int (x2)), (3, .int (y3)), (4, .int (y4)), (5, .int (y5)), (6, .int (y6)), (7, .int (y7)), (8, .int (y8)), (9, .int (nI k))]) hx hb d_Mo_nextPoint_149 hl (by decide) rfl (fun ls hl => ?_)
                refine lv_iload hx hb d_Mo_nextPoint_151 (lv_at hl 0 rfl) ?_
                refine lv_if_eq (tgt := 193) hx hb d_Mo_nextPoint_153 (by decide) (fun c_68 => ?_) (fun c_68 => ?_)
                · refine lv_iinc (v := nI (k + 1)) (lv' := [(9, .int (nI (k + 1))), (10, .int (0)), (0, .ref (ad 71)), (1, .int (nI j1)), (2, .int (x2)), (3, .int (y3)), (4, .int (y4)), (5, .int (y5)), (6, .int (y6)), (7, .int (y7)), (8, .int (y8))]) hx hb d_Mo_nextPoint_193 hl (k := 10) rfl (nI_1 _) (by decide) rfl (fun ls hl => ?_)
                  refine lv_goto (tgt := 86) hx hb d_Mo_nextPoint_196 (by decide) ?_
                  exact ih ((k + 1)) _ _ _ y3 y4 y5 y6 y7 y8 (by omega) (by omega) hI (lv_sub hl [2, 3, 4, 5, 6, 7, 8, 9, 10, 0] rfl) py6 ht6 ht7 (np_no ht8 (nq_C ht7 c_50 e_66 c_67))
                · exact absurd c_68 (by decide)
              · refine lv_iconst (v := 1) hx hb d_Mo_nextPoint_144 (by decide) ?_
                refine lv_goto (tgt := 149) hx hb d_Mo_nextPoint_145 (by decide) ?_
                refine lv_istore (lv' := [(10, .int (1)), (0, .ref (ad 71)), (1, .int (nI j1)), (2, .int (x2)), (3, .int (y3)), (4, .int (y4)), (5, .int (y5)), (6, .int (y6)), (7, .int (y7)), (8, .int (y8)), (9, .int (nI k))]) hx hb d_Mo_nextPoint_149 hl (by decide) rfl (fun ls hl => ?_)
                refine lv_iload hx hb d_Mo_nextPoint_151 (lv_at hl 0 rfl) ?_
                refine lv_if_eq (tgt := 193) hx hb d_Mo_nextPoint_153 (by decide) (fun c_69 => ?_) (fun c_69 => ?_)
                · exact absurd c_69 (by decide)
                · refine lv_aload_n hx hb d_Mo_nextPoint_156 rfl (lv_at hl 1 rfl) ?_
                  refine mq_get (k := 3) (v := .ref (ad 3)) hx hb hts hown hI hM (by decide) rfl rfl (hts _ tw_1172) d_Mo_nextPoint_157 ?_
                  refine lv_iload hx hb d_Mo_nextPoint_160 (lv_at hl 10 rfl) ?_
                  obtain ⟨x_70, e_71⟩ : ∃ z, σ0.2.2.1 3 (k) = z := ⟨_, rfl⟩
                  refine mq_iald (k := 3) (j := k) (v := x_70) hx hb hI hM (by decide) rfl (by show k < 32; omega) (by decide) e_71 d_Mo_nextPoint_162 ?_
                  refine lv_iload_n hx hb d_Mo_nextPoint_163 rfl (lv_at hl 3 rfl) ?_
                  refine lv_icmp_le (tgt := 193) hx hb d_Mo_nextPoint_164 (by decide) (fun c_72 => ?_) (fun c_72 => ?_)
                  · refine lv_iinc (v := nI (k + 1)) (lv' := [(9, .int (nI (k + 1))), (10, .int (1)), (0, .ref (ad 71)), (1, .int (nI j1)), (2, .int (x2)), (3, .int (y3)), (4, .int (y4)), (5, .int (y5)), (6, .int (y6)), (7, .int (y7)), (8, .int (y8))]) hx hb d_Mo_nextPoint_193 hl (k := 10) rfl (nI_1 _) (by decide) rfl (fun ls hl => ?_)
                    refine lv_goto (tgt := 86) hx hb d_Mo_nextPoint_196 (by decide) ?_
                    exact ih ((k + 1)) _ _ _ y3 y4 y5 y6 y7 y8 (by omega) (by omega) hI (lv_sub hl [2, 3, 4, 5, 6, 7, 8, 9, 10, 0] rfl) py6 ht6 ht7 (np_no ht8 (nq_D e_71 c_72))
                  · refine lv_iload hx hb d_Mo_nextPoint_167 (lv_at hl 9 rfl) ?_
                    refine lv_if_lt (tgt := 189) hx hb d_Mo_nextPoint_169 (by decide) (fun c_73 => ?_) (fun c_73 => ?_)
                    · refine lv_iload hx hb d_Mo_nextPoint_189 (lv_at hl 10 rfl) ?_
                      refine lv_istore (lv' := [(8, .int (nI k)), (10, .int (1)), (0, .ref (ad 71)), (1, .int (nI j1)), (2, .int (x2)), (3, .int (y3)), (4, .int (y4)), (5, .int (y5)), (6, .int (y6)), (7, .int (y7)), (9, .int (nI k))]) hx hb d_Mo_nextPoint_191 hl (by decide) rfl (fun ls hl => ?_)
                      refine lv_iinc (v := nI (k + 1)) (lv' := [(9, .int (nI (k + 1))), (8, .int (nI k)), (10, .int (1)), (0, .ref (ad 71)), (1, .int (nI j1)), (2, .int (x2)), (3, .int (y3)), (4, .int (y4)), (5, .int (y5)), (6, .int (y6)), (7, .int (y7))]) hx hb d_Mo_nextPoint_193 hl (k := 10) rfl (nI_1 _) (by decide) rfl (fun ls hl => ?_)
                      refine lv_goto (tgt := 86) hx hb d_Mo_nextPoint_196 (by decide) ?_
                      exact ih ((k + 1)) _ _ _ y3 y4 y5 y6 y7 (nI k) (by omega) (by omega) hI (lv_sub hl [3, 4, 5, 6, 7, 8, 9, 10, 1, 0] rfl) py6 ht6 ht7 (np_yes (by rw [e_4, nI_clamp (by omega)]; omega) (by omega) ⟨nq_k1 ht6 c_8 e_47 c_48, (Or.inr (Eq.trans e_66 (Eq.trans c_67 ht7))), by rw [e_71]; exact c_72⟩)
                    · refine lv_aload_n hx hb d_Mo_nextPoint_172 rfl (lv_at hl 1 rfl) ?_
                      refine mq_get (k := 3) (v := .ref (ad 3)) hx hb hts hown hI hM (by decide) rfl rfl (hts _ tw_1172) d_Mo_nextPoint_173 ?_
                      refine lv_iload hx hb d_Mo_nextPoint_176 (lv_at hl 10 rfl) ?_
                      obtain ⟨x_74, e_75⟩ : ∃ z, σ0.2.2.1 3 (k) = z := ⟨_, rfl⟩
                      refine mq_iald (k := 3) (j := k) (v := x_74) hx hb hI hM (by decide) rfl (by show k < 32; omega) (by decide) e_75 d_Mo_nextPoint_178 ?_
                      refine lv_aload_n hx hb d_Mo_nextPoint_179 rfl (lv_at hl 1 rfl) ?_
                      refine mq_get (k := 3) (v := .ref (ad 3)) hx hb hts hown hI hM (by decide) rfl rfl (hts _ tw_1172) d_Mo_nextPoint_180 ?_
                      refine lv_iload hx hb d_Mo_nextPoint_183 (lv_at hl 9 rfl) ?_
                      refine lv_topi (fun x_76 e_77 => ?_)
                      obtain ⟨j_78, h_79, rfl⟩ : ∃ j : Nat, j < 32 ∧ x_76 = nI j := by rw [e_77]; exact np_in ht8 c_73
                      obtain ⟨x_80, e_81⟩ : ∃ z, σ0.2.2.1 3 (j_78) = z := ⟨_, rfl⟩
                      refine mq_iald (k := 3) (j := j_78) (v := x_80) hx hb hI hM (by decide) rfl (by show j_78 < 32; omega) (by decide) e_81 d_Mo_nextPoint_185 ?_
                      refine lv_icmp_ge (tgt := 193) hx hb d_Mo_nextPoint_186 (by decide) (fun c_82 => ?_) (fun c_82 => ?_)
                      · refine lv_iinc (v := nI (k + 1)) (lv' := [(9, .int (nI (k + 1))), (10, .int (1)), (0, .ref (ad 71)), (1, .int (nI j1)), (2, .int (x2)), (3, .int (y3)), (4, .int (y4)), (5, .int (y5)), (6, .int (y6)), (7, .int (y7)), (8, .int (y8))]) hx hb d_Mo_nextPoint_193 hl (k := 10) rfl (nI_1 _) (by decide) rfl (fun ls hl => ?_)
                        refine lv_goto (tgt := 86) hx hb d_Mo_nextPoint_196 (by decide) ?_
                        exact ih ((k + 1)) _ _ _ y3 y4 y5 y6 y7 y8 (by omega) (by omega) hI (lv_sub hl [2, 3, 4, 5, 6, 7, 8, 9, 10, 0] rfl) py6 ht6 ht7 (np_more ht8 c_73)
                      · refine lv_iload hx hb d_Mo_nextPoint_189 (lv_at hl 10 rfl) ?_
                        refine lv_istore (lv' := [(8, .int (nI k)), (10, .int (1)), (0, .ref (ad 71)), (1, .int (nI j1)), (2, .int (x2)), (3, .int (y3)), (4, .int (y4)), (5, .int (y5)), (6, .int (y6)), (7, .int (y7)), (9, .int (nI k))]) hx hb d_Mo_nextPoint_191 hl (by decide) rfl (fun ls hl => ?_)
                        refine lv_iinc (v := nI (k + 1)) (lv' := [(9, .int (nI (k + 1))), (8, .int (nI k)), (10, .int (1)), (0, .ref (ad 71)), (1, .int (nI j1)), (2, .int (x2)), (3, .int (y3)), (4, .int (y4)), (5, .int (y5)), (6, .int (y6)), (7, .int (y7))]) hx hb d_Mo_nextPoint_193 hl (k := 10) rfl (nI_1 _) (by decide) rfl (fun ls hl => ?_)
                        refine lv_goto (tgt := 86) hx hb d_Mo_nextPoint_196 (by decide) ?_
                        exact ih ((k + 1)) _ _ _ y3 y4 y5 y6 y7 (nI k) (by omega) (by omega) hI (lv_sub hl [3, 4, 5, 6, 7, 8, 9, 10, 1, 0] rfl) py6 ht6 ht7 (np_yes (by rw [e_4, nI_clamp (by omega)]; omega) (by omega) ⟨nq_k1 ht6 c_8 e_47 c_48, (Or.inr (Eq.trans e_66 (Eq.trans c_67 ht7))), by rw [e_71]; exact c_72⟩)
  refine lv_aload_n hx hb d_Mo_nextPoint_0 rfl (lv_at hl 0 rfl) ?_
  refine lv_iload_n hx hb d_Mo_nextPoint_1 rfl (lv_at hl 1 rfl) ?_
  refine lv_iconst (v := 0) hx hb d_Mo_nextPoint_2 (by decide) ?_
  refine sm_iP hI (va_runV (As := [.int (nI j1), .int (0)]) (rest := []) ⟨hx, hb, hml, hown, hts⟩ (c_Mo_slot l D ca ad L _ _ _ hM (j1) (by omega) (0) (by omega)) (kv_Mo_slot hts rfl rfl (hts _ tw_1442) ⟨Nat.le_of_ble_eq_true rfl, Nat.le_of_ble_eq_true rfl⟩) (pv_Mo hI hE hM) rfl rfl hl.1 rfl (lv_room (Nat.le_of_ble_eq_true rfl)) d_Mo_nextPoint_3 ⟨Nat.le_of_ble_eq_true rfl, Nat.le_of_ble_eq_true rfl⟩) (fun x_84 H locs p_83 hI => ?_)
  subst p_83
  refine lv_sipush (v := 260) hx hb d_Mo_nextPoint_6 (by decide) ?_
  refine lv_imul hx hb d_Mo_nextPoint_9 ?_
  refine lv_topi (fun x_85 e_86 => ?_)
  obtain rfl : x_85 = nI ((j1 * 16 + 0) * 260) := by rw [e_86]; exact pk_mul _ _
  refine lv_istore_n (lv' := [(3, .int (nI ((j1 * 16 + 0) * 260))), (0, .ref (ad 71)), (1, .int (nI j1)), (2, .int (x2))]) hx hb d_Mo_nextPoint_10 rfl hl (by decide) rfl (fun ls hl => ?_)
  refine lv_aload_n hx hb d_Mo_nextPoint_11 rfl (lv_at hl 1 rfl) ?_
  refine lv_iload_n hx hb d_Mo_nextPoint_12 rfl (lv_at hl 2 rfl) ?_
  refine sm_iP hI (va_runV (As := [.int (nI j1)]) (rest := []) ⟨hx, hb, hml, hown, hts⟩ (c_Mo_headBytes l D ca ad L _ _ _ hM (nI j1)) (kv_Mo_headBytes hts rfl rfl (hts _ tw_1450) ⟨Nat.le_of_ble_eq_true rfl, Nat.le_of_ble_eq_true rfl⟩) (pv_Mo hI hE hM) rfl rfl hl.1 rfl (lv_room (Nat.le_of_ble_eq_true rfl)) d_Mo_nextPoint_13 ⟨Nat.le_of_ble_eq_true rfl, Nat.le_of_ble_eq_true rfl⟩) (fun x_88 H locs p_87 hI => ?_)
  obtain ⟨n_89, rfl, h_90, h_91, h_92⟩ := p_87
  refine lv_aload_n hx hb d_Mo_nextPoint_16 rfl (lv_at hl 1 rfl) ?_
  refine lv_iload_n hx hb d_Mo_nextPoint_17 rfl (lv_at hl 2 rfl) ?_
  refine sm_iP hI (va_runV (As := [.int (nI j1)]) (rest := [.int (nI n_89)]) ⟨hx, hb, hml, hown, hts⟩ (c_Mo_objectBytes l D ca ad L _ _ _ hM (nI j1)) (kv_Mo_objectBytes hts rfl rfl (hts _ tw_1462) ⟨Nat.le_of_ble_eq_true rfl, Nat.le_of_ble_eq_true rfl⟩) (pv_Mo hI hE hM) rfl rfl hl.1 rfl (lv_room (Nat.le_of_ble_eq_true rfl)) d_Mo_nextPoint_18 ⟨Nat.le_of_ble_eq_true rfl, Nat.le_of_ble_eq_true rfl⟩) (fun x_94 H locs p_93 hI => ?_)
  obtain ⟨n_95, rfl, h_96, h_97, h_98⟩ := p_93
  refine lv_iadd hx hb d_Mo_nextPoint_21 ?_
  refine lv_topi (fun x_99 e_100 => ?_)
  obtain rfl : x_99 = nI (n_89 + n_95) := by rw [e_100]; exact nI_add _ _
  refine lv_istore (lv' := [(4, .int (nI (n_89 + n_95))), (3, .int (nI ((j1 * 16 + 0) * 260))), (0, .ref (ad 71)), (1, .int (nI j1)), (2, .int (x2))]) hx hb d_Mo_nextPoint_22 hl (by decide) rfl (fun ls hl => ?_)
  refine lv_aload_n hx hb d_Mo_nextPoint_24 rfl (lv_at hl 2 rfl) ?_
  refine mq_get (k := 31) (v := .ref (ad 31)) hx hb hts hown hI hM (by decide) rfl rfl (hts _ tw_1200) d_Mo_nextPoint_25 ?_
  refine lv_iload_n hx hb d_Mo_nextPoint_28 rfl (lv_at hl 1 rfl) ?_
  refine lv_iload hx hb d_Mo_nextPoint_29 (lv_at hl 0 rfl) ?_
  refine lv_iadd hx hb d_Mo_nextPoint_31 ?_
  refine lv_topi (fun x_101 e_102 => ?_)
  obtain rfl : x_101 = nI (((j1 * 16 + 0) * 260) + (n_89 + n_95)) := by rw [e_102]; exact nI_add _ _
  obtain ⟨x_103, e_104⟩ : ∃ z, σ0.2.2.1 31 ((((j1 * 16 + 0) * 260) + (n_89 + n_95))) = z := ⟨_, rfl⟩
  refine mq_iald (k := 31) (j := (((j1 * 16 + 0) * 260) + (n_89 + n_95))) (v := x_103) hx hb hI hM (by decide) rfl (by show (((j1 * 16 + 0) * 260) + (n_89 + n_95)) < 16640; omega) (by decide) e_104 d_Mo_nextPoint_32 ?_
  refine lv_istore (lv' := [(5, .int (x_103)), (4, .int (nI (n_89 + n_95))), (3, .int (nI ((j1 * 16 + 0) * 260))), (0, .ref (ad 71)), (1, .int (nI j1)), (2, .int (x2))]) hx hb d_Mo_nextPoint_33 hl (by decide) rfl (fun ls hl => ?_)
  refine lv_aload_n hx hb d_Mo_nextPoint_35 rfl (lv_at hl 3 rfl) ?_
  refine mq_get (k := 31) (v := .ref (ad 31)) hx hb hts hown hI hM (by decide) rfl rfl (hts _ tw_1200) d_Mo_nextPoint_36 ?_
  refine lv_iload_n hx hb d_Mo_nextPoint_39 rfl (lv_at hl 2 rfl) ?_
  obtain ⟨x_105, e_106⟩ : ∃ z, σ0.2.2.1 31 (((j1 * 16 + 0) * 260)) = z := ⟨_, rfl⟩
  refine mq_iald (k := 31) (j := ((j1 * 16 + 0) * 260)) (v := x_105) hx hb hI hM (by decide) rfl (by show ((j1 * 16 + 0) * 260) < 16640; omega) (by decide) e_106 d_Mo_nextPoint_40 ?_
  refine lv_bipush (v := 101) hx hb d_Mo_nextPoint_41 (by decide) ?_
  refine lv_icmp_ne (tgt := 50) hx hb d_Mo_nextPoint_43 (by decide) (fun c_107 => ?_) (fun c_107 => ?_)
  · refine lv_iconst (v := 0) hx hb d_Mo_nextPoint_50 (by decide) ?_
    refine lv_istore (lv' := [(6, .int (0)), (5, .int (x_103)), (4, .int (nI (n_89 + n_95))), (3, .int (nI ((j1 * 16 + 0) * 260))), (0, .ref (ad 71)), (1, .int (nI j1)), (2, .int (x2))]) hx hb d_Mo_nextPoint_51 hl (by decide) rfl (fun ls hl => ?_)
    refine lv_iload hx hb d_Mo_nextPoint_53 (lv_at hl 0 rfl) ?_
    refine lv_if_eq (tgt := 73) hx hb d_Mo_nextPoint_55 (by decide) (fun c_108 => ?_) (fun c_108 => ?_)
    · refine lv_iload hx hb d_Mo_nextPoint_73 (lv_at hl 1 rfl) ?_
      refine lv_bipush (v := 20) hx hb d_Mo_nextPoint_75 (by decide) ?_
      refine lv_isub hx hb d_Mo_nextPoint_77 ?_
      refine lv_topi (fun x_109 e_110 => ?_)
      refine lv_istore (lv' := [(7, .int (x_109)), (6, .int (0)), (5, .int (x_103)), (4, .int (nI (n_89 + n_95))), (3, .int (nI ((j1 * 16 + 0) * 260))), (0, .ref (ad 71)), (1, .int (nI j1)), (2, .int (x2))]) hx hb d_Mo_nextPoint_78 hl (by decide) rfl (fun ls hl => ?_)
      refine lv_iconst (v := -1) hx hb d_Mo_nextPoint_80 (by decide) ?_
      refine lv_istore (lv' := [(8, .int (-1)), (7, .int (x_109)), (6, .int (0)), (5, .int (x_103)), (4, .int (nI (n_89 + n_95))), (3, .int (nI ((j1 * 16 + 0) * 260))), (0, .ref (ad 71)), (1, .int (nI j1)), (2, .int (x2))]) hx hb d_Mo_nextPoint_81 hl (by decide) rfl (fun ls hl => ?_)
      refine lv_iconst (v := 0) hx hb d_Mo_nextPoint_83 (by decide) ?_
      refine lv_istore (lv' := [(9, .int (0)), (8, .int (-1)), (7, .int (x_109)), (6, .int (0)), (5, .int (x_103)), (4, .int (nI (n_89 + n_95))), (3, .int (nI ((j1 * 16 + 0) * 260))), (0, .ref (ad 71)), (1, .int (nI j1)), (2, .int (x2))]) hx hb d_Mo_nextPoint_84 hl (by decide) rfl (fun ls hl => ?_)
      exact hJ_86 _ (0) _ _ _ (nI ((j1 * 16 + 0) * 260)) (nI (n_89 + n_95)) x_103 0 x_109 (-1) (Nat.le_refl _) (by omega) hI (lv_sub hl [7, 8, 9, 6, 5, 4, 3, 2, 1, 0] rfl) (by decide) (Or.inr ⟨rfl, fun q => c_107 (Eq.trans (Eq.trans (congrArg (σ0.2.2.1 31) (show j1 * 4160 = _ by omega)) e_106).symm q)⟩) (np_g3 (fun q => c_107 (Eq.trans (Eq.trans (congrArg (σ0.2.2.1 31) (show j1 * 4160 = _ by omega)) e_106).symm q)) (Eq.trans (congrArg (σ0.2.2.1 31) (show j1 * 4160 + mq_h σ0 (nI j1) = _ by unfold mq_h; omega)) e_104) e_110) (Or.inl ⟨rfl, fun p hp => absurd hp (by omega)⟩)
    · exact absurd c_108 (by decide)
  · refine lv_iconst (v := 1) hx hb d_Mo_nextPoint_46 (by decide) ?_
    refine lv_goto (tgt := 51) hx hb d_Mo_nextPoint_47 (by decide) ?_
    refine lv_istore (lv' := [(6, .int (1)), (5, .int (x_103)), (4, .int (nI (n_89 + n_95))), (3, .int (nI ((j1 * 16 + 0) * 260))), (0, .ref (ad 71)), (1, .int (nI j1)), (2, .int (x2))]) hx hb d_Mo_nextPoint_51 hl (by decide) rfl (fun ls hl => ?_)
    refine lv_iload hx hb d_Mo_nextPoint_53 (lv_at hl 0 rfl) ?_
    refine lv_if_eq (tgt := 73) hx hb d_Mo_nextPoint_55 (by decide) (fun c_111 => ?_) (fun c_111 => ?_)
    · exact absurd c_111 (by decide)
    · refine lv_iload hx hb d_Mo_nextPoint_58 (lv_at hl 1 rfl) ?_
      refine lv_iconst (v := 5) hx hb d_Mo_nextPoint_60 (by decide) ?_
      refine lv_icmp_ne (tgt := 68) hx hb d_Mo_nextPoint_61 (by decide) (fun c_112 => ?_) (fun c_112 => ?_)
      · refine lv_iload hx hb d_Mo_nextPoint_68 (lv_at hl 1 rfl) ?_
        refine lv_goto (tgt := 78) hx hb d_Mo_nextPoint_70 (by decide) ?_
        refine lv_istore (lv' := [(7, .int (x_103)), (6, .int (1)), (5, .int (x_103)), (4, .int (nI (n_89 + n_95))), (3, .int (nI ((j1 * 16 + 0) * 260))), (0, .ref (ad 71)), (1, .int (nI j1)), (2, .int (x2))]) hx hb d_Mo_nextPoint_78 hl (by decide) rfl (fun ls hl => ?_)
        refine lv_iconst (v := -1) hx hb d_Mo_nextPoint_80 (by decide) ?_
        refine lv_istore (lv' := [(8, .int (-1)), (7, .int (x_103)), (6, .int (1)), (5, .int (x_103)), (4, .int (nI (n_89 + n_95))), (3, .int (nI ((j1 * 16 + 0) * 260))), (0, .ref (ad 71)), (1, .int (nI j1)), (2, .int (x2))]) hx hb d_Mo_nextPoint_81 hl (by decide) rfl (fun ls hl => ?_)
        refine lv_iconst (v := 0) hx hb d_Mo_nextPoint_83 (by decide) ?_
        refine lv_istore (lv' := [(9, .int (0)), (8, .int (-1)), (7, .int (x_103)), (6, .int (1)), (5, .int (x_103)), (4, .int (nI (n_89 + n_95))), (3, .int (nI ((j1 * 16 + 0) * 260))), (0, .ref (ad 71)), (1, .int (nI j1)), (2, .int (x2))]) hx hb d_Mo_nextPoint_84 hl (by decide) rfl (fun ls hl => ?_)
        exact hJ_86 _ (0) _ _ _ (nI ((j1 * 16 + 0) * 260)) (nI (n_89 + n_95)) x_103 1 x_103 (-1) (Nat.le_refl _) (by omega) hI (lv_sub hl [7, 8, 9, 6, 5, 4, 3, 2, 1, 0] rfl) (by decide) (Or.inl ⟨rfl, Eq.trans (Eq.trans (congrArg (σ0.2.2.1 31) (show j1 * 4160 = _ by omega)) e_106) c_107⟩) (np_g2 (Eq.trans (Eq.trans (congrArg (σ0.2.2.1 31) (show j1 * 4160 = _ by omega)) e_106) c_107) (Eq.trans (congrArg (σ0.2.2.1 31) (show j1 * 4160 + mq_h σ0 (nI j1) = _ by unfold mq_h; omega)) e_104) c_112) (Or.inl ⟨rfl, fun p hp => absurd hp (by omega)⟩)
      · refine lv_iconst (v := 0) hx hb d_Mo_nextPoint_64 (by decide) ?_
        refine lv_goto (tgt := 78) hx hb d_Mo_nextPoint_65 (by decide) ?_
        refine lv_istore (lv' := [(7, .int (0)), (6, .int (1)), (5, .int (x_103)), (4, .int (nI (n_89 + n_95))), (3, .int (nI ((j1 * 16 + 0) * 260))), (0, .ref (ad 71)), (1, .int (nI j1)), (2, .int (x2))]) hx hb d_Mo_nextPoint_78 hl (by decide) rfl (fun ls hl => ?_)
        refine lv_iconst (v := -1) hx hb d_Mo_nextPoint_80 (by decide) ?_
        refine lv_istore (lv' := [(8, .int (-1)), (7, .int (0)), (6, .int (1)), (5, .int (x_103)), (4, .int (nI (n_89 + n_95))), (3, .int (nI ((j1 * 16 + 0) * 260))), (0, .ref (ad 71)), (1, .int (nI j1)), (2, .int (x2))]) hx hb d_Mo_nextPoint_81 hl (by decide) rfl (fun ls hl => ?_)
        refine lv_iconst (v := 0) hx hb d_Mo_nextPoint_83 (by decide) ?_
        refine lv_istore (lv' := [(9, .int (0)), (8, .int (-1)), (7, .int (0)), (6, .int (1)), (5, .int (x_103)), (4, .int (nI (n_89 + n_95))), (3, .int (nI ((j1 * 16 + 0) * 260))), (0, .ref (ad 71)), (1, .int (nI j1)), (2, .int (x2))]) hx hb d_Mo_nextPoint_84 hl (by decide) rfl (fun ls hl => ?_)
        exact hJ_86 _ (0) _ _ _ (nI ((j1 * 16 + 0) * 260)) (nI (n_89 + n_95)) x_103 1 0 (-1) (Nat.le_refl _) (by omega) hI (lv_sub hl [7, 8, 9, 6, 5, 4, 3, 2, 1, 0] rfl) (by decide) (Or.inl ⟨rfl, Eq.trans (Eq.trans (congrArg (σ0.2.2.1 31) (show j1 * 4160 = _ by omega)) e_106) c_107⟩) (np_g1 (Eq.trans (Eq.trans (congrArg (σ0.2.2.1 31) (show j1 * 4160 = _ by omega)) e_106) c_107) (Eq.trans (congrArg (σ0.2.2.1 31) (show j1 * 4160 + mq_h σ0 (nI j1) = _ by unfold mq_h; omega)) e_104) c_112) (Or.inl ⟨rfl, fun p hp => absurd hp (by omega)⟩)
theorem d_Mo_settle_0 : decode b_Mo_settle 0 = .ok (.aload_n 0, 1) := by decide +kernel
theorem d_Mo_settle_1 : decode b_Mo_settle 1 = .ok (.iload_n 1, 1) := by decide +kernel
theorem d_Mo_settle_2 : decode b_Mo_settle 2 = .ok (.iconst 0, 1) := by decide +kernel
theorem d_Mo_settle_3 : decode b_Mo_settle 3 = .ok (.invokevirtual 290, 3) := by decide +kernel
theorem d_Mo_settle_6 : decode b_Mo_settle 6 = .ok (.istore_n 2, 1) := by decide +kernel
theorem d_Mo_settle_7 : decode b_Mo_settle 7 = .ok (.aload_n 0, 1) := by decide +kernel
theorem d_Mo_settle_8 : decode b_Mo_settle 8 = .ok (.getfield 81, 3) := by decide +kernel
theorem d_Mo_settle_11 : decode b_Mo_settle 11 = .ok (.iload_n 1, 1) := by decide +kernel
theorem d_Mo_settle_12 : decode b_Mo_settle 12 = .ok (.iaload, 1) := by decide +kernel
theorem d_Mo_settle_13 : decode b_Mo_settle 13 = .ok (.ifCond .le 34, 3) := by decide +kernel
theorem d_Mo_settle_16 : decode b_Mo_settle 16 = .ok (.aload_n 0, 1) := by decide +kernel
theorem d_Mo_settle_17 : decode b_Mo_settle 17 = .ok (.getfield 90, 3) := by decide +kernel
theorem d_Mo_settle_20 : decode b_Mo_settle 20 = .ok (.iload_n 2, 1) := by decide +kernel
theorem d_Mo_settle_21 : decode b_Mo_settle 21 = .ok (.iaload, 1) := by decide +kernel
theorem d_Mo_settle_22 : decode b_Mo_settle 22 = .ok (.iconst 2, 1) := by decide +kernel
theorem d_Mo_settle_23 : decode b_Mo_settle 23 = .ok (.if_icmp .ne 24, 3) := by decide +kernel
theorem d_Mo_settle_26 : decode b_Mo_settle 26 = .ok (.aload_n 0, 1) := by decide +kernel
theorem d_Mo_settle_27 : decode b_Mo_settle 27 = .ok (.iload_n 1, 1) := by decide +kernel
theorem d_Mo_settle_28 : decode b_Mo_settle 28 = .ok (.aload_n 0, 1) := by decide +kernel
theorem d_Mo_settle_29 : decode b_Mo_settle 29 = .ok (.getfield 93, 3) := by decide +kernel
theorem d_Mo_settle_32 : decode b_Mo_settle 32 = .ok (.iload_n 2, 1) := by decide +kernel
theorem d_Mo_settle_33 : decode b_Mo_settle 33 = .ok (.iaload, 1) := by decide +kernel
theorem d_Mo_settle_34 : decode b_Mo_settle 34 = .ok (.invokevirtual 299, 3) := by decide +kernel
theorem d_Mo_settle_37 : decode b_Mo_settle 37 = .ok (.ifCond .ge 10, 3) := by decide +kernel
theorem d_Mo_settle_40 : decode b_Mo_settle 40 = .ok (.aload_n 0, 1) := by decide +kernel
theorem d_Mo_settle_41 : decode b_Mo_settle 41 = .ok (.getfield 90, 3) := by decide +kernel
theorem d_Mo_settle_44 : decode b_Mo_settle 44 = .ok (.iload_n 2, 1) := by decide +kernel
theorem d_Mo_settle_45 : decode b_Mo_settle 45 = .ok (.iconst 3, 1) := by decide +kernel
theorem d_Mo_settle_46 : decode b_Mo_settle 46 = .ok (.iastore, 1) := by decide +kernel
theorem d_Mo_settle_47 : decode b_Mo_settle 47 = .ok (.return_, 1) := by decide +kernel
set_option maxRecDepth 100000 in
set_option maxHeartbeats 4000000 in
theorem c_Mo_settle (l : Launch) (D : va_G) (ca : Nat → ClassId) (ad : Nat → Nat) (L : List Nat) (f0 : Nat → va_E) (sz : Nat) (σ0 : mq_S) (hM : mq_B ca ad σ0 L f0) (j1 : Nat) (q1 : j1 ≤ 3) (u0 : IHs σ0 j1) :
    Met l y_Mo_settle (Cond.code y_Mo_settle b_Mo_settle 3 none :: wg) { frames := 3, cells := 0, slots := 0, locals := 72 } (va_Pc [.ref (ad 71), .int (nI j1)] (sm_P D cl_all (ty_s ca) ek L f0 sz)) (sm_Qv D (ty_s ca) L f0 sz (fun u => mq_po ca ad L σ0 [33] (fun σ => IH σ ∧ True) u)) 0 0 (va_A (va_pl L f0) sz) := by
  refine sm_start (by decide) (Nat.le_of_ble_eq_true rfl) ?_
  intro p e s m below meth c ls hx hb hml hr hlk hnm hts hown hsz hE hI hl
  have hl : lv_has ls 3 [(0, .ref (ad 71)), (1, .int (nI j1))] := hl
  have hF : mq_fr [33] σ0 σ0 := mq_fr_rf
  refine lv_aload_n hx hb d_Mo_settle_0 rfl (lv_at hl 0 rfl) ?_
  refine lv_iload_n hx hb d_Mo_settle_1 rfl (lv_at hl 1 rfl) ?_
  refine lv_iconst (v := 0) hx hb d_Mo_settle_2 (by decide) ?_
  refine sm_iP hI (va_runV (As := [.int (nI j1), .int (0)]) (rest := []) ⟨hx, hb, hml, hown, hts⟩ (c_Mo_slot l D ca ad L _ _ _ hM (j1) (by omega) (0) (by omega)) (kv_Mo_slot hts rfl rfl (hts _ tw_1442) ⟨Nat.le_of_ble_eq_true rfl, Nat.le_of_ble_eq_true rfl⟩) (pv_Mo hI hE hM) rfl rfl hl.1 rfl (lv_room (Nat.le_of_ble_eq_true rfl)) d_Mo_settle_3 ⟨Nat.le_of_ble_eq_true rfl, Nat.le_of_ble_eq_true rfl⟩) (fun x_2 H locs p_1 hI => ?_)
  subst p_1
  refine lv_istore_n (lv' := [(2, .int (nI (j1 * 16 + 0))), (0, .ref (ad 71)), (1, .int (nI j1))]) hx hb d_Mo_settle_6 rfl hl (by decide) rfl (fun ls hl => ?_)
  refine lv_aload_n hx hb d_Mo_settle_7 rfl (lv_at hl 1 rfl) ?_
  refine mq_get (k := 30) (v := .ref (ad 30)) hx hb hts hown hI hM (by decide) rfl rfl (hts _ tw_1199) d_Mo_settle_8 ?_
  refine lv_iload_n hx hb d_Mo_settle_11 rfl (lv_at hl 2 rfl) ?_
  obtain ⟨n_3, h_4, h_5, e_6⟩ := hM.2.2.2.2.2 30 (j1)
  refine mq_iald (k := 30) (j := j1) (v := nI n_3) hx hb hI hM (by decide) rfl (by show j1 < 4; omega) (by decide) e_6 d_Mo_settle_12 ?_
  refine lv_if_le (tgt := 47) hx hb d_Mo_settle_13 (by decide) (fun c_7 => ?_) (fun c_7 => ?_)
  · have k_9 : n_3 = 0 := nz_le c_7 (by omega)
    exact sm_vret hx hb hr hlk hI ⟨σ0, rfl, hM, hF, ⟨(IH_fin u0 (fun h => by rw [ih_of e_6 (by omega)] at h; omega)), trivial⟩⟩ d_Mo_settle_47
  · have k_10 : 0 < n_3 := Nat.pos_of_ne_zero (fun q => c_7 (by rw [q]; decide))
    refine lv_aload_n hx hb d_Mo_settle_16 rfl (lv_at hl 1 rfl) ?_
    refine mq_get (k := 33) (v := .ref (ad 33)) hx hb hts hown hI hM (by decide) rfl rfl (hts _ tw_1202) d_Mo_settle_17 ?_
    refine lv_iload_n hx hb d_Mo_settle_20 rfl (lv_at hl 0 rfl) ?_
    obtain ⟨x_11, e_12⟩ : ∃ z, σ0.2.2.1 33 ((j1 * 16 + 0)) = z := ⟨_, rfl⟩
    refine mq_iald (k := 33) (j := (j1 * 16 + 0)) (v := x_11) hx hb hI hM (by decide) rfl (by show (j1 * 16 + 0) < 64; omega) (by decide) e_12 d_Mo_settle_21 ?_
    refine lv_iconst (v := 2) hx hb d_Mo_settle_22 (by decide) ?_
    refine lv_icmp_ne (tgt := 47) hx hb d_Mo_settle_23 (by decide) (fun c_13 => ?_) (fun c_13 => ?_)
    · exact sm_vret hx hb hr hlk hI ⟨σ0, rfl, hM, hF, ⟨(IH_fin u0 (fun _ h => absurd (Eq.trans e_12.symm h) c_13)), trivial⟩⟩ d_Mo_settle_47
    · refine lv_aload_n hx hb d_Mo_settle_26 rfl (lv_at hl 1 rfl) ?_
      refine lv_iload_n hx hb d_Mo_settle_27 rfl (lv_at hl 2 rfl) ?_
      refine lv_aload_n hx hb d_Mo_settle_28 rfl (lv_at hl 1 rfl) ?_
      refine mq_get (k := 34) (v := .ref (ad 34)) hx hb hts hown hI hM (by decide) rfl rfl (hts _ tw_1203) d_Mo_settle_29 ?_
      refine lv_iload_n hx hb d_Mo_settle_32 rfl (lv_at hl 0 rfl) ?_
      obtain ⟨x_14, e_15⟩ : ∃ z, σ0.2.2.1 34 ((j1 * 16 + 0)) = z := ⟨_, rfl⟩
      refine mq_iald (k := 34) (j := (j1 * 16 + 0)) (v := x_14) hx hb hI hM (by decide) rfl (by show (j1 * 16 + 0) < 64; omega) (by decide) e_15 d_Mo_settle_33 ?_
      refine sm_iP hI (va_runV (As := [.int (nI j1), .int (x_14)]) (rest := []) ⟨hx, hb, hml, hown, hts⟩ (c_Mo_nextPoint l D ca ad L _ _ _ hM (j1) (by omega) x_14) (kv_Mo_nextPoint hts rfl rfl (hts _ tw_1466) ⟨Nat.le_of_ble_eq_true rfl, Nat.le_of_ble_eq_true rfl⟩) (pv_Mo hI hE hM) rfl rfl hl.1 rfl (lv_room (Nat.le_of_ble_eq_true rfl)) d_Mo_settle_34 ⟨Nat.le_of_ble_eq_true rfl, Nat.le_of_ble_eq_true rfl⟩) (fun x_17 H locs p_16 hI => ?_)
      rcases p_16 with ⟨rfl, h_20⟩ | ⟨n_18, rfl, h_19, h_20⟩
      · refine lv_if_ge (tgt := 47) hx hb d_Mo_settle_37 (by decide) (fun c_21 => ?_) (fun c_21 => ?_)
        · exact absurd c_21 (by decide)
        · refine lv_aload_n hx hb d_Mo_settle_40 rfl (lv_at hl 1 rfl) ?_
          refine mq_get (k := 33) (v := .ref (ad 33)) hx hb hts hown hI hM (by decide) rfl rfl (hts _ tw_1202) d_Mo_settle_41 ?_
          refine lv_iload_n hx hb d_Mo_settle_44 rfl (lv_at hl 0 rfl) ?_
          refine lv_iconst (v := 3) hx hb d_Mo_settle_45 (by decide) ?_
          have hm9 := hM.2.2.2.2
          refine mq_iast (k := 33) (j := (j1 * 16 + 0)) (x := 3) hx hb hI hM (by decide) rfl (by show (j1 * 16 + 0) < 64; omega) (by decide) trivial d_Mo_settle_46 (fun H locs f σ_22 e_23 hI hM => ?_)
          have hF := mq_fr_ug hF e_23 rfl (Or.inl rfl)
          have u_24 : IHs σ_22 j1 := IHs_p0 e_23 hm9 u0
          exact sm_vret hx hb hr hlk hI ⟨σ_22, rfl, hM, hF, ⟨(IH_fin u_24 (fun _ h => absurd (Eq.trans (mq_ugj e_23).symm h) (by decide))), trivial⟩⟩ d_Mo_settle_47
      · refine lv_if_ge (tgt := 47) hx hb d_Mo_settle_37 (by decide) (fun c_25 => ?_) (fun c_25 => ?_)
        · exact sm_vret hx hb hr hlk hI ⟨σ0, rfl, hM, hF, ⟨(IH_fin u0 (fun _ _ => by rw [e_15]; exact h_20)), trivial⟩⟩ d_Mo_settle_47
        · exact absurd (nI_pos' (by omega)) c_25
theorem d_Mo_firstGoes_0 : decode b_Mo_firstGoes 0 = .ok (.aload_n 0, 1) := by decide +kernel
theorem d_Mo_firstGoes_1 : decode b_Mo_firstGoes 1 = .ok (.getfield 81, 3) := by decide +kernel
theorem d_Mo_firstGoes_4 : decode b_Mo_firstGoes 4 = .ok (.iload_n 1, 1) := by decide +kernel
theorem d_Mo_firstGoes_5 : decode b_Mo_firstGoes 5 = .ok (.dup2, 1) := by decide +kernel
theorem d_Mo_firstGoes_6 : decode b_Mo_firstGoes 6 = .ok (.iaload, 1) := by decide +kernel
theorem d_Mo_firstGoes_7 : decode b_Mo_firstGoes 7 = .ok (.iconst 1, 1) := by decide +kernel
theorem d_Mo_firstGoes_8 : decode b_Mo_firstGoes 8 = .ok (.isub, 1) := by decide +kernel
theorem d_Mo_firstGoes_9 : decode b_Mo_firstGoes 9 = .ok (.iastore, 1) := by decide +kernel
theorem d_Mo_firstGoes_10 : decode b_Mo_firstGoes 10 = .ok (.iconst 0, 1) := by decide +kernel
theorem d_Mo_firstGoes_11 : decode b_Mo_firstGoes 11 = .ok (.istore_n 2, 1) := by decide +kernel
theorem d_Mo_firstGoes_12 : decode b_Mo_firstGoes 12 = .ok (.iload_n 2, 1) := by decide +kernel
theorem d_Mo_firstGoes_13 : decode b_Mo_firstGoes 13 = .ok (.aload_n 0, 1) := by decide +kernel
theorem d_Mo_firstGoes_14 : decode b_Mo_firstGoes 14 = .ok (.getfield 81, 3) := by decide +kernel
theorem d_Mo_firstGoes_17 : decode b_Mo_firstGoes 17 = .ok (.iload_n 1, 1) := by decide +kernel
theorem d_Mo_firstGoes_18 : decode b_Mo_firstGoes 18 = .ok (.iaload, 1) := by decide +kernel
theorem d_Mo_firstGoes_19 : decode b_Mo_firstGoes 19 = .ok (.if_icmp .ge 132, 3) := by decide +kernel
theorem d_Mo_firstGoes_22 : decode b_Mo_firstGoes 22 = .ok (.aload_n 0, 1) := by decide +kernel
theorem d_Mo_firstGoes_23 : decode b_Mo_firstGoes 23 = .ok (.getfield 87, 3) := by decide +kernel
theorem d_Mo_firstGoes_26 : decode b_Mo_firstGoes 26 = .ok (.aload_n 0, 1) := by decide +kernel
theorem d_Mo_firstGoes_27 : decode b_Mo_firstGoes 27 = .ok (.iload_n 1, 1) := by decide +kernel
theorem d_Mo_firstGoes_28 : decode b_Mo_firstGoes 28 = .ok (.iload_n 2, 1) := by decide +kernel
theorem d_Mo_firstGoes_29 : decode b_Mo_firstGoes 29 = .ok (.invokevirtual 290, 3) := by decide +kernel
theorem d_Mo_firstGoes_32 : decode b_Mo_firstGoes 32 = .ok (.aload_n 0, 1) := by decide +kernel
theorem d_Mo_firstGoes_33 : decode b_Mo_firstGoes 33 = .ok (.getfield 87, 3) := by decide +kernel
theorem d_Mo_firstGoes_36 : decode b_Mo_firstGoes 36 = .ok (.aload_n 0, 1) := by decide +kernel
theorem d_Mo_firstGoes_37 : decode b_Mo_firstGoes 37 = .ok (.iload_n 1, 1) := by decide +kernel
theorem d_Mo_firstGoes_38 : decode b_Mo_firstGoes 38 = .ok (.iload_n 2, 1) := by decide +kernel
theorem d_Mo_firstGoes_39 : decode b_Mo_firstGoes 39 = .ok (.iconst 1, 1) := by decide +kernel
theorem d_Mo_firstGoes_40 : decode b_Mo_firstGoes 40 = .ok (.iadd, 1) := by decide +kernel
theorem d_Mo_firstGoes_41 : decode b_Mo_firstGoes 41 = .ok (.invokevirtual 290, 3) := by decide +kernel
theorem d_Mo_firstGoes_44 : decode b_Mo_firstGoes 44 = .ok (.iaload, 1) := by decide +kernel
theorem d_Mo_firstGoes_45 : decode b_Mo_firstGoes 45 = .ok (.iastore, 1) := by decide +kernel
theorem d_Mo_firstGoes_46 : decode b_Mo_firstGoes 46 = .ok (.aload_n 0, 1) := by decide +kernel
theorem d_Mo_firstGoes_47 : decode b_Mo_firstGoes 47 = .ok (.getfield 90, 3) := by decide +kernel
theorem d_Mo_firstGoes_50 : decode b_Mo_firstGoes 50 = .ok (.aload_n 0, 1) := by decide +kernel
theorem d_Mo_firstGoes_51 : decode b_Mo_firstGoes 51 = .ok (.iload_n 1, 1) := by decide +kernel
theorem d_Mo_firstGoes_52 : decode b_Mo_firstGoes 52 = .ok (.iload_n 2, 1) := by decide +kernel
theorem d_Mo_firstGoes_53 : decode b_Mo_firstGoes 53 = .ok (.invokevirtual 290, 3) := by decide +kernel
theorem d_Mo_firstGoes_56 : decode b_Mo_firstGoes 56 = .ok (.aload_n 0, 1) := by decide +kernel
theorem d_Mo_firstGoes_57 : decode b_Mo_firstGoes 57 = .ok (.getfield 90, 3) := by decide +kernel
theorem d_Mo_firstGoes_60 : decode b_Mo_firstGoes 60 = .ok (.aload_n 0, 1) := by decide +kernel
theorem d_Mo_firstGoes_61 : decode b_Mo_firstGoes 61 = .ok (.iload_n 1, 1) := by decide +kernel
theorem d_Mo_firstGoes_62 : decode b_Mo_firstGoes 62 = .ok (.iload_n 2, 1) := by decide +kernel
theorem d_Mo_firstGoes_63 : decode b_Mo_firstGoes 63 = .ok (.iconst 1, 1) := by decide +kernel
theorem d_Mo_firstGoes_64 : decode b_Mo_firstGoes 64 = .ok (.iadd, 1) := by decide +kernel
theorem d_Mo_firstGoes_65 : decode b_Mo_firstGoes 65 = .ok (.invokevirtual 290, 3) := by decide +kernel
theorem d_Mo_firstGoes_68 : decode b_Mo_firstGoes 68 = .ok (.iaload, 1) := by decide +kernel
theorem d_Mo_firstGoes_69 : decode b_Mo_firstGoes 69 = .ok (.iastore, 1) := by decide +kernel
theorem d_Mo_firstGoes_70 : decode b_Mo_firstGoes 70 = .ok (.aload_n 0, 1) := by decide +kernel
theorem d_Mo_firstGoes_71 : decode b_Mo_firstGoes 71 = .ok (.getfield 93, 3) := by decide +kernel
theorem d_Mo_firstGoes_74 : decode b_Mo_firstGoes 74 = .ok (.aload_n 0, 1) := by decide +kernel
theorem d_Mo_firstGoes_75 : decode b_Mo_firstGoes 75 = .ok (.iload_n 1, 1) := by decide +kernel
theorem d_Mo_firstGoes_76 : decode b_Mo_firstGoes 76 = .ok (.iload_n 2, 1) := by decide +kernel
theorem d_Mo_firstGoes_77 : decode b_Mo_firstGoes 77 = .ok (.invokevirtual 290, 3) := by decide +kernel
theorem d_Mo_firstGoes_80 : decode b_Mo_firstGoes 80 = .ok (.aload_n 0, 1) := by decide +kernel
theorem d_Mo_firstGoes_81 : decode b_Mo_firstGoes 81 = .ok (.getfield 93, 3) := by decide +kernel
theorem d_Mo_firstGoes_84 : decode b_Mo_firstGoes 84 = .ok (.aload_n 0, 1) := by decide +kernel
theorem d_Mo_firstGoes_85 : decode b_Mo_firstGoes 85 = .ok (.iload_n 1, 1) := by decide +kernel
theorem d_Mo_firstGoes_86 : decode b_Mo_firstGoes 86 = .ok (.iload_n 2, 1) := by decide +kernel
theorem d_Mo_firstGoes_87 : decode b_Mo_firstGoes 87 = .ok (.iconst 1, 1) := by decide +kernel
theorem d_Mo_firstGoes_88 : decode b_Mo_firstGoes 88 = .ok (.iadd, 1) := by decide +kernel
theorem d_Mo_firstGoes_89 : decode b_Mo_firstGoes 89 = .ok (.invokevirtual 290, 3) := by decide +kernel
theorem d_Mo_firstGoes_92 : decode b_Mo_firstGoes 92 = .ok (.iaload, 1) := by decide +kernel
theorem d_Mo_firstGoes_93 : decode b_Mo_firstGoes 93 = .ok (.iastore, 1) := by decide +kernel
theorem d_Mo_firstGoes_94 : decode b_Mo_firstGoes 94 = .ok (.iconst 0, 1) := by decide +kernel
theorem d_Mo_firstGoes_95 : decode b_Mo_firstGoes 95 = .ok (.istore_n 3, 1) := by decide +kernel
theorem d_Mo_firstGoes_96 : decode b_Mo_firstGoes 96 = .ok (.iload_n 3, 1) := by decide +kernel
theorem d_Mo_firstGoes_97 : decode b_Mo_firstGoes 97 = .ok (.sipush 260, 3) := by decide +kernel
theorem d_Mo_firstGoes_100 : decode b_Mo_firstGoes 100 = .ok (.if_icmp .ge 45, 3) := by decide +kernel
theorem d_Mo_firstGoes_103 : decode b_Mo_firstGoes 103 = .ok (.aload_n 0, 1) := by decide +kernel
theorem d_Mo_firstGoes_104 : decode b_Mo_firstGoes 104 = .ok (.getfield 84, 3) := by decide +kernel
theorem d_Mo_firstGoes_107 : decode b_Mo_firstGoes 107 = .ok (.aload_n 0, 1) := by decide +kernel
theorem d_Mo_firstGoes_108 : decode b_Mo_firstGoes 108 = .ok (.iload_n 1, 1) := by decide +kernel
theorem d_Mo_firstGoes_109 : decode b_Mo_firstGoes 109 = .ok (.iload_n 2, 1) := by decide +kernel
theorem d_Mo_firstGoes_110 : decode b_Mo_firstGoes 110 = .ok (.invokevirtual 290, 3) := by decide +kernel
theorem d_Mo_firstGoes_113 : decode b_Mo_firstGoes 113 = .ok (.sipush 260, 3) := by decide +kernel
theorem d_Mo_firstGoes_116 : decode b_Mo_firstGoes 116 = .ok (.imul, 1) := by decide +kernel
theorem d_Mo_firstGoes_117 : decode b_Mo_firstGoes 117 = .ok (.iload_n 3, 1) := by decide +kernel
theorem d_Mo_firstGoes_118 : decode b_Mo_firstGoes 118 = .ok (.iadd, 1) := by decide +kernel
theorem d_Mo_firstGoes_119 : decode b_Mo_firstGoes 119 = .ok (.aload_n 0, 1) := by decide +kernel
theorem d_Mo_firstGoes_120 : decode b_Mo_firstGoes 120 = .ok (.getfield 84, 3) := by decide +kernel
theorem d_Mo_firstGoes_123 : decode b_Mo_firstGoes 123 = .ok (.aload_n 0, 1) := by decide +kernel
theorem d_Mo_firstGoes_124 : decode b_Mo_firstGoes 124 = .ok (.iload_n 1, 1) := by decide +kernel
theorem d_Mo_firstGoes_125 : decode b_Mo_firstGoes 125 = .ok (.iload_n 2, 1) := by decide +kernel
theorem d_Mo_firstGoes_126 : decode b_Mo_firstGoes 126 = .ok (.iconst 1, 1) := by decide +kernel
theorem d_Mo_firstGoes_127 : decode b_Mo_firstGoes 127 = .ok (.iadd, 1) := by decide +kernel
theorem d_Mo_firstGoes_128 : decode b_Mo_firstGoes 128 = .ok (.invokevirtual 290, 3) := by decide +kernel
theorem d_Mo_firstGoes_131 : decode b_Mo_firstGoes 131 = .ok (.sipush 260, 3) := by decide +kernel
theorem d_Mo_firstGoes_134 : decode b_Mo_firstGoes 134 = .ok (.imul, 1) := by decide +kernel
theorem d_Mo_firstGoes_135 : decode b_Mo_firstGoes 135 = .ok (.iload_n 3, 1) := by decide +kernel
theorem d_Mo_firstGoes_136 : decode b_Mo_firstGoes 136 = .ok (.iadd, 1) := by decide +kernel
theorem d_Mo_firstGoes_137 : decode b_Mo_firstGoes 137 = .ok (.iaload, 1) := by decide +kernel
theorem d_Mo_firstGoes_138 : decode b_Mo_firstGoes 138 = .ok (.iastore, 1) := by decide +kernel
theorem d_Mo_firstGoes_139 : decode b_Mo_firstGoes 139 = .ok (.iinc 3 1, 3) := by decide +kernel
theorem d_Mo_firstGoes_142 : decode b_Mo_firstGoes 142 = .ok (.goto (-46), 3) := by decide +kernel
theorem d_Mo_firstGoes_145 : decode b_Mo_firstGoes 145 = .ok (.iinc 2 1, 3) := by decide +kernel
theorem d_Mo_firstGoes_148 : decode b_Mo_firstGoes 148 = .ok (.goto (-136), 3) := by decide +kernel
theorem d_Mo_firstGoes_151 : decode b_Mo_firstGoes 151 = .ok (.return_, 1) := by decide +kernel
set_option maxRecDepth 100000 in
set_option maxHeartbeats 4000000 in
theorem c_Mo_firstGoes (l : Launch) (D : va_G) (ca : Nat → ClassId) (ad : Nat → Nat) (L : List Nat) (f0 : Nat → va_E) (sz : Nat) (σ0 : mq_S) (hM : mq_B ca ad σ0 L f0) (j1 : Nat) (q1 : j1 ≤ 3) (z1 : Nat) (o0 : σ0.2.2.1 30 (j1) = nI z1) (hz : 0 < z1) (hy : z1 ≤ 16) (u0 : IH σ0) :
    Met l y_Mo_firstGoes (Cond.code y_Mo_firstGoes b_Mo_firstGoes 4 none :: wg) { frames := 1, cells := 0, slots := 0, locals := 22 } (va_Pc [.ref (ad 71), .int (nI j1)] (sm_P D cl_all (ty_s ca) ek L f0 sz)) (sm_Qv D (ty_s ca) L f0 sz (fun u => mq_po ca ad L σ0 [30, 31, 32, 33, 34] (fun σ => σ.2.2.1 30 (j1) = nI (z1 - 1) ∧ IH σ ∧ True) u)) 0 0 (va_A (va_pl L f0) sz) := by
  refine sm_start (by decide) (Nat.le_of_ble_eq_true rfl) ?_
  intro p e s m below meth c ls hx hb hml hr hlk hnm hts hown hsz hE hI hl
  have hl : lv_has ls 4 [(0, .ref (ad 71)), (1, .int (nI j1))] := hl
  have hF : mq_fr [30, 31, 32, 33, 34] σ0 σ0 := mq_fr_rf
  have hJ_12 : ∀ (N k : Nat) (H : Heap) (locs : List Loc) (f : Nat → va_E) (σ : mq_S) (ls : Array Slot) , 16 + 1 - k ≤ N → k ≤ 16 → sw_I D cl_all (ty_s ca) (va_A (va_pl L f0) sz) s H locs L f → mq_B ca ad σ L f → mq_fr [30, 31, 32, 33, 34] σ0 σ → lv_has ls 4 [(0, .ref (ad 71)), (1, .int (nI j1)), (2, .int (nI k))] → (σ.2.2.1 30 (j1) = nI (z1 - 1)) → (FG σ j1 z1 k) → W p l e { frames := 1, cells := 0, slots := 0, locals := 22 } s m ([.ref (ad 71), .int (nI j1)] : List Value).toArray below meth c H locs 0 0 (MQ below (sm_Qv D (ty_s ca) L f0 sz (fun u => mq_po ca ad L σ0 [30, 31, 32, 33, 34] (fun σ => σ.2.2.1 30 (j1) = nI (z1 - 1) ∧ IH σ ∧ True) u)) ([.ref (ad 71), .int (nI j1)] : List Value).toArray s 0 0 (va_A (va_pl L f0) sz)) (F0 m 12 ls []) := by
    intro N
    induction N with
    | zero => intros; omega
    | succ N ih =>
      intro k H locs f σ ls  hN hk hI hM hF hl o90 u90
      have hJ_96 : ∀ (N i : Nat) (H : Heap) (locs : List Loc) (f : Nat → va_E) (σ : mq_S) (ls : Array Slot) , 260 + 1 - i ≤ N → i ≤ 260 → sw_I D cl_all (ty_s ca) (va_A (va_pl L f0) sz) s H locs L f → mq_B ca ad σ L f → mq_fr [30, 31, 32, 33, 34] σ0 σ → lv_has ls 4 [(0, .ref (ad 71)), (1, .int (nI j1)), (2, .int (nI k)), (3, .int (nI i))] → (σ.2.2.1 30 (j1) = nI (z1 - 1)) → (FG σ j1 z1 (k + 1)) → (k < z1 - 1) → W p l e { frames := 1, cells := 0, slots := 0, locals := 22 } s m ([.ref (ad 71), .int (nI j1)] : List Value).toArray below meth c H locs 0 0 (MQ below (sm_Qv D (ty_s ca) L f0 sz (fun u => mq_po ca ad L σ0 [30, 31, 32, 33, 34] (fun σ => σ.2.2.1 30 (j1) = nI (z1 - 1) ∧ IH σ ∧ True) u)) ([.ref (ad 71), .int (nI j1)] : List Value).toArray s 0 0 (va_A (va_pl L f0) sz)) (F0 m 96 ls []) := by
        intro N2
        induction N2 with
        | zero => intros; omega
        | succ N2 ih2 =>
          intro i H locs f σ ls  hN2 hi hI hM hF hl o90 u90 hkz
          refine lv_iload_n hx hb d_Mo_firstGoes_96 rfl (lv_at hl 3 rfl) ?_
          refine lv_sipush (v := 260) hx hb d_Mo_firstGoes_97 (by decide) ?_
          refine lv_icmp_ge (tgt := 145) hx hb d_Mo_firstGoes_100 (by decide) (fun c_1 => ?_) (fun c_1 => ?_)
          · have k_2 : 260 ≤ i := (nI_leI (a := 260) (b := i) (by omega) (by omega)).mp c_1
            refine lv_iinc (v := nI (k + 1)) (lv' := [(2, .int (nI (k + 1))), (0, .ref (ad 71)), (1, .int (nI j1)), (3, .int (nI i))]) hx hb d_Mo_firstGoes_145 hl (k := 2) rfl (nI_1 _) (by decide) rfl (fun ls hl => ?_)
            refine lv_goto (tgt := 12) hx hb d_Mo_firstGoes_148 (by decide) ?_
            exact ih ((k + 1)) _ _ _ _ _  (by omega) (by omega) hI hM hF (lv_sub hl [1, 2, 0] rfl) (Eq.trans o90 (congrArg nI (show ((z1 - 1) : Nat) = _ by omega))) u90
          · have k_3 : i < 260 := Nat.lt_of_not_le (fun q => c_1 ((nI_leI (a := 260) (b := i) (by omega) (by omega)).mpr q))
            refine lv_aload_n hx hb d_Mo_firstGoes_103 rfl (lv_at hl 0 rfl) ?_
            refine mq_get (k := 31) (v := .ref (ad 31)) hx hb hts hown hI hM (by decide) rfl rfl (hts _ tw_1200) d_Mo_firstGoes_104 ?_
            refine lv_aload_n hx hb d_Mo_firstGoes_107 rfl (lv_at hl 0 rfl) ?_
            refine lv_iload_n hx hb d_Mo_firstGoes_108 rfl (lv_at hl 1 rfl) ?_
            refine lv_iload_n hx hb d_Mo_firstGoes_109 rfl (lv_at hl 2 rfl) ?_
            refine sm_iP hI (va_runV (As := [.int (nI j1), .int (nI k)]) (rest := [.ref (ad 31)]) ⟨hx, hb, hml, hown, hts⟩ (c_Mo_slot l D ca ad L _ _ _ hM (j1) (by omega) (k) (by omega)) (kv_Mo_slot hts rfl rfl (hts _ tw_1442) ⟨Nat.le_of_ble_eq_true rfl, Nat.le_of_ble_eq_true rfl⟩) (pv_Mo hI hE hM) rfl rfl hl.1 rfl (lv_room (Nat.le_of_ble_eq_true rfl)) d_Mo_firstGoes_110 ⟨Nat.le_of_ble_eq_true rfl, Nat.le_of_ble_eq_true rfl⟩) (fun x_5 H locs p_4 hI => ?_)
            subst p_4
            refine lv_sipush (v := 260) hx hb d_Mo_firstGoes_113 (by decide) ?_
            refine lv_imul hx hb d_Mo_firstGoes_116 ?_
            refine lv_topi (fun x_6 e_7 => ?_)
            obtain rfl : x_6 = nI ((j1 * 16 + k) * 260) := by rw [e_7]; exact pk_mul _ _
            refine lv_iload_n hx hb d_Mo_firstGoes_117 rfl (lv_at hl 3 rfl) ?_
            refine lv_iadd hx hb d_Mo_firstGoes_118 ?_
            refine lv_topi (fun x_8 e_9 => ?_)
            obtain rfl : x_8 = nI (((j1 * 16 + k) * 260) + i) := by rw [e_9]; exact nI_add _ _
            refine lv_aload_n hx hb d_Mo_firstGoes_119 rfl (lv_at hl 0 rfl) ?_
            refine mq_get (k := 31) (v := .ref (ad 31)) hx hb hts hown hI hM (by decide) rfl rfl (hts _ tw_1200) d_Mo_firstGoes_120 ?_
            refine lv_aload_n hx hb d_Mo_firstGoes_123 rfl (lv_at hl 0 rfl) ?_
            refine lv_iload_n hx hb d_Mo_firstGoes_124 rfl (lv_at hl 1 rfl) ?_
            refine lv_iload_n hx hb d_Mo_firstGoes_125 rfl (lv_at hl 2 rfl) ?_
            refine lv_iconst (v := 1) hx hb d_Mo_firstGoes_126 (by decide) ?_
            refine lv_iadd hx hb d_Mo_firstGoes_127 ?_
            refine lv_topi (fun x_10 e_11 => ?_)
            obtain rfl : x_10 = nI (k + 1) := by rw [e_11]; exact nI_add _ _
            refine sm_iP hI (va_runV (As := [.int (nI j1), .int (nI (k + 1))]) (rest := [.ref (ad 31), .int (nI (((j1 * 16 + k) * 260) + i)), .ref (ad 31)]) ⟨hx, hb, hml, hown, hts⟩ (c_Mo_slot l D ca ad L _ _ _ hM (j1) (by omega) ((k + 1)) (by omega)) (kv_Mo_slot hts rfl rfl (hts _ tw_1442) ⟨Nat.le_of_ble_eq_true rfl, Nat.le_of_ble_eq_true rfl⟩) (pv_Mo hI hE hM) rfl rfl hl.1 rfl (lv_room (Nat.le_of_ble_eq_true rfl)) d_Mo_firstGoes_128 ⟨Nat.le_of_ble_eq_true rfl, Nat.le_of_ble_eq_true rfl⟩) (fun x_13 H locs p_12 hI => ?_)
            subst p_12
            refine lv_sipush (v := 260) hx hb d_Mo_firstGoes_131 (by decide) ?_
            refine lv_imul hx hb d_Mo_firstGoes_134 ?_
            refine lv_topi (fun x_14 e_15 => ?_)
            obtain rfl : x_14 = nI ((j1 * 16 + ((k + 1))) * 260) := by rw [e_15]; exact pk_mul _ _
            refine lv_iload_n hx hb d_Mo_firstGoes_135 rfl (lv_at hl 3 rfl) ?_
            refine lv_iadd hx hb d_Mo_firstGoes_136 ?_
            refine lv_topi (fun x_16 e_17 => ?_)
            obtain rfl : x_16 = nI (((j1 * 16 + ((k + 1))) * 260) + i) := by rw [e_17]; exact nI_add _ _
            obtain ⟨x_18, e_19⟩ : ∃ z, σ.2.2.1 31 ((((j1 * 16 + ((k + 1))) * 260) + i)) = z := ⟨_, rfl⟩
            refine mq_iald (k := 31) (j := (((j1 * 16 + ((k + 1))) * 260) + i)) (v := x_18) hx hb hI hM (by decide) rfl (by show (((j1 * 16 + ((k + 1))) * 260) + i) < 16640; omega) (by decide) e_19 d_Mo_firstGoes_137 ?_
            have hm9 := hM.2.2.2.2
            refine mq_iast (k := 31) (j := (((j1 * 16 + k) * 260) + i)) (x := x_18) hx hb hI hM (by decide) rfl (by show (((j1 * 16 + k) * 260) + i) < 16640; omega) (by decide) trivial d_Mo_firstGoes_138 (fun H locs f σ_20 e_21 hI hM => ?_)
            have hF := mq_fr_ug hF e_21 rfl (Or.inl rfl)
            have o_22 : σ_20.2.2.1 30 (j1) = nI (z1 - 1) := by rw [e_21]; exact o90
            have u_23 : FG σ_20 j1 z1 (k + 1) := FG_an (i := k) e_21 (by omega) (by omega) (by omega) hm9 u90
            refine lv_iinc (v := nI (i + 1)) (lv' := [(3, .int (nI (i + 1))), (0, .ref (ad 71)), (1, .int (nI j1)), (2, .int (nI k))]) hx hb d_Mo_firstGoes_139 hl (k := 3) rfl (nI_1 _) (by decide) rfl (fun ls hl => ?_)
            refine lv_goto (tgt := 96) hx hb d_Mo_firstGoes_142 (by decide) ?_
            exact ih2 ((i + 1)) _ _ _ _ _  (by omega) (by omega) hI hM hF (lv_sub hl [1, 2, 3, 0] rfl) (Eq.trans o_22 (congrArg nI (show ((z1 - 1) : Nat) = _ by omega))) u_23 (by omega)
      refine lv_iload_n hx hb d_Mo_firstGoes_12 rfl (lv_at hl 2 rfl) ?_
      refine lv_aload_n hx hb d_Mo_firstGoes_13 rfl (lv_at hl 0 rfl) ?_
      refine mq_get (k := 30) (v := .ref (ad 30)) hx hb hts hown hI hM (by decide) rfl rfl (hts _ tw_1199) d_Mo_firstGoes_14 ?_
      refine lv_iload_n hx hb d_Mo_firstGoes_17 rfl (lv_at hl 1 rfl) ?_
      refine mq_iald (k := 30) (j := j1) (v := nI (z1 - 1)) hx hb hI hM (by decide) rfl (by show j1 < 4; omega) (by decide) o90 d_Mo_firstGoes_18 ?_
      refine lv_icmp_ge (tgt := 151) hx hb d_Mo_firstGoes_19 (by decide) (fun c_24 => ?_) (fun c_24 => ?_)
      · have k_25 : (z1 - 1) ≤ k := (nI_leI (a := (z1 - 1)) (b := k) (by omega) (by omega)).mp c_24
        exact sm_vret hx hb hr hlk hI ⟨σ, rfl, hM, hF, ⟨(Eq.trans o90 (congrArg nI (show ((z1 - 1) : Nat) = z1 - 1 by omega))), (FG_end u90 o90 (by omega) hz hy), trivial⟩⟩ d_Mo_firstGoes_151
      · have k_26 : k < (z1 - 1) := Nat.lt_of_not_le (fun q => c_24 ((nI_leI (a := (z1 - 1)) (b := k) (by omega) (by omega)).mpr q))
        refine lv_aload_n hx hb d_Mo_firstGoes_22 rfl (lv_at hl 0 rfl) ?_
        refine mq_get (k := 32) (v := .ref (ad 32)) hx hb hts hown hI hM (by decide) rfl rfl (hts _ tw_1201) d_Mo_firstGoes_23 ?_
        refine lv_aload_n hx hb d_Mo_firstGoes_26 rfl (lv_at hl 0 rfl) ?_
        refine lv_iload_n hx hb d_Mo_firstGoes_27 rfl (lv_at hl 1 rfl) ?_
        refine lv_iload_n hx hb d_Mo_firstGoes_28 rfl (lv_at hl 2 rfl) ?_
        refine sm_iP hI (va_runV (As := [.int (nI j1), .int (nI k)]) (rest := [.ref (ad 32)]) ⟨hx, hb, hml, hown, hts⟩ (c_Mo_slot l D ca ad L _ _ _ hM (j1) (by omega) (k) (by omega)) (kv_Mo_slot hts rfl rfl (hts _ tw_1442) ⟨Nat.le_of_ble_eq_true rfl, Nat.le_of_ble_eq_true rfl⟩) (pv_Mo hI hE hM) rfl rfl hl.1 rfl (lv_room (Nat.le_of_ble_eq_true rfl)) d_Mo_firstGoes_29 ⟨Nat.le_of_ble_eq_true rfl, Nat.le_of_ble_eq_true rfl⟩) (fun x_28 H locs p_27 hI => ?_)
        subst p_27
        refine lv_aload_n hx hb d_Mo_firstGoes_32 rfl (lv_at hl 0 rfl) ?_
        refine mq_get (k := 32) (v := .ref (ad 32)) hx hb hts hown hI hM (by decide) rfl rfl (hts _ tw_1201) d_Mo_firstGoes_33 ?_
        refine lv_aload_n hx hb d_Mo_firstGoes_36 rfl (lv_at hl 0 rfl) ?_
        refine lv_iload_n hx hb d_Mo_firstGoes_37 rfl (lv_at hl 1 rfl) ?_
        refine lv_iload_n hx hb d_Mo_firstGoes_38 rfl (lv_at hl 2 rfl) ?_
        refine lv_iconst (v := 1) hx hb d_Mo_firstGoes_39 (by decide) ?_
        refine lv_iadd hx hb d_Mo_firstGoes_40 ?_
        refine lv_topi (fun x_29 e_30 => ?_)
        obtain rfl : x_29 = nI (k + 1) := by rw [e_30]; exact nI_add _ _
        refine sm_iP hI (va_runV (As := [.int (nI j1), .int (nI (k + 1))]) (rest := [.ref (ad 32), .int (nI (j1 * 16 + k)), .ref (ad 32)]) ⟨hx, hb, hml, hown, hts⟩ (c_Mo_slot l D ca ad L _ _ _ hM (j1) (by omega) ((k + 1)) (by omega)) (kv_Mo_slot hts rfl rfl (hts _ tw_1442) ⟨Nat.le_of_ble_eq_true rfl, Nat.le_of_ble_eq_true rfl⟩) (pv_Mo hI hE hM) rfl rfl hl.1 rfl (lv_room (Nat.le_of_ble_eq_true rfl)) d_Mo_firstGoes_41 ⟨Nat.le_of_ble_eq_true rfl, Nat.le_of_ble_eq_true rfl⟩) (fun x_32 H locs p_31 hI => ?_)
        subst p_31
        obtain ⟨n_33, h_34, h_35, e_36⟩ := hM.2.2.2.2.2 32 ((j1 * 16 + ((k + 1))))
        refine mq_iald (k := 32) (j := (j1 * 16 + ((k + 1)))) (v := nI n_33) hx hb hI hM (by decide) rfl (by show (j1 * 16 + ((k + 1))) < 64; omega) (by decide) e_36 d_Mo_firstGoes_44 ?_
        refine mq_iast (k := 32) (j := (j1 * 16 + k)) (x := nI n_33) hx hb hI hM (by decide) rfl (by show (j1 * 16 + k) < 64; omega) (by decide) ⟨n_33, by omega, by omega, rfl⟩ d_Mo_firstGoes_45 (fun H locs f σ_37 e_38 hI hM => ?_)
        have hF := mq_fr_ug hF e_38 rfl (Or.inl rfl)
        have o_39 : σ_37.2.2.1 30 (j1) = nI (z1 - 1) := by rw [e_38]; exact o90
        have u_40 := FG_fr (mq_fr_ug (X := [32]) mq_fr_rf e_38 rfl (Or.inl rfl)) (by decide) u90
        refine lv_aload_n hx hb d_Mo_firstGoes_46 rfl (lv_at hl 0 rfl) ?_
        refine mq_get (k := 33) (v := .ref (ad 33)) hx hb hts hown hI hM (by decide) rfl rfl (hts _ tw_1202) d_Mo_firstGoes_47 ?_
        refine lv_aload_n hx hb d_Mo_firstGoes_50 rfl (lv_at hl 0 rfl) ?_
        refine lv_iload_n hx hb d_Mo_firstGoes_51 rfl (lv_at hl 1 rfl) ?_
        refine lv_iload_n hx hb d_Mo_firstGoes_52 rfl (lv_at hl 2 rfl) ?_
        refine sm_iP hI (va_runV (As := [.int (nI j1), .int (nI k)]) (rest := [.ref (ad 33)]) ⟨hx, hb, hml, hown, hts⟩ (c_Mo_slot l D ca ad L _ _ _ hM (j1) (by omega) (k) (by omega)) (kv_Mo_slot hts rfl rfl (hts _ tw_1442) ⟨Nat.le_of_ble_eq_true rfl, Nat.le_of_ble_eq_true rfl⟩) (pv_Mo hI hE hM) rfl rfl hl.1 rfl (lv_room (Nat.le_of_ble_eq_true rfl)) d_Mo_firstGoes_53 ⟨Nat.le_of_ble_eq_true rfl, Nat.le_of_ble_eq_true rfl⟩) (fun x_42 H locs p_41 hI => ?_)
        subst p_41
        refine lv_aload_n hx hb d_Mo_firstGoes_56 rfl (lv_at hl 0 rfl) ?_
        refine mq_get (k := 33) (v := .ref (ad 33)) hx hb hts hown hI hM (by decide) rfl rfl (hts _ tw_1202) d_Mo_firstGoes_57 ?_
        refine lv_aload_n hx hb d_Mo_firstGoes_60 rfl (lv_at hl 0 rfl) ?_
        refine lv_iload_n hx hb d_Mo_firstGoes_61 rfl (lv_at hl 1 rfl) ?_
        refine lv_iload_n hx hb d_Mo_firstGoes_62 rfl (lv_at hl 2 rfl) ?_
        refine lv_iconst (v := 1) hx hb d_Mo_firstGoes_63 (by decide) ?_
        refine lv_iadd hx hb d_Mo_firstGoes_64 ?_
        refine lv_topi (fun x_43 e_44 => ?_)
        obtain rfl : x_43 = nI (k + 1) := by rw [e_44]; exact nI_add _ _
        refine sm_iP hI (va_runV (As := [.int (nI j1), .int (nI (k + 1))]) (rest := [.ref (ad 33), .int (nI (j1 * 16 + k)), .ref (ad 33)]) ⟨hx, hb, hml, hown, hts⟩ (c_Mo_slot l D ca ad L _ _ _ hM (j1) (by omega) ((k + 1)) (by omega)) (kv_Mo_slot hts rfl rfl (hts _ tw_1442) ⟨Nat.le_of_ble_eq_true rfl, Nat.le_of_ble_eq_true rfl⟩) (pv_Mo hI hE hM) rfl rfl hl.1 rfl (lv_room (Nat.le_of_ble_eq_true rfl)) d_Mo_firstGoes_65 ⟨Nat.le_of_ble_eq_true rfl, Nat.le_of_ble_eq_true rfl⟩) (fun x_46 H locs p_45 hI => ?_)
        subst p_45
        obtain ⟨x_47, e_48⟩ : ∃ z, σ_37.2.2.1 33 ((j1 * 16 + ((k + 1)))) = z := ⟨_, rfl⟩
        refine mq_iald (k := 33) (j := (j1 * 16 + ((k + 1)))) (v := x_47) hx hb hI hM (by decide) rfl (by show (j1 * 16 + ((k + 1))) < 64; omega) (by decide) e_48 d_Mo_firstGoes_68 ?_
        have hm9 := hM.2.2.2.2
        refine mq_iast (k := 33) (j := (j1 * 16 + k)) (x := x_47) hx hb hI hM (by decide) rfl (by show (j1 * 16 + k) < 64; omega) (by decide) trivial d_Mo_firstGoes_69 (fun H locs f σ_49 e_50 hI hM => ?_)
        have hF := mq_fr_ug hF e_50 rfl (Or.inl rfl)
        have o_51 : σ_49.2.2.1 30 (j1) = nI (z1 - 1) := by rw [e_50]; exact o_39
        have u_52 : FG σ_49 j1 z1 (k + 1) := FG_ph e_50 e_48 (by omega) hy hm9 u_40
        refine lv_aload_n hx hb d_Mo_firstGoes_70 rfl (lv_at hl 0 rfl) ?_
        refine mq_get (k := 34) (v := .ref (ad 34)) hx hb hts hown hI hM (by decide) rfl rfl (hts _ tw_1203) d_Mo_firstGoes_71 ?_
        refine lv_aload_n hx hb d_Mo_firstGoes_74 rfl (lv_at hl 0 rfl) ?_
        refine lv_iload_n hx hb d_Mo_firstGoes_75 rfl (lv_at hl 1 rfl) ?_
        refine lv_iload_n hx hb d_Mo_firstGoes_76 rfl (lv_at hl 2 rfl) ?_
        refine sm_iP hI (va_runV (As := [.int (nI j1), .int (nI k)]) (rest := [.ref (ad 34)]) ⟨hx, hb, hml, hown, hts⟩ (c_Mo_slot l D ca ad L _ _ _ hM (j1) (by omega) (k) (by omega)) (kv_Mo_slot hts rfl rfl (hts _ tw_1442) ⟨Nat.le_of_ble_eq_true rfl, Nat.le_of_ble_eq_true rfl⟩) (pv_Mo hI hE hM) rfl rfl hl.1 rfl (lv_room (Nat.le_of_ble_eq_true rfl)) d_Mo_firstGoes_77 ⟨Nat.le_of_ble_eq_true rfl, Nat.le_of_ble_eq_true rfl⟩) (fun x_54 H locs p_53 hI => ?_)
        subst p_53
        refine lv_aload_n hx hb d_Mo_firstGoes_80 rfl (lv_at hl 0 rfl) ?_
        refine mq_get (k := 34) (v := .ref (ad 34)) hx hb hts hown hI hM (by decide) rfl rfl (hts _ tw_1203) d_Mo_firstGoes_81 ?_
        refine lv_aload_n hx hb d_Mo_firstGoes_84 rfl (lv_at hl 0 rfl) ?_
        refine lv_iload_n hx hb d_Mo_firstGoes_85 rfl (lv_at hl 1 rfl) ?_
        refine lv_iload_n hx hb d_Mo_firstGoes_86 rfl (lv_at hl 2 rfl) ?_
        refine lv_iconst (v := 1) hx hb d_Mo_firstGoes_87 (by decide) ?_
        refine lv_iadd hx hb d_Mo_firstGoes_88 ?_
        refine lv_topi (fun x_55 e_56 => ?_)
        obtain rfl : x_55 = nI (k + 1) := by rw [e_56]; exact nI_add _ _
        refine sm_iP hI (va_runV (As := [.int (nI j1), .int (nI (k + 1))]) (rest := [.ref (ad 34), .int (nI (j1 * 16 + k)), .ref (ad 34)]) ⟨hx, hb, hml, hown, hts⟩ (c_Mo_slot l D ca ad L _ _ _ hM (j1) (by omega) ((k + 1)) (by omega)) (kv_Mo_slot hts rfl rfl (hts _ tw_1442) ⟨Nat.le_of_ble_eq_true rfl, Nat.le_of_ble_eq_true rfl⟩) (pv_Mo hI hE hM) rfl rfl hl.1 rfl (lv_room (Nat.le_of_ble_eq_true rfl)) d_Mo_firstGoes_89 ⟨Nat.le_of_ble_eq_true rfl, Nat.le_of_ble_eq_true rfl⟩) (fun x_58 H locs p_57 hI => ?_)
        subst p_57
        obtain ⟨x_59, e_60⟩ : ∃ z, σ_49.2.2.1 34 ((j1 * 16 + ((k + 1)))) = z := ⟨_, rfl⟩
        refine mq_iald (k := 34) (j := (j1 * 16 + ((k + 1)))) (v := x_59) hx hb hI hM (by decide) rfl (by show (j1 * 16 + ((k + 1))) < 64; omega) (by decide) e_60 d_Mo_firstGoes_92 ?_
        refine mq_iast (k := 34) (j := (j1 * 16 + k)) (x := x_59) hx hb hI hM (by decide) rfl (by show (j1 * 16 + k) < 64; omega) (by decide) trivial d_Mo_firstGoes_93 (fun H locs f σ_61 e_62 hI hM => ?_)
        have hF := mq_fr_ug hF e_62 rfl (Or.inl rfl)
        have o_63 : σ_61.2.2.1 30 (j1) = nI (z1 - 1) := by rw [e_62]; exact o_51
        have u_64 : FG σ_61 j1 z1 (k + 1) := FG_td e_62 (by omega) u_52
        refine lv_iconst (v := 0) hx hb d_Mo_firstGoes_94 (by decide) ?_
        refine lv_istore_n (lv' := [(3, .int (0)), (0, .ref (ad 71)), (1, .int (nI j1)), (2, .int (nI k))]) hx hb d_Mo_firstGoes_95 rfl hl (by decide) rfl (fun ls hl => ?_)
        exact hJ_96 _ (0) _ _ _ _ _  (Nat.le_refl _) (by omega) hI hM hF (lv_sub hl [1, 2, 3, 0] rfl) (Eq.trans o_63 (congrArg nI (show ((z1 - 1) : Nat) = _ by omega))) u_64 (by omega)
  refine lv_aload_n hx hb d_Mo_firstGoes_0 rfl (lv_at hl 0 rfl) ?_
  refine mq_get (k := 30) (v := .ref (ad 30)) hx hb hts hown hI hM (by decide) rfl rfl (hts _ tw_1199) d_Mo_firstGoes_1 ?_
  refine lv_iload_n hx hb d_Mo_firstGoes_4 rfl (lv_at hl 1 rfl) ?_
  refine lv_dup2_11 hx hb d_Mo_firstGoes_5 rfl rfl ?_
  refine mq_iald (k := 30) (j := j1) (v := nI z1) hx hb hI hM (by decide) rfl (by show j1 < 4; omega) (by decide) o0 d_Mo_firstGoes_6 ?_
  refine lv_iconst (v := 1) hx hb d_Mo_firstGoes_7 (by decide) ?_
  refine lv_isub hx hb d_Mo_firstGoes_8 ?_
  refine lv_topi (fun x_65 e_66 => ?_)
  obtain rfl : x_65 = nI (z1 - 1) := by rw [e_66]; exact pk_sub (a := z1) (b := 1) (by omega)
  refine mq_iast (k := 30) (j := j1) (x := nI (z1 - 1)) hx hb hI hM (by decide) rfl (by show j1 < 4; omega) (by decide) ⟨(z1 - 1), by omega, by omega, rfl⟩ d_Mo_firstGoes_9 (fun H locs f σ_67 e_68 hI hM => ?_)
  have hF := mq_fr_ug hF e_68 rfl (Or.inl rfl)
  have u_69 : FG σ_67 j1 z1 0 := FG_0 e_68 u0 o0 hy q1
  have o_70 := mq_ugj e_68
  refine lv_iconst (v := 0) hx hb d_Mo_firstGoes_10 (by decide) ?_
  refine lv_istore_n (lv' := [(2, .int (0)), (0, .ref (ad 71)), (1, .int (nI j1))]) hx hb d_Mo_firstGoes_11 rfl hl (by decide) rfl (fun ls hl => ?_)
  exact hJ_12 _ (0) _ _ _ _ _  (Nat.le_refl _) (by omega) hI hM hF (lv_sub hl [1, 2, 0] rfl) (Eq.trans o_70 (congrArg nI (show ((z1 - 1) : Nat) = _ by omega))) u_69
theorem d_Mo_shut_0 : decode b_Mo_shut 0 = .ok (.aload_n 0, 1) := by decide +kernel
theorem d_Mo_shut_1 : decode b_Mo_shut 1 = .ok (.getfield 29, 3) := by decide +kernel
theorem d_Mo_shut_4 : decode b_Mo_shut 4 = .ok (.iload_n 1, 1) := by decide +kernel
theorem d_Mo_shut_5 : decode b_Mo_shut 5 = .ok (.iconst 0, 1) := by decide +kernel
theorem d_Mo_shut_6 : decode b_Mo_shut 6 = .ok (.iastore, 1) := by decide +kernel
theorem d_Mo_shut_7 : decode b_Mo_shut 7 = .ok (.aload_n 0, 1) := by decide +kernel
theorem d_Mo_shut_8 : decode b_Mo_shut 8 = .ok (.getfield 32, 3) := by decide +kernel
theorem d_Mo_shut_11 : decode b_Mo_shut 11 = .ok (.iload_n 1, 1) := by decide +kernel
theorem d_Mo_shut_12 : decode b_Mo_shut 12 = .ok (.dup2, 1) := by decide +kernel
theorem d_Mo_shut_13 : decode b_Mo_shut 13 = .ok (.iaload, 1) := by decide +kernel
theorem d_Mo_shut_14 : decode b_Mo_shut 14 = .ok (.iconst 1, 1) := by decide +kernel
theorem d_Mo_shut_15 : decode b_Mo_shut 15 = .ok (.iadd, 1) := by decide +kernel
theorem d_Mo_shut_16 : decode b_Mo_shut 16 = .ok (.iastore, 1) := by decide +kernel
theorem d_Mo_shut_17 : decode b_Mo_shut 17 = .ok (.aload_n 0, 1) := by decide +kernel
theorem d_Mo_shut_18 : decode b_Mo_shut 18 = .ok (.getfield 38, 3) := by decide +kernel
theorem d_Mo_shut_21 : decode b_Mo_shut 21 = .ok (.iload_n 1, 1) := by decide +kernel
theorem d_Mo_shut_22 : decode b_Mo_shut 22 = .ok (.iconst 0, 1) := by decide +kernel
theorem d_Mo_shut_23 : decode b_Mo_shut 23 = .ok (.iastore, 1) := by decide +kernel
theorem d_Mo_shut_24 : decode b_Mo_shut 24 = .ok (.aload_n 0, 1) := by decide +kernel
theorem d_Mo_shut_25 : decode b_Mo_shut 25 = .ok (.getfield 44, 3) := by decide +kernel
theorem d_Mo_shut_28 : decode b_Mo_shut 28 = .ok (.iload_n 1, 1) := by decide +kernel
theorem d_Mo_shut_29 : decode b_Mo_shut 29 = .ok (.iconst 0, 1) := by decide +kernel
theorem d_Mo_shut_30 : decode b_Mo_shut 30 = .ok (.iastore, 1) := by decide +kernel
theorem d_Mo_shut_31 : decode b_Mo_shut 31 = .ok (.aload_n 0, 1) := by decide +kernel
theorem d_Mo_shut_32 : decode b_Mo_shut 32 = .ok (.getfield 81, 3) := by decide +kernel
theorem d_Mo_shut_35 : decode b_Mo_shut 35 = .ok (.iload_n 1, 1) := by decide +kernel
theorem d_Mo_shut_36 : decode b_Mo_shut 36 = .ok (.iconst 0, 1) := by decide +kernel
theorem d_Mo_shut_37 : decode b_Mo_shut 37 = .ok (.iastore, 1) := by decide +kernel
theorem d_Mo_shut_38 : decode b_Mo_shut 38 = .ok (.aload_n 0, 1) := by decide +kernel
theorem d_Mo_shut_39 : decode b_Mo_shut 39 = .ok (.getfield 166, 3) := by decide +kernel
theorem d_Mo_shut_42 : decode b_Mo_shut 42 = .ok (.ifCond .lt 16, 3) := by decide +kernel
theorem d_Mo_shut_45 : decode b_Mo_shut 45 = .ok (.aload_n 0, 1) := by decide +kernel
theorem d_Mo_shut_46 : decode b_Mo_shut 46 = .ok (.getfield 347, 3) := by decide +kernel
theorem d_Mo_shut_49 : decode b_Mo_shut 49 = .ok (.iload_n 1, 1) := by decide +kernel
theorem d_Mo_shut_50 : decode b_Mo_shut 50 = .ok (.if_icmp .ne 8, 3) := by decide +kernel
theorem d_Mo_shut_53 : decode b_Mo_shut 53 = .ok (.aload_n 0, 1) := by decide +kernel
theorem d_Mo_shut_54 : decode b_Mo_shut 54 = .ok (.iconst (-1), 1) := by decide +kernel
theorem d_Mo_shut_55 : decode b_Mo_shut 55 = .ok (.putfield 166, 3) := by decide +kernel
theorem d_Mo_shut_58 : decode b_Mo_shut 58 = .ok (.aload_n 0, 1) := by decide +kernel
theorem d_Mo_shut_59 : decode b_Mo_shut 59 = .ok (.iload_n 1, 1) := by decide +kernel
theorem d_Mo_shut_60 : decode b_Mo_shut 60 = .ok (.invokevirtual 262, 3) := by decide +kernel
theorem d_Mo_shut_63 : decode b_Mo_shut 63 = .ok (.return_, 1) := by decide +kernel
set_option maxRecDepth 100000 in
set_option maxHeartbeats 4000000 in
theorem c_Mo_shut (l : Launch) (D : va_G) (ca : Nat → ClassId) (ad : Nat → Nat) (L : List Nat) (f0 : Nat → va_E) (sz : Nat) (σ0 : mq_S) (hM : mq_B ca ad σ0 L f0) (j1 : Nat) (q1 : j1 ≤ 3) (u0 : IH σ0) :
    Met l y_Mo_shut (Cond.code y_Mo_shut b_Mo_shut 2 none :: wg) { frames := 1, cells := 0, slots := 0, locals := 22 } (va_Pc [.ref (ad 71), .int (nI j1)] (sm_P D cl_all (ty_s ca) ek L f0 sz)) (sm_Qv D (ty_s ca) L f0 sz (fun u => mq_po ca ad L σ0 [13, 14, 16, 18, 24, 30, 42, 52, 65] (fun σ => σ.2.2.1 30 (j1) = nI (0) ∧ σ.2.2.1 18 (j1) = nI (0) ∧ IH σ ∧ True) u)) 0 0 (va_A (va_pl L f0) sz) := by
  refine sm_start (by decide) (Nat.le_of_ble_eq_true rfl) ?_
  intro p e s m below meth c ls hx hb hml hr hlk hnm hts hown hsz hE hI hl
  have hl : lv_has ls 2 [(0, .ref (ad 71)), (1, .int (nI j1))] := hl
  have hF : mq_fr [13, 14, 16, 18, 24, 30, 42, 52, 65] σ0 σ0 := mq_fr_rf
  refine lv_aload_n hx hb d_Mo_shut_0 rfl (lv_at hl 0 rfl) ?_
  refine mq_get (k := 13) (v := .ref (ad 13)) hx hb hts hown hI hM (by decide) rfl rfl (hts _ tw_1182) d_Mo_shut_1 ?_
  refine lv_iload_n hx hb d_Mo_shut_4 rfl (lv_at hl 1 rfl) ?_
  refine lv_iconst (v := 0) hx hb d_Mo_shut_5 (by decide) ?_
  refine mq_iast (k := 13) (j := j1) (x := 0) hx hb hI hM (by decide) rfl (by show j1 < 4; omega) (by decide) trivial d_Mo_shut_6 (fun H locs f σ_1 e_2 hI hM => ?_)
  have hF := mq_fr_ug hF e_2 rfl (Or.inl rfl)
  have u_3 := IH_fr (mq_fr_ug (X := [13]) mq_fr_rf e_2 rfl (Or.inl rfl)) (by decide) u0
  refine lv_aload_n hx hb d_Mo_shut_7 rfl (lv_at hl 0 rfl) ?_
  refine mq_get (k := 14) (v := .ref (ad 14)) hx hb hts hown hI hM (by decide) rfl rfl (hts _ tw_1183) d_Mo_shut_8 ?_
  refine lv_iload_n hx hb d_Mo_shut_11 rfl (lv_at hl 1 rfl) ?_
  refine lv_dup2_11 hx hb d_Mo_shut_12 rfl rfl ?_
  obtain ⟨x_4, e_5⟩ : ∃ z, σ_1.2.2.1 14 (j1) = z := ⟨_, rfl⟩
  refine mq_iald (k := 14) (j := j1) (v := x_4) hx hb hI hM (by decide) rfl (by show j1 < 4; omega) (by decide) e_5 d_Mo_shut_13 ?_
  refine lv_iconst (v := 1) hx hb d_Mo_shut_14 (by decide) ?_
  refine lv_iadd hx hb d_Mo_shut_15 ?_
  refine lv_topi (fun x_6 e_7 => ?_)
  refine mq_iast (k := 14) (j := j1) (x := x_6) hx hb hI hM (by decide) rfl (by show j1 < 4; omega) (by decide) trivial d_Mo_shut_16 (fun H locs f σ_8 e_9 hI hM => ?_)
  have hF := mq_fr_ug hF e_9 rfl (Or.inl rfl)
  have u_10 := IH_fr (mq_fr_ug (X := [14]) mq_fr_rf e_9 rfl (Or.inl rfl)) (by decide) u_3
  refine lv_aload_n hx hb d_Mo_shut_17 rfl (lv_at hl 0 rfl) ?_
  refine mq_get (k := 16) (v := .ref (ad 16)) hx hb hts hown hI hM (by decide) rfl rfl (hts _ tw_1185) d_Mo_shut_18 ?_
  refine lv_iload_n hx hb d_Mo_shut_21 rfl (lv_at hl 1 rfl) ?_
  refine lv_iconst (v := 0) hx hb d_Mo_shut_22 (by decide) ?_
  refine mq_iast (k := 16) (j := j1) (x := 0) hx hb hI hM (by decide) rfl (by show j1 < 4; omega) (by decide) ⟨0, by decide, by decide, rfl⟩ d_Mo_shut_23 (fun H locs f σ_11 e_12 hI hM => ?_)
  have hF := mq_fr_ug hF e_12 rfl (Or.inl rfl)
  have u_13 := IH_fr (mq_fr_ug (X := [16]) mq_fr_rf e_12 rfl (Or.inl rfl)) (by decide) u_10
  refine lv_aload_n hx hb d_Mo_shut_24 rfl (lv_at hl 0 rfl) ?_
  refine mq_get (k := 18) (v := .ref (ad 18)) hx hb hts hown hI hM (by decide) rfl rfl (hts _ tw_1187) d_Mo_shut_25 ?_
  refine lv_iload_n hx hb d_Mo_shut_28 rfl (lv_at hl 1 rfl) ?_
  refine lv_iconst (v := 0) hx hb d_Mo_shut_29 (by decide) ?_
  refine mq_iast (k := 18) (j := j1) (x := 0) hx hb hI hM (by decide) rfl (by show j1 < 4; omega) (by decide) ⟨0, by decide, by decide, rfl⟩ d_Mo_shut_30 (fun H locs f σ_14 e_15 hI hM => ?_)
  have hF := mq_fr_ug hF e_15 rfl (Or.inr (Or.inr rfl))
  have u_16 := IH_fr (mq_fr_ug (X := [18]) mq_fr_rf e_15 rfl (Or.inr (Or.inr rfl))) (by decide) u_13
  have o_17 := mq_ugj e_15
  refine lv_aload_n hx hb d_Mo_shut_31 rfl (lv_at hl 0 rfl) ?_
  refine mq_get (k := 30) (v := .ref (ad 30)) hx hb hts hown hI hM (by decide) rfl rfl (hts _ tw_1199) d_Mo_shut_32 ?_
  refine lv_iload_n hx hb d_Mo_shut_35 rfl (lv_at hl 1 rfl) ?_
  refine lv_iconst (v := 0) hx hb d_Mo_shut_36 (by decide) ?_
  obtain ⟨nz, -, hz2, oz⟩ := hM.2.2.2.2.2 30 j1
  refine mq_iast (k := 30) (j := j1) (x := 0) hx hb hI hM (by decide) rfl (by show j1 < 4; omega) (by decide) ⟨0, by decide, by decide, rfl⟩ d_Mo_shut_37 (fun H locs f σ_18 e_19 hI hM => ?_)
  have hF := mq_fr_ug hF e_19 rfl (Or.inl rfl)
  have o_20 : σ_18.2.2.1 18 (j1) = 0 := by rw [e_19]; exact o_17
  have u_21 : IH σ_18 := IH_less (n := 0) e_19 oz hz2 (Nat.zero_le _) u_16
  have o_22 := mq_ugj e_19
  refine lv_aload_n hx hb d_Mo_shut_38 rfl (lv_at hl 0 rfl) ?_
  obtain ⟨x_23, e_24⟩ : ∃ z, σ_18.1 65 = z := ⟨_, rfl⟩
  refine mq_get (k := 65) (v := .int (x_23)) hx hb hts hown hI hM (by decide) (congrArg (fun z => some (Value.int z)) e_24) rfl (hts _ tw_1234) d_Mo_shut_39 ?_
  refine lv_if_lt (tgt := 58) hx hb d_Mo_shut_42 (by decide) (fun c_25 => ?_) (fun c_25 => ?_)
  · refine lv_aload_n hx hb d_Mo_shut_58 rfl (lv_at hl 0 rfl) ?_
    refine lv_iload_n hx hb d_Mo_shut_59 rfl (lv_at hl 1 rfl) ?_
    refine sm_vM hI (va_runV (As := [.int (nI j1)]) (rest := []) ⟨hx, hb, hml, hown, hts⟩ (c_Mo_unsend l D ca ad L _ _ _ hM (j1) (by omega)) (kv_Mo_unsend hts rfl rfl (hts _ tw_1430) ⟨Nat.le_of_ble_eq_true rfl, Nat.le_of_ble_eq_true rfl⟩) (pv_Mo hI hE hM) rfl rfl hl.1 rfl (lv_room (Nat.le_of_ble_eq_true rfl)) d_Mo_shut_60 ⟨Nat.le_of_ble_eq_true rfl, Nat.le_of_ble_eq_true rfl⟩) (fun H locs f σ_27 hI hM hF_28 p_26 => ?_)
    have hF := mq_fr_tr hF hF_28 (by decide)
    have o_29 : σ_27.2.2.1 18 (j1) = 0 := mq_fg hF_28 (by decide) o_20
    have o_30 : σ_27.2.2.1 30 (j1) = 0 := mq_fg hF_28 (by decide) o_22
    have u_31 := IH_fr hF_28 (by decide) u_21
    exact sm_vret hx hb hr hlk hI ⟨σ_27, rfl, hM, hF, ⟨(Eq.trans o_30 (congrArg nI (show (0 : Nat) = 0 by omega))), (Eq.trans o_29 (congrArg nI (show (0 : Nat) = 0 by omega))), u_31, trivial⟩⟩ d_Mo_shut_63
  · refine lv_aload_n hx hb d_Mo_shut_45 rfl (lv_at hl 0 rfl) ?_
    obtain ⟨x_32, e_33⟩ : ∃ z, σ_18.1 66 = z := ⟨_, rfl⟩
    refine mq_get (k := 66) (v := .int (x_32)) hx hb hts hown hI hM (by decide) (congrArg (fun z => some (Value.int z)) e_33) rfl (hts _ tw_1235) d_Mo_shut_46 ?_
    refine lv_iload_n hx hb d_Mo_shut_49 rfl (lv_at hl 1 rfl) ?_
    refine lv_icmp_ne (tgt := 58) hx hb d_Mo_shut_50 (by decide) (fun c_34 => ?_) (fun c_34 => ?_)
    · refine lv_aload_n hx hb d_Mo_shut_58 rfl (lv_at hl 0 rfl) ?_
      refine lv_iload_n hx hb d_Mo_shut_59 rfl (lv_at hl 1 rfl) ?_
      refine sm_vM hI (va_runV (As := [.int (nI j1)]) (rest := []) ⟨hx, hb, hml, hown, hts⟩ (c_Mo_unsend l D ca ad L _ _ _ hM (j1) (by omega)) (kv_Mo_unsend hts rfl rfl (hts _ tw_1430) ⟨Nat.le_of_ble_eq_true rfl, Nat.le_of_ble_eq_true rfl⟩) (pv_Mo hI hE hM) rfl rfl hl.1 rfl (lv_room (Nat.le_of_ble_eq_true rfl)) d_Mo_shut_60 ⟨Nat.le_of_ble_eq_true rfl, Nat.le_of_ble_eq_true rfl⟩) (fun H locs f σ_36 hI hM hF_37 p_35 => ?_)
      have hF := mq_fr_tr hF hF_37 (by decide)
      have o_38 : σ_36.2.2.1 18 (j1) = 0 := mq_fg hF_37 (by decide) o_20
      have o_39 : σ_36.2.2.1 30 (j1) = 0 := mq_fg hF_37 (by decide) o_22
      have u_40 := IH_fr hF_37 (by decide) u_21
      exact sm_vret hx hb hr hlk hI ⟨σ_36, rfl, hM, hF, ⟨(Eq.trans o_39 (congrArg nI (show (0 : Nat) = 0 by omega))), (Eq.trans o_38 (congrArg nI (show (0 : Nat) = 0 by omega))), u_40, trivial⟩⟩ d_Mo_shut_63
    · refine lv_aload_n hx hb d_Mo_shut_53 rfl (lv_at hl 0 rfl) ?_
      refine lv_iconst (v := -1) hx hb d_Mo_shut_54 (by decide) ?_
      refine mq_puti (k := 65) (ty := .int) hx hb hts hown hI hM (by decide) rfl rfl (hts _ tw_1234) rfl (by decide +kernel) rfl rfl trivial d_Mo_shut_55 (fun H locs f σ_41 e_42 hI hM => ?_)
      have hF := mq_fr_ui hF e_42 rfl
      have o_43 : σ_41.2.2.1 18 (j1) = 0 := by rw [e_42]; exact o_20
      have o_44 : σ_41.2.2.1 30 (j1) = 0 := by rw [e_42]; exact o_22
      have u_45 := IH_fr (mq_fr_ui (X := [65]) mq_fr_rf e_42 rfl) (by decide) u_21
      refine lv_aload_n hx hb d_Mo_shut_58 rfl (lv_at hl 0 rfl) ?_
      refine lv_iload_n hx hb d_Mo_shut_59 rfl (lv_at hl 1 rfl) ?_
      refine sm_vM hI (va_runV (As := [.int (nI j1)]) (rest := []) ⟨hx, hb, hml, hown, hts⟩ (c_Mo_unsend l D ca ad L _ _ _ hM (j1) (by omega)) (kv_Mo_unsend hts rfl rfl (hts _ tw_1430) ⟨Nat.le_of_ble_eq_true rfl, Nat.le_of_ble_eq_true rfl⟩) (pv_Mo hI hE hM) rfl rfl hl.1 rfl (lv_room (Nat.le_of_ble_eq_true rfl)) d_Mo_shut_60 ⟨Nat.le_of_ble_eq_true rfl, Nat.le_of_ble_eq_true rfl⟩) (fun H locs f σ_47 hI hM hF_48 p_46 => ?_)
      have hF := mq_fr_tr hF hF_48 (by decide)
      have o_49 : σ_47.2.2.1 18 (j1) = 0 := mq_fg hF_48 (by decide) o_43
      have o_50 : σ_47.2.2.1 30 (j1) = 0 := mq_fg hF_48 (by decide) o_44
      have u_51 := IH_fr hF_48 (by decide) u_45
      exact sm_vret hx hb hr hlk hI ⟨σ_47, rfl, hM, hF, ⟨(Eq.trans o_50 (congrArg nI (show (0 : Nat) = 0 by omega))), (Eq.trans o_49 (congrArg nI (show (0 : Nat) = 0 by omega))), u_51, trivial⟩⟩ d_Mo_shut_63
theorem d_Mo_frame_0 : decode b_Mo_frame 0 = .ok (.iload 4, 2) := by decide +kernel
theorem d_Mo_frame_2 : decode b_Mo_frame 2 = .ok (.ifCond .eq 10, 3) := by decide +kernel
theorem d_Mo_frame_5 : decode b_Mo_frame 5 = .ok (.aload_n 0, 1) := by decide +kernel
theorem d_Mo_frame_6 : decode b_Mo_frame 6 = .ok (.getfield 219, 3) := by decide +kernel
theorem d_Mo_frame_9 : decode b_Mo_frame 9 = .ok (.goto 4, 3) := by decide +kernel
theorem d_Mo_frame_12 : decode b_Mo_frame 12 = .ok (.iconst 0, 1) := by decide +kernel
theorem d_Mo_frame_13 : decode b_Mo_frame 13 = .ok (.istore 5, 2) := by decide +kernel
theorem d_Mo_frame_15 : decode b_Mo_frame 15 = .ok (.aload_n 0, 1) := by decide +kernel
theorem d_Mo_frame_16 : decode b_Mo_frame 16 = .ok (.getfield 38, 3) := by decide +kernel
theorem d_Mo_frame_19 : decode b_Mo_frame 19 = .ok (.iload_n 1, 1) := by decide +kernel
theorem d_Mo_frame_20 : decode b_Mo_frame 20 = .ok (.iaload, 1) := by decide +kernel
theorem d_Mo_frame_21 : decode b_Mo_frame 21 = .ok (.bipush 6, 2) := by decide +kernel
theorem d_Mo_frame_23 : decode b_Mo_frame 23 = .ok (.iadd, 1) := by decide +kernel
theorem d_Mo_frame_24 : decode b_Mo_frame 24 = .ok (.iload 5, 2) := by decide +kernel
theorem d_Mo_frame_26 : decode b_Mo_frame 26 = .ok (.iadd, 1) := by decide +kernel
theorem d_Mo_frame_27 : decode b_Mo_frame 27 = .ok (.sipush 1000, 3) := by decide +kernel
theorem d_Mo_frame_30 : decode b_Mo_frame 30 = .ok (.if_icmp .le 9, 3) := by decide +kernel
theorem d_Mo_frame_33 : decode b_Mo_frame 33 = .ok (.aload_n 0, 1) := by decide +kernel
theorem d_Mo_frame_34 : decode b_Mo_frame 34 = .ok (.iload_n 1, 1) := by decide +kernel
theorem d_Mo_frame_35 : decode b_Mo_frame 35 = .ok (.invokevirtual 276, 3) := by decide +kernel
theorem d_Mo_frame_38 : decode b_Mo_frame 38 = .ok (.return_, 1) := by decide +kernel
theorem d_Mo_frame_39 : decode b_Mo_frame 39 = .ok (.aload_n 0, 1) := by decide +kernel
theorem d_Mo_frame_40 : decode b_Mo_frame 40 = .ok (.iload_n 1, 1) := by decide +kernel
theorem d_Mo_frame_41 : decode b_Mo_frame 41 = .ok (.bipush 104, 2) := by decide +kernel
theorem d_Mo_frame_43 : decode b_Mo_frame 43 = .ok (.invokevirtual 279, 3) := by decide +kernel
theorem d_Mo_frame_46 : decode b_Mo_frame 46 = .ok (.aload_n 0, 1) := by decide +kernel
theorem d_Mo_frame_47 : decode b_Mo_frame 47 = .ok (.iload_n 1, 1) := by decide +kernel
theorem d_Mo_frame_48 : decode b_Mo_frame 48 = .ok (.iconst 4, 1) := by decide +kernel
theorem d_Mo_frame_49 : decode b_Mo_frame 49 = .ok (.iload 5, 2) := by decide +kernel
theorem d_Mo_frame_51 : decode b_Mo_frame 51 = .ok (.iadd, 1) := by decide +kernel
theorem d_Mo_frame_52 : decode b_Mo_frame 52 = .ok (.invokevirtual 279, 3) := by decide +kernel
theorem d_Mo_frame_55 : decode b_Mo_frame 55 = .ok (.aload_n 0, 1) := by decide +kernel
theorem d_Mo_frame_56 : decode b_Mo_frame 56 = .ok (.iload_n 1, 1) := by decide +kernel
theorem d_Mo_frame_57 : decode b_Mo_frame 57 = .ok (.iload_n 2, 1) := by decide +kernel
theorem d_Mo_frame_58 : decode b_Mo_frame 58 = .ok (.invokevirtual 279, 3) := by decide +kernel
theorem d_Mo_frame_61 : decode b_Mo_frame 61 = .ok (.aload_n 0, 1) := by decide +kernel
theorem d_Mo_frame_62 : decode b_Mo_frame 62 = .ok (.iload_n 1, 1) := by decide +kernel
theorem d_Mo_frame_63 : decode b_Mo_frame 63 = .ok (.iload_n 2, 1) := by decide +kernel
theorem d_Mo_frame_64 : decode b_Mo_frame 64 = .ok (.bipush 8, 2) := by decide +kernel
theorem d_Mo_frame_66 : decode b_Mo_frame 66 = .ok (.ishr, 1) := by decide +kernel
theorem d_Mo_frame_67 : decode b_Mo_frame 67 = .ok (.invokevirtual 279, 3) := by decide +kernel
theorem d_Mo_frame_70 : decode b_Mo_frame 70 = .ok (.aload_n 0, 1) := by decide +kernel
theorem d_Mo_frame_71 : decode b_Mo_frame 71 = .ok (.iload_n 1, 1) := by decide +kernel
theorem d_Mo_frame_72 : decode b_Mo_frame 72 = .ok (.iload_n 3, 1) := by decide +kernel
theorem d_Mo_frame_73 : decode b_Mo_frame 73 = .ok (.invokevirtual 279, 3) := by decide +kernel
theorem d_Mo_frame_76 : decode b_Mo_frame 76 = .ok (.aload_n 0, 1) := by decide +kernel
theorem d_Mo_frame_77 : decode b_Mo_frame 77 = .ok (.iload_n 1, 1) := by decide +kernel
theorem d_Mo_frame_78 : decode b_Mo_frame 78 = .ok (.iload_n 3, 1) := by decide +kernel
theorem d_Mo_frame_79 : decode b_Mo_frame 79 = .ok (.bipush 8, 2) := by decide +kernel
theorem d_Mo_frame_81 : decode b_Mo_frame 81 = .ok (.ishr, 1) := by decide +kernel
theorem d_Mo_frame_82 : decode b_Mo_frame 82 = .ok (.invokevirtual 279, 3) := by decide +kernel
theorem d_Mo_frame_85 : decode b_Mo_frame 85 = .ok (.iconst 0, 1) := by decide +kernel
theorem d_Mo_frame_86 : decode b_Mo_frame 86 = .ok (.istore 6, 2) := by decide +kernel
theorem d_Mo_frame_88 : decode b_Mo_frame 88 = .ok (.iload 6, 2) := by decide +kernel
theorem d_Mo_frame_90 : decode b_Mo_frame 90 = .ok (.iload 5, 2) := by decide +kernel
theorem d_Mo_frame_92 : decode b_Mo_frame 92 = .ok (.if_icmp .ge 21, 3) := by decide +kernel
theorem d_Mo_frame_95 : decode b_Mo_frame 95 = .ok (.aload_n 0, 1) := by decide +kernel
theorem d_Mo_frame_96 : decode b_Mo_frame 96 = .ok (.iload_n 1, 1) := by decide +kernel
theorem d_Mo_frame_97 : decode b_Mo_frame 97 = .ok (.aload_n 0, 1) := by decide +kernel
theorem d_Mo_frame_98 : decode b_Mo_frame 98 = .ok (.getfield 172, 3) := by decide +kernel
theorem d_Mo_frame_101 : decode b_Mo_frame 101 = .ok (.iload 6, 2) := by decide +kernel
theorem d_Mo_frame_103 : decode b_Mo_frame 103 = .ok (.iaload, 1) := by decide +kernel
theorem d_Mo_frame_104 : decode b_Mo_frame 104 = .ok (.invokevirtual 279, 3) := by decide +kernel
theorem d_Mo_frame_107 : decode b_Mo_frame 107 = .ok (.iinc 6 1, 3) := by decide +kernel
theorem d_Mo_frame_110 : decode b_Mo_frame 110 = .ok (.goto (-22), 3) := by decide +kernel
theorem d_Mo_frame_113 : decode b_Mo_frame 113 = .ok (.return_, 1) := by decide +kernel
set_option maxRecDepth 100000 in
set_option maxHeartbeats 4000000 in
theorem c_Mo_frame (l : Launch) (D : va_G) (ca : Nat → ClassId) (ad : Nat → Nat) (L : List Nat) (f0 : Nat → va_E) (sz : Nat) (σ0 : mq_S) (hM : mq_B ca ad σ0 L f0) (j1 : Nat) (q1 : j1 ≤ 3) (x2 : Int32) (x3 : Int32) (x4 : Int32) (p4 : x4 = 0 ∨ x4 = 1) (u0 : IH σ0) :
    Met l y_Mo_frame (Cond.code y_Mo_frame b_Mo_frame 7 none :: wg) { frames := 2, cells := 0, slots := 0, locals := 43 } (va_Pc [.ref (ad 71), .int (nI j1), .int (x2), .int (x3), .int (x4)] (sm_P D cl_all (ty_s ca) ek L f0 sz)) (sm_Qv D (ty_s ca) L f0 sz (fun u => mq_po ca ad L σ0 [13, 14, 15, 16, 18, 24, 30, 42, 52, 65] (fun σ => IH σ ∧ True) u)) 0 0 (va_A (va_pl L f0) sz) := by
  refine sm_start (by decide) (Nat.le_of_ble_eq_true rfl) ?_
  intro p e s m below meth c ls hx hb hml hr hlk hnm hts hown hsz hE hI hl
  have hl : lv_has ls 7 [(0, .ref (ad 71)), (1, .int (nI j1)), (2, .int (x2)), (3, .int (x3)), (4, .int (x4))] := hl
  have hF : mq_fr [13, 14, 15, 16, 18, 24, 30, 42, 52, 65] σ0 σ0 := mq_fr_rf
  have hJ_88 : ∀ (N k : Nat) (H : Heap) (locs : List Loc) (f : Nat → va_E) (σ : mq_S) (ls : Array Slot) (r : Nat) (w : Nat), 260 + 1 - k ≤ N → k ≤ 260 → sw_I D cl_all (ty_s ca) (va_A (va_pl L f0) sz) s H locs L f → mq_B ca ad σ L f → mq_fr [13, 14, 15, 16, 18, 24, 30, 42, 52, 65] σ0 σ → lv_has ls 7 [(0, .ref (ad 71)), (1, .int (nI j1)), (2, .int (x2)), (3, .int (x3)), (4, .int (x4)), (5, .int (nI r)), (6, .int (nI k))] → (0 ≤ w) → (w ≤ 1000) → (σ.2.2.1 16 (j1) = nI w) → (IH σ) → (r ≤ 260) → (w + (r - k) ≤ 1000) → W p l e { frames := 2, cells := 0, slots := 0, locals := 43 } s m ([.ref (ad 71), .int (nI j1), .int (x2), .int (x3), .int (x4)] : List Value).toArray below meth c H locs 0 0 (MQ below (sm_Qv D (ty_s ca) L f0 sz (fun u => mq_po ca ad L σ0 [13, 14, 15, 16, 18, 24, 30, 42, 52, 65] (fun σ => IH σ ∧ True) u)) ([.ref (ad 71), .int (nI j1), .int (x2), .int (x3), .int (x4)] : List Value).toArray s 0 0 (va_A (va_pl L f0) sz)) (F0 m 88 ls []) := by
    intro N
    induction N with
    | zero => intros; omega
    | succ N ih =>
      intro k H locs f σ ls r w hN hk hI hM hF hl h90a h90b o90 u90 hrr hw
      refine lv_iload hx hb d_Mo_frame_88 (lv_at hl 6 rfl) ?_
      refine lv_iload hx hb d_Mo_frame_90 (lv_at hl 5 rfl) ?_
      refine lv_icmp_ge (tgt := 113) hx hb d_Mo_frame_92 (by decide) (fun c_1 => ?_) (fun c_1 => ?_)
      · have k_2 : r ≤ k := (nI_leI (a := r) (b := k) (by omega) (by omega)).mp c_1
        exact sm_vret hx hb hr hlk hI ⟨σ, rfl, hM, hF, ⟨u90, trivial⟩⟩ d_Mo_frame_113
      · have k_3 : k < r := Nat.lt_of_not_le (fun q => c_1 ((nI_leI (a := r) (b := k) (by omega) (by omega)).mpr q))
        refine lv_aload_n hx hb d_Mo_frame_95 rfl (lv_at hl 0 rfl) ?_
        refine lv_iload_n hx hb d_Mo_frame_96 rfl (lv_at hl 1 rfl) ?_
        refine lv_aload_n hx hb d_Mo_frame_97 rfl (lv_at hl 0 rfl) ?_
        refine mq_get (k := 69) (v := .ref (ad 69)) hx hb hts hown hI hM (by decide) rfl rfl (hts _ tw_1238) d_Mo_frame_98 ?_
        refine lv_iload hx hb d_Mo_frame_101 (lv_at hl 6 rfl) ?_
        obtain ⟨x_4, e_5⟩ : ∃ z, σ.2.2.1 69 (k) = z := ⟨_, rfl⟩
        refine mq_iald (k := 69) (j := k) (v := x_4) hx hb hI hM (by decide) rfl (by show k < 260; omega) (by decide) e_5 d_Mo_frame_103 ?_
        refine sm_vM hI (va_runV (As := [.int (nI j1), .int (x_4)]) (rest := []) ⟨hx, hb, hml, hown, hts⟩ (c_Mo_put l D ca ad L _ _ _ hM (j1) (by omega) x_4 (w) o90 (by omega)) (kv_Mo_put hts rfl rfl (hts _ tw_1517) ⟨Nat.le_of_ble_eq_true rfl, Nat.le_of_ble_eq_true rfl⟩) (pv_Mo hI hE hM) rfl rfl hl.1 rfl (lv_room (Nat.le_of_ble_eq_true rfl)) d_Mo_frame_104 ⟨Nat.le_of_ble_eq_true rfl, Nat.le_of_ble_eq_true rfl⟩) (fun H locs f σ_7 hI hM hF_8 p_6 => ?_)
        have hF := mq_fr_tr hF hF_8 (by decide)
        have u_9 := IH_fr hF_8 (by decide) u90
        obtain ⟨o_10, -⟩ := p_6
        refine lv_iinc (v := nI (k + 1)) (lv' := [(6, .int (nI (k + 1))), (0, .ref (ad 71)), (1, .int (nI j1)), (2, .int (x2)), (3, .int (x3)), (4, .int (x4)), (5, .int (nI r))]) hx hb d_Mo_frame_107 hl (k := 6) rfl (nI_1 _) (by decide) rfl (fun ls hl => ?_)
        refine lv_goto (tgt := 88) hx hb d_Mo_frame_110 (by decide) ?_
        exact ih ((k + 1)) _ _ _ _ _ (r) ((w + 1)) (by omega) (by omega) hI hM hF (lv_sub hl [1, 2, 3, 4, 5, 6, 0] rfl) (by omega) (by omega) o_10 u_9 (by omega) (by omega)
  refine lv_iload hx hb d_Mo_frame_0 (lv_at hl 4 rfl) ?_
  refine lv_if_eq (tgt := 12) hx hb d_Mo_frame_2 (by decide) (fun c_11 => ?_) (fun c_11 => ?_)
  · refine lv_iconst (v := 0) hx hb d_Mo_frame_12 (by decide) ?_
    refine lv_istore (lv' := [(5, .int (0)), (0, .ref (ad 71)), (1, .int (nI j1)), (2, .int (x2)), (3, .int (x3)), (4, .int (x4))]) hx hb d_Mo_frame_13 hl (by decide) rfl (fun ls hl => ?_)
    refine lv_aload_n hx hb d_Mo_frame_15 rfl (lv_at hl 1 rfl) ?_
    refine mq_get (k := 16) (v := .ref (ad 16)) hx hb hts hown hI hM (by decide) rfl rfl (hts _ tw_1185) d_Mo_frame_16 ?_
    refine lv_iload_n hx hb d_Mo_frame_19 rfl (lv_at hl 2 rfl) ?_
    obtain ⟨n_12, h_13, h_14, e_15⟩ := hM.2.2.2.2.2 16 (j1)
    refine mq_iald (k := 16) (j := j1) (v := nI n_12) hx hb hI hM (by decide) rfl (by show j1 < 4; omega) (by decide) e_15 d_Mo_frame_20 ?_
    refine lv_bipush (v := 6) hx hb d_Mo_frame_21 (by decide) ?_
    refine lv_iadd hx hb d_Mo_frame_23 ?_
    refine lv_topi (fun x_16 e_17 => ?_)
    obtain rfl : x_16 = nI (n_12 + 6) := by rw [e_17]; exact nI_add _ _
    refine lv_iload hx hb d_Mo_frame_24 (lv_at hl 0 rfl) ?_
    refine lv_iadd hx hb d_Mo_frame_26 ?_
    refine lv_topi (fun x_18 e_19 => ?_)
    obtain rfl : x_18 = nI ((n_12 + 6) + 0) := by rw [e_19]; exact nI_add _ _
    refine lv_sipush (v := 1000) hx hb d_Mo_frame_27 (by decide) ?_
    refine lv_icmp_le (tgt := 39) hx hb d_Mo_frame_30 (by decide) (fun c_20 => ?_) (fun c_20 => ?_)
    · have k_21 : ((n_12 + 6) + 0) ≤ 1000 := (nI_leI (a := ((n_12 + 6) + 0)) (b := 1000) (by omega) (by omega)).mp c_20
      refine lv_aload_n hx hb d_Mo_frame_39 rfl (lv_at hl 1 rfl) ?_
      refine lv_iload_n hx hb d_Mo_frame_40 rfl (lv_at hl 2 rfl) ?_
      refine lv_bipush (v := 104) hx hb d_Mo_frame_41 (by decide) ?_
      refine sm_vM hI (va_runV (As := [.int (nI j1), .int (104)]) (rest := []) ⟨hx, hb, hml, hown, hts⟩ (c_Mo_put l D ca ad L _ _ _ hM (j1) (by omega) 104 (n_12) e_15 (by omega)) (kv_Mo_put hts rfl rfl (hts _ tw_1517) ⟨Nat.le_of_ble_eq_true rfl, Nat.le_of_ble_eq_true rfl⟩) (pv_Mo hI hE hM) rfl rfl hl.1 rfl (lv_room (Nat.le_of_ble_eq_true rfl)) d_Mo_frame_43 ⟨Nat.le_of_ble_eq_true rfl, Nat.le_of_ble_eq_true rfl⟩) (fun H locs f σ_23 hI hM hF_24 p_22 => ?_)
      have hF := mq_fr_tr hF hF_24 (by decide)
      have u_25 := IH_fr hF_24 (by decide) u0
      obtain ⟨o_26, -⟩ := p_22
      refine lv_aload_n hx hb d_Mo_frame_46 rfl (lv_at hl 1 rfl) ?_
      refine lv_iload_n hx hb d_Mo_frame_47 rfl (lv_at hl 2 rfl) ?_
      refine lv_iconst (v := 4) hx hb d_Mo_frame_48 (by decide) ?_
      refine lv_iload hx hb d_Mo_frame_49 (lv_at hl 0 rfl) ?_
      refine lv_iadd hx hb d_Mo_frame_51 ?_
      refine lv_topi (fun x_27 e_28 => ?_)
      refine sm_vM hI (va_runV (As := [.int (nI j1), .int (x_27)]) (rest := []) ⟨hx, hb, hml, hown, hts⟩ (c_Mo_put l D ca ad L _ _ _ hM (j1) (by omega) x_27 ((n_12 + 1)) o_26 (by omega)) (kv_Mo_put hts rfl rfl (hts _ tw_1517) ⟨Nat.le_of_ble_eq_true rfl, Nat.le_of_ble_eq_true rfl⟩) (pv_Mo hI hE hM) rfl rfl hl.1 rfl (lv_room (Nat.le_of_ble_eq_true rfl)) d_Mo_frame_52 ⟨Nat.le_of_ble_eq_true rfl, Nat.le_of_ble_eq_true rfl⟩) (fun H locs f σ_30 hI hM hF_31 p_29 => ?_)
      have hF := mq_fr_tr hF hF_31 (by decide)
      have u_32 := IH_fr hF_31 (by decide) u_25
      obtain ⟨o_33, -⟩ := p_29
      refine lv_aload_n hx hb d_Mo_frame_55 rfl (lv_at hl 1 rfl) ?_
      refine lv_iload_n hx hb d_Mo_frame_56 rfl (lv_at hl 2 rfl) ?_
      refine lv_iload_n hx hb d_Mo_frame_57 rfl (lv_at hl 3 rfl) ?_
      refine sm_vM hI (va_runV (As := [.int (nI j1), .int (x2)]) (rest := []) ⟨hx, hb, hml, hown, hts⟩ (c_Mo_put l D ca ad L _ _ _ hM (j1) (by omega) x2 ((((n_12 + 1)) + 1)) o_33 (by omega)) (kv_Mo_put hts rfl rfl (hts _ tw_1517) ⟨Nat.le_of_ble_eq_true rfl, Nat.le_of_ble_eq_true rfl⟩) (pv_Mo hI hE hM) rfl rfl hl.1 rfl (lv_room (Nat.le_of_ble_eq_true rfl)) d_Mo_frame_58 ⟨Nat.le_of_ble_eq_true rfl, Nat.le_of_ble_eq_true rfl⟩) (fun H locs f σ_35 hI hM hF_36 p_34 => ?_)
      have hF := mq_fr_tr hF hF_36 (by decide)
      have u_37 := IH_fr hF_36 (by decide) u_32
      obtain ⟨o_38, -⟩ := p_34
      refine lv_aload_n hx hb d_Mo_frame_61 rfl (lv_at hl 1 rfl) ?_
      refine lv_iload_n hx hb d_Mo_frame_62 rfl (lv_at hl 2 rfl) ?_
      refine lv_iload_n hx hb d_Mo_frame_63 rfl (lv_at hl 3 rfl) ?_
      refine lv_bipush (v := 8) hx hb d_Mo_frame_64 (by decide) ?_
      refine lv_ishr hx hb d_Mo_frame_66 ?_
      refine lv_topi (fun x_39 e_40 => ?_)
      refine sm_vM hI (va_runV (As := [.int (nI j1), .int (x_39)]) (rest := []) ⟨hx, hb, hml, hown, hts⟩ (c_Mo_put l D ca ad L _ _ _ hM (j1) (by omega) x_39 ((((((n_12 + 1)) + 1)) + 1)) o_38 (by omega)) (kv_Mo_put hts rfl rfl (hts _ tw_1517) ⟨Nat.le_of_ble_eq_true rfl, Nat.le_of_ble_eq_true rfl⟩) (pv_Mo hI hE hM) rfl rfl hl.1 rfl (lv_room (Nat.le_of_ble_eq_true rfl)) d_Mo_frame_67 ⟨Nat.le_of_ble_eq_true rfl, Nat.le_of_ble_eq_true rfl⟩) (fun H locs f σ_42 hI hM hF_43 p_41 => ?_)
      have hF := mq_fr_tr hF hF_43 (by decide)
      have u_44 := IH_fr hF_43 (by decide) u_37
      obtain ⟨o_45, -⟩ := p_41
      refine lv_aload_n hx hb d_Mo_frame_70 rfl (lv_at hl 1 rfl) ?_
      refine lv_iload_n hx hb d_Mo_frame_71 rfl (lv_at hl 2 rfl) ?_
      refine lv_iload_n hx hb d_Mo_frame_72 rfl (lv_at hl 4 rfl) ?_
      refine sm_vM hI (va_runV (As := [.int (nI j1), .int (x3)]) (rest := []) ⟨hx, hb, hml, hown, hts⟩ (c_Mo_put l D ca ad L _ _ _ hM (j1) (by omega) x3 ((((((((n_12 + 1)) + 1)) + 1)) + 1)) o_45 (by omega)) (kv_Mo_put hts rfl rfl (hts _ tw_1517) ⟨Nat.le_of_ble_eq_true rfl, Nat.le_of_ble_eq_true rfl⟩) (pv_Mo hI hE hM) rfl rfl hl.1 rfl (lv_room (Nat.le_of_ble_eq_true rfl)) d_Mo_frame_73 ⟨Nat.le_of_ble_eq_true rfl, Nat.le_of_ble_eq_true rfl⟩) (fun H locs f σ_47 hI hM hF_48 p_46 => ?_)
      have hF := mq_fr_tr hF hF_48 (by decide)
      have u_49 := IH_fr hF_48 (by decide) u_44
      obtain ⟨o_50, -⟩ := p_46
      refine lv_aload_n hx hb d_Mo_frame_76 rfl (lv_at hl 1 rfl) ?_
      refine lv_iload_n hx hb d_Mo_frame_77 rfl (lv_at hl 2 rfl) ?_
      refine lv_iload_n hx hb d_Mo_frame_78 rfl (lv_at hl 4 rfl) ?_
      refine lv_bipush (v := 8) hx hb d_Mo_frame_79 (by decide) ?_
      refine lv_ishr hx hb d_Mo_frame_81 ?_
      refine lv_topi (fun x_51 e_52 => ?_)
      refine sm_vM hI (va_runV (As := [.int (nI j1), .int (x_51)]) (rest := []) ⟨hx, hb, hml, hown, hts⟩ (c_Mo_put l D ca ad L _ _ _ hM (j1) (by omega) x_51 ((((((((((n_12 + 1)) + 1)) + 1)) + 1)) + 1)) o_50 (by omega)) (kv_Mo_put hts rfl rfl (hts _ tw_1517) ⟨Nat.le_of_ble_eq_true rfl, Nat.le_of_ble_eq_true rfl⟩) (pv_Mo hI hE hM) rfl rfl hl.1 rfl (lv_room (Nat.le_of_ble_eq_true rfl)) d_Mo_frame_82 ⟨Nat.le_of_ble_eq_true rfl, Nat.le_of_ble_eq_true rfl⟩) (fun H locs f σ_54 hI hM hF_55 p_53 => ?_)
      have hF := mq_fr_tr hF hF_55 (by decide)
      have u_56 := IH_fr hF_55 (by decide) u_49
      obtain ⟨o_57, -⟩ := p_53
      refine lv_iconst (v := 0) hx hb d_Mo_frame_85 (by decide) ?_
      refine lv_istore (lv' := [(6, .int (0)), (5, .int (0)), (0, .ref (ad 71)), (1, .int (nI j1)), (2, .int (x2)), (3, .int (x3)), (4, .int (x4))]) hx hb d_Mo_frame_86 hl (by decide) rfl (fun ls hl => ?_)
      exact hJ_88 _ (0) _ _ _ _ _ (0) ((((((((((((n_12 + 1)) + 1)) + 1)) + 1)) + 1)) + 1)) (Nat.le_refl _) (by omega) hI hM hF (lv_sub hl [2, 3, 4, 5, 6, 1, 0] rfl) (by omega) (by omega) o_57 u_56 (by omega) (by omega)
    · have k_58 : 1000 < ((n_12 + 6) + 0) := Nat.lt_of_not_le (fun q => c_20 ((nI_leI (a := ((n_12 + 6) + 0)) (b := 1000) (by omega) (by omega)).mpr q))
      refine lv_aload_n hx hb d_Mo_frame_33 rfl (lv_at hl 1 rfl) ?_
      refine lv_iload_n hx hb d_Mo_frame_34 rfl (lv_at hl 2 rfl) ?_
      refine sm_vM hI (va_runV (As := [.int (nI j1)]) (rest := []) ⟨hx, hb, hml, hown, hts⟩ (c_Mo_shut l D ca ad L _ _ _ hM (j1) (by omega) u0) (kv_Mo_shut hts rfl rfl (hts _ tw_1513) ⟨Nat.le_of_ble_eq_true rfl, Nat.le_of_ble_eq_true rfl⟩) (pv_Mo hI hE hM) rfl rfl hl.1 rfl (lv_room (Nat.le_of_ble_eq_true rfl)) d_Mo_frame_35 ⟨Nat.le_of_ble_eq_true rfl, Nat.le_of_ble_eq_true rfl⟩) (fun H locs f σ_60 hI hM hF_61 p_59 => ?_)
      have hF := mq_fr_tr hF hF_61 (by decide)
      obtain ⟨o_62, o_63, u_64, -⟩ := p_59
      exact sm_vret hx hb hr hlk hI ⟨σ_60, rfl, hM, hF, ⟨u_64, trivial⟩⟩ d_Mo_frame_38
  · refine lv_aload_n hx hb d_Mo_frame_5 rfl (lv_at hl 0 rfl) ?_
    obtain ⟨n_65, h_66, h_67, e_68⟩ := hM.2.2.2.2.1 70
    refine mq_get (k := 70) (v := .int (nI n_65)) hx hb hts hown hI hM (by decide) (congrArg (fun z => some (Value.int z)) e_68) rfl (hts _ tw_1239) d_Mo_frame_6 ?_
    refine lv_goto (tgt := 13) hx hb d_Mo_frame_9 (by decide) ?_
    refine lv_istore (lv' := [(5, .int (nI n_65)), (0, .ref (ad 71)), (1, .int (nI j1)), (2, .int (x2)), (3, .int (x3)), (4, .int (x4))]) hx hb d_Mo_frame_13 hl (by decide) rfl (fun ls hl => ?_)
    refine lv_aload_n hx hb d_Mo_frame_15 rfl (lv_at hl 1 rfl) ?_
    refine mq_get (k := 16) (v := .ref (ad 16)) hx hb hts hown hI hM (by decide) rfl rfl (hts _ tw_1185) d_Mo_frame_16 ?_
    refine lv_iload_n hx hb d_Mo_frame_19 rfl (lv_at hl 2 rfl) ?_
    obtain ⟨n_69, h_70, h_71, e_72⟩ := hM.2.2.2.2.2 16 (j1)
    refine mq_iald (k := 16) (j := j1) (v := nI n_69) hx hb hI hM (by decide) rfl (by show j1 < 4; omega) (by decide) e_72 d_Mo_frame_20 ?_
    refine lv_bipush (v := 6) hx hb d_Mo_frame_21 (by decide) ?_
    refine lv_iadd hx hb d_Mo_frame_23 ?_
    refine lv_topi (fun x_73 e_74 => ?_)
    obtain rfl : x_73 = nI (n_69 + 6) := by rw [e_74]; exact nI_add _ _
    refine lv_iload hx hb d_Mo_frame_24 (lv_at hl 0 rfl) ?_
    refine lv_iadd hx hb d_Mo_frame_26 ?_
    refine lv_topi (fun x_75 e_76 => ?_)
    obtain rfl : x_75 = nI ((n_69 + 6) + n_65) := by rw [e_76]; exact nI_add _ _
    refine lv_sipush (v := 1000) hx hb d_Mo_frame_27 (by decide) ?_
    refine lv_icmp_le (tgt := 39) hx hb d_Mo_frame_30 (by decide) (fun c_77 => ?_) (fun c_77 => ?_)
    · have k_78 : ((n_69 + 6) + n_65) ≤ 1000 := (nI_leI (a := ((n_69 + 6) + n_65)) (b := 1000) (by omega) (by omega)).mp c_77
      refine lv_aload_n hx hb d_Mo_frame_39 rfl (lv_at hl 1 rfl) ?_
      refine lv_iload_n hx hb d_Mo_frame_40 rfl (lv_at hl 2 rfl) ?_
      refine lv_bipush (v := 104) hx hb d_Mo_frame_41 (by decide) ?_
      refine sm_vM hI (va_runV (As := [.int (nI j1), .int (104)]) (rest := []) ⟨hx, hb, hml, hown, hts⟩ (c_Mo_put l D ca ad L _ _ _ hM (j1) (by omega) 104 (n_69) e_72 (by omega)) (kv_Mo_put hts rfl rfl (hts _ tw_1517) ⟨Nat.le_of_ble_eq_true rfl, Nat.le_of_ble_eq_true rfl⟩) (pv_Mo hI hE hM) rfl rfl hl.1 rfl (lv_room (Nat.le_of_ble_eq_true rfl)) d_Mo_frame_43 ⟨Nat.le_of_ble_eq_true rfl, Nat.le_of_ble_eq_true rfl⟩) (fun H locs f σ_80 hI hM hF_81 p_79 => ?_)
      have hF := mq_fr_tr hF hF_81 (by decide)
      have u_82 := IH_fr hF_81 (by decide) u0
      obtain ⟨o_83, -⟩ := p_79
      refine lv_aload_n hx hb d_Mo_frame_46 rfl (lv_at hl 1 rfl) ?_
      refine lv_iload_n hx hb d_Mo_frame_47 rfl (lv_at hl 2 rfl) ?_
      refine lv_iconst (v := 4) hx hb d_Mo_frame_48 (by decide) ?_
      refine lv_iload hx hb d_Mo_frame_49 (lv_at hl 0 rfl) ?_
      refine lv_iadd hx hb d_Mo_frame_51 ?_
      refine lv_topi (fun x_84 e_85 => ?_)
      obtain rfl : x_84 = nI (4 + n_65) := by rw [e_85]; exact nI_add _ _
      refine sm_vM hI (va_runV (As := [.int (nI j1), .int (nI (4 + n_65))]) (rest := []) ⟨hx, hb, hml, hown, hts⟩ (c_Mo_put l D ca ad L _ _ _ hM (j1) (by omega) (nI (4 + n_65)) ((n_69 + 1)) o_83 (by omega)) (kv_Mo_put hts rfl rfl (hts _ tw_1517) ⟨Nat.le_of_ble_eq_true rfl, Nat.le_of_ble_eq_true rfl⟩) (pv_Mo hI hE hM) rfl rfl hl.1 rfl (lv_room (Nat.le_of_ble_eq_true rfl)) d_Mo_frame_52 ⟨Nat.le_of_ble_eq_true rfl, Nat.le_of_ble_eq_true rfl⟩) (fun H locs f σ_87 hI hM hF_88 p_86 => ?_)
      have hF := mq_fr_tr hF hF_88 (by decide)
      have u_89 := IH_fr hF_88 (by decide) u_82
      obtain ⟨o_90, -⟩ := p_86
      refine lv_aload_n hx hb d_Mo_frame_55 rfl (lv_at hl 1 rfl) ?_
      refine lv_iload_n hx hb d_Mo_frame_56 rfl (lv_at hl 2 rfl) ?_
      refine lv_iload_n hx hb d_Mo_frame_57 rfl (lv_at hl 3 rfl) ?_
      refine sm_vM hI (va_runV (As := [.int (nI j1), .int (x2)]) (rest := []) ⟨hx, hb, hml, hown, hts⟩ (c_Mo_put l D ca ad L _ _ _ hM (j1) (by omega) x2 ((((n_69 + 1)) + 1)) o_90 (by omega)) (kv_Mo_put hts rfl rfl (hts _ tw_1517) ⟨Nat.le_of_ble_eq_true rfl, Nat.le_of_ble_eq_true rfl⟩) (pv_Mo hI hE hM) rfl rfl hl.1 rfl (lv_room (Nat.le_of_ble_eq_true rfl)) d_Mo_frame_58 ⟨Nat.le_of_ble_eq_true rfl, Nat.le_of_ble_eq_true rfl⟩) (fun H locs f σ_92 hI hM hF_93 p_91 => ?_)
      have hF := mq_fr_tr hF hF_93 (by decide)
      have u_94 := IH_fr hF_93 (by decide) u_89
      obtain ⟨o_95, -⟩ := p_91
      refine lv_aload_n hx hb d_Mo_frame_61 rfl (lv_at hl 1 rfl) ?_
      refine lv_iload_n hx hb d_Mo_frame_62 rfl (lv_at hl 2 rfl) ?_
      refine lv_iload_n hx hb d_Mo_frame_63 rfl (lv_at hl 3 rfl) ?_
      refine lv_bipush (v := 8) hx hb d_Mo_frame_64 (by decide) ?_
      refine lv_ishr hx hb d_Mo_frame_66 ?_
      refine lv_topi (fun x_96 e_97 => ?_)
      refine sm_vM hI (va_runV (As := [.int (nI j1), .int (x_96)]) (rest := []) ⟨hx, hb, hml, hown, hts⟩ (c_Mo_put l D ca ad L _ _ _ hM (j1) (by omega) x_96 ((((((n_69 + 1)) + 1)) + 1)) o_95 (by omega)) (kv_Mo_put hts rfl rfl (hts _ tw_1517) ⟨Nat.le_of_ble_eq_true rfl, Nat.le_of_ble_eq_true rfl⟩) (pv_Mo hI hE hM) rfl rfl hl.1 rfl (lv_room (Nat.le_of_ble_eq_true rfl)) d_Mo_frame_67 ⟨Nat.le_of_ble_eq_true rfl, Nat.le_of_ble_eq_true rfl⟩) (fun H locs f σ_99 hI hM hF_100 p_98 => ?_)
      have hF := mq_fr_tr hF hF_100 (by decide)
      have u_101 := IH_fr hF_100 (by decide) u_94
      obtain ⟨o_102, -⟩ := p_98
      refine lv_aload_n hx hb d_Mo_frame_70 rfl (lv_at hl 1 rfl) ?_
      refine lv_iload_n hx hb d_Mo_frame_71 rfl (lv_at hl 2 rfl) ?_
      refine lv_iload_n hx hb d_Mo_frame_72 rfl (lv_at hl 4 rfl) ?_
      refine sm_vM hI (va_runV (As := [.int (nI j1), .int (x3)]) (rest := []) ⟨hx, hb, hml, hown, hts⟩ (c_Mo_put l D ca ad L _ _ _ hM (j1) (by omega) x3 ((((((((n_69 + 1)) + 1)) + 1)) + 1)) o_102 (by omega)) (kv_Mo_put hts rfl rfl (hts _ tw_1517) ⟨Nat.le_of_ble_eq_true rfl, Nat.le_of_ble_eq_true rfl⟩) (pv_Mo hI hE hM) rfl rfl hl.1 rfl (lv_room (Nat.le_of_ble_eq_true rfl)) d_Mo_frame_73 ⟨Nat.le_of_ble_eq_true rfl, Nat.le_of_ble_eq_true rfl⟩) (fun H locs f σ_104 hI hM hF_105 p_103 => ?_)
      have hF := mq_fr_tr hF hF_105 (by decide)
      have u_106 := IH_fr hF_105 (by decide) u_101
      obtain ⟨o_107, -⟩ := p_103
      refine lv_aload_n hx hb d_Mo_frame_76 rfl (lv_at hl 1 rfl) ?_
      refine lv_iload_n hx hb d_Mo_frame_77 rfl (lv_at hl 2 rfl) ?_
      refine lv_iload_n hx hb d_Mo_frame_78 rfl (lv_at hl 4 rfl) ?_
      refine lv_bipush (v := 8) hx hb d_Mo_frame_79 (by decide) ?_
      refine lv_ishr hx hb d_Mo_frame_81 ?_
      refine lv_topi (fun x_108 e_109 => ?_)
      refine sm_vM hI (va_runV (As := [.int (nI j1), .int (x_108)]) (rest := []) ⟨hx, hb, hml, hown, hts⟩ (c_Mo_put l D ca ad L _ _ _ hM (j1) (by omega) x_108 ((((((((((n_69 + 1)) + 1)) + 1)) + 1)) + 1)) o_107 (by omega)) (kv_Mo_put hts rfl rfl (hts _ tw_1517) ⟨Nat.le_of_ble_eq_true rfl, Nat.le_of_ble_eq_true rfl⟩) (pv_Mo hI hE hM) rfl rfl hl.1 rfl (lv_room (Nat.le_of_ble_eq_true rfl)) d_Mo_frame_82 ⟨Nat.le_of_ble_eq_true rfl, Nat.le_of_ble_eq_true rfl⟩) (fun H locs f σ_111 hI hM hF_112 p_110 => ?_)
      have hF := mq_fr_tr hF hF_112 (by decide)
      have u_113 := IH_fr hF_112 (by decide) u_106
      obtain ⟨o_114, -⟩ := p_110
      refine lv_iconst (v := 0) hx hb d_Mo_frame_85 (by decide) ?_
      refine lv_istore (lv' := [(6, .int (0)), (5, .int (nI n_65)), (0, .ref (ad 71)), (1, .int (nI j1)), (2, .int (x2)), (3, .int (x3)), (4, .int (x4))]) hx hb d_Mo_frame_86 hl (by decide) rfl (fun ls hl => ?_)
      exact hJ_88 _ (0) _ _ _ _ _ (n_65) ((((((((((((n_69 + 1)) + 1)) + 1)) + 1)) + 1)) + 1)) (Nat.le_refl _) (by omega) hI hM hF (lv_sub hl [2, 3, 4, 5, 6, 1, 0] rfl) (by omega) (by omega) o_114 u_113 (by omega) (by omega)
    · have k_115 : 1000 < ((n_69 + 6) + n_65) := Nat.lt_of_not_le (fun q => c_77 ((nI_leI (a := ((n_69 + 6) + n_65)) (b := 1000) (by omega) (by omega)).mpr q))
      refine lv_aload_n hx hb d_Mo_frame_33 rfl (lv_at hl 1 rfl) ?_
      refine lv_iload_n hx hb d_Mo_frame_34 rfl (lv_at hl 2 rfl) ?_
      refine sm_vM hI (va_runV (As := [.int (nI j1)]) (rest := []) ⟨hx, hb, hml, hown, hts⟩ (c_Mo_shut l D ca ad L _ _ _ hM (j1) (by omega) u0) (kv_Mo_shut hts rfl rfl (hts _ tw_1513) ⟨Nat.le_of_ble_eq_true rfl, Nat.le_of_ble_eq_true rfl⟩) (pv_Mo hI hE hM) rfl rfl hl.1 rfl (lv_room (Nat.le_of_ble_eq_true rfl)) d_Mo_frame_35 ⟨Nat.le_of_ble_eq_true rfl, Nat.le_of_ble_eq_true rfl⟩) (fun H locs f σ_117 hI hM hF_118 p_116 => ?_)
      have hF := mq_fr_tr hF hF_118 (by decide)
      obtain ⟨o_119, o_120, u_121, -⟩ := p_116
      exact sm_vret hx hb hr hlk hI ⟨σ_117, rfl, hM, hF, ⟨u_121, trivial⟩⟩ d_Mo_frame_38
theorem d_Mo_sendI_0 : decode b_Mo_sendI 0 = .ok (.aload_n 0, 1) := by decide +kernel
theorem d_Mo_sendI_1 : decode b_Mo_sendI 1 = .ok (.getfield 59, 3) := by decide +kernel
theorem d_Mo_sendI_4 : decode b_Mo_sendI 4 = .ok (.iload_n 1, 1) := by decide +kernel
theorem d_Mo_sendI_5 : decode b_Mo_sendI 5 = .ok (.bipush 12, 2) := by decide +kernel
theorem d_Mo_sendI_7 : decode b_Mo_sendI 7 = .ok (.imul, 1) := by decide +kernel
theorem d_Mo_sendI_8 : decode b_Mo_sendI 8 = .ok (.aload_n 0, 1) := by decide +kernel
theorem d_Mo_sendI_9 : decode b_Mo_sendI 9 = .ok (.getfield 56, 3) := by decide +kernel
theorem d_Mo_sendI_12 : decode b_Mo_sendI 12 = .ok (.iload_n 1, 1) := by decide +kernel
theorem d_Mo_sendI_13 : decode b_Mo_sendI 13 = .ok (.iaload, 1) := by decide +kernel
theorem d_Mo_sendI_14 : decode b_Mo_sendI 14 = .ok (.iadd, 1) := by decide +kernel
theorem d_Mo_sendI_15 : decode b_Mo_sendI 15 = .ok (.aload_n 0, 1) := by decide +kernel
theorem d_Mo_sendI_16 : decode b_Mo_sendI 16 = .ok (.getfield 282, 3) := by decide +kernel
theorem d_Mo_sendI_19 : decode b_Mo_sendI 19 = .ok (.lastore, 1) := by decide +kernel
theorem d_Mo_sendI_20 : decode b_Mo_sendI 20 = .ok (.aload_n 0, 1) := by decide +kernel
theorem d_Mo_sendI_21 : decode b_Mo_sendI 21 = .ok (.getfield 63, 3) := by decide +kernel
theorem d_Mo_sendI_24 : decode b_Mo_sendI 24 = .ok (.iload_n 1, 1) := by decide +kernel
theorem d_Mo_sendI_25 : decode b_Mo_sendI 25 = .ok (.bipush 12, 2) := by decide +kernel
theorem d_Mo_sendI_27 : decode b_Mo_sendI 27 = .ok (.imul, 1) := by decide +kernel
theorem d_Mo_sendI_28 : decode b_Mo_sendI 28 = .ok (.aload_n 0, 1) := by decide +kernel
theorem d_Mo_sendI_29 : decode b_Mo_sendI 29 = .ok (.getfield 56, 3) := by decide +kernel
theorem d_Mo_sendI_32 : decode b_Mo_sendI 32 = .ok (.iload_n 1, 1) := by decide +kernel
theorem d_Mo_sendI_33 : decode b_Mo_sendI 33 = .ok (.iaload, 1) := by decide +kernel
theorem d_Mo_sendI_34 : decode b_Mo_sendI 34 = .ok (.iadd, 1) := by decide +kernel
theorem d_Mo_sendI_35 : decode b_Mo_sendI 35 = .ok (.iload_n 2, 1) := by decide +kernel
theorem d_Mo_sendI_36 : decode b_Mo_sendI 36 = .ok (.iastore, 1) := by decide +kernel
theorem d_Mo_sendI_37 : decode b_Mo_sendI 37 = .ok (.aload_n 0, 1) := by decide +kernel
theorem d_Mo_sendI_38 : decode b_Mo_sendI 38 = .ok (.getfield 56, 3) := by decide +kernel
theorem d_Mo_sendI_41 : decode b_Mo_sendI 41 = .ok (.iload_n 1, 1) := by decide +kernel
theorem d_Mo_sendI_42 : decode b_Mo_sendI 42 = .ok (.dup2, 1) := by decide +kernel
theorem d_Mo_sendI_43 : decode b_Mo_sendI 43 = .ok (.iaload, 1) := by decide +kernel
theorem d_Mo_sendI_44 : decode b_Mo_sendI 44 = .ok (.iconst 1, 1) := by decide +kernel
theorem d_Mo_sendI_45 : decode b_Mo_sendI 45 = .ok (.iadd, 1) := by decide +kernel
theorem d_Mo_sendI_46 : decode b_Mo_sendI 46 = .ok (.iastore, 1) := by decide +kernel
theorem d_Mo_sendI_47 : decode b_Mo_sendI 47 = .ok (.aload_n 0, 1) := by decide +kernel
theorem d_Mo_sendI_48 : decode b_Mo_sendI 48 = .ok (.getfield 66, 3) := by decide +kernel
theorem d_Mo_sendI_51 : decode b_Mo_sendI 51 = .ok (.iload_n 1, 1) := by decide +kernel
theorem d_Mo_sendI_52 : decode b_Mo_sendI 52 = .ok (.iconst 0, 1) := by decide +kernel
theorem d_Mo_sendI_53 : decode b_Mo_sendI 53 = .ok (.iastore, 1) := by decide +kernel
theorem d_Mo_sendI_54 : decode b_Mo_sendI 54 = .ok (.aload_n 0, 1) := by decide +kernel
theorem d_Mo_sendI_55 : decode b_Mo_sendI 55 = .ok (.getfield 47, 3) := by decide +kernel
theorem d_Mo_sendI_58 : decode b_Mo_sendI 58 = .ok (.iload_n 1, 1) := by decide +kernel
theorem d_Mo_sendI_59 : decode b_Mo_sendI 59 = .ok (.iaload, 1) := by decide +kernel
theorem d_Mo_sendI_60 : decode b_Mo_sendI 60 = .ok (.istore_n 3, 1) := by decide +kernel
theorem d_Mo_sendI_61 : decode b_Mo_sendI 61 = .ok (.aload_n 0, 1) := by decide +kernel
theorem d_Mo_sendI_62 : decode b_Mo_sendI 62 = .ok (.getfield 47, 3) := by decide +kernel
theorem d_Mo_sendI_65 : decode b_Mo_sendI 65 = .ok (.iload_n 1, 1) := by decide +kernel
theorem d_Mo_sendI_66 : decode b_Mo_sendI 66 = .ok (.iload_n 3, 1) := by decide +kernel
theorem d_Mo_sendI_67 : decode b_Mo_sendI 67 = .ok (.iconst 1, 1) := by decide +kernel
theorem d_Mo_sendI_68 : decode b_Mo_sendI 68 = .ok (.iadd, 1) := by decide +kernel
theorem d_Mo_sendI_69 : decode b_Mo_sendI 69 = .ok (.ldc_w 285, 3) := by decide +kernel
theorem d_Mo_sendI_72 : decode b_Mo_sendI 72 = .ok (.irem, 1) := by decide +kernel
theorem d_Mo_sendI_73 : decode b_Mo_sendI 73 = .ok (.iastore, 1) := by decide +kernel
theorem d_Mo_sendI_74 : decode b_Mo_sendI 74 = .ok (.aload_n 0, 1) := by decide +kernel
theorem d_Mo_sendI_75 : decode b_Mo_sendI 75 = .ok (.iload_n 1, 1) := by decide +kernel
theorem d_Mo_sendI_76 : decode b_Mo_sendI 76 = .ok (.iconst 2, 1) := by decide +kernel
theorem d_Mo_sendI_77 : decode b_Mo_sendI 77 = .ok (.iload_n 3, 1) := by decide +kernel
theorem d_Mo_sendI_78 : decode b_Mo_sendI 78 = .ok (.imul, 1) := by decide +kernel
theorem d_Mo_sendI_79 : decode b_Mo_sendI 79 = .ok (.iconst 2, 1) := by decide +kernel
theorem d_Mo_sendI_80 : decode b_Mo_sendI 80 = .ok (.aload_n 0, 1) := by decide +kernel
theorem d_Mo_sendI_81 : decode b_Mo_sendI 81 = .ok (.getfield 50, 3) := by decide +kernel
theorem d_Mo_sendI_84 : decode b_Mo_sendI 84 = .ok (.iload_n 1, 1) := by decide +kernel
theorem d_Mo_sendI_85 : decode b_Mo_sendI 85 = .ok (.iaload, 1) := by decide +kernel
theorem d_Mo_sendI_86 : decode b_Mo_sendI 86 = .ok (.imul, 1) := by decide +kernel
theorem d_Mo_sendI_87 : decode b_Mo_sendI 87 = .ok (.iconst 1, 1) := by decide +kernel
theorem d_Mo_sendI_88 : decode b_Mo_sendI 88 = .ok (.invokevirtual 286, 3) := by decide +kernel
theorem d_Mo_sendI_91 : decode b_Mo_sendI 91 = .ok (.return_, 1) := by decide +kernel
set_option maxRecDepth 100000 in
set_option maxHeartbeats 4000000 in
theorem c_Mo_sendI (l : Launch) (D : va_G) (ca : Nat → ClassId) (ad : Nat → Nat) (L : List Nat) (f0 : Nat → va_E) (sz : Nat) (σ0 : mq_S) (hM : mq_B ca ad σ0 L f0) (j1 : Nat) (q1 : j1 ≤ 2) (x2 : Int32) (z1 : Nat) (o0 : σ0.2.2.1 22 (j1) = nI z1) (hz : z1 ≤ 11) (u0 : IH σ0) :
    Met l y_Mo_sendI (Cond.code y_Mo_sendI b_Mo_sendI 4 none :: wg) { frames := 3, cells := 0, slots := 0, locals := 69 } (va_Pc [.ref (ad 71), .int (nI j1), .int (x2)] (sm_P D cl_all (ty_s ca) ek L f0 sz)) (sm_Qv D (ty_s ca) L f0 sz (fun u => mq_po ca ad L σ0 [13, 14, 15, 16, 18, 19, 22, 23, 24, 25, 30, 42, 52, 65] (fun σ => σ.2.2.1 22 (j1) = nI (z1 + 1) ∧ IH σ ∧ True) u)) 0 0 (va_A (va_pl L f0) sz) := by
  refine sm_start (by decide) (Nat.le_of_ble_eq_true rfl) ?_
  intro p e s m below meth c ls hx hb hml hr hlk hnm hts hown hsz hE hI hl
  have hl : lv_has ls 4 [(0, .ref (ad 71)), (1, .int (nI j1)), (2, .int (x2))] := hl
  have hF : mq_fr [13, 14, 15, 16, 18, 19, 22, 23, 24, 25, 30, 42, 52, 65] σ0 σ0 := mq_fr_rf
  refine lv_aload_n hx hb d_Mo_sendI_0 rfl (lv_at hl 0 rfl) ?_
  refine mq_get (k := 23) (v := .ref (ad 23)) hx hb hts hown hI hM (by decide) rfl rfl (hts _ tw_1192) d_Mo_sendI_1 ?_
  refine lv_iload_n hx hb d_Mo_sendI_4 rfl (lv_at hl 1 rfl) ?_
  refine lv_bipush (v := 12) hx hb d_Mo_sendI_5 (by decide) ?_
  refine lv_imul hx hb d_Mo_sendI_7 ?_
  refine lv_topi (fun x_1 e_2 => ?_)
  obtain rfl : x_1 = nI (j1 * 12) := by rw [e_2]; exact pk_mul _ _
  refine lv_aload_n hx hb d_Mo_sendI_8 rfl (lv_at hl 0 rfl) ?_
  refine mq_get (k := 22) (v := .ref (ad 22)) hx hb hts hown hI hM (by decide) rfl rfl (hts _ tw_1191) d_Mo_sendI_9 ?_
  refine lv_iload_n hx hb d_Mo_sendI_12 rfl (lv_at hl 1 rfl) ?_
  refine mq_iald (k := 22) (j := j1) (v := nI z1) hx hb hI hM (by decide) rfl (by show j1 < 3; omega) (by decide) o0 d_Mo_sendI_13 ?_
  refine lv_iadd hx hb d_Mo_sendI_14 ?_
  refine lv_topi (fun x_3 e_4 => ?_)
  obtain rfl : x_3 = nI ((j1 * 12) + z1) := by rw [e_4]; exact nI_add _ _
  refine lv_aload_n hx hb d_Mo_sendI_15 rfl (lv_at hl 0 rfl) ?_
  refine mq_get (k := 12) (v := .long (σ0.2.1 12)) hx hb hts hown hI hM (by decide) rfl rfl (hts _ tw_1181) d_Mo_sendI_16 ?_
  refine lv_topl (fun x_5 e_6 => ?_)
  refine mq_last (k := 23) (j := ((j1 * 12) + z1)) hx hb hI hM (by decide) rfl (by show ((j1 * 12) + z1) < 36; omega) (by decide) d_Mo_sendI_19 (fun H locs f σ_7 e_8 hI hM => ?_)
  have hF := mq_fr_uh hF e_8 rfl
  have o_9 : σ_7.2.2.1 22 (j1) = nI z1 := by rw [e_8]; exact o0
  have u_10 := IH_fr (mq_fr_uh (X := [23]) mq_fr_rf e_8 rfl) (by decide) u0
  refine lv_aload_n hx hb d_Mo_sendI_20 rfl (lv_at hl 0 rfl) ?_
  refine mq_get (k := 24) (v := .ref (ad 24)) hx hb hts hown hI hM (by decide) rfl rfl (hts _ tw_1193) d_Mo_sendI_21 ?_
  refine lv_iload_n hx hb d_Mo_sendI_24 rfl (lv_at hl 1 rfl) ?_
  refine lv_bipush (v := 12) hx hb d_Mo_sendI_25 (by decide) ?_
  refine lv_imul hx hb d_Mo_sendI_27 ?_
  refine lv_topi (fun x_11 e_12 => ?_)
  obtain rfl : x_11 = nI (j1 * 12) := by rw [e_12]; exact pk_mul _ _
  refine lv_aload_n hx hb d_Mo_sendI_28 rfl (lv_at hl 0 rfl) ?_
  refine mq_get (k := 22) (v := .ref (ad 22)) hx hb hts hown hI hM (by decide) rfl rfl (hts _ tw_1191) d_Mo_sendI_29 ?_
  refine lv_iload_n hx hb d_Mo_sendI_32 rfl (lv_at hl 1 rfl) ?_
  refine mq_iald (k := 22) (j := j1) (v := nI z1) hx hb hI hM (by decide) rfl (by show j1 < 3; omega) (by decide) o_9 d_Mo_sendI_33 ?_
  refine lv_iadd hx hb d_Mo_sendI_34 ?_
  refine lv_topi (fun x_13 e_14 => ?_)
  obtain rfl : x_13 = nI ((j1 * 12) + z1) := by rw [e_14]; exact nI_add _ _
  refine lv_iload_n hx hb d_Mo_sendI_35 rfl (lv_at hl 2 rfl) ?_
  refine mq_iast (k := 24) (j := ((j1 * 12) + z1)) (x := x2) hx hb hI hM (by decide) rfl (by show ((j1 * 12) + z1) < 36; omega) (by decide) trivial d_Mo_sendI_36 (fun H locs f σ_15 e_16 hI hM => ?_)
  have hF := mq_fr_ug hF e_16 rfl (Or.inl rfl)
  have o_17 : σ_15.2.2.1 22 (j1) = nI z1 := by rw [e_16]; exact o_9
  have u_18 := IH_fr (mq_fr_ug (X := [24]) mq_fr_rf e_16 rfl (Or.inl rfl)) (by decide) u_10
  refine lv_aload_n hx hb d_Mo_sendI_37 rfl (lv_at hl 0 rfl) ?_
  refine mq_get (k := 22) (v := .ref (ad 22)) hx hb hts hown hI hM (by decide) rfl rfl (hts _ tw_1191) d_Mo_sendI_38 ?_
  refine lv_iload_n hx hb d_Mo_sendI_41 rfl (lv_at hl 1 rfl) ?_
  refine lv_dup2_11 hx hb d_Mo_sendI_42 rfl rfl ?_
  refine mq_iald (k := 22) (j := j1) (v := nI z1) hx hb hI hM (by decide) rfl (by show j1 < 3; omega) (by decide) o_17 d_Mo_sendI_43 ?_
  refine lv_iconst (v := 1) hx hb d_Mo_sendI_44 (by decide) ?_
  refine lv_iadd hx hb d_Mo_sendI_45 ?_
  refine lv_topi (fun x_19 e_20 => ?_)
  obtain rfl : x_19 = nI (z1 + 1) := by rw [e_20]; exact nI_add _ _
  refine mq_iast (k := 22) (j := j1) (x := nI (z1 + 1)) hx hb hI hM (by decide) rfl (by show j1 < 3; omega) (by decide) ⟨(z1 + 1), by omega, by omega, rfl⟩ d_Mo_sendI_46 (fun H locs f σ_21 e_22 hI hM => ?_)
  have hF := mq_fr_ug hF e_22 rfl (Or.inl rfl)
  have u_23 := IH_fr (mq_fr_ug (X := [22]) mq_fr_rf e_22 rfl (Or.inl rfl)) (by decide) u_18
  have o_24 := mq_ugj e_22
  refine lv_aload_n hx hb d_Mo_sendI_47 rfl (lv_at hl 0 rfl) ?_
  refine mq_get (k := 25) (v := .ref (ad 25)) hx hb hts hown hI hM (by decide) rfl rfl (hts _ tw_1194) d_Mo_sendI_48 ?_
  refine lv_iload_n hx hb d_Mo_sendI_51 rfl (lv_at hl 1 rfl) ?_
  refine lv_iconst (v := 0) hx hb d_Mo_sendI_52 (by decide) ?_
  refine mq_iast (k := 25) (j := j1) (x := 0) hx hb hI hM (by decide) rfl (by show j1 < 3; omega) (by decide) trivial d_Mo_sendI_53 (fun H locs f σ_25 e_26 hI hM => ?_)
  have hF := mq_fr_ug hF e_26 rfl (Or.inl rfl)
  have o_27 : σ_25.2.2.1 22 (j1) = nI (z1 + 1) := by rw [e_26]; exact o_24
  have u_28 := IH_fr (mq_fr_ug (X := [25]) mq_fr_rf e_26 rfl (Or.inl rfl)) (by decide) u_23
  refine lv_aload_n hx hb d_Mo_sendI_54 rfl (lv_at hl 0 rfl) ?_
  refine mq_get (k := 19) (v := .ref (ad 19)) hx hb hts hown hI hM (by decide) rfl rfl (hts _ tw_1188) d_Mo_sendI_55 ?_
  refine lv_iload_n hx hb d_Mo_sendI_58 rfl (lv_at hl 1 rfl) ?_
  obtain ⟨x_29, e_30⟩ : ∃ z, σ_25.2.2.1 19 (j1) = z := ⟨_, rfl⟩
  refine mq_iald (k := 19) (j := j1) (v := x_29) hx hb hI hM (by decide) rfl (by show j1 < 3; omega) (by decide) e_30 d_Mo_sendI_59 ?_
  refine lv_istore_n (lv' := [(3, .int (x_29)), (0, .ref (ad 71)), (1, .int (nI j1)), (2, .int (x2))]) hx hb d_Mo_sendI_60 rfl hl (by decide) rfl (fun ls hl => ?_)
  refine lv_aload_n hx hb d_Mo_sendI_61 rfl (lv_at hl 1 rfl) ?_
  refine mq_get (k := 19) (v := .ref (ad 19)) hx hb hts hown hI hM (by decide) rfl rfl (hts _ tw_1188) d_Mo_sendI_62 ?_
  refine lv_iload_n hx hb d_Mo_sendI_65 rfl (lv_at hl 2 rfl) ?_
  refine lv_iload_n hx hb d_Mo_sendI_66 rfl (lv_at hl 0 rfl) ?_
  refine lv_iconst (v := 1) hx hb d_Mo_sendI_67 (by decide) ?_
  refine lv_iadd hx hb d_Mo_sendI_68 ?_
  refine lv_topi (fun x_31 e_32 => ?_)
  refine lv_ldcw (v := 32768) hx hb hown (hts _ tw_1508) d_Mo_sendI_69 ?_
  refine lv_irem hx hb d_Mo_sendI_72 (by decide) ?_
  refine lv_topi (fun x_33 e_34 => ?_)
  refine mq_iast (k := 19) (j := j1) (x := x_33) hx hb hI hM (by decide) rfl (by show j1 < 3; omega) (by decide) trivial d_Mo_sendI_73 (fun H locs f σ_35 e_36 hI hM => ?_)
  have hF := mq_fr_ug hF e_36 rfl (Or.inl rfl)
  have o_37 : σ_35.2.2.1 22 (j1) = nI (z1 + 1) := by rw [e_36]; exact o_27
  have u_38 := IH_fr (mq_fr_ug (X := [19]) mq_fr_rf e_36 rfl (Or.inl rfl)) (by decide) u_28
  refine lv_aload_n hx hb d_Mo_sendI_74 rfl (lv_at hl 1 rfl) ?_
  refine lv_iload_n hx hb d_Mo_sendI_75 rfl (lv_at hl 2 rfl) ?_
  refine lv_iconst (v := 2) hx hb d_Mo_sendI_76 (by decide) ?_
  refine lv_iload_n hx hb d_Mo_sendI_77 rfl (lv_at hl 0 rfl) ?_
  refine lv_imul hx hb d_Mo_sendI_78 ?_
  refine lv_topi (fun x_39 e_40 => ?_)
  refine lv_iconst (v := 2) hx hb d_Mo_sendI_79 (by decide) ?_
  refine lv_aload_n hx hb d_Mo_sendI_80 rfl (lv_at hl 1 rfl) ?_
  refine mq_get (k := 20) (v := .ref (ad 20)) hx hb hts hown hI hM (by decide) rfl rfl (hts _ tw_1189) d_Mo_sendI_81 ?_
  refine lv_iload_n hx hb d_Mo_sendI_84 rfl (lv_at hl 2 rfl) ?_
  obtain ⟨x_41, e_42⟩ : ∃ z, σ_35.2.2.1 20 (j1) = z := ⟨_, rfl⟩
  refine mq_iald (k := 20) (j := j1) (v := x_41) hx hb hI hM (by decide) rfl (by show j1 < 3; omega) (by decide) e_42 d_Mo_sendI_85 ?_
  refine lv_imul hx hb d_Mo_sendI_86 ?_
  refine lv_topi (fun x_43 e_44 => ?_)
  refine lv_iconst (v := 1) hx hb d_Mo_sendI_87 (by decide) ?_
  refine sm_vM hI (va_runV (As := [.int (nI j1), .int (x_39), .int (x_43), .int (1)]) (rest := []) ⟨hx, hb, hml, hown, hts⟩ (c_Mo_frame l D ca ad L _ _ _ hM (j1) (by omega) x_39 x_43 1 (by decide) u_38) (kv_Mo_frame hts rfl rfl (hts _ tw_1509) ⟨Nat.le_of_ble_eq_true rfl, Nat.le_of_ble_eq_true rfl⟩) (pv_Mo hI hE hM) rfl rfl hl.1 rfl (lv_room (Nat.le_of_ble_eq_true rfl)) d_Mo_sendI_88 ⟨Nat.le_of_ble_eq_true rfl, Nat.le_of_ble_eq_true rfl⟩) (fun H locs f σ_46 hI hM hF_47 p_45 => ?_)
  have hF := mq_fr_tr hF hF_47 (by decide)
  have o_48 : σ_46.2.2.1 22 (j1) = nI (z1 + 1) := mq_fg hF_47 (by decide) o_37
  obtain ⟨u_49, -⟩ := p_45
  exact sm_vret hx hb hr hlk hI ⟨σ_46, rfl, hM, hF, ⟨(Eq.trans o_48 (congrArg nI (show ((z1 + 1) : Nat) = z1 + 1 by omega))), u_49, trivial⟩⟩ d_Mo_sendI_91
