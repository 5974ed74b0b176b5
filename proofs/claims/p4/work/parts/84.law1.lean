/-! what the law does with each kind of call (written by wip/tools/law.py) -/
set_option maxRecDepth 100000 in
set_option maxHeartbeats 4000000 in
theorem lt_point {p : Program} {l : Launch} {e : Env} {s : State} {m : MethodId} {below : List Frame} {meth : Method} {c : Code} {D : va_G} {ca : Nat → ClassId} {b L : Nat} {xs : Nat → Int32} {o hP : Nat} {ad : Nat → Nat} {M : List Nat} {Q : State → Prop} (hx : p.tables.exec = Jvm.exec) (hb : c.code = code) (hml : c.maxLocals = 8) (hown : s.vm.findClass R_La = some m.cls) (hts : ∀ w ∈ wg, w.before #[Value.ref b] s = true) (hX : va_X b L xs s s.heap) (hbl : b < s.heap.size) (hE : ek3 (fun q => s.heap.size ≤ q) s) (hfl : l.flags = Jvm.pinnedFlags ++ [Jvm.noTraceFlag]) (hL : L ≤ 2561) {H : Heap} {locs : List Loc} {Q1 : List Nat} {f : Nat → va_E} {g : List (Int32 × Int32)} {σ : mq_S} {cells slots k z : Nat} {ls : Array Slot} (hk : k + 5 ≤ L) (hz : z ≤ 512) (hc : cells + 16 ≤ 601024) (hs : slots + 4144 ≤ 7293000) (hLI : LI D ca (fun q => s.heap.size ≤ q) s H locs o hP ad M Q1 f g σ) (hq : IQ z σ) (hR : RR g σ) (hl : lv_has ls 8 [(4, .int (nI k)), (3, .ref o), (2, .ref (ad 71)), (1, .ref hP), (0, .ref b)])
    (kk : ∀ (H : Heap) (locs : List Loc) (Q1 : List Nat) (f : Nat → va_E) (g : List (Int32 × Int32)) (σ : mq_S) (ls : Array Slot), LI D ca (fun q => s.heap.size ≤ q) s H locs o hP ad M Q1 f g σ → IQ (z + 1) σ → RR g σ → lv_has ls 8 [(4, .int (nI k)), (3, .ref o), (2, .ref (ad 71)), (1, .ref hP), (0, .ref b)] → W p l e room_1 s m #[Value.ref b] below meth c H locs (cells + 16) (slots + 4144) Q (F0 m 773 ls [])) :
    W p l e room_1 s m #[Value.ref b] below meth c H locs cells slots Q (F0 m 120 ls []) := by
  refine lv_aload_n hx hb d_law_120 rfl (lv_at hl 3 rfl) ?_
  refine lv_aload_n hx hb d_law_121 rfl (lv_at hl 4 rfl) ?_
  refine lv_iload hx hb d_law_122 (lv_at hl 0 rfl) ?_
  refine lv_iconst (v := 1) hx hb d_law_124 (by decide) ?_
  refine lv_iadd hx hb d_law_125 ?_
  refine lv_topi (fun x_1 e_2 => ?_)
  obtain rfl : x_1 = nI (k + 1) := by rw [e_2]; exact nI_add k 1
  refine va_sld hx hb hX hbl (Nat.not_le.mpr hbl) hLI.1.2.2.1 (vp_in_nI (by omega) (by omega)) d_law_126 ?_
  refine lv_topi (fun x_3 e_4 => ?_)
  refine lv_aload_n hx hb d_law_127 rfl (lv_at hl 4 rfl) ?_
  refine lv_iload hx hb d_law_128 (lv_at hl 0 rfl) ?_
  refine lv_iconst (v := 2) hx hb d_law_130 (by decide) ?_
  refine lv_iadd hx hb d_law_131 ?_
  refine lv_topi (fun x_5 e_6 => ?_)
  obtain rfl : x_5 = nI (k + 2) := by rw [e_6]; exact nI_add k 2
  refine va_sld hx hb hX hbl (Nat.not_le.mpr hbl) hLI.1.2.2.1 (vp_in_nI (by omega) (by omega)) d_law_132 ?_
  refine lv_topi (fun x_7 e_8 => ?_)
  refine lv_aload_n hx hb d_law_133 rfl (lv_at hl 4 rfl) ?_
  refine lv_iload hx hb d_law_134 (lv_at hl 0 rfl) ?_
  refine lv_iconst (v := 3) hx hb d_law_136 (by decide) ?_
  refine lv_iadd hx hb d_law_137 ?_
  refine lv_topi (fun x_9 e_10 => ?_)
  obtain rfl : x_9 = nI (k + 3) := by rw [e_10]; exact nI_add k 3
  refine va_sld hx hb hX hbl (Nat.not_le.mpr hbl) hLI.1.2.2.1 (vp_in_nI (by omega) (by omega)) d_law_138 ?_
  refine lv_topi (fun x_11 e_12 => ?_)
  refine lv_aload_n hx hb d_law_139 rfl (lv_at hl 4 rfl) ?_
  refine lv_iload hx hb d_law_140 (lv_at hl 0 rfl) ?_
  refine lv_iconst (v := 4) hx hb d_law_142 (by decide) ?_
  refine lv_iadd hx hb d_law_143 ?_
  refine lv_topi (fun x_13 e_14 => ?_)
  obtain rfl : x_13 = nI (k + 4) := by rw [e_14]; exact nI_add k 4
  refine va_sld hx hb hX hbl (Nat.not_le.mpr hbl) hLI.1.2.2.1 (vp_in_nI (by omega) (by omega)) d_law_144 ?_
  refine lv_topi (fun x_15 e_16 => ?_)
  have hJ_19 : ∀ y_17 : Int32, y_17 = bz x_15 → W p l e room_1 s m #[Value.ref b] below meth c H locs cells slots Q (F0 m 153 ls [.int (y_17), .int (x_11), .int (x_7), .int (x_3), .ref hP]) := by
    intro y_17 py_18
    refine lv_aload_n hx hb d_law_153 rfl (lv_at hl 1 rfl) ?_
    have hw := hLI.2.1
    refine lw_wr (fun r g9 => (r = 0 → g9 = g ++ [(x_3, x_7)]) ∧ (¬ r = 0 → g9 = g)) (fun r ux => pt_is g x_3 x_7 x_11 y_17 r ∧ (r = 0 → ∃ gg : Nat → Int64, ux = .inl (ca 1, 1, .inr (.inl gg)) ∧ gg 0 = (nI g.length).toInt64)) hLI (va_runSW (hd := [(0, 14, 17, 13), (0, 14, 21, 15)]) (bytes := b_La_point) (maxL := 7) (ret := some .int) (n := 6) (As := [.ref hP, .int (x_3), .int (x_7), .int (x_11), .int (y_17), .ref o]) (rest := []) ⟨hx, hb, hml, hown, hts⟩ (c_La_point l D ca Q1 f H.size o hP hw x_3 x_7 x_11 y_17 (bz_01 py_18) hfl) ⟨rfl, rfl, Nat.le_of_ble_eq_true rfl, Nat.le_of_ble_eq_true rfl⟩ (wg_cons hts tw_417) List.mem_cons_self (hts _ tw_0) (by decide) (by decide +kernel) (hts _ tw_415) (hts _ tw_416) (sd_preS3 (L := M) hLI.1 hE) rfl rfl hl.1 rfl (lv_room (Nat.le_of_ble_eq_true rfl)) d_law_154 ⟨by show cells + 1 ≤ 601024; omega, by show slots + 6 ≤ 7293000; omega⟩) (fun rr H locs Q1 f g1 hG hex hLI => ?_)
    have hgo := hex.2
    refine lv_istore (lv' := [(5, .int (rr)), (4, .int (nI k)), (3, .ref o), (2, .ref (ad 71)), (1, .ref hP), (0, .ref b)]) hx hb d_law_157 hl (by decide) rfl (fun ls hl => ?_)
    refine lv_aload_n hx hb d_law_159 rfl (lv_at hl 3 rfl) ?_
    refine lv_aload_n hx hb d_law_160 rfl (lv_at hl 5 rfl) ?_
    refine lv_iload hx hb d_law_161 (lv_at hl 1 rfl) ?_
    refine lv_iconst (v := 1) hx hb d_law_163 (by decide) ?_
    refine lv_iadd hx hb d_law_164 ?_
    refine lv_topi (fun x_20 e_21 => ?_)
    obtain rfl : x_20 = nI (k + 1) := by rw [e_21]; exact nI_add k 1
    refine va_sld hx hb hX hbl (Nat.not_le.mpr hbl) hLI.1.2.2.1 (vp_in_nI (by omega) (by omega)) d_law_165 ?_
    refine lv_topi (fun x_22 e_23 => ?_)
    obtain rfl : x_3 = x_22 := e_4.trans e_23.symm
    refine lv_aload_n hx hb d_law_166 rfl (lv_at hl 5 rfl) ?_
    refine lv_iload hx hb d_law_167 (lv_at hl 1 rfl) ?_
    refine lv_iconst (v := 2) hx hb d_law_169 (by decide) ?_
    refine lv_iadd hx hb d_law_170 ?_
    refine lv_topi (fun x_24 e_25 => ?_)
    obtain rfl : x_24 = nI (k + 2) := by rw [e_25]; exact nI_add k 2
    refine va_sld hx hb hX hbl (Nat.not_le.mpr hbl) hLI.1.2.2.1 (vp_in_nI (by omega) (by omega)) d_law_171 ?_
    refine lv_topi (fun x_26 e_27 => ?_)
    obtain rfl : x_7 = x_26 := e_8.trans e_27.symm
    refine lv_aload_n hx hb d_law_172 rfl (lv_at hl 5 rfl) ?_
    refine lv_iload hx hb d_law_173 (lv_at hl 1 rfl) ?_
    refine lv_iconst (v := 3) hx hb d_law_175 (by decide) ?_
    refine lv_iadd hx hb d_law_176 ?_
    refine lv_topi (fun x_28 e_29 => ?_)
    obtain rfl : x_28 = nI (k + 3) := by rw [e_29]; exact nI_add k 3
    refine va_sld hx hb hX hbl (Nat.not_le.mpr hbl) hLI.1.2.2.1 (vp_in_nI (by omega) (by omega)) d_law_177 ?_
    refine lv_topi (fun x_30 e_31 => ?_)
    obtain rfl : x_11 = x_30 := e_12.trans e_31.symm
    refine lv_aload_n hx hb d_law_178 rfl (lv_at hl 5 rfl) ?_
    refine lv_iload hx hb d_law_179 (lv_at hl 1 rfl) ?_
    refine lv_iconst (v := 4) hx hb d_law_181 (by decide) ?_
    refine lv_iadd hx hb d_law_182 ?_
    refine lv_topi (fun x_32 e_33 => ?_)
    obtain rfl : x_32 = nI (k + 4) := by rw [e_33]; exact nI_add k 4
    refine va_sld hx hb hX hbl (Nat.not_le.mpr hbl) hLI.1.2.2.1 (vp_in_nI (by omega) (by omega)) d_law_183 ?_
    refine lv_topi (fun x_34 e_35 => ?_)
    obtain rfl : x_15 = x_34 := e_16.trans e_35.symm
    have hJ_38 : ∀ y_36 : Int32, y_36 = bz x_15 → W p l e room_1 s m #[Value.ref b] below meth c H locs (cells + 1) (slots + 6) Q (F0 m 192 ls [.int (y_36), .int (x_11), .int (x_7), .int (x_3), .ref (ad 71)]) := by
      intro y_36 py_37
      obtain rfl : y_17 = y_36 := py_18.trans py_37.symm
      refine lw_mi hLI (va_runV (As := [.int (x_3), .int (x_7), .int (x_11), .int (y_17)]) (rest := []) ⟨hx, hb, hml, hown, hts⟩ (c_Mo_point2 l D ca ad M f H.size _ hLI.2.2 x_3 x_7 x_11 y_17 (bz_01 py_18) hq.1 g hR) (kv_Mo_point hts rfl rfl (hts _ tw_1388) ⟨Nat.le_of_ble_eq_true rfl, Nat.le_of_ble_eq_true rfl⟩) (sd_preV (q := (R_Mo, F_Mo, 71)) (L := o :: Q1) (K := M) (sw_swap hLI.1) hE.1.1 (List.mem_append_right _ (hLI.2.2.2.1 71 List.mem_cons_self)) hLI.2.2.2.2.1 rfl) rfl rfl hl.1 rfl (lv_room (Nat.le_of_ble_eq_true rfl)) d_law_192 ⟨by show (cells + 1) + 0 ≤ 601024; omega, by show (slots + 6) + 0 ≤ 7293000; omega⟩) (fun r2 H locs f σ2 hfo hF hf hLI => ?_)
      obtain ⟨hR, h0, hnr⟩ := pt_join hex.1 hG hf.2
      rw [← hfo] at hgo
      have hq := iq_k hF (by decide) hf.1 hq
      clear hF
      have hq := hq
      refine lv_istore (lv' := [(6, .int (r2)), (5, .int (rr)), (4, .int (nI k)), (3, .ref o), (2, .ref (ad 71)), (1, .ref hP), (0, .ref b)]) hx hb d_law_195 hl (by decide) rfl (fun ls hl => ?_)
      refine lv_goto (tgt := 773) hx hb d_law_197 (by decide) ?_
      refine W.widen (k := cells + 16) (n := slots + 4144) (by omega) (by omega) ?_
      exact kk _ _ _ _ _ _ _ hLI hq hR (lv_sub hl [2, 3, 4, 5, 6] rfl)
    refine lv_if_eq (tgt := 191) hx hb d_law_184 (by decide) (fun c8 => ?_) (fun c8 => ?_)
    · refine lv_iconst (v := 0) hx hb d_law_191 (by decide) ?_
      exact hJ_38 0 (bz_0 c8)
    · refine lv_iconst (v := 1) hx hb d_law_187 (by decide) ?_
      refine lv_goto (tgt := 192) hx hb d_law_188 (by decide) ?_
      exact hJ_38 1 (bz_1 c8)
  refine lv_if_eq (tgt := 152) hx hb d_law_145 (by decide) (fun c8 => ?_) (fun c8 => ?_)
  · refine lv_iconst (v := 0) hx hb d_law_152 (by decide) ?_
    exact hJ_19 0 (bz_0 c8)
  · refine lv_iconst (v := 1) hx hb d_law_148 (by decide) ?_
    refine lv_goto (tgt := 153) hx hb d_law_149 (by decide) ?_
    exact hJ_19 1 (bz_1 c8)
set_option maxRecDepth 100000 in
set_option maxHeartbeats 4000000 in
theorem lt_serial {p : Program} {l : Launch} {e : Env} {s : State} {m : MethodId} {below : List Frame} {meth : Method} {c : Code} {D : va_G} {ca : Nat → ClassId} {b L : Nat} {xs : Nat → Int32} {o hP : Nat} {ad : Nat → Nat} {M : List Nat} {Q : State → Prop} (hx : p.tables.exec = Jvm.exec) (hb : c.code = code) (hml : c.maxLocals = 8) (hown : s.vm.findClass R_La = some m.cls) (hts : ∀ w ∈ wg, w.before #[Value.ref b] s = true) (hX : va_X b L xs s s.heap) (hbl : b < s.heap.size) (hE : ek3 (fun q => s.heap.size ≤ q) s) (hfl : l.flags = Jvm.pinnedFlags ++ [Jvm.noTraceFlag]) (hL : L ≤ 2561) {H : Heap} {locs : List Loc} {Q1 : List Nat} {f : Nat → va_E} {g : List (Int32 × Int32)} {σ : mq_S} {cells slots k z : Nat} {ls : Array Slot} (hk : k + 5 ≤ L) (hz : z ≤ 512) (hc : cells + 16 ≤ 601024) (hs : slots + 4144 ≤ 7293000) (hLI : LI D ca (fun q => s.heap.size ≤ q) s H locs o hP ad M Q1 f g σ) (hq : IQ z σ) (hR : RR g σ) (hl : lv_has ls 8 [(4, .int (nI k)), (3, .ref o), (2, .ref (ad 71)), (1, .ref hP), (0, .ref b)])
    (kk : ∀ (H : Heap) (locs : List Loc) (Q1 : List Nat) (f : Nat → va_E) (g : List (Int32 × Int32)) (σ : mq_S) (ls : Array Slot), LI D ca (fun q => s.heap.size ≤ q) s H locs o hP ad M Q1 f g σ → IQ (z + 1) σ → RR g σ → lv_has ls 8 [(4, .int (nI k)), (3, .ref o), (2, .ref (ad 71)), (1, .ref hP), (0, .ref b)] → W p l e room_1 s m #[Value.ref b] below meth c H locs (cells + 16) (slots + 4144) Q (F0 m 773 ls [])) :
    W p l e room_1 s m #[Value.ref b] below meth c H locs cells slots Q (F0 m 200 ls []) := by
  refine lv_aload_n hx hb d_law_200 rfl (lv_at hl 3 rfl) ?_
  refine lv_aload_n hx hb d_law_201 rfl (lv_at hl 4 rfl) ?_
  refine lv_iload hx hb d_law_202 (lv_at hl 0 rfl) ?_
  refine lv_iconst (v := 1) hx hb d_law_204 (by decide) ?_
  refine lv_iadd hx hb d_law_205 ?_
  refine lv_topi (fun x_1 e_2 => ?_)
  obtain rfl : x_1 = nI (k + 1) := by rw [e_2]; exact nI_add k 1
  refine va_sld hx hb hX hbl (Nat.not_le.mpr hbl) hLI.1.2.2.1 (vp_in_nI (by omega) (by omega)) d_law_206 ?_
  refine lv_topi (fun x_3 e_4 => ?_)
  refine lv_aload_n hx hb d_law_207 rfl (lv_at hl 4 rfl) ?_
  refine lv_iload hx hb d_law_208 (lv_at hl 0 rfl) ?_
  refine lv_iconst (v := 2) hx hb d_law_210 (by decide) ?_
  refine lv_iadd hx hb d_law_211 ?_
  refine lv_topi (fun x_5 e_6 => ?_)
  obtain rfl : x_5 = nI (k + 2) := by rw [e_6]; exact nI_add k 2
  refine va_sld hx hb hX hbl (Nat.not_le.mpr hbl) hLI.1.2.2.1 (vp_in_nI (by omega) (by omega)) d_law_212 ?_
  refine lv_topi (fun x_7 e_8 => ?_)
  refine lv_aload_n hx hb d_law_213 rfl (lv_at hl 4 rfl) ?_
  refine lv_iload hx hb d_law_214 (lv_at hl 0 rfl) ?_
  refine lv_iconst (v := 3) hx hb d_law_216 (by decide) ?_
  refine lv_iadd hx hb d_law_217 ?_
  refine lv_topi (fun x_9 e_10 => ?_)
  obtain rfl : x_9 = nI (k + 3) := by rw [e_10]; exact nI_add k 3
  refine va_sld hx hb hX hbl (Nat.not_le.mpr hbl) hLI.1.2.2.1 (vp_in_nI (by omega) (by omega)) d_law_218 ?_
  refine lv_topi (fun x_11 e_12 => ?_)
  refine lv_aload_n hx hb d_law_219 rfl (lv_at hl 4 rfl) ?_
  refine lv_iload hx hb d_law_220 (lv_at hl 0 rfl) ?_
  refine lv_iconst (v := 4) hx hb d_law_222 (by decide) ?_
  refine lv_iadd hx hb d_law_223 ?_
  refine lv_topi (fun x_13 e_14 => ?_)
  obtain rfl : x_13 = nI (k + 4) := by rw [e_14]; exact nI_add k 4
  refine va_sld hx hb hX hbl (Nat.not_le.mpr hbl) hLI.1.2.2.1 (vp_in_nI (by omega) (by omega)) d_law_224 ?_
  refine lv_topi (fun x_15 e_16 => ?_)
  have hw := hLI.2.1
  refine lw_w0 hLI (va_runSW (hd := [(0, 9, 12, 13)]) (bytes := b_La_serial) (maxL := 6) (ret := some .int) (n := 5) (As := [.ref hP, .int (x_3), .int (x_7), .int (x_11), .int (x_15)]) (rest := []) ⟨hx, hb, hml, hown, hts⟩ (c_La_serial l D ca Q1 f H.size o hP hw x_3 x_7 x_11 x_15 hfl) ⟨rfl, rfl, Nat.le_of_ble_eq_true rfl, Nat.le_of_ble_eq_true rfl⟩ (wg_cons hts tw_546) List.mem_cons_self (hts _ tw_0) (by decide) (by decide +kernel) (hts _ tw_544) (hts _ tw_545) (sd_preS3 (L := M) hLI.1 hE) rfl rfl hl.1 rfl (lv_room (Nat.le_of_ble_eq_true rfl)) d_law_225 ⟨by show cells + 1 ≤ 601024; omega, by show slots + 6 ≤ 7293000; omega⟩) (fun rr H locs Q1 f hex hLI => ?_)
  refine lv_istore (lv' := [(5, .int (rr)), (4, .int (nI k)), (3, .ref o), (2, .ref (ad 71)), (1, .ref hP), (0, .ref b)]) hx hb d_law_228 hl (by decide) rfl (fun ls hl => ?_)
  refine lv_aload_n hx hb d_law_230 rfl (lv_at hl 3 rfl) ?_
  refine lv_aload_n hx hb d_law_231 rfl (lv_at hl 5 rfl) ?_
  refine lv_iload hx hb d_law_232 (lv_at hl 1 rfl) ?_
  refine lv_iconst (v := 1) hx hb d_law_234 (by decide) ?_
  refine lv_iadd hx hb d_law_235 ?_
  refine lv_topi (fun x_17 e_18 => ?_)
  obtain rfl : x_17 = nI (k + 1) := by rw [e_18]; exact nI_add k 1
  refine va_sld hx hb hX hbl (Nat.not_le.mpr hbl) hLI.1.2.2.1 (vp_in_nI (by omega) (by omega)) d_law_236 ?_
  refine lv_topi (fun x_19 e_20 => ?_)
  refine lv_aload_n hx hb d_law_237 rfl (lv_at hl 5 rfl) ?_
  refine lv_iload hx hb d_law_238 (lv_at hl 1 rfl) ?_
  refine lv_iconst (v := 2) hx hb d_law_240 (by decide) ?_
  refine lv_iadd hx hb d_law_241 ?_
  refine lv_topi (fun x_21 e_22 => ?_)
  obtain rfl : x_21 = nI (k + 2) := by rw [e_22]; exact nI_add k 2
  refine va_sld hx hb hX hbl (Nat.not_le.mpr hbl) hLI.1.2.2.1 (vp_in_nI (by omega) (by omega)) d_law_242 ?_
  refine lv_topi (fun x_23 e_24 => ?_)
  refine lv_aload_n hx hb d_law_243 rfl (lv_at hl 5 rfl) ?_
  refine lv_iload hx hb d_law_244 (lv_at hl 1 rfl) ?_
  refine lv_iconst (v := 3) hx hb d_law_246 (by decide) ?_
  refine lv_iadd hx hb d_law_247 ?_
  refine lv_topi (fun x_25 e_26 => ?_)
  obtain rfl : x_25 = nI (k + 3) := by rw [e_26]; exact nI_add k 3
  refine va_sld hx hb hX hbl (Nat.not_le.mpr hbl) hLI.1.2.2.1 (vp_in_nI (by omega) (by omega)) d_law_248 ?_
  refine lv_topi (fun x_27 e_28 => ?_)
  refine lv_aload_n hx hb d_law_249 rfl (lv_at hl 5 rfl) ?_
  refine lv_iload hx hb d_law_250 (lv_at hl 1 rfl) ?_
  refine lv_iconst (v := 4) hx hb d_law_252 (by decide) ?_
  refine lv_iadd hx hb d_law_253 ?_
  refine lv_topi (fun x_29 e_30 => ?_)
  obtain rfl : x_29 = nI (k + 4) := by rw [e_30]; exact nI_add k 4
  refine va_sld hx hb hX hbl (Nat.not_le.mpr hbl) hLI.1.2.2.1 (vp_in_nI (by omega) (by omega)) d_law_254 ?_
  refine lv_topi (fun x_31 e_32 => ?_)
  refine lw_mv hLI (va_runV (As := [.int (x_19), .int (x_23), .int (x_27), .int (x_31)]) (rest := []) ⟨hx, hb, hml, hown, hts⟩ (c_Mo_serial l D ca ad M f H.size _ hLI.2.2 x_19 x_23 x_27 x_31 hq.1) (kv_Mo_serial hts rfl rfl (hts _ tw_1697) ⟨Nat.le_of_ble_eq_true rfl, Nat.le_of_ble_eq_true rfl⟩) (sd_preV (q := (R_Mo, F_Mo, 71)) (L := o :: Q1) (K := M) (sw_swap hLI.1) hE.1.1 (List.mem_append_right _ (hLI.2.2.2.1 71 List.mem_cons_self)) hLI.2.2.2.2.1 rfl) rfl rfl hl.1 rfl (lv_room (Nat.le_of_ble_eq_true rfl)) d_law_255 ⟨by show (cells + 1) + 0 ≤ 601024; omega, by show (slots + 6) + 0 ≤ 7293000; omega⟩) (fun H locs f σ2 hF hf hLI => ?_)
  have hR := RR_fr hF (by decide) hR
  have hq := iq_k hF (by decide) hf.1 hq
  clear hF
  have hq := hq
  refine lv_goto (tgt := 773) hx hb d_law_258 (by decide) ?_
  refine W.widen (k := cells + 16) (n := slots + 4144) (by omega) (by omega) ?_
  exact kk _ _ _ _ _ _ _ hLI hq hR (lv_sub hl [1, 2, 3, 4, 5] rfl)
set_option maxRecDepth 100000 in
set_option maxHeartbeats 4000000 in
theorem lt_change {p : Program} {l : Launch} {e : Env} {s : State} {m : MethodId} {below : List Frame} {meth : Method} {c : Code} {D : va_G} {ca : Nat → ClassId} {b L : Nat} {xs : Nat → Int32} {o hP : Nat} {ad : Nat → Nat} {M : List Nat} {Q : State → Prop} (hx : p.tables.exec = Jvm.exec) (hb : c.code = code) (hml : c.maxLocals = 8) (hown : s.vm.findClass R_La = some m.cls) (hts : ∀ w ∈ wg, w.before #[Value.ref b] s = true) (hX : va_X b L xs s s.heap) (hbl : b < s.heap.size) (hE : ek3 (fun q => s.heap.size ≤ q) s) (hfl : l.flags = Jvm.pinnedFlags ++ [Jvm.noTraceFlag]) (hL : L ≤ 2561) {H : Heap} {locs : List Loc} {Q1 : List Nat} {f : Nat → va_E} {g : List (Int32 × Int32)} {σ : mq_S} {cells slots k z : Nat} {ls : Array Slot} (hk : k + 5 ≤ L) (hz : z ≤ 512) (hc : cells + 16 ≤ 601024) (hs : slots + 4144 ≤ 7293000) (hLI : LI D ca (fun q => s.heap.size ≤ q) s H locs o hP ad M Q1 f g σ) (hq : IQ z σ) (hR : RR g σ) (hl : lv_has ls 8 [(4, .int (nI k)), (3, .ref o), (2, .ref (ad 71)), (1, .ref hP), (0, .ref b)])
    (kk : ∀ (H : Heap) (locs : List Loc) (Q1 : List Nat) (f : Nat → va_E) (g : List (Int32 × Int32)) (σ : mq_S) (ls : Array Slot), LI D ca (fun q => s.heap.size ≤ q) s H locs o hP ad M Q1 f g σ → IQ (z + 1) σ → RR g σ → lv_has ls 8 [(4, .int (nI k)), (3, .ref o), (2, .ref (ad 71)), (1, .ref hP), (0, .ref b)] → W p l e room_1 s m #[Value.ref b] below meth c H locs (cells + 16) (slots + 4144) Q (F0 m 773 ls [])) :
    W p l e room_1 s m #[Value.ref b] below meth c H locs cells slots Q (F0 m 261 ls []) := by
  refine lv_aload_n hx hb d_law_261 rfl (lv_at hl 3 rfl) ?_
  refine lv_aload_n hx hb d_law_262 rfl (lv_at hl 4 rfl) ?_
  refine lv_iload hx hb d_law_263 (lv_at hl 0 rfl) ?_
  refine lv_iconst (v := 1) hx hb d_law_265 (by decide) ?_
  refine lv_iadd hx hb d_law_266 ?_
  refine lv_topi (fun x_1 e_2 => ?_)
  obtain rfl : x_1 = nI (k + 1) := by rw [e_2]; exact nI_add k 1
  refine va_sld hx hb hX hbl (Nat.not_le.mpr hbl) hLI.1.2.2.1 (vp_in_nI (by omega) (by omega)) d_law_267 ?_
  refine lv_topi (fun x_3 e_4 => ?_)
  refine lv_aload_n hx hb d_law_268 rfl (lv_at hl 4 rfl) ?_
  refine lv_iload hx hb d_law_269 (lv_at hl 0 rfl) ?_
  refine lv_iconst (v := 2) hx hb d_law_271 (by decide) ?_
  refine lv_iadd hx hb d_law_272 ?_
  refine lv_topi (fun x_5 e_6 => ?_)
  obtain rfl : x_5 = nI (k + 2) := by rw [e_6]; exact nI_add k 2
  refine va_sld hx hb hX hbl (Nat.not_le.mpr hbl) hLI.1.2.2.1 (vp_in_nI (by omega) (by omega)) d_law_273 ?_
  refine lv_topi (fun x_7 e_8 => ?_)
  refine lv_aload_n hx hb d_law_274 rfl (lv_at hl 4 rfl) ?_
  refine lv_iload hx hb d_law_275 (lv_at hl 0 rfl) ?_
  refine lv_iconst (v := 3) hx hb d_law_277 (by decide) ?_
  refine lv_iadd hx hb d_law_278 ?_
  refine lv_topi (fun x_9 e_10 => ?_)
  obtain rfl : x_9 = nI (k + 3) := by rw [e_10]; exact nI_add k 3
  refine va_sld hx hb hX hbl (Nat.not_le.mpr hbl) hLI.1.2.2.1 (vp_in_nI (by omega) (by omega)) d_law_279 ?_
  refine lv_topi (fun x_11 e_12 => ?_)
  refine lv_aload_n hx hb d_law_280 rfl (lv_at hl 4 rfl) ?_
  refine lv_iload hx hb d_law_281 (lv_at hl 0 rfl) ?_
  refine lv_iconst (v := 4) hx hb d_law_283 (by decide) ?_
  refine lv_iadd hx hb d_law_284 ?_
  refine lv_topi (fun x_13 e_14 => ?_)
  obtain rfl : x_13 = nI (k + 4) := by rw [e_14]; exact nI_add k 4
  refine va_sld hx hb hX hbl (Nat.not_le.mpr hbl) hLI.1.2.2.1 (vp_in_nI (by omega) (by omega)) d_law_285 ?_
  refine lv_topi (fun x_15 e_16 => ?_)
  have hJ_19 : ∀ y_17 : Int32, y_17 = bz x_15 → W p l e room_1 s m #[Value.ref b] below meth c H locs cells slots Q (F0 m 294 ls [.int (y_17), .int (x_11), .int (x_7), .int (x_3), .ref hP]) := by
    intro y_17 py_18
    have hw := hLI.2.1
    refine lw_w0 hLI (va_runSW (hd := [(0, 9, 12, 13)]) (bytes := b_La_change) (maxL := 6) (ret := some .int) (n := 5) (As := [.ref hP, .int (x_3), .int (x_7), .int (x_11), .int (y_17)]) (rest := []) ⟨hx, hb, hml, hown, hts⟩ (c_La_change l D ca Q1 f H.size o hP hw x_3 x_7 x_11 y_17 (bz_01 py_18) hfl) ⟨rfl, rfl, Nat.le_of_ble_eq_true rfl, Nat.le_of_ble_eq_true rfl⟩ (wg_cons hts tw_582) List.mem_cons_self (hts _ tw_0) (by decide) (by decide +kernel) (hts _ tw_580) (hts _ tw_581) (sd_preS3 (L := M) hLI.1 hE) rfl rfl hl.1 rfl (lv_room (Nat.le_of_ble_eq_true rfl)) d_law_294 ⟨by show cells + 1 ≤ 601024; omega, by show slots + 6 ≤ 7293000; omega⟩) (fun rr H locs Q1 f hex hLI => ?_)
    refine lv_istore (lv' := [(5, .int (rr)), (4, .int (nI k)), (3, .ref o), (2, .ref (ad 71)), (1, .ref hP), (0, .ref b)]) hx hb d_law_297 hl (by decide) rfl (fun ls hl => ?_)
    refine lv_aload_n hx hb d_law_299 rfl (lv_at hl 3 rfl) ?_
    refine lv_aload_n hx hb d_law_300 rfl (lv_at hl 5 rfl) ?_
    refine lv_iload hx hb d_law_301 (lv_at hl 1 rfl) ?_
    refine lv_iconst (v := 1) hx hb d_law_303 (by decide) ?_
    refine lv_iadd hx hb d_law_304 ?_
    refine lv_topi (fun x_20 e_21 => ?_)
    obtain rfl : x_20 = nI (k + 1) := by rw [e_21]; exact nI_add k 1
    refine va_sld hx hb hX hbl (Nat.not_le.mpr hbl) hLI.1.2.2.1 (vp_in_nI (by omega) (by omega)) d_law_305 ?_
    refine lv_topi (fun x_22 e_23 => ?_)
    obtain rfl : x_3 = x_22 := e_4.trans e_23.symm
    refine lv_aload_n hx hb d_law_306 rfl (lv_at hl 5 rfl) ?_
    refine lv_iload hx hb d_law_307 (lv_at hl 1 rfl) ?_
    refine lv_iconst (v := 2) hx hb d_law_309 (by decide) ?_
    refine lv_iadd hx hb d_law_310 ?_
    refine lv_topi (fun x_24 e_25 => ?_)
    obtain rfl : x_24 = nI (k + 2) := by rw [e_25]; exact nI_add k 2
    refine va_sld hx hb hX hbl (Nat.not_le.mpr hbl) hLI.1.2.2.1 (vp_in_nI (by omega) (by omega)) d_law_311 ?_
    refine lv_topi (fun x_26 e_27 => ?_)
    obtain rfl : x_7 = x_26 := e_8.trans e_27.symm
    refine lv_aload_n hx hb d_law_312 rfl (lv_at hl 5 rfl) ?_
    refine lv_iload hx hb d_law_313 (lv_at hl 1 rfl) ?_
    refine lv_iconst (v := 3) hx hb d_law_315 (by decide) ?_
    refine lv_iadd hx hb d_law_316 ?_
    refine lv_topi (fun x_28 e_29 => ?_)
    obtain rfl : x_28 = nI (k + 3) := by rw [e_29]; exact nI_add k 3
    refine va_sld hx hb hX hbl (Nat.not_le.mpr hbl) hLI.1.2.2.1 (vp_in_nI (by omega) (by omega)) d_law_317 ?_
    refine lv_topi (fun x_30 e_31 => ?_)
    obtain rfl : x_11 = x_30 := e_12.trans e_31.symm
    refine lv_aload_n hx hb d_law_318 rfl (lv_at hl 5 rfl) ?_
    refine lv_iload hx hb d_law_319 (lv_at hl 1 rfl) ?_
    refine lv_iconst (v := 4) hx hb d_law_321 (by decide) ?_
    refine lv_iadd hx hb d_law_322 ?_
    refine lv_topi (fun x_32 e_33 => ?_)
    obtain rfl : x_32 = nI (k + 4) := by rw [e_33]; exact nI_add k 4
    refine va_sld hx hb hX hbl (Nat.not_le.mpr hbl) hLI.1.2.2.1 (vp_in_nI (by omega) (by omega)) d_law_323 ?_
    refine lv_topi (fun x_34 e_35 => ?_)
    obtain rfl : x_15 = x_34 := e_16.trans e_35.symm
    have hJ_38 : ∀ y_36 : Int32, y_36 = bz x_15 → W p l e room_1 s m #[Value.ref b] below meth c H locs (cells + 1) (slots + 6) Q (F0 m 332 ls [.int (y_36), .int (x_11), .int (x_7), .int (x_3), .ref (ad 71)]) := by
      intro y_36 py_37
      obtain rfl : y_17 = y_36 := py_18.trans py_37.symm
      refine lw_mv hLI (va_runV (As := [.int (x_3), .int (x_7), .int (x_11), .int (y_17)]) (rest := []) ⟨hx, hb, hml, hown, hts⟩ (c_Mo_change2 l D ca ad M f H.size _ hLI.2.2 x_3 x_7 x_11 y_17 (bz_01 py_18) hq.1 g hR) (kv_Mo_change hts rfl rfl (hts _ tw_1398) ⟨Nat.le_of_ble_eq_true rfl, Nat.le_of_ble_eq_true rfl⟩) (sd_preV (q := (R_Mo, F_Mo, 71)) (L := o :: Q1) (K := M) (sw_swap hLI.1) hE.1.1 (List.mem_append_right _ (hLI.2.2.2.1 71 List.mem_cons_self)) hLI.2.2.2.2.1 rfl) rfl rfl hl.1 rfl (lv_room (Nat.le_of_ble_eq_true rfl)) d_law_332 ⟨by show (cells + 1) + 0 ≤ 601024; omega, by show (slots + 6) + 0 ≤ 7293000; omega⟩) (fun H locs f σ2 hF hf hLI => ?_)
      have hR := RR_fr hF (by decide) hR
      have h0 := ch_join hex hf.2
      have hq := iq_k hF (by decide) hf.1 hq
      clear hF
      have hq := hq
      refine lv_aload_n hx hb d_law_335 rfl (lv_at hl 3 rfl) ?_
      refine lw_mr hLI (va_runV (As := []) (rest := []) ⟨hx, hb, hml, hown, hts⟩ (c_Mo_thrown2 l D ca ad M f H.size _ hLI.2.2 ) (kv_Mo_thrown hts rfl rfl (hts _ tw_1384) ⟨Nat.le_of_ble_eq_true rfl, Nat.le_of_ble_eq_true rfl⟩) (sd_preV (q := (R_Mo, F_Mo, 71)) (L := o :: Q1) (K := M) (sw_swap hLI.1) hE.1.1 (List.mem_append_right _ (hLI.2.2.2.1 71 List.mem_cons_self)) hLI.2.2.2.2.1 rfl) rfl rfl hl.1 rfl (lv_room (Nat.le_of_ble_eq_true rfl)) d_law_336 ⟨by show (cells + 1) + 0 ≤ 601024; omega, by show (slots + 6) + 0 ≤ 7293000; omega⟩) (fun tt H locs f hfo ht9 hLI => ?_)
      refine lv_iload hx hb d_law_339 (lv_at hl 0 rfl) ?_
      refine lv_icmp_eq (tgt := 346) hx hb d_law_341 (by decide) (fun _ => ?_) (fun c9 => absurd (ht9.trans h0) c9)
      refine lv_goto (tgt := 773) hx hb d_law_346 (by decide) ?_
      refine W.widen (k := cells + 16) (n := slots + 4144) (by omega) (by omega) ?_
      exact kk _ _ _ _ _ _ _ hLI hq hR (lv_sub hl [1, 2, 3, 4, 5] rfl)
    refine lv_if_eq (tgt := 331) hx hb d_law_324 (by decide) (fun c8 => ?_) (fun c8 => ?_)
    · refine lv_iconst (v := 0) hx hb d_law_331 (by decide) ?_
      exact hJ_38 0 (bz_0 c8)
    · refine lv_iconst (v := 1) hx hb d_law_327 (by decide) ?_
      refine lv_goto (tgt := 332) hx hb d_law_328 (by decide) ?_
      exact hJ_38 1 (bz_1 c8)
  refine lv_if_eq (tgt := 293) hx hb d_law_286 (by decide) (fun c8 => ?_) (fun c8 => ?_)
  · refine lv_iconst (v := 0) hx hb d_law_293 (by decide) ?_
    exact hJ_19 0 (bz_0 c8)
  · refine lv_iconst (v := 1) hx hb d_law_289 (by decide) ?_
    refine lv_goto (tgt := 294) hx hb d_law_290 (by decide) ?_
    exact hJ_19 1 (bz_1 c8)
set_option maxRecDepth 100000 in
set_option maxHeartbeats 4000000 in
theorem lt_clock {p : Program} {l : Launch} {e : Env} {s : State} {m : MethodId} {below : List Frame} {meth : Method} {c : Code} {D : va_G} {ca : Nat → ClassId} {b L : Nat} {xs : Nat → Int32} {o hP : Nat} {ad : Nat → Nat} {M : List Nat} {Q : State → Prop} (hx : p.tables.exec = Jvm.exec) (hb : c.code = code) (hml : c.maxLocals = 8) (hown : s.vm.findClass R_La = some m.cls) (hts : ∀ w ∈ wg, w.before #[Value.ref b] s = true) (hX : va_X b L xs s s.heap) (hbl : b < s.heap.size) (hE : ek3 (fun q => s.heap.size ≤ q) s) (hfl : l.flags = Jvm.pinnedFlags ++ [Jvm.noTraceFlag]) (hL : L ≤ 2561) {H : Heap} {locs : List Loc} {Q1 : List Nat} {f : Nat → va_E} {g : List (Int32 × Int32)} {σ : mq_S} {cells slots k z : Nat} {ls : Array Slot} (hk : k + 5 ≤ L) (hz : z ≤ 512) (hc : cells + 16 ≤ 601024) (hs : slots + 4144 ≤ 7293000) (hLI : LI D ca (fun q => s.heap.size ≤ q) s H locs o hP ad M Q1 f g σ) (hq : IQ z σ) (hR : RR g σ) (hl : lv_has ls 8 [(4, .int (nI k)), (3, .ref o), (2, .ref (ad 71)), (1, .ref hP), (0, .ref b)])
    (kk : ∀ (H : Heap) (locs : List Loc) (Q1 : List Nat) (f : Nat → va_E) (g : List (Int32 × Int32)) (σ : mq_S) (ls : Array Slot), LI D ca (fun q => s.heap.size ≤ q) s H locs o hP ad M Q1 f g σ → IQ (z + 1) σ → RR g σ → lv_has ls 8 [(4, .int (nI k)), (3, .ref o), (2, .ref (ad 71)), (1, .ref hP), (0, .ref b)] → W p l e room_1 s m #[Value.ref b] below meth c H locs (cells + 16) (slots + 4144) Q (F0 m 773 ls [])) :
    W p l e room_1 s m #[Value.ref b] below meth c H locs cells slots Q (F0 m 349 ls []) := by
  refine lv_aload_n hx hb d_law_349 rfl (lv_at hl 3 rfl) ?_
  refine lv_aload_n hx hb d_law_350 rfl (lv_at hl 4 rfl) ?_
  refine lv_iload hx hb d_law_351 (lv_at hl 0 rfl) ?_
  refine lv_iconst (v := 1) hx hb d_law_353 (by decide) ?_
  refine lv_iadd hx hb d_law_354 ?_
  refine lv_topi (fun x_1 e_2 => ?_)
  obtain rfl : x_1 = nI (k + 1) := by rw [e_2]; exact nI_add k 1
  refine va_sld hx hb hX hbl (Nat.not_le.mpr hbl) hLI.1.2.2.1 (vp_in_nI (by omega) (by omega)) d_law_355 ?_
  refine lv_topi (fun x_3 e_4 => ?_)
  refine lv_i2l hx hb d_law_356 rfl ?_
  refine lv_topl (fun x_5 e_6 => ?_)
  refine lv_bipush (v := 32) hx hb d_law_357 (by decide) ?_
  refine lv_lshl hx hb d_law_359 rfl ?_
  refine lv_topl (fun x_7 e_8 => ?_)
  refine lv_aload_n hx hb d_law_360 rfl (lv_at hl 4 rfl) ?_
  refine lv_iload hx hb d_law_361 (lv_at hl 0 rfl) ?_
  refine lv_iconst (v := 2) hx hb d_law_363 (by decide) ?_
  refine lv_iadd hx hb d_law_364 ?_
  refine lv_topi (fun x_9 e_10 => ?_)
  obtain rfl : x_9 = nI (k + 2) := by rw [e_10]; exact nI_add k 2
  refine va_sld hx hb hX hbl (Nat.not_le.mpr hbl) hLI.1.2.2.1 (vp_in_nI (by omega) (by omega)) d_law_365 ?_
  refine lv_topi (fun x_11 e_12 => ?_)
  refine lv_i2l hx hb d_law_366 rfl ?_
  refine lv_topl (fun x_13 e_14 => ?_)
  refine lv_ldc2 (v := 4294967295) hx hb hown (hts _ tw_1719) d_law_367 ?_
  refine lv_land hx hb d_law_370 ?_
  refine lv_topl (fun x_15 e_16 => ?_)
  refine lv_lor hx hb d_law_371 ?_
  refine lv_topl (fun x_17 e_18 => ?_)
  have hw := hLI.2.1
  refine lw_w0 hLI (va_runSW (hd := [(0, 5, 8, 13)]) (bytes := b_La_clock) (maxL := 4) (ret := some .int) (n := 2) (As := [.ref hP, .long (x_17)]) (rest := []) ⟨hx, hb, hml, hown, hts⟩ (c_La_clock l D ca Q1 f H.size o hP hw x_17 hfl) ⟨rfl, rfl, Nat.le_of_ble_eq_true rfl, Nat.le_of_ble_eq_true rfl⟩ (wg_cons hts tw_750) List.mem_cons_self (hts _ tw_0) (by decide) (by decide +kernel) (hts _ tw_748) (hts _ tw_749) (sd_preS3 (L := M) hLI.1 hE) rfl rfl hl.1 rfl (lv_room (Nat.le_of_ble_eq_true rfl)) d_law_372 ⟨by show cells + 1 ≤ 601024; omega, by show slots + 6 ≤ 7293000; omega⟩) (fun rr H locs Q1 f hex hLI => ?_)
  refine lv_istore (lv' := [(5, .int (rr)), (4, .int (nI k)), (3, .ref o), (2, .ref (ad 71)), (1, .ref hP), (0, .ref b)]) hx hb d_law_375 hl (by decide) rfl (fun ls hl => ?_)
  refine lv_aload_n hx hb d_law_377 rfl (lv_at hl 3 rfl) ?_
  refine lv_aload_n hx hb d_law_378 rfl (lv_at hl 5 rfl) ?_
  refine lv_iload hx hb d_law_379 (lv_at hl 1 rfl) ?_
  refine lv_iconst (v := 1) hx hb d_law_381 (by decide) ?_
  refine lv_iadd hx hb d_law_382 ?_
  refine lv_topi (fun x_19 e_20 => ?_)
  obtain rfl : x_19 = nI (k + 1) := by rw [e_20]; exact nI_add k 1
  refine va_sld hx hb hX hbl (Nat.not_le.mpr hbl) hLI.1.2.2.1 (vp_in_nI (by omega) (by omega)) d_law_383 ?_
  refine lv_topi (fun x_21 e_22 => ?_)
  refine lv_i2l hx hb d_law_384 rfl ?_
  refine lv_topl (fun x_23 e_24 => ?_)
  refine lv_bipush (v := 32) hx hb d_law_385 (by decide) ?_
  refine lv_lshl hx hb d_law_387 rfl ?_
  refine lv_topl (fun x_25 e_26 => ?_)
  refine lv_aload_n hx hb d_law_388 rfl (lv_at hl 5 rfl) ?_
  refine lv_iload hx hb d_law_389 (lv_at hl 1 rfl) ?_
  refine lv_iconst (v := 2) hx hb d_law_391 (by decide) ?_
  refine lv_iadd hx hb d_law_392 ?_
  refine lv_topi (fun x_27 e_28 => ?_)
  obtain rfl : x_27 = nI (k + 2) := by rw [e_28]; exact nI_add k 2
  refine va_sld hx hb hX hbl (Nat.not_le.mpr hbl) hLI.1.2.2.1 (vp_in_nI (by omega) (by omega)) d_law_393 ?_
  refine lv_topi (fun x_29 e_30 => ?_)
  refine lv_i2l hx hb d_law_394 rfl ?_
  refine lv_topl (fun x_31 e_32 => ?_)
  refine lv_ldc2 (v := 4294967295) hx hb hown (hts _ tw_1719) d_law_395 ?_
  refine lv_land hx hb d_law_398 ?_
  refine lv_topl (fun x_33 e_34 => ?_)
  refine lv_lor hx hb d_law_399 ?_
  refine lv_topl (fun x_35 e_36 => ?_)
  refine lw_mv hLI (va_runV (As := [.long (x_35)]) (rest := []) ⟨hx, hb, hml, hown, hts⟩ (c_Mo_clock l D ca ad M f H.size _ hLI.2.2 x_35) (kv_Mo_clock hts rfl rfl (hts _ tw_1536) ⟨Nat.le_of_ble_eq_true rfl, Nat.le_of_ble_eq_true rfl⟩) (sd_preV (q := (R_Mo, F_Mo, 71)) (L := o :: Q1) (K := M) (sw_swap hLI.1) hE.1.1 (List.mem_append_right _ (hLI.2.2.2.1 71 List.mem_cons_self)) hLI.2.2.2.2.1 rfl) rfl rfl hl.1 rfl (lv_room (Nat.le_of_ble_eq_true rfl)) d_law_400 ⟨by show (cells + 1) + 0 ≤ 601024; omega, by show (slots + 6) + 0 ≤ 7293000; omega⟩) (fun H locs f σ2 hF hf hLI => ?_)
  have hR := RR_fr hF (by decide) hR
  have hq := iq_f hF (by decide) (by decide) hq
  clear hF
  have hq := hq
  refine lv_goto (tgt := 773) hx hb d_law_403 (by decide) ?_
  refine W.widen (k := cells + 16) (n := slots + 4144) (by omega) (by omega) ?_
  exact kk _ _ _ _ _ _ _ hLI hq hR (lv_sub hl [1, 2, 3, 4, 5] rfl)
set_option maxRecDepth 100000 in
set_option maxHeartbeats 4000000 in
theorem lt_advance {p : Program} {l : Launch} {e : Env} {s : State} {m : MethodId} {below : List Frame} {meth : Method} {c : Code} {D : va_G} {ca : Nat → ClassId} {b L : Nat} {xs : Nat → Int32} {o hP : Nat} {ad : Nat → Nat} {M : List Nat} {Q : State → Prop} (hx : p.tables.exec = Jvm.exec) (hb : c.code = code) (hml : c.maxLocals = 8) (hown : s.vm.findClass R_La = some m.cls) (hts : ∀ w ∈ wg, w.before #[Value.ref b] s = true) (hX : va_X b L xs s s.heap) (hbl : b < s.heap.size) (hE : ek3 (fun q => s.heap.size ≤ q) s) (hfl : l.flags = Jvm.pinnedFlags ++ [Jvm.noTraceFlag]) (hL : L ≤ 2561) {H : Heap} {locs : List Loc} {Q1 : List Nat} {f : Nat → va_E} {g : List (Int32 × Int32)} {σ : mq_S} {cells slots k z : Nat} {ls : Array Slot} (hk : k + 5 ≤ L) (hz : z ≤ 512) (hc : cells + 16 ≤ 601024) (hs : slots + 4144 ≤ 7293000) (hLI : LI D ca (fun q => s.heap.size ≤ q) s H locs o hP ad M Q1 f g σ) (hq : IQ z σ) (hR : RR g σ) (hl : lv_has ls 8 [(4, .int (nI k)), (3, .ref o), (2, .ref (ad 71)), (1, .ref hP), (0, .ref b)])
    (kk : ∀ (H : Heap) (locs : List Loc) (Q1 : List Nat) (f : Nat → va_E) (g : List (Int32 × Int32)) (σ : mq_S) (ls : Array Slot), LI D ca (fun q => s.heap.size ≤ q) s H locs o hP ad M Q1 f g σ → IQ (z + 1) σ → RR g σ → lv_has ls 8 [(4, .int (nI k)), (3, .ref o), (2, .ref (ad 71)), (1, .ref hP), (0, .ref b)] → W p l e room_1 s m #[Value.ref b] below meth c H locs (cells + 16) (slots + 4144) Q (F0 m 773 ls [])) :
    W p l e room_1 s m #[Value.ref b] below meth c H locs cells slots Q (F0 m 406 ls []) := by
  refine lv_aload_n hx hb d_law_406 rfl (lv_at hl 3 rfl) ?_
  refine lv_aload_n hx hb d_law_407 rfl (lv_at hl 4 rfl) ?_
  refine lv_iload hx hb d_law_408 (lv_at hl 0 rfl) ?_
  refine lv_iconst (v := 1) hx hb d_law_410 (by decide) ?_
  refine lv_iadd hx hb d_law_411 ?_
  refine lv_topi (fun x_1 e_2 => ?_)
  obtain rfl : x_1 = nI (k + 1) := by rw [e_2]; exact nI_add k 1
  refine va_sld hx hb hX hbl (Nat.not_le.mpr hbl) hLI.1.2.2.1 (vp_in_nI (by omega) (by omega)) d_law_412 ?_
  refine lv_topi (fun x_3 e_4 => ?_)
  refine lv_aload_n hx hb d_law_413 rfl (lv_at hl 1 rfl) ?_
  have hw := hLI.2.1
  refine lw_w0 hLI (va_runSW (hd := [(0, 9, 12, 13)]) (bytes := b_La_advance) (maxL := 4) (ret := some .int) (n := 3) (As := [.ref hP, .int (x_3), .ref o]) (rest := []) ⟨hx, hb, hml, hown, hts⟩ (c_La_advance l D ca Q1 f H.size o hP hw x_3 hfl) ⟨rfl, rfl, Nat.le_of_ble_eq_true rfl, Nat.le_of_ble_eq_true rfl⟩ (wg_cons hts tw_759) List.mem_cons_self (hts _ tw_0) (by decide) (by decide +kernel) (hts _ tw_757) (hts _ tw_758) (sd_preS3 (L := M) hLI.1 hE) rfl rfl hl.1 rfl (lv_room (Nat.le_of_ble_eq_true rfl)) d_law_414 ⟨by show cells + 1 ≤ 601024; omega, by show slots + 6 ≤ 7293000; omega⟩) (fun rr H locs Q1 f hex hLI => ?_)
  refine lv_istore (lv' := [(5, .int (rr)), (4, .int (nI k)), (3, .ref o), (2, .ref (ad 71)), (1, .ref hP), (0, .ref b)]) hx hb d_law_417 hl (by decide) rfl (fun ls hl => ?_)
  refine lv_aload_n hx hb d_law_419 rfl (lv_at hl 3 rfl) ?_
  refine lv_aload_n hx hb d_law_420 rfl (lv_at hl 5 rfl) ?_
  refine lv_iload hx hb d_law_421 (lv_at hl 1 rfl) ?_
  refine lv_iconst (v := 1) hx hb d_law_423 (by decide) ?_
  refine lv_iadd hx hb d_law_424 ?_
  refine lv_topi (fun x_5 e_6 => ?_)
  obtain rfl : x_5 = nI (k + 1) := by rw [e_6]; exact nI_add k 1
  refine va_sld hx hb hX hbl (Nat.not_le.mpr hbl) hLI.1.2.2.1 (vp_in_nI (by omega) (by omega)) d_law_425 ?_
  refine lv_topi (fun x_7 e_8 => ?_)
  refine lw_mi hLI (va_runV (As := [.int (x_7)]) (rest := []) ⟨hx, hb, hml, hown, hts⟩ (c_Mo_advance l D ca ad M f H.size _ hLI.2.2 x_7 hq.1) (kv_Mo_advance hts rfl rfl (hts _ tw_1554) ⟨Nat.le_of_ble_eq_true rfl, Nat.le_of_ble_eq_true rfl⟩) (sd_preV (q := (R_Mo, F_Mo, 71)) (L := o :: Q1) (K := M) (sw_swap hLI.1) hE.1.1 (List.mem_append_right _ (hLI.2.2.2.1 71 List.mem_cons_self)) hLI.2.2.2.2.1 rfl) rfl rfl hl.1 rfl (lv_room (Nat.le_of_ble_eq_true rfl)) d_law_426 ⟨by show (cells + 1) + 0 ≤ 601024; omega, by show (slots + 6) + 0 ≤ 7293000; omega⟩) (fun r2 H locs f σ2 hfo hF hf hLI => ?_)
  have hR := RR_fr hF (by decide) hR
  have hq := iq_k hF (by decide) hf.1 hq
  clear hF
  have hq := hq
  refine lv_istore (lv' := [(6, .int (r2)), (5, .int (rr)), (4, .int (nI k)), (3, .ref o), (2, .ref (ad 71)), (1, .ref hP), (0, .ref b)]) hx hb d_law_429 hl (by decide) rfl (fun ls hl => ?_)
  refine lv_goto (tgt := 773) hx hb d_law_431 (by decide) ?_
  refine W.widen (k := cells + 16) (n := slots + 4144) (by omega) (by omega) ?_
  exact kk _ _ _ _ _ _ _ hLI hq hR (lv_sub hl [2, 3, 4, 5, 6] rfl)
set_option maxRecDepth 100000 in
set_option maxHeartbeats 4000000 in
theorem lt_open {p : Program} {l : Launch} {e : Env} {s : State} {m : MethodId} {below : List Frame} {meth : Method} {c : Code} {D : va_G} {ca : Nat → ClassId} {b L : Nat} {xs : Nat → Int32} {o hP : Nat} {ad : Nat → Nat} {M : List Nat} {Q : State → Prop} (hx : p.tables.exec = Jvm.exec) (hb : c.code = code) (hml : c.maxLocals = 8) (hown : s.vm.findClass R_La = some m.cls) (hts : ∀ w ∈ wg, w.before #[Value.ref b] s = true) (hX : va_X b L xs s s.heap) (hbl : b < s.heap.size) (hE : ek3 (fun q => s.heap.size ≤ q) s) (hfl : l.flags = Jvm.pinnedFlags ++ [Jvm.noTraceFlag]) (hL : L ≤ 2561) {H : Heap} {locs : List Loc} {Q1 : List Nat} {f : Nat → va_E} {g : List (Int32 × Int32)} {σ : mq_S} {cells slots k z : Nat} {ls : Array Slot} (hk : k + 5 ≤ L) (hz : z ≤ 512) (hc : cells + 16 ≤ 601024) (hs : slots + 4144 ≤ 7293000) (hLI : LI D ca (fun q => s.heap.size ≤ q) s H locs o hP ad M Q1 f g σ) (hq : IQ z σ) (hR : RR g σ) (hl : lv_has ls 8 [(4, .int (nI k)), (3, .ref o), (2, .ref (ad 71)), (1, .ref hP), (0, .ref b)])
    (kk : ∀ (H : Heap) (locs : List Loc) (Q1 : List Nat) (f : Nat → va_E) (g : List (Int32 × Int32)) (σ : mq_S) (ls : Array Slot), LI D ca (fun q => s.heap.size ≤ q) s H locs o hP ad M Q1 f g σ → IQ (z + 1) σ → RR g σ → lv_has ls 8 [(4, .int (nI k)), (3, .ref o), (2, .ref (ad 71)), (1, .ref hP), (0, .ref b)] → W p l e room_1 s m #[Value.ref b] below meth c H locs (cells + 16) (slots + 4144) Q (F0 m 773 ls [])) :
    W p l e room_1 s m #[Value.ref b] below meth c H locs cells slots Q (F0 m 434 ls []) := by
  refine lv_aload_n hx hb d_law_434 rfl (lv_at hl 3 rfl) ?_
  refine lv_aload_n hx hb d_law_435 rfl (lv_at hl 4 rfl) ?_
  refine lv_iload hx hb d_law_436 (lv_at hl 0 rfl) ?_
  refine lv_iconst (v := 1) hx hb d_law_438 (by decide) ?_
  refine lv_iadd hx hb d_law_439 ?_
  refine lv_topi (fun x_1 e_2 => ?_)
  obtain rfl : x_1 = nI (k + 1) := by rw [e_2]; exact nI_add k 1
  refine va_sld hx hb hX hbl (Nat.not_le.mpr hbl) hLI.1.2.2.1 (vp_in_nI (by omega) (by omega)) d_law_440 ?_
  refine lv_topi (fun x_3 e_4 => ?_)
  have hw := hLI.2.1
  refine lw_w0 hLI (va_runSW (hd := [(0, 5, 8, 13), (0, 5, 11, 15)]) (bytes := b_La_open) (maxL := 3) (ret := some .int) (n := 2) (As := [.ref hP, .int (x_3)]) (rest := []) ⟨hx, hb, hml, hown, hts⟩ (c_La_open l D ca Q1 f H.size o hP hw x_3 hfl) ⟨rfl, rfl, Nat.le_of_ble_eq_true rfl, Nat.le_of_ble_eq_true rfl⟩ (wg_cons hts tw_805) List.mem_cons_self (hts _ tw_0) (by decide) (by decide +kernel) (hts _ tw_803) (hts _ tw_804) (sd_preS3 (L := M) hLI.1 hE) rfl rfl hl.1 rfl (lv_room (Nat.le_of_ble_eq_true rfl)) d_law_441 ⟨by show cells + 1 ≤ 601024; omega, by show slots + 6 ≤ 7293000; omega⟩) (fun rr H locs Q1 f hex hLI => ?_)
  refine lv_istore (lv' := [(5, .int (rr)), (4, .int (nI k)), (3, .ref o), (2, .ref (ad 71)), (1, .ref hP), (0, .ref b)]) hx hb d_law_444 hl (by decide) rfl (fun ls hl => ?_)
  refine lv_aload_n hx hb d_law_446 rfl (lv_at hl 3 rfl) ?_
  refine lv_aload_n hx hb d_law_447 rfl (lv_at hl 5 rfl) ?_
  refine lv_iload hx hb d_law_448 (lv_at hl 1 rfl) ?_
  refine lv_iconst (v := 1) hx hb d_law_450 (by decide) ?_
  refine lv_iadd hx hb d_law_451 ?_
  refine lv_topi (fun x_5 e_6 => ?_)
  obtain rfl : x_5 = nI (k + 1) := by rw [e_6]; exact nI_add k 1
  refine va_sld hx hb hX hbl (Nat.not_le.mpr hbl) hLI.1.2.2.1 (vp_in_nI (by omega) (by omega)) d_law_452 ?_
  refine lv_topi (fun x_7 e_8 => ?_)
  refine lw_mv hLI (va_runV (As := [.int (x_7)]) (rest := []) ⟨hx, hb, hml, hown, hts⟩ (c_Mo_open l D ca ad M f H.size _ hLI.2.2 x_7) (kv_Mo_open hts rfl rfl (hts _ tw_1545) ⟨Nat.le_of_ble_eq_true rfl, Nat.le_of_ble_eq_true rfl⟩) (sd_preV (q := (R_Mo, F_Mo, 71)) (L := o :: Q1) (K := M) (sw_swap hLI.1) hE.1.1 (List.mem_append_right _ (hLI.2.2.2.1 71 List.mem_cons_self)) hLI.2.2.2.2.1 rfl) rfl rfl hl.1 rfl (lv_room (Nat.le_of_ble_eq_true rfl)) d_law_453 ⟨by show (cells + 1) + 0 ≤ 601024; omega, by show (slots + 6) + 0 ≤ 7293000; omega⟩) (fun H locs f σ2 hF hf hLI => ?_)
  have hR := RR_fr hF (by decide) hR
  have hq := iq_f hF (by decide) (by decide) hq
  clear hF
  have hq := hq
  refine lv_goto (tgt := 773) hx hb d_law_456 (by decide) ?_
  refine W.widen (k := cells + 16) (n := slots + 4144) (by omega) (by omega) ?_
  exact kk _ _ _ _ _ _ _ hLI hq hR (lv_sub hl [1, 2, 3, 4, 5] rfl)
set_option maxRecDepth 100000 in
set_option maxHeartbeats 4000000 in
theorem lt_close {p : Program} {l : Launch} {e : Env} {s : State} {m : MethodId} {below : List Frame} {meth : Method} {c : Code} {D : va_G} {ca : Nat → ClassId} {b L : Nat} {xs : Nat → Int32} {o hP : Nat} {ad : Nat → Nat} {M : List Nat} {Q : State → Prop} (hx : p.tables.exec = Jvm.exec) (hb : c.code = code) (hml : c.maxLocals = 8) (hown : s.vm.findClass R_La = some m.cls) (hts : ∀ w ∈ wg, w.before #[Value.ref b] s = true) (hX : va_X b L xs s s.heap) (hbl : b < s.heap.size) (hE : ek3 (fun q => s.heap.size ≤ q) s) (hfl : l.flags = Jvm.pinnedFlags ++ [Jvm.noTraceFlag]) (hL : L ≤ 2561) {H : Heap} {locs : List Loc} {Q1 : List Nat} {f : Nat → va_E} {g : List (Int32 × Int32)} {σ : mq_S} {cells slots k z : Nat} {ls : Array Slot} (hk : k + 5 ≤ L) (hz : z ≤ 512) (hc : cells + 16 ≤ 601024) (hs : slots + 4144 ≤ 7293000) (hLI : LI D ca (fun q => s.heap.size ≤ q) s H locs o hP ad M Q1 f g σ) (hq : IQ z σ) (hR : RR g σ) (hl : lv_has ls 8 [(4, .int (nI k)), (3, .ref o), (2, .ref (ad 71)), (1, .ref hP), (0, .ref b)])
    (kk : ∀ (H : Heap) (locs : List Loc) (Q1 : List Nat) (f : Nat → va_E) (g : List (Int32 × Int32)) (σ : mq_S) (ls : Array Slot), LI D ca (fun q => s.heap.size ≤ q) s H locs o hP ad M Q1 f g σ → IQ (z + 1) σ → RR g σ → lv_has ls 8 [(4, .int (nI k)), (3, .ref o), (2, .ref (ad 71)), (1, .ref hP), (0, .ref b)] → W p l e room_1 s m #[Value.ref b] below meth c H locs (cells + 16) (slots + 4144) Q (F0 m 773 ls [])) :
    W p l e room_1 s m #[Value.ref b] below meth c H locs cells slots Q (F0 m 459 ls []) := by
  refine lv_aload_n hx hb d_law_459 rfl (lv_at hl 3 rfl) ?_
  refine lv_aload_n hx hb d_law_460 rfl (lv_at hl 4 rfl) ?_
  refine lv_iload hx hb d_law_461 (lv_at hl 0 rfl) ?_
  refine lv_iconst (v := 1) hx hb d_law_463 (by decide) ?_
  refine lv_iadd hx hb d_law_464 ?_
  refine lv_topi (fun x_1 e_2 => ?_)
  obtain rfl : x_1 = nI (k + 1) := by rw [e_2]; exact nI_add k 1
  refine va_sld hx hb hX hbl (Nat.not_le.mpr hbl) hLI.1.2.2.1 (vp_in_nI (by omega) (by omega)) d_law_465 ?_
  refine lv_topi (fun x_3 e_4 => ?_)
  have hw := hLI.2.1
  refine lw_w0 hLI (va_runSW (hd := [(0, 5, 8, 13), (0, 5, 11, 15)]) (bytes := b_La_close) (maxL := 3) (ret := some .int) (n := 2) (As := [.ref hP, .int (x_3)]) (rest := []) ⟨hx, hb, hml, hown, hts⟩ (c_La_close l D ca Q1 f H.size o hP hw x_3 hfl) ⟨rfl, rfl, Nat.le_of_ble_eq_true rfl, Nat.le_of_ble_eq_true rfl⟩ (wg_cons hts tw_814) List.mem_cons_self (hts _ tw_0) (by decide) (by decide +kernel) (hts _ tw_812) (hts _ tw_813) (sd_preS3 (L := M) hLI.1 hE) rfl rfl hl.1 rfl (lv_room (Nat.le_of_ble_eq_true rfl)) d_law_466 ⟨by show cells + 1 ≤ 601024; omega, by show slots + 6 ≤ 7293000; omega⟩) (fun rr H locs Q1 f hex hLI => ?_)
  refine lv_istore (lv' := [(5, .int (rr)), (4, .int (nI k)), (3, .ref o), (2, .ref (ad 71)), (1, .ref hP), (0, .ref b)]) hx hb d_law_469 hl (by decide) rfl (fun ls hl => ?_)
  refine lv_aload_n hx hb d_law_471 rfl (lv_at hl 3 rfl) ?_
  refine lv_aload_n hx hb d_law_472 rfl (lv_at hl 5 rfl) ?_
  refine lv_iload hx hb d_law_473 (lv_at hl 1 rfl) ?_
  refine lv_iconst (v := 1) hx hb d_law_475 (by decide) ?_
  refine lv_iadd hx hb d_law_476 ?_
  refine lv_topi (fun x_5 e_6 => ?_)
  obtain rfl : x_5 = nI (k + 1) := by rw [e_6]; exact nI_add k 1
  refine va_sld hx hb hX hbl (Nat.not_le.mpr hbl) hLI.1.2.2.1 (vp_in_nI (by omega) (by omega)) d_law_477 ?_
  refine lv_topi (fun x_7 e_8 => ?_)
  refine lw_mv hLI (va_runV (As := [.int (x_7)]) (rest := []) ⟨hx, hb, hml, hown, hts⟩ (c_Mo_close l D ca ad M f H.size _ hLI.2.2 x_7 hq.1) (kv_Mo_close hts rfl rfl (hts _ tw_1550) ⟨Nat.le_of_ble_eq_true rfl, Nat.le_of_ble_eq_true rfl⟩) (sd_preV (q := (R_Mo, F_Mo, 71)) (L := o :: Q1) (K := M) (sw_swap hLI.1) hE.1.1 (List.mem_append_right _ (hLI.2.2.2.1 71 List.mem_cons_self)) hLI.2.2.2.2.1 rfl) rfl rfl hl.1 rfl (lv_room (Nat.le_of_ble_eq_true rfl)) d_law_478 ⟨by show (cells + 1) + 0 ≤ 601024; omega, by show (slots + 6) + 0 ≤ 7293000; omega⟩) (fun H locs f σ2 hF hf hLI => ?_)
  have hR := RR_fr hF (by decide) hR
  have hq := iq_k hF (by decide) hf.1 hq
  clear hF
  have hq := hq
  refine lv_goto (tgt := 773) hx hb d_law_481 (by decide) ?_
  refine W.widen (k := cells + 16) (n := slots + 4144) (by omega) (by omega) ?_
  exact kk _ _ _ _ _ _ _ hLI hq hR (lv_sub hl [1, 2, 3, 4, 5] rfl)
set_option maxRecDepth 100000 in
set_option maxHeartbeats 4000000 in
theorem lt_receive {p : Program} {l : Launch} {e : Env} {s : State} {m : MethodId} {below : List Frame} {meth : Method} {c : Code} {D : va_G} {ca : Nat → ClassId} {b L : Nat} {xs : Nat → Int32} {o hP : Nat} {ad : Nat → Nat} {M : List Nat} {Q : State → Prop} (hx : p.tables.exec = Jvm.exec) (hb : c.code = code) (hml : c.maxLocals = 8) (hown : s.vm.findClass R_La = some m.cls) (hts : ∀ w ∈ wg, w.before #[Value.ref b] s = true) (hX : va_X b L xs s s.heap) (hbl : b < s.heap.size) (hE : ek3 (fun q => s.heap.size ≤ q) s) (hfl : l.flags = Jvm.pinnedFlags ++ [Jvm.noTraceFlag]) (hL : L ≤ 2561) {H : Heap} {locs : List Loc} {Q1 : List Nat} {f : Nat → va_E} {g : List (Int32 × Int32)} {σ : mq_S} {cells slots k z : Nat} {ls : Array Slot} (hk : k + 5 ≤ L) (hz : z ≤ 512) (hc : cells + 16 ≤ 601024) (hs : slots + 4144 ≤ 7293000) (hLI : LI D ca (fun q => s.heap.size ≤ q) s H locs o hP ad M Q1 f g σ) (hq : IQ z σ) (hR : RR g σ) (hl : lv_has ls 8 [(4, .int (nI k)), (3, .ref o), (2, .ref (ad 71)), (1, .ref hP), (0, .ref b)])
    (kk : ∀ (H : Heap) (locs : List Loc) (Q1 : List Nat) (f : Nat → va_E) (g : List (Int32 × Int32)) (σ : mq_S) (ls : Array Slot), LI D ca (fun q => s.heap.size ≤ q) s H locs o hP ad M Q1 f g σ → IQ (z + 1) σ → RR g σ → lv_has ls 8 [(4, .int (nI k)), (3, .ref o), (2, .ref (ad 71)), (1, .ref hP), (0, .ref b)] → W p l e room_1 s m #[Value.ref b] below meth c H locs (cells + 16) (slots + 4144) Q (F0 m 773 ls [])) :
    W p l e room_1 s m #[Value.ref b] below meth c H locs cells slots Q (F0 m 484 ls []) := by
  refine lv_aload_n hx hb d_law_484 rfl (lv_at hl 3 rfl) ?_
  refine lv_aload_n hx hb d_law_485 rfl (lv_at hl 4 rfl) ?_
  refine lv_iload hx hb d_law_486 (lv_at hl 0 rfl) ?_
  refine lv_iconst (v := 1) hx hb d_law_488 (by decide) ?_
  refine lv_iadd hx hb d_law_489 ?_
  refine lv_topi (fun x_1 e_2 => ?_)
  obtain rfl : x_1 = nI (k + 1) := by rw [e_2]; exact nI_add k 1
  refine va_sld hx hb hX hbl (Nat.not_le.mpr hbl) hLI.1.2.2.1 (vp_in_nI (by omega) (by omega)) d_law_490 ?_
  refine lv_topi (fun x_3 e_4 => ?_)
  refine lv_aload_n hx hb d_law_491 rfl (lv_at hl 4 rfl) ?_
  refine lv_iload hx hb d_law_492 (lv_at hl 0 rfl) ?_
  refine lv_iconst (v := 2) hx hb d_law_494 (by decide) ?_
  refine lv_iadd hx hb d_law_495 ?_
  refine lv_topi (fun x_5 e_6 => ?_)
  obtain rfl : x_5 = nI (k + 2) := by rw [e_6]; exact nI_add k 2
  refine va_sld hx hb hX hbl (Nat.not_le.mpr hbl) hLI.1.2.2.1 (vp_in_nI (by omega) (by omega)) d_law_496 ?_
  refine lv_topi (fun x_7 e_8 => ?_)
  refine lv_i2l hx hb d_law_497 rfl ?_
  refine lv_topl (fun x_9 e_10 => ?_)
  refine lv_bipush (v := 32) hx hb d_law_498 (by decide) ?_
  refine lv_lshl hx hb d_law_500 rfl ?_
  refine lv_topl (fun x_11 e_12 => ?_)
  refine lv_aload_n hx hb d_law_501 rfl (lv_at hl 4 rfl) ?_
  refine lv_iload hx hb d_law_502 (lv_at hl 0 rfl) ?_
  refine lv_iconst (v := 3) hx hb d_law_504 (by decide) ?_
  refine lv_iadd hx hb d_law_505 ?_
  refine lv_topi (fun x_13 e_14 => ?_)
  obtain rfl : x_13 = nI (k + 3) := by rw [e_14]; exact nI_add k 3
  refine va_sld hx hb hX hbl (Nat.not_le.mpr hbl) hLI.1.2.2.1 (vp_in_nI (by omega) (by omega)) d_law_506 ?_
  refine lv_topi (fun x_15 e_16 => ?_)
  refine lv_i2l hx hb d_law_507 rfl ?_
  refine lv_topl (fun x_17 e_18 => ?_)
  refine lv_ldc2 (v := 4294967295) hx hb hown (hts _ tw_1719) d_law_508 ?_
  refine lv_land hx hb d_law_511 ?_
  refine lv_topl (fun x_19 e_20 => ?_)
  refine lv_lor hx hb d_law_512 ?_
  refine lv_topl (fun x_21 e_22 => ?_)
  refine lv_aload_n hx hb d_law_513 rfl (lv_at hl 4 rfl) ?_
  refine lv_iload hx hb d_law_514 (lv_at hl 0 rfl) ?_
  refine lv_iconst (v := 4) hx hb d_law_516 (by decide) ?_
  refine lv_iadd hx hb d_law_517 ?_
  refine lv_topi (fun x_23 e_24 => ?_)
  obtain rfl : x_23 = nI (k + 4) := by rw [e_24]; exact nI_add k 4
  refine va_sld hx hb hX hbl (Nat.not_le.mpr hbl) hLI.1.2.2.1 (vp_in_nI (by omega) (by omega)) d_law_518 ?_
  refine lv_topi (fun x_25 e_26 => ?_)
  refine lv_aload_n hx hb d_law_519 rfl (lv_at hl 1 rfl) ?_
  have hw := hLI.2.1
  refine lw_w0 hLI (va_runSW (hd := [(0, 13, 16, 13), (0, 13, 20, 15)]) (bytes := b_La_receive) (maxL := 7) (ret := some .int) (n := 5) (As := [.ref hP, .int (x_3), .long (x_21), .int (x_25), .ref o]) (rest := []) ⟨hx, hb, hml, hown, hts⟩ (c_La_receive l D ca Q1 f H.size o hP hw x_3 x_21 x_25 hfl) ⟨rfl, rfl, Nat.le_of_ble_eq_true rfl, Nat.le_of_ble_eq_true rfl⟩ (wg_cons hts tw_822) List.mem_cons_self (hts _ tw_0) (by decide) (by decide +kernel) (hts _ tw_820) (hts _ tw_821) (sd_preS3 (L := M) hLI.1 hE) rfl rfl hl.1 rfl (lv_room (Nat.le_of_ble_eq_true rfl)) d_law_520 ⟨by show cells + 16 ≤ 601024; omega, by show slots + 4144 ≤ 7293000; omega⟩) (fun rr H locs Q1 f hex hLI => ?_)
  refine lv_istore (lv' := [(5, .int (rr)), (4, .int (nI k)), (3, .ref o), (2, .ref (ad 71)), (1, .ref hP), (0, .ref b)]) hx hb d_law_523 hl (by decide) rfl (fun ls hl => ?_)
  refine lv_aload_n hx hb d_law_525 rfl (lv_at hl 3 rfl) ?_
  refine lv_aload_n hx hb d_law_526 rfl (lv_at hl 5 rfl) ?_
  refine lv_iload hx hb d_law_527 (lv_at hl 1 rfl) ?_
  refine lv_iconst (v := 1) hx hb d_law_529 (by decide) ?_
  refine lv_iadd hx hb d_law_530 ?_
  refine lv_topi (fun x_27 e_28 => ?_)
  obtain rfl : x_27 = nI (k + 1) := by rw [e_28]; exact nI_add k 1
  refine va_sld hx hb hX hbl (Nat.not_le.mpr hbl) hLI.1.2.2.1 (vp_in_nI (by omega) (by omega)) d_law_531 ?_
  refine lv_topi (fun x_29 e_30 => ?_)
  refine lv_aload_n hx hb d_law_532 rfl (lv_at hl 5 rfl) ?_
  refine lv_iload hx hb d_law_533 (lv_at hl 1 rfl) ?_
  refine lv_iconst (v := 2) hx hb d_law_535 (by decide) ?_
  refine lv_iadd hx hb d_law_536 ?_
  refine lv_topi (fun x_31 e_32 => ?_)
  obtain rfl : x_31 = nI (k + 2) := by rw [e_32]; exact nI_add k 2
  refine va_sld hx hb hX hbl (Nat.not_le.mpr hbl) hLI.1.2.2.1 (vp_in_nI (by omega) (by omega)) d_law_537 ?_
  refine lv_topi (fun x_33 e_34 => ?_)
  refine lv_i2l hx hb d_law_538 rfl ?_
  refine lv_topl (fun x_35 e_36 => ?_)
  refine lv_bipush (v := 32) hx hb d_law_539 (by decide) ?_
  refine lv_lshl hx hb d_law_541 rfl ?_
  refine lv_topl (fun x_37 e_38 => ?_)
  refine lv_aload_n hx hb d_law_542 rfl (lv_at hl 5 rfl) ?_
  refine lv_iload hx hb d_law_543 (lv_at hl 1 rfl) ?_
  refine lv_iconst (v := 3) hx hb d_law_545 (by decide) ?_
  refine lv_iadd hx hb d_law_546 ?_
  refine lv_topi (fun x_39 e_40 => ?_)
  obtain rfl : x_39 = nI (k + 3) := by rw [e_40]; exact nI_add k 3
  refine va_sld hx hb hX hbl (Nat.not_le.mpr hbl) hLI.1.2.2.1 (vp_in_nI (by omega) (by omega)) d_law_547 ?_
  refine lv_topi (fun x_41 e_42 => ?_)
  refine lv_i2l hx hb d_law_548 rfl ?_
  refine lv_topl (fun x_43 e_44 => ?_)
  refine lv_ldc2 (v := 4294967295) hx hb hown (hts _ tw_1719) d_law_549 ?_
  refine lv_land hx hb d_law_552 ?_
  refine lv_topl (fun x_45 e_46 => ?_)
  refine lv_lor hx hb d_law_553 ?_
  refine lv_topl (fun x_47 e_48 => ?_)
  refine lv_aload_n hx hb d_law_554 rfl (lv_at hl 5 rfl) ?_
  refine lv_iload hx hb d_law_555 (lv_at hl 1 rfl) ?_
  refine lv_iconst (v := 4) hx hb d_law_557 (by decide) ?_
  refine lv_iadd hx hb d_law_558 ?_
  refine lv_topi (fun x_49 e_50 => ?_)
  obtain rfl : x_49 = nI (k + 4) := by rw [e_50]; exact nI_add k 4
  refine va_sld hx hb hX hbl (Nat.not_le.mpr hbl) hLI.1.2.2.1 (vp_in_nI (by omega) (by omega)) d_law_559 ?_
  refine lv_topi (fun x_51 e_52 => ?_)
  obtain ⟨q1, q2, q3, nn, hnn, o0⟩ := hq
  refine lw_mi hLI (va_runV (As := [.int (x_29), .long (x_47), .int (x_51)]) (rest := []) ⟨hx, hb, hml, hown, hts⟩ (c_Mo_receive l D ca ad M f H.size _ hLI.2.2 x_29 x_47 x_51 nn o0 (by omega) q1 q2 q3) (kv_Mo_receive hts rfl rfl (hts _ tw_1570) ⟨Nat.le_of_ble_eq_true rfl, Nat.le_of_ble_eq_true rfl⟩) (sd_preV (q := (R_Mo, F_Mo, 71)) (L := o :: Q1) (K := M) (sw_swap hLI.1) hE.1.1 (List.mem_append_right _ (hLI.2.2.2.1 71 List.mem_cons_self)) hLI.2.2.2.2.1 rfl) rfl rfl hl.1 rfl (lv_room (Nat.le_of_ble_eq_true rfl)) d_law_560 ⟨by show (cells + 16) + 0 ≤ 601024; omega, by show (slots + 4144) + 0 ≤ 7293000; omega⟩) (fun r2 H locs f σ2 hfo hF hf hLI => ?_)
  have hR := RR_fr hF (by decide) hR
  obtain ⟨⟨n2, -, hn2, o2⟩, hi2, hb2, hs2, -⟩ := hf
  have hq : IQ (z + 1) σ2 := ⟨hi2, hb2, hs2, n2, by omega, o2⟩
  clear hF
  have hq := hq
  refine lv_istore (lv' := [(6, .int (r2)), (5, .int (rr)), (4, .int (nI k)), (3, .ref o), (2, .ref (ad 71)), (1, .ref hP), (0, .ref b)]) hx hb d_law_563 hl (by decide) rfl (fun ls hl => ?_)
  refine lv_goto (tgt := 773) hx hb d_law_565 (by decide) ?_
  refine W.widen (k := cells + 16) (n := slots + 4144) (by omega) (by omega) ?_
  exact kk _ _ _ _ _ _ _ hLI hq hR (lv_sub hl [2, 3, 4, 5, 6] rfl)
set_option maxRecDepth 100000 in
set_option maxHeartbeats 4000000 in
theorem lt_take {p : Program} {l : Launch} {e : Env} {s : State} {m : MethodId} {below : List Frame} {meth : Method} {c : Code} {D : va_G} {ca : Nat → ClassId} {b L : Nat} {xs : Nat → Int32} {o hP : Nat} {ad : Nat → Nat} {M : List Nat} {Q : State → Prop} (hx : p.tables.exec = Jvm.exec) (hb : c.code = code) (hml : c.maxLocals = 8) (hown : s.vm.findClass R_La = some m.cls) (hts : ∀ w ∈ wg, w.before #[Value.ref b] s = true) (hX : va_X b L xs s s.heap) (hbl : b < s.heap.size) (hE : ek3 (fun q => s.heap.size ≤ q) s) (hfl : l.flags = Jvm.pinnedFlags ++ [Jvm.noTraceFlag]) (hL : L ≤ 2561) {H : Heap} {locs : List Loc} {Q1 : List Nat} {f : Nat → va_E} {g : List (Int32 × Int32)} {σ : mq_S} {cells slots k z : Nat} {ls : Array Slot} (hk : k + 5 ≤ L) (hz : z ≤ 512) (hc : cells + 16 ≤ 601024) (hs : slots + 4144 ≤ 7293000) (hLI : LI D ca (fun q => s.heap.size ≤ q) s H locs o hP ad M Q1 f g σ) (hq : IQ z σ) (hR : RR g σ) (hl : lv_has ls 8 [(4, .int (nI k)), (3, .ref o), (2, .ref (ad 71)), (1, .ref hP), (0, .ref b)])
    (kk : ∀ (H : Heap) (locs : List Loc) (Q1 : List Nat) (f : Nat → va_E) (g : List (Int32 × Int32)) (σ : mq_S) (ls : Array Slot), LI D ca (fun q => s.heap.size ≤ q) s H locs o hP ad M Q1 f g σ → IQ (z + 1) σ → RR g σ → lv_has ls 8 [(4, .int (nI k)), (3, .ref o), (2, .ref (ad 71)), (1, .ref hP), (0, .ref b)] → W p l e room_1 s m #[Value.ref b] below meth c H locs (cells + 16) (slots + 4144) Q (F0 m 773 ls [])) :
    W p l e room_1 s m #[Value.ref b] below meth c H locs cells slots Q (F0 m 568 ls []) := by
  refine lv_aload_n hx hb d_law_568 rfl (lv_at hl 3 rfl) ?_
  refine lv_aload_n hx hb d_law_569 rfl (lv_at hl 4 rfl) ?_
  refine lv_iload hx hb d_law_570 (lv_at hl 0 rfl) ?_
  refine lv_iconst (v := 1) hx hb d_law_572 (by decide) ?_
  refine lv_iadd hx hb d_law_573 ?_
  refine lv_topi (fun x_1 e_2 => ?_)
  obtain rfl : x_1 = nI (k + 1) := by rw [e_2]; exact nI_add k 1
  refine va_sld hx hb hX hbl (Nat.not_le.mpr hbl) hLI.1.2.2.1 (vp_in_nI (by omega) (by omega)) d_law_574 ?_
  refine lv_topi (fun x_3 e_4 => ?_)
  refine lv_aload_n hx hb d_law_575 rfl (lv_at hl 1 rfl) ?_
  have hw := hLI.2.1
  refine lw_w0 hLI (va_runSW (hd := [(0, 8, 11, 13)]) (bytes := b_La_take) (maxL := 4) (ret := some .int) (n := 3) (As := [.ref hP, .int (x_3), .ref o]) (rest := []) ⟨hx, hb, hml, hown, hts⟩ (c_La_take l D ca Q1 f H.size o hP hw x_3 hfl) ⟨rfl, rfl, Nat.le_of_ble_eq_true rfl, Nat.le_of_ble_eq_true rfl⟩ (wg_cons hts tw_1105) List.mem_cons_self (hts _ tw_0) (by decide) (by decide +kernel) (hts _ tw_1103) (hts _ tw_1104) (sd_preS3 (L := M) hLI.1 hE) rfl rfl hl.1 rfl (lv_room (Nat.le_of_ble_eq_true rfl)) d_law_576 ⟨by show cells + 1 ≤ 601024; omega, by show slots + 6 ≤ 7293000; omega⟩) (fun rr H locs Q1 f hex hLI => ?_)
  refine lv_istore (lv' := [(5, .int (rr)), (4, .int (nI k)), (3, .ref o), (2, .ref (ad 71)), (1, .ref hP), (0, .ref b)]) hx hb d_law_579 hl (by decide) rfl (fun ls hl => ?_)
  refine lv_aload_n hx hb d_law_581 rfl (lv_at hl 3 rfl) ?_
  refine lv_aload_n hx hb d_law_582 rfl (lv_at hl 5 rfl) ?_
  refine lv_iload hx hb d_law_583 (lv_at hl 1 rfl) ?_
  refine lv_iconst (v := 1) hx hb d_law_585 (by decide) ?_
  refine lv_iadd hx hb d_law_586 ?_
  refine lv_topi (fun x_5 e_6 => ?_)
  obtain rfl : x_5 = nI (k + 1) := by rw [e_6]; exact nI_add k 1
  refine va_sld hx hb hX hbl (Nat.not_le.mpr hbl) hLI.1.2.2.1 (vp_in_nI (by omega) (by omega)) d_law_587 ?_
  refine lv_topi (fun x_7 e_8 => ?_)
  refine lw_ml hLI (va_runV (As := [.int (x_7)]) (rest := []) ⟨hx, hb, hml, hown, hts⟩ (c_Mo_take l D ca ad M f H.size _ hLI.2.2 x_7 hq.1) (kv_Mo_take hts rfl rfl (hts _ tw_1693) ⟨Nat.le_of_ble_eq_true rfl, Nat.le_of_ble_eq_true rfl⟩) (sd_preV (q := (R_Mo, F_Mo, 71)) (L := o :: Q1) (K := M) (sw_swap hLI.1) hE.1.1 (List.mem_append_right _ (hLI.2.2.2.1 71 List.mem_cons_self)) hLI.2.2.2.2.1 rfl) rfl rfl hl.1 rfl (lv_room (Nat.le_of_ble_eq_true rfl)) d_law_588 ⟨by show (cells + 1) + 0 ≤ 601024; omega, by show (slots + 6) + 0 ≤ 7293000; omega⟩) (fun r2 H locs f σ2 hF hf hLI => ?_)
  have hR := RR_fr hF (by decide) hR
  have hq := iq_k hF (by decide) hf.1 hq
  clear hF
  have hq := hq
  refine lv_lstore (lv' := [(6, .long (r2)), (5, .int (rr)), (4, .int (nI k)), (3, .ref o), (2, .ref (ad 71)), (1, .ref hP), (0, .ref b)]) hx hb d_law_591 hl (by decide) rfl (fun ls hl => ?_)
  refine lv_goto (tgt := 773) hx hb d_law_593 (by decide) ?_
  refine W.widen (k := cells + 16) (n := slots + 4144) (by omega) (by omega) ?_
  exact kk _ _ _ _ _ _ _ hLI hq hR (lv_sub hl [2, 3, 4, 5, 6] rfl)
set_option maxRecDepth 100000 in
set_option maxHeartbeats 4000000 in
theorem lt_done {p : Program} {l : Launch} {e : Env} {s : State} {m : MethodId} {below : List Frame} {meth : Method} {c : Code} {D : va_G} {ca : Nat → ClassId} {b L : Nat} {xs : Nat → Int32} {o hP : Nat} {ad : Nat → Nat} {M : List Nat} {Q : State → Prop} (hx : p.tables.exec = Jvm.exec) (hb : c.code = code) (hml : c.maxLocals = 8) (hown : s.vm.findClass R_La = some m.cls) (hts : ∀ w ∈ wg, w.before #[Value.ref b] s = true) (hX : va_X b L xs s s.heap) (hbl : b < s.heap.size) (hE : ek3 (fun q => s.heap.size ≤ q) s) (hfl : l.flags = Jvm.pinnedFlags ++ [Jvm.noTraceFlag]) (hL : L ≤ 2561) {H : Heap} {locs : List Loc} {Q1 : List Nat} {f : Nat → va_E} {g : List (Int32 × Int32)} {σ : mq_S} {cells slots k z : Nat} {ls : Array Slot} (hk : k + 5 ≤ L) (hz : z ≤ 512) (hc : cells + 16 ≤ 601024) (hs : slots + 4144 ≤ 7293000) (hLI : LI D ca (fun q => s.heap.size ≤ q) s H locs o hP ad M Q1 f g σ) (hq : IQ z σ) (hR : RR g σ) (hl : lv_has ls 8 [(4, .int (nI k)), (3, .ref o), (2, .ref (ad 71)), (1, .ref hP), (0, .ref b)])
    (kk : ∀ (H : Heap) (locs : List Loc) (Q1 : List Nat) (f : Nat → va_E) (g : List (Int32 × Int32)) (σ : mq_S) (ls : Array Slot), LI D ca (fun q => s.heap.size ≤ q) s H locs o hP ad M Q1 f g σ → IQ (z + 1) σ → RR g σ → lv_has ls 8 [(4, .int (nI k)), (3, .ref o), (2, .ref (ad 71)), (1, .ref hP), (0, .ref b)] → W p l e room_1 s m #[Value.ref b] below meth c H locs (cells + 16) (slots + 4144) Q (F0 m 773 ls [])) :
    W p l e room_1 s m #[Value.ref b] below meth c H locs cells slots Q (F0 m 596 ls []) := by
  refine lv_aload_n hx hb d_law_596 rfl (lv_at hl 3 rfl) ?_
  refine lv_aload_n hx hb d_law_597 rfl (lv_at hl 4 rfl) ?_
  refine lv_iload hx hb d_law_598 (lv_at hl 0 rfl) ?_
  refine lv_iconst (v := 1) hx hb d_law_600 (by decide) ?_
  refine lv_iadd hx hb d_law_601 ?_
  refine lv_topi (fun x_1 e_2 => ?_)
  obtain rfl : x_1 = nI (k + 1) := by rw [e_2]; exact nI_add k 1
  refine va_sld hx hb hX hbl (Nat.not_le.mpr hbl) hLI.1.2.2.1 (vp_in_nI (by omega) (by omega)) d_law_602 ?_
  refine lv_topi (fun x_3 e_4 => ?_)
  refine lv_aload_n hx hb d_law_603 rfl (lv_at hl 4 rfl) ?_
  refine lv_iload hx hb d_law_604 (lv_at hl 0 rfl) ?_
  refine lv_iconst (v := 2) hx hb d_law_606 (by decide) ?_
  refine lv_iadd hx hb d_law_607 ?_
  refine lv_topi (fun x_5 e_6 => ?_)
  obtain rfl : x_5 = nI (k + 2) := by rw [e_6]; exact nI_add k 2
  refine va_sld hx hb hX hbl (Nat.not_le.mpr hbl) hLI.1.2.2.1 (vp_in_nI (by omega) (by omega)) d_law_608 ?_
  refine lv_topi (fun x_7 e_8 => ?_)
  have hJ_11 : ∀ y_9 : Int32, y_9 = bz x_7 → W p l e room_1 s m #[Value.ref b] below meth c H locs cells slots Q (F0 m 617 ls [.int (y_9), .int (x_3), .ref hP]) := by
    intro y_9 py_10
    refine lv_aload_n hx hb d_law_617 rfl (lv_at hl 1 rfl) ?_
    have hw := hLI.2.1
    refine lw_w0 hLI (va_runSW (hd := [(0, 10, 13, 13)]) (bytes := b_La_done) (maxL := 5) (ret := some .int) (n := 4) (As := [.ref hP, .int (x_3), .int (y_9), .ref o]) (rest := []) ⟨hx, hb, hml, hown, hts⟩ (c_La_done l D ca Q1 f H.size o hP hw x_3 y_9 (bz_01 py_10) hfl) ⟨rfl, rfl, Nat.le_of_ble_eq_true rfl, Nat.le_of_ble_eq_true rfl⟩ (wg_cons hts tw_1120) List.mem_cons_self (hts _ tw_0) (by decide) (by decide +kernel) (hts _ tw_1118) (hts _ tw_1119) (sd_preS3 (L := M) hLI.1 hE) rfl rfl hl.1 rfl (lv_room (Nat.le_of_ble_eq_true rfl)) d_law_618 ⟨by show cells + 1 ≤ 601024; omega, by show slots + 259 ≤ 7293000; omega⟩) (fun rr H locs Q1 f hex hLI => ?_)
    refine lv_istore (lv' := [(5, .int (rr)), (4, .int (nI k)), (3, .ref o), (2, .ref (ad 71)), (1, .ref hP), (0, .ref b)]) hx hb d_law_621 hl (by decide) rfl (fun ls hl => ?_)
    refine lv_aload_n hx hb d_law_623 rfl (lv_at hl 3 rfl) ?_
    refine lv_aload_n hx hb d_law_624 rfl (lv_at hl 5 rfl) ?_
    refine lv_iload hx hb d_law_625 (lv_at hl 1 rfl) ?_
    refine lv_iconst (v := 1) hx hb d_law_627 (by decide) ?_
    refine lv_iadd hx hb d_law_628 ?_
    refine lv_topi (fun x_12 e_13 => ?_)
    obtain rfl : x_12 = nI (k + 1) := by rw [e_13]; exact nI_add k 1
    refine va_sld hx hb hX hbl (Nat.not_le.mpr hbl) hLI.1.2.2.1 (vp_in_nI (by omega) (by omega)) d_law_629 ?_
    refine lv_topi (fun x_14 e_15 => ?_)
    refine lv_aload_n hx hb d_law_630 rfl (lv_at hl 5 rfl) ?_
    refine lv_iload hx hb d_law_631 (lv_at hl 1 rfl) ?_
    refine lv_iconst (v := 2) hx hb d_law_633 (by decide) ?_
    refine lv_iadd hx hb d_law_634 ?_
    refine lv_topi (fun x_16 e_17 => ?_)
    obtain rfl : x_16 = nI (k + 2) := by rw [e_17]; exact nI_add k 2
    refine va_sld hx hb hX hbl (Nat.not_le.mpr hbl) hLI.1.2.2.1 (vp_in_nI (by omega) (by omega)) d_law_635 ?_
    refine lv_topi (fun x_18 e_19 => ?_)
    have hJ_22 : ∀ y_20 : Int32, y_20 = bz x_18 → W p l e room_1 s m #[Value.ref b] below meth c H locs (cells + 1) (slots + 259) Q (F0 m 644 ls [.int (y_20), .int (x_14), .ref (ad 71)]) := by
      intro y_20 py_21
      refine lw_mi hLI (va_runV (As := [.int (x_14), .int (y_20)]) (rest := []) ⟨hx, hb, hml, hown, hts⟩ (c_Mo_done l D ca ad M f H.size _ hLI.2.2 x_14 y_20 (bz_01 py_21) hq.1) (kv_Mo_done hts rfl rfl (hts _ tw_1702) ⟨Nat.le_of_ble_eq_true rfl, Nat.le_of_ble_eq_true rfl⟩) (sd_preV (q := (R_Mo, F_Mo, 71)) (L := o :: Q1) (K := M) (sw_swap hLI.1) hE.1.1 (List.mem_append_right _ (hLI.2.2.2.1 71 List.mem_cons_self)) hLI.2.2.2.2.1 rfl) rfl rfl hl.1 rfl (lv_room (Nat.le_of_ble_eq_true rfl)) d_law_644 ⟨by show (cells + 1) + 0 ≤ 601024; omega, by show (slots + 259) + 0 ≤ 7293000; omega⟩) (fun r2 H locs f σ2 hfo hF hf hLI => ?_)
      have hR := RR_fr hF (by decide) hR
      have hq := iq_k hF (by decide) hf.1 hq
      clear hF
      have hq := hq
      refine lv_istore (lv' := [(6, .int (r2)), (5, .int (rr)), (4, .int (nI k)), (3, .ref o), (2, .ref (ad 71)), (1, .ref hP), (0, .ref b)]) hx hb d_law_647 hl (by decide) rfl (fun ls hl => ?_)
      refine lv_goto (tgt := 773) hx hb d_law_649 (by decide) ?_
      refine W.widen (k := cells + 16) (n := slots + 4144) (by omega) (by omega) ?_
      exact kk _ _ _ _ _ _ _ hLI hq hR (lv_sub hl [2, 3, 4, 5, 6] rfl)
    refine lv_if_eq (tgt := 643) hx hb d_law_636 (by decide) (fun c8 => ?_) (fun c8 => ?_)
    · refine lv_iconst (v := 0) hx hb d_law_643 (by decide) ?_
      exact hJ_22 0 (bz_0 c8)
    · refine lv_iconst (v := 1) hx hb d_law_639 (by decide) ?_
      refine lv_goto (tgt := 644) hx hb d_law_640 (by decide) ?_
      exact hJ_22 1 (bz_1 c8)
  refine lv_if_eq (tgt := 616) hx hb d_law_609 (by decide) (fun c8 => ?_) (fun c8 => ?_)
  · refine lv_iconst (v := 0) hx hb d_law_616 (by decide) ?_
    exact hJ_11 0 (bz_0 c8)
  · refine lv_iconst (v := 1) hx hb d_law_612 (by decide) ?_
    refine lv_goto (tgt := 617) hx hb d_law_613 (by decide) ?_
    exact hJ_11 1 (bz_1 c8)
set_option maxRecDepth 100000 in
set_option maxHeartbeats 4000000 in
theorem lt_operation {p : Program} {l : Launch} {e : Env} {s : State} {m : MethodId} {below : List Frame} {meth : Method} {c : Code} {D : va_G} {ca : Nat → ClassId} {b L : Nat} {xs : Nat → Int32} {o hP : Nat} {ad : Nat → Nat} {M : List Nat} {Q : State → Prop} (hx : p.tables.exec = Jvm.exec) (hb : c.code = code) (hml : c.maxLocals = 8) (hown : s.vm.findClass R_La = some m.cls) (hts : ∀ w ∈ wg, w.before #[Value.ref b] s = true) (hX : va_X b L xs s s.heap) (hbl : b < s.heap.size) (hE : ek3 (fun q => s.heap.size ≤ q) s) (hfl : l.flags = Jvm.pinnedFlags ++ [Jvm.noTraceFlag]) (hL : L ≤ 2561) {H : Heap} {locs : List Loc} {Q1 : List Nat} {f : Nat → va_E} {g : List (Int32 × Int32)} {σ : mq_S} {cells slots k z : Nat} {ls : Array Slot} (hk : k + 5 ≤ L) (hz : z ≤ 512) (hc : cells + 16 ≤ 601024) (hs : slots + 4144 ≤ 7293000) (hLI : LI D ca (fun q => s.heap.size ≤ q) s H locs o hP ad M Q1 f g σ) (hq : IQ z σ) (hR : RR g σ) (hl : lv_has ls 8 [(4, .int (nI k)), (3, .ref o), (2, .ref (ad 71)), (1, .ref hP), (0, .ref b)])
    (kk : ∀ (H : Heap) (locs : List Loc) (Q1 : List Nat) (f : Nat → va_E) (g : List (Int32 × Int32)) (σ : mq_S) (ls : Array Slot), LI D ca (fun q => s.heap.size ≤ q) s H locs o hP ad M Q1 f g σ → IQ (z + 1) σ → RR g σ → lv_has ls 8 [(4, .int (nI k)), (3, .ref o), (2, .ref (ad 71)), (1, .ref hP), (0, .ref b)] → W p l e room_1 s m #[Value.ref b] below meth c H locs (cells + 16) (slots + 4144) Q (F0 m 773 ls [])) :
    W p l e room_1 s m #[Value.ref b] below meth c H locs cells slots Q (F0 m 652 ls []) := by
  refine lv_aload_n hx hb d_law_652 rfl (lv_at hl 3 rfl) ?_
  refine lv_aload_n hx hb d_law_653 rfl (lv_at hl 4 rfl) ?_
  refine lv_iload hx hb d_law_654 (lv_at hl 0 rfl) ?_
  refine lv_iconst (v := 1) hx hb d_law_656 (by decide) ?_
  refine lv_iadd hx hb d_law_657 ?_
  refine lv_topi (fun x_1 e_2 => ?_)
  obtain rfl : x_1 = nI (k + 1) := by rw [e_2]; exact nI_add k 1
  refine va_sld hx hb hX hbl (Nat.not_le.mpr hbl) hLI.1.2.2.1 (vp_in_nI (by omega) (by omega)) d_law_658 ?_
  refine lv_topi (fun x_3 e_4 => ?_)
  refine lv_aload_n hx hb d_law_659 rfl (lv_at hl 4 rfl) ?_
  refine lv_iload hx hb d_law_660 (lv_at hl 0 rfl) ?_
  refine lv_iconst (v := 2) hx hb d_law_662 (by decide) ?_
  refine lv_iadd hx hb d_law_663 ?_
  refine lv_topi (fun x_5 e_6 => ?_)
  obtain rfl : x_5 = nI (k + 2) := by rw [e_6]; exact nI_add k 2
  refine va_sld hx hb hX hbl (Nat.not_le.mpr hbl) hLI.1.2.2.1 (vp_in_nI (by omega) (by omega)) d_law_664 ?_
  refine lv_topi (fun x_7 e_8 => ?_)
  refine lv_aload_n hx hb d_law_665 rfl (lv_at hl 1 rfl) ?_
  have hw := hLI.2.1
  refine lw_w0 hLI (va_runSW (hd := [(0, 10, 13, 13)]) (bytes := b_La_operation) (maxL := 5) (ret := some .int) (n := 4) (As := [.ref hP, .int (x_3), .int (x_7), .ref o]) (rest := []) ⟨hx, hb, hml, hown, hts⟩ (c_La_operation l D ca Q1 f H.size o hP hw x_3 x_7 hfl) ⟨rfl, rfl, Nat.le_of_ble_eq_true rfl, Nat.le_of_ble_eq_true rfl⟩ (wg_cons hts tw_1132) List.mem_cons_self (hts _ tw_0) (by decide) (by decide +kernel) (hts _ tw_1130) (hts _ tw_1131) (sd_preS3 (L := M) hLI.1 hE) rfl rfl hl.1 rfl (lv_room (Nat.le_of_ble_eq_true rfl)) d_law_666 ⟨by show cells + 1 ≤ 601024; omega, by show slots + 6 ≤ 7293000; omega⟩) (fun rr H locs Q1 f hex hLI => ?_)
  refine lv_istore (lv' := [(5, .int (rr)), (4, .int (nI k)), (3, .ref o), (2, .ref (ad 71)), (1, .ref hP), (0, .ref b)]) hx hb d_law_669 hl (by decide) rfl (fun ls hl => ?_)
  refine lv_aload_n hx hb d_law_671 rfl (lv_at hl 3 rfl) ?_
  refine lv_aload_n hx hb d_law_672 rfl (lv_at hl 5 rfl) ?_
  refine lv_iload hx hb d_law_673 (lv_at hl 1 rfl) ?_
  refine lv_iconst (v := 1) hx hb d_law_675 (by decide) ?_
  refine lv_iadd hx hb d_law_676 ?_
  refine lv_topi (fun x_9 e_10 => ?_)
  obtain rfl : x_9 = nI (k + 1) := by rw [e_10]; exact nI_add k 1
  refine va_sld hx hb hX hbl (Nat.not_le.mpr hbl) hLI.1.2.2.1 (vp_in_nI (by omega) (by omega)) d_law_677 ?_
  refine lv_topi (fun x_11 e_12 => ?_)
  refine lv_aload_n hx hb d_law_678 rfl (lv_at hl 5 rfl) ?_
  refine lv_iload hx hb d_law_679 (lv_at hl 1 rfl) ?_
  refine lv_iconst (v := 2) hx hb d_law_681 (by decide) ?_
  refine lv_iadd hx hb d_law_682 ?_
  refine lv_topi (fun x_13 e_14 => ?_)
  obtain rfl : x_13 = nI (k + 2) := by rw [e_14]; exact nI_add k 2
  refine va_sld hx hb hX hbl (Nat.not_le.mpr hbl) hLI.1.2.2.1 (vp_in_nI (by omega) (by omega)) d_law_683 ?_
  refine lv_topi (fun x_15 e_16 => ?_)
  refine lw_mi hLI (va_runV (As := [.int (x_11), .int (x_15)]) (rest := []) ⟨hx, hb, hml, hown, hts⟩ (c_Mo_operation l D ca ad M f H.size _ hLI.2.2 x_11 x_15) (kv_Mo_operation hts rfl rfl (hts _ tw_1706) ⟨Nat.le_of_ble_eq_true rfl, Nat.le_of_ble_eq_true rfl⟩) (sd_preV (q := (R_Mo, F_Mo, 71)) (L := o :: Q1) (K := M) (sw_swap hLI.1) hE.1.1 (List.mem_append_right _ (hLI.2.2.2.1 71 List.mem_cons_self)) hLI.2.2.2.2.1 rfl) rfl rfl hl.1 rfl (lv_room (Nat.le_of_ble_eq_true rfl)) d_law_684 ⟨by show (cells + 1) + 0 ≤ 601024; omega, by show (slots + 6) + 0 ≤ 7293000; omega⟩) (fun r2 H locs f σ2 hfo hF hf hLI => ?_)
  have hR := RR_fr hF (by decide) hR
  have hq := iq_f hF (by decide) (by decide) hq
  clear hF
  have hq := hq
  refine lv_istore (lv' := [(6, .int (r2)), (5, .int (rr)), (4, .int (nI k)), (3, .ref o), (2, .ref (ad 71)), (1, .ref hP), (0, .ref b)]) hx hb d_law_687 hl (by decide) rfl (fun ls hl => ?_)
  refine lv_goto (tgt := 773) hx hb d_law_689 (by decide) ?_
  refine W.widen (k := cells + 16) (n := slots + 4144) (by omega) (by omega) ?_
  exact kk _ _ _ _ _ _ _ hLI hq hR (lv_sub hl [2, 3, 4, 5, 6] rfl)
set_option maxRecDepth 100000 in
set_option maxHeartbeats 4000000 in
theorem lt_look {p : Program} {l : Launch} {e : Env} {s : State} {m : MethodId} {below : List Frame} {meth : Method} {c : Code} {D : va_G} {ca : Nat → ClassId} {b L : Nat} {xs : Nat → Int32} {o hP : Nat} {ad : Nat → Nat} {M : List Nat} {Q : State → Prop} (hx : p.tables.exec = Jvm.exec) (hb : c.code = code) (hml : c.maxLocals = 8) (hown : s.vm.findClass R_La = some m.cls) (hts : ∀ w ∈ wg, w.before #[Value.ref b] s = true) (hX : va_X b L xs s s.heap) (hbl : b < s.heap.size) (hE : ek3 (fun q => s.heap.size ≤ q) s) (hfl : l.flags = Jvm.pinnedFlags ++ [Jvm.noTraceFlag]) (hL : L ≤ 2561) {H : Heap} {locs : List Loc} {Q1 : List Nat} {f : Nat → va_E} {g : List (Int32 × Int32)} {σ : mq_S} {cells slots k z : Nat} {ls : Array Slot} (hk : k + 5 ≤ L) (hz : z ≤ 512) (hc : cells + 16 ≤ 601024) (hs : slots + 4144 ≤ 7293000) (hLI : LI D ca (fun q => s.heap.size ≤ q) s H locs o hP ad M Q1 f g σ) (hq : IQ z σ) (hR : RR g σ) (hl : lv_has ls 8 [(4, .int (nI k)), (3, .ref o), (2, .ref (ad 71)), (1, .ref hP), (0, .ref b)])
    (kk : ∀ (H : Heap) (locs : List Loc) (Q1 : List Nat) (f : Nat → va_E) (g : List (Int32 × Int32)) (σ : mq_S) (ls : Array Slot), LI D ca (fun q => s.heap.size ≤ q) s H locs o hP ad M Q1 f g σ → IQ (z + 1) σ → RR g σ → lv_has ls 8 [(4, .int (nI k)), (3, .ref o), (2, .ref (ad 71)), (1, .ref hP), (0, .ref b)] → W p l e room_1 s m #[Value.ref b] below meth c H locs (cells + 16) (slots + 4144) Q (F0 m 773 ls [])) :
    W p l e room_1 s m #[Value.ref b] below meth c H locs cells slots Q (F0 m 692 ls []) := by
  refine lv_aload_n hx hb d_law_692 rfl (lv_at hl 3 rfl) ?_
  refine lv_aload_n hx hb d_law_693 rfl (lv_at hl 4 rfl) ?_
  refine lv_iload hx hb d_law_694 (lv_at hl 0 rfl) ?_
  refine lv_iconst (v := 1) hx hb d_law_696 (by decide) ?_
  refine lv_iadd hx hb d_law_697 ?_
  refine lv_topi (fun x_1 e_2 => ?_)
  obtain rfl : x_1 = nI (k + 1) := by rw [e_2]; exact nI_add k 1
  refine va_sld hx hb hX hbl (Nat.not_le.mpr hbl) hLI.1.2.2.1 (vp_in_nI (by omega) (by omega)) d_law_698 ?_
  refine lv_topi (fun x_3 e_4 => ?_)
  refine lv_aload_n hx hb d_law_699 rfl (lv_at hl 4 rfl) ?_
  refine lv_iload hx hb d_law_700 (lv_at hl 0 rfl) ?_
  refine lv_iconst (v := 2) hx hb d_law_702 (by decide) ?_
  refine lv_iadd hx hb d_law_703 ?_
  refine lv_topi (fun x_5 e_6 => ?_)
  obtain rfl : x_5 = nI (k + 2) := by rw [e_6]; exact nI_add k 2
  refine va_sld hx hb hX hbl (Nat.not_le.mpr hbl) hLI.1.2.2.1 (vp_in_nI (by omega) (by omega)) d_law_704 ?_
  refine lv_topi (fun x_7 e_8 => ?_)
  refine lv_aload_n hx hb d_law_705 rfl (lv_at hl 1 rfl) ?_
  have hw := hLI.2.1
  refine lw_w0 hLI (va_runSW (hd := [(0, 10, 13, 13)]) (bytes := b_La_look) (maxL := 5) (ret := some .int) (n := 4) (As := [.ref hP, .int (x_3), .int (x_7), .ref o]) (rest := []) ⟨hx, hb, hml, hown, hts⟩ (c_La_look l D ca Q1 f H.size o hP hw x_3 x_7 hfl) ⟨rfl, rfl, Nat.le_of_ble_eq_true rfl, Nat.le_of_ble_eq_true rfl⟩ (wg_cons hts tw_1140) List.mem_cons_self (hts _ tw_0) (by decide) (by decide +kernel) (hts _ tw_1138) (hts _ tw_1139) (sd_preS3 (L := M) hLI.1 hE) rfl rfl hl.1 rfl (lv_room (Nat.le_of_ble_eq_true rfl)) d_law_706 ⟨by show cells + 1 ≤ 601024; omega, by show slots + 6 ≤ 7293000; omega⟩) (fun rr H locs Q1 f hex hLI => ?_)
  refine lv_istore (lv' := [(5, .int (rr)), (4, .int (nI k)), (3, .ref o), (2, .ref (ad 71)), (1, .ref hP), (0, .ref b)]) hx hb d_law_709 hl (by decide) rfl (fun ls hl => ?_)
  refine lv_aload_n hx hb d_law_711 rfl (lv_at hl 3 rfl) ?_
  refine lv_aload_n hx hb d_law_712 rfl (lv_at hl 5 rfl) ?_
  refine lv_iload hx hb d_law_713 (lv_at hl 1 rfl) ?_
  refine lv_iconst (v := 1) hx hb d_law_715 (by decide) ?_
  refine lv_iadd hx hb d_law_716 ?_
  refine lv_topi (fun x_9 e_10 => ?_)
  obtain rfl : x_9 = nI (k + 1) := by rw [e_10]; exact nI_add k 1
  refine va_sld hx hb hX hbl (Nat.not_le.mpr hbl) hLI.1.2.2.1 (vp_in_nI (by omega) (by omega)) d_law_717 ?_
  refine lv_topi (fun x_11 e_12 => ?_)
  refine lv_aload_n hx hb d_law_718 rfl (lv_at hl 5 rfl) ?_
  refine lv_iload hx hb d_law_719 (lv_at hl 1 rfl) ?_
  refine lv_iconst (v := 2) hx hb d_law_721 (by decide) ?_
  refine lv_iadd hx hb d_law_722 ?_
  refine lv_topi (fun x_13 e_14 => ?_)
  obtain rfl : x_13 = nI (k + 2) := by rw [e_14]; exact nI_add k 2
  refine va_sld hx hb hX hbl (Nat.not_le.mpr hbl) hLI.1.2.2.1 (vp_in_nI (by omega) (by omega)) d_law_723 ?_
  refine lv_topi (fun x_15 e_16 => ?_)
  refine lw_mi hLI (va_runV (As := [.int (x_11), .int (x_15)]) (rest := []) ⟨hx, hb, hml, hown, hts⟩ (c_Mo_look l D ca ad M f H.size _ hLI.2.2 x_11 x_15) (kv_Mo_look hts rfl rfl (hts _ tw_1710) ⟨Nat.le_of_ble_eq_true rfl, Nat.le_of_ble_eq_true rfl⟩) (sd_preV (q := (R_Mo, F_Mo, 71)) (L := o :: Q1) (K := M) (sw_swap hLI.1) hE.1.1 (List.mem_append_right _ (hLI.2.2.2.1 71 List.mem_cons_self)) hLI.2.2.2.2.1 rfl) rfl rfl hl.1 rfl (lv_room (Nat.le_of_ble_eq_true rfl)) d_law_724 ⟨by show (cells + 1) + 0 ≤ 601024; omega, by show (slots + 6) + 0 ≤ 7293000; omega⟩) (fun r2 H locs f σ2 hfo hF hf hLI => ?_)
  have hR := RR_fr hF (by decide) hR
  have hq := iq_f hF (by decide) (by decide) hq
  clear hF
  have hq := hq
  refine lv_istore (lv' := [(6, .int (r2)), (5, .int (rr)), (4, .int (nI k)), (3, .ref o), (2, .ref (ad 71)), (1, .ref hP), (0, .ref b)]) hx hb d_law_727 hl (by decide) rfl (fun ls hl => ?_)
  refine lv_goto (tgt := 773) hx hb d_law_729 (by decide) ?_
  refine W.widen (k := cells + 16) (n := slots + 4144) (by omega) (by omega) ?_
  exact kk _ _ _ _ _ _ _ hLI hq hR (lv_sub hl [2, 3, 4, 5, 6] rfl)
set_option maxRecDepth 100000 in
set_option maxHeartbeats 4000000 in
theorem lt_count {p : Program} {l : Launch} {e : Env} {s : State} {m : MethodId} {below : List Frame} {meth : Method} {c : Code} {D : va_G} {ca : Nat → ClassId} {b L : Nat} {xs : Nat → Int32} {o hP : Nat} {ad : Nat → Nat} {M : List Nat} {Q : State → Prop} (hx : p.tables.exec = Jvm.exec) (hb : c.code = code) (hml : c.maxLocals = 8) (hown : s.vm.findClass R_La = some m.cls) (hts : ∀ w ∈ wg, w.before #[Value.ref b] s = true) (hX : va_X b L xs s s.heap) (hbl : b < s.heap.size) (hE : ek3 (fun q => s.heap.size ≤ q) s) (hfl : l.flags = Jvm.pinnedFlags ++ [Jvm.noTraceFlag]) (hL : L ≤ 2561) {H : Heap} {locs : List Loc} {Q1 : List Nat} {f : Nat → va_E} {g : List (Int32 × Int32)} {σ : mq_S} {cells slots k z : Nat} {ls : Array Slot} (hk : k + 5 ≤ L) (hz : z ≤ 512) (hc : cells + 16 ≤ 601024) (hs : slots + 4144 ≤ 7293000) (hLI : LI D ca (fun q => s.heap.size ≤ q) s H locs o hP ad M Q1 f g σ) (hq : IQ z σ) (hR : RR g σ) (hl : lv_has ls 8 [(4, .int (nI k)), (3, .ref o), (2, .ref (ad 71)), (1, .ref hP), (0, .ref b)])
    (kk : ∀ (H : Heap) (locs : List Loc) (Q1 : List Nat) (f : Nat → va_E) (g : List (Int32 × Int32)) (σ : mq_S) (ls : Array Slot), LI D ca (fun q => s.heap.size ≤ q) s H locs o hP ad M Q1 f g σ → IQ (z + 1) σ → RR g σ → lv_has ls 8 [(4, .int (nI k)), (3, .ref o), (2, .ref (ad 71)), (1, .ref hP), (0, .ref b)] → W p l e room_1 s m #[Value.ref b] below meth c H locs (cells + 16) (slots + 4144) Q (F0 m 773 ls [])) :
    W p l e room_1 s m #[Value.ref b] below meth c H locs cells slots Q (F0 m 732 ls []) := by
  refine lv_aload_n hx hb d_law_732 rfl (lv_at hl 3 rfl) ?_
  refine lv_aload_n hx hb d_law_733 rfl (lv_at hl 4 rfl) ?_
  refine lv_iload hx hb d_law_734 (lv_at hl 0 rfl) ?_
  refine lv_iconst (v := 1) hx hb d_law_736 (by decide) ?_
  refine lv_iadd hx hb d_law_737 ?_
  refine lv_topi (fun x_1 e_2 => ?_)
  obtain rfl : x_1 = nI (k + 1) := by rw [e_2]; exact nI_add k 1
  refine va_sld hx hb hX hbl (Nat.not_le.mpr hbl) hLI.1.2.2.1 (vp_in_nI (by omega) (by omega)) d_law_738 ?_
  refine lv_topi (fun x_3 e_4 => ?_)
  refine lv_aload_n hx hb d_law_739 rfl (lv_at hl 1 rfl) ?_
  have hw := hLI.2.1
  refine lw_w0 hLI (va_runSW (hd := [(0, 9, 12, 13)]) (bytes := b_La_count) (maxL := 4) (ret := some .int) (n := 3) (As := [.ref hP, .int (x_3), .ref o]) (rest := []) ⟨hx, hb, hml, hown, hts⟩ (c_La_count l D ca Q1 f H.size o hP hw x_3 hfl) ⟨rfl, rfl, Nat.le_of_ble_eq_true rfl, Nat.le_of_ble_eq_true rfl⟩ (wg_cons hts tw_1152) List.mem_cons_self (hts _ tw_0) (by decide) (by decide +kernel) (hts _ tw_1150) (hts _ tw_1151) (sd_preS3 (L := M) hLI.1 hE) rfl rfl hl.1 rfl (lv_room (Nat.le_of_ble_eq_true rfl)) d_law_740 ⟨by show cells + 1 ≤ 601024; omega, by show slots + 6 ≤ 7293000; omega⟩) (fun rr H locs Q1 f hex hLI => ?_)
  refine lv_istore (lv' := [(5, .int (rr)), (4, .int (nI k)), (3, .ref o), (2, .ref (ad 71)), (1, .ref hP), (0, .ref b)]) hx hb d_law_743 hl (by decide) rfl (fun ls hl => ?_)
  refine lv_aload_n hx hb d_law_745 rfl (lv_at hl 3 rfl) ?_
  refine lv_aload_n hx hb d_law_746 rfl (lv_at hl 5 rfl) ?_
  refine lv_iload hx hb d_law_747 (lv_at hl 1 rfl) ?_
  refine lv_iconst (v := 1) hx hb d_law_749 (by decide) ?_
  refine lv_iadd hx hb d_law_750 ?_
  refine lv_topi (fun x_5 e_6 => ?_)
  obtain rfl : x_5 = nI (k + 1) := by rw [e_6]; exact nI_add k 1
  refine va_sld hx hb hX hbl (Nat.not_le.mpr hbl) hLI.1.2.2.1 (vp_in_nI (by omega) (by omega)) d_law_751 ?_
  refine lv_topi (fun x_7 e_8 => ?_)
  refine lw_mi hLI (va_runV (As := [.int (x_7)]) (rest := []) ⟨hx, hb, hml, hown, hts⟩ (c_Mo_count l D ca ad M f H.size _ hLI.2.2 x_7) (kv_Mo_count hts rfl rfl (hts _ tw_1715) ⟨Nat.le_of_ble_eq_true rfl, Nat.le_of_ble_eq_true rfl⟩) (sd_preV (q := (R_Mo, F_Mo, 71)) (L := o :: Q1) (K := M) (sw_swap hLI.1) hE.1.1 (List.mem_append_right _ (hLI.2.2.2.1 71 List.mem_cons_self)) hLI.2.2.2.2.1 rfl) rfl rfl hl.1 rfl (lv_room (Nat.le_of_ble_eq_true rfl)) d_law_752 ⟨by show (cells + 1) + 0 ≤ 601024; omega, by show (slots + 6) + 0 ≤ 7293000; omega⟩) (fun r2 H locs f σ2 hfo hF hf hLI => ?_)
  have hR := RR_fr hF (by decide) hR
  have hq := iq_f hF (by decide) (by decide) hq
  clear hF
  have hq := hq
  refine lv_istore (lv' := [(6, .int (r2)), (5, .int (rr)), (4, .int (nI k)), (3, .ref o), (2, .ref (ad 71)), (1, .ref hP), (0, .ref b)]) hx hb d_law_755 hl (by decide) rfl (fun ls hl => ?_)
  refine lv_goto (tgt := 773) hx hb d_law_757 (by decide) ?_
  refine W.widen (k := cells + 16) (n := slots + 4144) (by omega) (by omega) ?_
  exact kk _ _ _ _ _ _ _ hLI hq hR (lv_sub hl [2, 3, 4, 5, 6] rfl)
set_option maxRecDepth 100000 in
set_option maxHeartbeats 4000000 in
theorem lt_time {p : Program} {l : Launch} {e : Env} {s : State} {m : MethodId} {below : List Frame} {meth : Method} {c : Code} {D : va_G} {ca : Nat → ClassId} {b L : Nat} {xs : Nat → Int32} {o hP : Nat} {ad : Nat → Nat} {M : List Nat} {Q : State → Prop} (hx : p.tables.exec = Jvm.exec) (hb : c.code = code) (hml : c.maxLocals = 8) (hown : s.vm.findClass R_La = some m.cls) (hts : ∀ w ∈ wg, w.before #[Value.ref b] s = true) (hX : va_X b L xs s s.heap) (hbl : b < s.heap.size) (hE : ek3 (fun q => s.heap.size ≤ q) s) (hfl : l.flags = Jvm.pinnedFlags ++ [Jvm.noTraceFlag]) (hL : L ≤ 2561) {H : Heap} {locs : List Loc} {Q1 : List Nat} {f : Nat → va_E} {g : List (Int32 × Int32)} {σ : mq_S} {cells slots k z : Nat} {ls : Array Slot} (hk : k + 5 ≤ L) (hz : z ≤ 512) (hc : cells + 16 ≤ 601024) (hs : slots + 4144 ≤ 7293000) (hLI : LI D ca (fun q => s.heap.size ≤ q) s H locs o hP ad M Q1 f g σ) (hq : IQ z σ) (hR : RR g σ) (hl : lv_has ls 8 [(4, .int (nI k)), (3, .ref o), (2, .ref (ad 71)), (1, .ref hP), (0, .ref b)])
    (kk : ∀ (H : Heap) (locs : List Loc) (Q1 : List Nat) (f : Nat → va_E) (g : List (Int32 × Int32)) (σ : mq_S) (ls : Array Slot), LI D ca (fun q => s.heap.size ≤ q) s H locs o hP ad M Q1 f g σ → IQ (z + 1) σ → RR g σ → lv_has ls 8 [(4, .int (nI k)), (3, .ref o), (2, .ref (ad 71)), (1, .ref hP), (0, .ref b)] → W p l e room_1 s m #[Value.ref b] below meth c H locs (cells + 16) (slots + 4144) Q (F0 m 773 ls [])) :
    W p l e room_1 s m #[Value.ref b] below meth c H locs cells slots Q (F0 m 760 ls []) := by
  refine lv_aload_n hx hb d_law_760 rfl (lv_at hl 3 rfl) ?_
  obtain ⟨-, -, T, g1, hT, t0, -⟩ := hLI.2.1
  obtain ⟨hL0, v0, v1, v3, v4, v5, v6, v7, v8, v9, v10, v11, v12, v13, v14, e0, -⟩ := ok_po_at hT t0
  have hI9 : sw_I D cl_all (ty_s ca) (fun q => s.heap.size ≤ q) s H locs ((M ++ [o]) ++ Q1) f := by rw [List.append_assoc]; exact hLI.1
  refine lw_pr hLI (va_runV (As := []) (rest := []) ⟨hx, hb, hml, hown, hts⟩ (c_Po_time l D ca T Q1 f H.size hT hP t0) (kv_Po_time hts rfl rfl (hts _ tw_408) ⟨Nat.le_of_ble_eq_true rfl, Nat.le_of_ble_eq_true rfl⟩) (sd_preV (q := (R_Po, F_Po, 15)) hI9 hE.1.1 (List.mem_append_right _ hL0) e0 rfl) rfl rfl hl.1 rfl (lv_room (Nat.le_of_ble_eq_true rfl)) d_law_761 ⟨by show cells + 0 ≤ 601024; omega, by show slots + 0 ≤ 7293000; omega⟩) (fun rr H locs f hLI => ?_)
  refine lv_pop2_2 hx hb d_law_764 rfl ?_
  refine lv_aload_n hx hb d_law_765 rfl (lv_at hl 2 rfl) ?_
  refine lw_ml hLI (va_runV (As := []) (rest := []) ⟨hx, hb, hml, hown, hts⟩ (c_Mo_time l D ca ad M f H.size _ hLI.2.2 ) (kv_Mo_time hts rfl rfl (hts _ tw_1541) ⟨Nat.le_of_ble_eq_true rfl, Nat.le_of_ble_eq_true rfl⟩) (sd_preV (q := (R_Mo, F_Mo, 71)) (L := o :: Q1) (K := M) (sw_swap hLI.1) hE.1.1 (List.mem_append_right _ (hLI.2.2.2.1 71 List.mem_cons_self)) hLI.2.2.2.2.1 rfl) rfl rfl hl.1 rfl (lv_room (Nat.le_of_ble_eq_true rfl)) d_law_766 ⟨by show cells + 0 ≤ 601024; omega, by show slots + 0 ≤ 7293000; omega⟩) (fun r2 H locs f σ2 hF hf hLI => ?_)
  have hR := RR_fr hF (by decide) hR
  have hq := iq_f hF (by decide) (by decide) hq
  clear hF
  have hq := hq
  refine lv_pop2_2 hx hb d_law_769 rfl ?_
  refine lv_goto (tgt := 773) hx hb d_law_770 (by decide) ?_
  refine W.widen (k := cells + 16) (n := slots + 4144) (by omega) (by omega) ?_
  exact kk _ _ _ _ _ _ _ hLI hq hR (lv_sub hl [0, 1, 2, 3, 4] rfl)
