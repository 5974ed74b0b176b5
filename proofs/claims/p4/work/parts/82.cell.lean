/-! the law's cell, and what the reference says that it threw -/
theorem c_Mo_thrown2 (l : Launch) (D : va_G) (ca : Nat → ClassId) (ad : Nat → Nat) (L : List Nat) (f0 : Nat → va_E) (sz : Nat) (σ0 : mq_S) (hM : mq_B ca ad σ0 L f0)  :
    Met l y_Mo_thrown (Cond.code y_Mo_thrown b_Mo_thrown 1 (some .int) :: wg) { frames := 0, cells := 0, slots := 0, locals := 0 } (va_Pc [.ref (ad 71)] (sm_P D cl_all (ty_s ca) ek L f0 sz)) (sm_Qi D (ty_s ca) L f0 sz (fun r u => (r = σ0.1 0) ∧ u = (L, f0))) 0 0 (va_A (va_pl L f0) sz) := by
  refine sm_start (by decide) (Nat.le_of_ble_eq_true rfl) ?_
  intro p e s m below meth c ls hx hb hml hr hlk hnm hts hown hsz hE hI hl
  have hl : lv_has ls 1 [(0, .ref (ad 71))] := hl
  refine lv_aload_n hx hb d_Mo_thrown_0 rfl (lv_at hl 0 rfl) ?_
  obtain ⟨x_1, e_2⟩ : ∃ z, σ0.1 0 = z := ⟨_, rfl⟩
  refine mq_get (k := 0) (v := .int (x_1)) hx hb hts hown hI hM (by decide) (congrArg (fun z => some (Value.int z)) e_2) rfl (hts _ tw_1169) d_Mo_thrown_1 ?_
  exact sm_iret hx hb hr hlk hI ⟨e_2.symm, rfl⟩ d_Mo_thrown_4
theorem d_La_cell_0 : decode b_La_cell 0 = .ok (.iload_n 1, 1) := by decide +kernel
theorem d_La_cell_1 : decode b_La_cell 1 = .ok (.aload_n 0, 1) := by decide +kernel
theorem d_La_cell_2 : decode b_La_cell 2 = .ok (.arraylength, 1) := by decide +kernel
theorem d_La_cell_3 : decode b_La_cell 3 = .ok (.if_icmp .ge 9, 3) := by decide +kernel
theorem d_La_cell_6 : decode b_La_cell 6 = .ok (.aload_n 0, 1) := by decide +kernel
theorem d_La_cell_7 : decode b_La_cell 7 = .ok (.iload_n 1, 1) := by decide +kernel
theorem d_La_cell_8 : decode b_La_cell 8 = .ok (.iaload, 1) := by decide +kernel
theorem d_La_cell_9 : decode b_La_cell 9 = .ok (.goto 4, 3) := by decide +kernel
theorem d_La_cell_12 : decode b_La_cell 12 = .ok (.iconst 0, 1) := by decide +kernel
theorem d_La_cell_13 : decode b_La_cell 13 = .ok (.ireturn, 1) := by decide +kernel
theorem ce_in {L : Nat} (hL : L ≤ 2561) (h : ¬ Int32.ofNat L ≤ 0) : vp_in 0 L := by
  have : 0 < L := Nat.pos_of_ne_zero (fun q => h (by rw [q]; decide))
  exact vp_in_nI (n := 0) this (by omega)
set_option maxRecDepth 100000 in
theorem c_La_cell (l : Launch) (b L : Nat) (xs : Nat → Int32) (hL : L ≤ 2561) :
    Met l y_La_cell (Cond.code y_La_cell b_La_cell 2 (some .int) :: wg) { frames := 0, cells := 0, slots := 0, locals := 0 } (va_Pc [.ref b, .int 0] (fun U => va_X b L xs U U.heap)) (va_Qi (fun _ (_ : Unit) => True) (fun _ _ => True) (fun _ => False)) 0 0 (fun _ => False) := by
  refine Met.ofW (cc := b_La_cell) (maxL := 2) (ret := some .int) (by decide) rfl ?_
  intro p e s m args below meth c s₁ B hml hv
  obtain ⟨rfl, hX⟩ := hv
  have hx := B.exec
  have hb := B.bytes
  have hr := B.returns
  have hlk := B.notSynchronized
  have hbl : b < s.heap.size := by
    obtain ⟨scr, h, -⟩ := hX
    exact (Array.getElem?_eq_some_iff.mp h).1
  have hS : va_S (fun _ => False) s.heap s.heap [] := va_S.rf
  rw [lg_entry_eq]
  have key : ∀ ls : Array Slot, lv_has ls 2 [(0, .ref b), (1, .int 0)] → W p l e { frames := 0, cells := 0, slots := 0, locals := 0 } s m ([.ref b, .int 0] : List Value).toArray below meth c s.heap [] 0 0 (MQ below (va_Qi (fun _ (_ : Unit) => True) (fun _ _ => True) (fun _ => False)) ([.ref b, .int 0] : List Value).toArray s 0 0 (fun _ => False)) (F0 m 0 ls []) := by
    intro ls hl
    have hend : ∀ v : Int32, W p l e { frames := 0, cells := 0, slots := 0, locals := 0 } s m ([.ref b, .int 0] : List Value).toArray below meth c s.heap [] 0 0 (MQ below (va_Qi (fun _ (_ : Unit) => True) (fun _ _ => True) (fun _ => False)) ([.ref b, .int 0] : List Value).toArray s 0 0 (fun _ => False)) (F0 m 13 ls [.int v]) := fun v =>
      W.iret hx hb hr (fun t ht _ => ⟨⟨v, (), rfl, trivial, trivial⟩, by rw [ht]; exact Nat.le_refl _, fun q _ _ => by rw [ht]⟩) (by simp) d_La_cell_13 hlk
    refine lv_iload_n hx hb d_La_cell_0 rfl (lv_at hl 1 rfl) ?_
    refine lv_aload_n hx hb d_La_cell_1 rfl (lv_at hl 0 rfl) ?_
    refine va_slen hx hb hX hbl (fun h => h) hS d_La_cell_2 ?_
    refine lv_icmp_ge (tgt := 12) hx hb d_La_cell_3 (by decide) (fun c1 => ?_) (fun c1 => ?_)
    · refine lv_iconst (v := 0) hx hb d_La_cell_12 (by decide) ?_
      exact hend 0
    · refine lv_aload_n hx hb d_La_cell_6 rfl (lv_at hl 0 rfl) ?_
      refine lv_iload_n hx hb d_La_cell_7 rfl (lv_at hl 1 rfl) ?_
      refine va_sld hx hb hX hbl (fun h => h) hS (ce_in hL c1) d_La_cell_8 ?_
      refine lv_goto (tgt := 13) hx hb d_La_cell_9 (by decide) ?_
      exact hend _
  exact key _ (lv_entry [.ref b, .int 0] (Nat.le_of_ble_eq_true rfl))
