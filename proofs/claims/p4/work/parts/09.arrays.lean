/-! arrays of cells that have types (written by wip/tools/rows2.py) -/
section ARRAYS
variable {p : Program} {l : Launch} {e : Env} {R : Room} {s : State} {m : MethodId} {args : Array Value} {below : List Frame} {meth : Method} {c : Code} {H : Heap} {locs : List Loc} {cells slots : Nat} {Q : State → Prop}
variable {cc : ByteArray} {pc : Nat} {ls : Array Slot} {rest : List Value} {D : va_G} {A : Nat → Prop} {a : Nat} {L : List Nat} {f : Nat → va_E} {ca : Nat → ClassId} {T : ty_e} {own ref host : String} {index : Nat}

theorem fa_cns (hx : p.tables.exec = Jvm.exec) (hb : c.code = cc) (hI : sw_I D cl_all (ty_s ca) A s H locs L f) (hT : ok_T ca T L f) (ha : T a = some ty_cns) {j : Nat} (hj : j < 3) (hdg : decode cc pc = .ok (.aaload, 1)) (kk : ∀ b : Nat, T b = some (ty_cn j) → W p l e R s m args below meth c H locs cells slots Q (F0 m (pc + 1) ls (.ref b :: rest))) : W p l e R s m args below meth c H locs cells slots Q (F0 m pc ls (.int (nI j) :: .ref a :: rest)) := by
  obtain ⟨hL, q, e1, hq⟩ := hT a _ ha
  obtain ⟨b, hb1, ht⟩ := hq j hj
  refine sw_aldq hx hb hI hL 4 e1 rfl (vp_in_nI hj (by decide)) hdg ?_
  rw [nI_clamp (by omega), hb1]
  exact kk b ht
theorem fl_cns (hx : p.tables.exec = Jvm.exec) (hb : c.code = cc) (hI : sw_I D cl_all (ty_s ca) A s H locs L f) (hT : ok_T ca T L f) (ha : T a = some ty_cns) (hdg : decode cc pc = .ok (.arraylength, 1)) (kk : W p l e R s m args below meth c H locs cells slots Q (F0 m (pc + 1) ls (.int (nI 3) :: rest))) : W p l e R s m args below meth c H locs cells slots Q (F0 m pc ls (.ref a :: rest)) := by
  obtain ⟨hL, q, e1, hq⟩ := hT a _ ha
  exact sw_alen hx hb hI hL 4 e1 rfl rfl hdg kk
theorem fa_ops (hx : p.tables.exec = Jvm.exec) (hb : c.code = cc) (hI : sw_I D cl_all (ty_s ca) A s H locs L f) (hT : ok_T ca T L f) (ha : T a = some ty_ops) {j : Nat} (hj : j < 24) (hdg : decode cc pc = .ok (.aaload, 1)) (kk : ∀ b : Nat, T b = some (ty_op) → W p l e R s m args below meth c H locs cells slots Q (F0 m (pc + 1) ls (.ref b :: rest))) : W p l e R s m args below meth c H locs cells slots Q (F0 m pc ls (.int (nI j) :: .ref a :: rest)) := by
  obtain ⟨hL, q, e1, hq⟩ := hT a _ ha
  obtain ⟨b, hb1, ht⟩ := hq j hj
  refine sw_aldq hx hb hI hL 5 e1 rfl (vp_in_nI hj (by decide)) hdg ?_
  rw [nI_clamp (by omega), hb1]
  exact kk b ht
theorem fl_ops (hx : p.tables.exec = Jvm.exec) (hb : c.code = cc) (hI : sw_I D cl_all (ty_s ca) A s H locs L f) (hT : ok_T ca T L f) (ha : T a = some ty_ops) (hdg : decode cc pc = .ok (.arraylength, 1)) (kk : W p l e R s m args below meth c H locs cells slots Q (F0 m (pc + 1) ls (.int (nI 24) :: rest))) : W p l e R s m args below meth c H locs cells slots Q (F0 m pc ls (.ref a :: rest)) := by
  obtain ⟨hL, q, e1, hq⟩ := hT a _ ha
  exact sw_alen hx hb hI hL 5 e1 rfl rfl hdg kk
theorem fa_evs (hx : p.tables.exec = Jvm.exec) (hb : c.code = cc) (hI : sw_I D cl_all (ty_s ca) A s H locs L f) (hT : ok_T ca T L f) (ha : T a = some ty_evs) {j : Nat} (hj : j < 48) (hdg : decode cc pc = .ok (.aaload, 1)) (kk : ∀ b : Nat, T b = some (ty_ev) → W p l e R s m args below meth c H locs cells slots Q (F0 m (pc + 1) ls (.ref b :: rest))) : W p l e R s m args below meth c H locs cells slots Q (F0 m pc ls (.int (nI j) :: .ref a :: rest)) := by
  obtain ⟨hL, q, e1, hq⟩ := hT a _ ha
  obtain ⟨b, hb1, ht⟩ := hq j hj
  refine sw_aldq hx hb hI hL 6 e1 rfl (vp_in_nI hj (by decide)) hdg ?_
  rw [nI_clamp (by omega), hb1]
  exact kk b ht
theorem fl_evs (hx : p.tables.exec = Jvm.exec) (hb : c.code = cc) (hI : sw_I D cl_all (ty_s ca) A s H locs L f) (hT : ok_T ca T L f) (ha : T a = some ty_evs) (hdg : decode cc pc = .ok (.arraylength, 1)) (kk : W p l e R s m args below meth c H locs cells slots Q (F0 m (pc + 1) ls (.int (nI 48) :: rest))) : W p l e R s m args below meth c H locs cells slots Q (F0 m pc ls (.ref a :: rest)) := by
  obtain ⟨hL, q, e1, hq⟩ := hT a _ ha
  exact sw_alen hx hb hI hL 6 e1 rfl rfl hdg kk
theorem fa_ans (hx : p.tables.exec = Jvm.exec) (hb : c.code = cc) (hI : sw_I D cl_all (ty_s ca) A s H locs L f) (hT : ok_T ca T L f) (ha : T a = some ty_ans) {j : Nat} (hj : j < 16) (hdg : decode cc pc = .ok (.aaload, 1)) (kk : ∀ b : Nat, T b = some (ty_an) → W p l e R s m args below meth c H locs cells slots Q (F0 m (pc + 1) ls (.ref b :: rest))) : W p l e R s m args below meth c H locs cells slots Q (F0 m pc ls (.int (nI j) :: .ref a :: rest)) := by
  obtain ⟨hL, q, e1, hq⟩ := hT a _ ha
  obtain ⟨b, hb1, ht⟩ := hq j hj
  refine sw_aldq hx hb hI hL 7 e1 rfl (vp_in_nI hj (by decide)) hdg ?_
  rw [nI_clamp (by omega), hb1]
  exact kk b ht
theorem fl_ans (hx : p.tables.exec = Jvm.exec) (hb : c.code = cc) (hI : sw_I D cl_all (ty_s ca) A s H locs L f) (hT : ok_T ca T L f) (ha : T a = some ty_ans) (hdg : decode cc pc = .ok (.arraylength, 1)) (kk : W p l e R s m args below meth c H locs cells slots Q (F0 m (pc + 1) ls (.int (nI 16) :: rest))) : W p l e R s m args below meth c H locs cells slots Q (F0 m pc ls (.ref a :: rest)) := by
  obtain ⟨hL, q, e1, hq⟩ := hT a _ ha
  exact sw_alen hx hb hI hL 7 e1 rfl rfl hdg kk
theorem fa_pts (hx : p.tables.exec = Jvm.exec) (hb : c.code = cc) (hI : sw_I D cl_all (ty_s ca) A s H locs L f) (hT : ok_T ca T L f) {g : List (Int32 × Int32)} (ha : T a = some (ty_pts g)) {j : Nat} {x : Int32 × Int32} (hj : g[j]? = some x) (hj2 : j < 32) (hdg : decode cc pc = .ok (.aaload, 1)) (kk : ∀ b : Nat, T b = some (ty_pt x) → W p l e R s m args below meth c H locs cells slots Q (F0 m (pc + 1) ls (.ref b :: rest))) : W p l e R s m args below meth c H locs cells slots Q (F0 m pc ls (.int (nI j) :: .ref a :: rest)) := by
  obtain ⟨hL, q, e1, hq⟩ := hT a _ ha
  obtain ⟨b, hb1, ht⟩ := hq j x hj
  refine sw_aldq hx hb hI hL 3 e1 rfl (vp_in_nI hj2 (by decide)) hdg ?_
  rw [nI_clamp (by omega), hb1]
  exact kk b ht
theorem fs_evs (hx : p.tables.exec = Jvm.exec) (hb : c.code = cc) (hI : sw_I D cl_all (ty_s ca) A s H locs L f) (hT : ok_T ca T L f) (ha : T a = some ty_evs) {j v : Nat} (hj : j < 48) (hv : T v = some ty_ev) (hdg : decode cc pc = .ok (.aastore, 1)) (kk : ∀ (H1 : Heap) (locs1 : List Loc) (f1 : Nat → va_E), sw_I D cl_all (ty_s ca) A s H1 locs1 L f1 → ok_T ca T L f1 → (∀ q, q ≠ a → f1 q = f q) → W p l e R s m args below meth c H1 locs1 cells slots Q (F0 m (pc + 1) ls rest)) : W p l e R s m args below meth c H locs cells slots Q (F0 m pc ls (.ref v :: .int (nI j) :: .ref a :: rest)) := by
  obtain ⟨hL, q, e1, hq⟩ := hT a _ ha
  obtain ⟨hvL, v0, v1, v2, v3, v4, e2, -⟩ := ok_ev_at hT hv
  refine sw_astq hx hb hI hL 6 4 (r := (R_Ev, F_Ev, 5)) e1 rfl hvL e2 rfl (vp_in_nI hj (by decide)) hdg (fun H1 locs1 hI1 => kk H1 locs1 _ hI1 (ok_up hT ha ⟨_, rfl, fun i hi => ?_⟩) (fun q h => va_up_ne _ _ h))
  rw [nI_clamp (by omega)]
  by_cases h : i = j
  · subst h
    exact ⟨v, va_up_self _ _ _, hv⟩
  · rw [va_up_ne _ _ h]
    exact hq i hi
theorem fa_I (hx : p.tables.exec = Jvm.exec) (hb : c.code = cc) (hI : sw_I D cl_all (ty_s ca) A s H locs L f) (hT : ok_T ca T L f) {n : Nat} (ha : T a = some (ty_I n)) {i : Int32} (hi : vp_in i n) (hdg : decode cc pc = .ok (.iaload, 1)) (kk : ∀ x : Int32, W p l e R s m args below meth c H locs cells slots Q (F0 m (pc + 1) ls (.int x :: rest))) : W p l e R s m args below meth c H locs cells slots Q (F0 m pc ls (.int i :: .ref a :: rest)) := by
  obtain ⟨hL, q, e1⟩ := hT a _ ha
  exact sw_iald hx hb hI hL 0 e1 rfl hi hdg (kk _)
theorem fl_I (hx : p.tables.exec = Jvm.exec) (hb : c.code = cc) (hI : sw_I D cl_all (ty_s ca) A s H locs L f) (hT : ok_T ca T L f) {n : Nat} (ha : T a = some (ty_I n)) (hdg : decode cc pc = .ok (.arraylength, 1)) (kk : W p l e R s m args below meth c H locs cells slots Q (F0 m (pc + 1) ls (.int (nI n) :: rest))) : W p l e R s m args below meth c H locs cells slots Q (F0 m pc ls (.ref a :: rest)) := by
  obtain ⟨hL, q, e1⟩ := hT a _ ha
  exact sw_alen hx hb hI hL 0 e1 rfl rfl hdg kk
theorem fs_I (hx : p.tables.exec = Jvm.exec) (hb : c.code = cc) (hI : sw_I D cl_all (ty_s ca) A s H locs L f) (hT : ok_T ca T L f) {n : Nat} (ha : T a = some (ty_I n)) {i x : Int32} (hi : vp_in i n) (hdg : decode cc pc = .ok (.iastore, 1)) (kk : ∀ (H1 : Heap) (locs1 : List Loc) (f1 : Nat → va_E), sw_I D cl_all (ty_s ca) A s H1 locs1 L f1 → ok_T ca T L f1 → (∀ b, b ≠ a → f1 b = f b) → W p l e R s m args below meth c H1 locs1 cells slots Q (F0 m (pc + 1) ls rest)) : W p l e R s m args below meth c H locs cells slots Q (F0 m pc ls (.int x :: .int i :: .ref a :: rest)) := by
  obtain ⟨hL, q, e1⟩ := hT a _ ha
  exact sw_iast hx hb hI hL 0 e1 rfl hi hdg (fun H1 locs1 hI1 => kk H1 locs1 _ hI1 (ok_up hT ha ⟨_, rfl⟩) (fun b h => va_up_ne _ _ h))
theorem fa_J (hx : p.tables.exec = Jvm.exec) (hb : c.code = cc) (hI : sw_I D cl_all (ty_s ca) A s H locs L f) (hT : ok_T ca T L f) {n : Nat} (ha : T a = some (ty_J n)) {i : Int32} (hi : vp_in i n) (hdg : decode cc pc = .ok (.laload, 1)) (kk : ∀ x : Int64, W p l e R s m args below meth c H locs cells slots Q (F0 m (pc + 1) ls (.long x :: rest))) : W p l e R s m args below meth c H locs cells slots Q (F0 m pc ls (.int i :: .ref a :: rest)) := by
  obtain ⟨hL, q, e1⟩ := hT a _ ha
  exact sw_lald hx hb hI hL 1 e1 rfl hi hdg (kk _)
theorem fs_J (hx : p.tables.exec = Jvm.exec) (hb : c.code = cc) (hI : sw_I D cl_all (ty_s ca) A s H locs L f) (hT : ok_T ca T L f) {n : Nat} (ha : T a = some (ty_J n)) {i : Int32} {x : Int64} (hi : vp_in i n) (hdg : decode cc pc = .ok (.lastore, 1)) (kk : ∀ (H1 : Heap) (locs1 : List Loc) (f1 : Nat → va_E), sw_I D cl_all (ty_s ca) A s H1 locs1 L f1 → ok_T ca T L f1 → W p l e R s m args below meth c H1 locs1 cells slots Q (F0 m (pc + 1) ls rest)) : W p l e R s m args below meth c H locs cells slots Q (F0 m pc ls (.long x :: .int i :: .ref a :: rest)) := by
  obtain ⟨hL, q, e1⟩ := hT a _ ha
  exact sw_last hx hb hI hL 1 e1 rfl hi hdg (fun H1 locs1 hI1 => kk H1 locs1 _ hI1 (ok_up hT ha ⟨_, rfl⟩))
theorem fa_tb (hx : p.tables.exec = Jvm.exec) (hb : c.code = cc) {cl : List vw_C} {tys : List (ClassId × FieldType)} (hI : sw_I D cl tys A s H locs L f) {i t : Nat} (hZ : va_T .int t (st_v i).length (fun j => .int ((st_v i).getD j 0)) A s s.heap) {j : Nat} (hj : j < (st_v i).length) (hj2 : (st_v i).length < 2 ^ 31) (hdg : decode cc pc = .ok (.iaload, 1)) (kk : W p l e R s m args below meth c H locs cells slots Q (F0 m (pc + 1) ls (.int ((st_v i).getD j 0) :: rest))) : W p l e R s m args below meth c H locs cells slots Q (F0 m pc ls (.int (nI j) :: .ref t :: rest)) := by
  refine va_ti hx hb hZ hI.2.2.1 (vp_in_nI hj hj2) rfl hdg ?_
  rw [nI_clamp (by omega)]
  exact kk
end ARRAYS
def is_li (T : ty_e) (a : Nat) : Prop := (∃ k : Nat, T a = some (ty_cn k)) ∨ T a = some ty_sr
def li_ix (T : ty_e) (a j : Nat) : Prop := (j < 3 ∧ T a = some (ty_cn j)) ∨ (j = 3 ∧ T a = some ty_sr)
theorem li_le {T : ty_e} {a j : Nat} (h : li_ix T a j) : j ≤ 3 := by
  rcases h with h | h <;> omega
theorem li_un {T : ty_e} {a j k : Nat} (h : li_ix T a j) (h2 : li_ix T a k) : j = k := by
  rcases h with ⟨h, e⟩ | ⟨h, e⟩ <;> rcases h2 with ⟨h2, e2⟩ | ⟨h2, e2⟩
  · rw [e] at e2
    simpa using e2
  · rw [e] at e2
    simp at e2
  · rw [e] at e2
    simp at e2
  · omega
section LINES
variable {p : Program} {l : Launch} {e : Env} {R : Room} {s : State} {m : MethodId} {args : Array Value} {below : List Frame} {meth : Method} {c : Code} {H : Heap} {locs : List Loc} {cells slots : Nat} {Q : State → Prop}
variable {cc : ByteArray} {pc : Nat} {ls : Array Slot} {rest : List Value} {D : va_G} {A : Nat → Prop} {a : Nat} {L : List Nat} {f : Nat → va_E} {ca : Nat → ClassId} {T : ty_e} {own ref host : String} {index : Nat}

theorem fg_Li_index (hx : p.tables.exec = Jvm.exec) (hb : c.code = cc) (hts : ∀ w ∈ wg, w.before args s = true) (hown : s.vm.findClass own = some m.cls) (hI : sw_I D cl_all (ty_s ca) A s H locs L f) (hT : ok_T ca T L f) (ha : is_li T a) (hlink : (Cond.fieldLink own index ref "index" "I").before args s = true) (hsame : ∀ x, s.fieldFound? "TelecontrolPost$Line" "index" "I" = some x → s.fieldFound? ref "index" "I" = some x) (hdg : decode cc pc = .ok (.getfield index, 3)) (kk : ∀ j : Nat, li_ix T a j → W p l e R s m args below meth c H locs cells slots Q (F0 m (pc + 3) ls (.int (nI j) :: rest))) : W p l e R s m args below meth c H locs cells slots Q (F0 m pc ls (.ref a :: rest)) := by
  rcases ha with ⟨k, ha⟩ | ha
  · exact fg_Cn_index hx hb hts hown hI hT ha hlink hsame hdg (fun h => kk _ (Or.inl ⟨h, ha⟩))
  · exact fg_Sr_index hx hb hts hown hI hT ha hlink hsame hdg (kk 3 (Or.inr ⟨rfl, ha⟩))
theorem fgN_Li_index (hx : p.tables.exec = Jvm.exec) (hb : c.code = cc) (hts : ∀ w ∈ wg, w.before args s = true) (hown : s.vm.findClass own = some m.cls) (hI : sw_I D cl_all (ty_s ca) A s H locs L f) (hT : ok_T ca T L f) (ha : is_li T a) (hlink : (Cond.fieldLinkNest own index ref "index" "I" host).before args s = true) (hsame : ∀ x, s.fieldFound? "TelecontrolPost$Line" "index" "I" = some x → s.fieldFound? ref "index" "I" = some x) (hdg : decode cc pc = .ok (.getfield index, 3)) (kk : ∀ j : Nat, li_ix T a j → W p l e R s m args below meth c H locs cells slots Q (F0 m (pc + 3) ls (.int (nI j) :: rest))) : W p l e R s m args below meth c H locs cells slots Q (F0 m pc ls (.ref a :: rest)) := by
  rcases ha with ⟨k, ha⟩ | ha
  · exact fgN_Cn_index hx hb hts hown hI hT ha hlink hsame hdg (fun h => kk _ (Or.inl ⟨h, ha⟩))
  · exact fgN_Sr_index hx hb hts hown hI hT ha hlink hsame hdg (kk 3 (Or.inr ⟨rfl, ha⟩))
theorem fg_Li_waiting (hx : p.tables.exec = Jvm.exec) (hb : c.code = cc) (hts : ∀ w ∈ wg, w.before args s = true) (hown : s.vm.findClass own = some m.cls) (hI : sw_I D cl_all (ty_s ca) A s H locs L f) (hT : ok_T ca T L f) (ha : is_li T a) (hlink : (Cond.fieldLink own index ref "waiting" "LTelecontrolPost$ByteRow;").before args s = true) (hsame : ∀ x, s.fieldFound? "TelecontrolPost$Line" "waiting" "LTelecontrolPost$ByteRow;" = some x → s.fieldFound? ref "waiting" "LTelecontrolPost$ByteRow;" = some x) (hdg : decode cc pc = .ok (.getfield index, 3)) (kk : ∀ (x n : Nat), T x = some (ty_row n) → W p l e R s m args below meth c H locs cells slots Q (F0 m (pc + 3) ls (.ref x :: rest))) : W p l e R s m args below meth c H locs cells slots Q (F0 m pc ls (.ref a :: rest)) := by
  rcases ha with ⟨k, ha⟩ | ha
  · exact fg_Cn_waiting hx hb hts hown hI hT ha hlink hsame hdg (fun x h => kk x _ h)
  · exact fg_Sr_waiting hx hb hts hown hI hT ha hlink hsame hdg (fun x h => kk x _ h)
theorem fgN_Li_waiting (hx : p.tables.exec = Jvm.exec) (hb : c.code = cc) (hts : ∀ w ∈ wg, w.before args s = true) (hown : s.vm.findClass own = some m.cls) (hI : sw_I D cl_all (ty_s ca) A s H locs L f) (hT : ok_T ca T L f) (ha : is_li T a) (hlink : (Cond.fieldLinkNest own index ref "waiting" "LTelecontrolPost$ByteRow;" host).before args s = true) (hsame : ∀ x, s.fieldFound? "TelecontrolPost$Line" "waiting" "LTelecontrolPost$ByteRow;" = some x → s.fieldFound? ref "waiting" "LTelecontrolPost$ByteRow;" = some x) (hdg : decode cc pc = .ok (.getfield index, 3)) (kk : ∀ (x n : Nat), T x = some (ty_row n) → W p l e R s m args below meth c H locs cells slots Q (F0 m (pc + 3) ls (.ref x :: rest))) : W p l e R s m args below meth c H locs cells slots Q (F0 m pc ls (.ref a :: rest)) := by
  rcases ha with ⟨k, ha⟩ | ha
  · exact fgN_Cn_waiting hx hb hts hown hI hT ha hlink hsame hdg (fun x h => kk x _ h)
  · exact fgN_Sr_waiting hx hb hts hown hI hT ha hlink hsame hdg (fun x h => kk x _ h)
theorem fg_Li_heard (hx : p.tables.exec = Jvm.exec) (hb : c.code = cc) (hts : ∀ w ∈ wg, w.before args s = true) (hown : s.vm.findClass own = some m.cls) (hI : sw_I D cl_all (ty_s ca) A s H locs L f) (hT : ok_T ca T L f) (ha : is_li T a) (hlink : (Cond.fieldLink own index ref "heard" "LTelecontrolPost$ByteRow;").before args s = true) (hsame : ∀ x, s.fieldFound? "TelecontrolPost$Line" "heard" "LTelecontrolPost$ByteRow;" = some x → s.fieldFound? ref "heard" "LTelecontrolPost$ByteRow;" = some x) (hdg : decode cc pc = .ok (.getfield index, 3)) (kk : ∀ x : Nat, T x = some (ty_row 4145) → W p l e R s m args below meth c H locs cells slots Q (F0 m (pc + 3) ls (.ref x :: rest))) : W p l e R s m args below meth c H locs cells slots Q (F0 m pc ls (.ref a :: rest)) := by
  rcases ha with ⟨k, ha⟩ | ha
  · exact fg_Cn_heard hx hb hts hown hI hT ha hlink hsame hdg kk
  · exact fg_Sr_heard hx hb hts hown hI hT ha hlink hsame hdg kk
theorem fgN_Li_heard (hx : p.tables.exec = Jvm.exec) (hb : c.code = cc) (hts : ∀ w ∈ wg, w.before args s = true) (hown : s.vm.findClass own = some m.cls) (hI : sw_I D cl_all (ty_s ca) A s H locs L f) (hT : ok_T ca T L f) (ha : is_li T a) (hlink : (Cond.fieldLinkNest own index ref "heard" "LTelecontrolPost$ByteRow;" host).before args s = true) (hsame : ∀ x, s.fieldFound? "TelecontrolPost$Line" "heard" "LTelecontrolPost$ByteRow;" = some x → s.fieldFound? ref "heard" "LTelecontrolPost$ByteRow;" = some x) (hdg : decode cc pc = .ok (.getfield index, 3)) (kk : ∀ x : Nat, T x = some (ty_row 4145) → W p l e R s m args below meth c H locs cells slots Q (F0 m (pc + 3) ls (.ref x :: rest))) : W p l e R s m args below meth c H locs cells slots Q (F0 m pc ls (.ref a :: rest)) := by
  rcases ha with ⟨k, ha⟩ | ha
  · exact fgN_Cn_heard hx hb hts hown hI hT ha hlink hsame hdg kk
  · exact fgN_Sr_heard hx hb hts hown hI hT ha hlink hsame hdg kk
theorem fg_Li_answers (hx : p.tables.exec = Jvm.exec) (hb : c.code = cc) (hts : ∀ w ∈ wg, w.before args s = true) (hown : s.vm.findClass own = some m.cls) (hI : sw_I D cl_all (ty_s ca) A s H locs L f) (hT : ok_T ca T L f) (ha : is_li T a) (hlink : (Cond.fieldLink own index ref "answers" "LTelecontrolPost$Answers;").before args s = true) (hsame : ∀ x, s.fieldFound? "TelecontrolPost$Line" "answers" "LTelecontrolPost$Answers;" = some x → s.fieldFound? ref "answers" "LTelecontrolPost$Answers;" = some x) (hdg : decode cc pc = .ok (.getfield index, 3)) (kk : ∀ x : Nat, T x = some (ty_as) → W p l e R s m args below meth c H locs cells slots Q (F0 m (pc + 3) ls (.ref x :: rest))) : W p l e R s m args below meth c H locs cells slots Q (F0 m pc ls (.ref a :: rest)) := by
  rcases ha with ⟨k, ha⟩ | ha
  · exact fg_Cn_answers hx hb hts hown hI hT ha hlink hsame hdg kk
  · exact fg_Sr_answers hx hb hts hown hI hT ha hlink hsame hdg kk
theorem fgN_Li_answers (hx : p.tables.exec = Jvm.exec) (hb : c.code = cc) (hts : ∀ w ∈ wg, w.before args s = true) (hown : s.vm.findClass own = some m.cls) (hI : sw_I D cl_all (ty_s ca) A s H locs L f) (hT : ok_T ca T L f) (ha : is_li T a) (hlink : (Cond.fieldLinkNest own index ref "answers" "LTelecontrolPost$Answers;" host).before args s = true) (hsame : ∀ x, s.fieldFound? "TelecontrolPost$Line" "answers" "LTelecontrolPost$Answers;" = some x → s.fieldFound? ref "answers" "LTelecontrolPost$Answers;" = some x) (hdg : decode cc pc = .ok (.getfield index, 3)) (kk : ∀ x : Nat, T x = some (ty_as) → W p l e R s m args below meth c H locs cells slots Q (F0 m (pc + 3) ls (.ref x :: rest))) : W p l e R s m args below meth c H locs cells slots Q (F0 m pc ls (.ref a :: rest)) := by
  rcases ha with ⟨k, ha⟩ | ha
  · exact fgN_Cn_answers hx hb hts hown hI hT ha hlink hsame hdg kk
  · exact fgN_Sr_answers hx hb hts hown hI hT ha hlink hsame hdg kk
theorem fg_Li_state (hx : p.tables.exec = Jvm.exec) (hb : c.code = cc) (hts : ∀ w ∈ wg, w.before args s = true) (hown : s.vm.findClass own = some m.cls) (hI : sw_I D cl_all (ty_s ca) A s H locs L f) (hT : ok_T ca T L f) (ha : is_li T a) (hlink : (Cond.fieldLink own index ref "state" "I").before args s = true) (hsame : ∀ x, s.fieldFound? "TelecontrolPost$Line" "state" "I" = some x → s.fieldFound? ref "state" "I" = some x) (hdg : decode cc pc = .ok (.getfield index, 3)) (kk : ∀ x : Int32, W p l e R s m args below meth c H locs cells slots Q (F0 m (pc + 3) ls (.int x :: rest))) : W p l e R s m args below meth c H locs cells slots Q (F0 m pc ls (.ref a :: rest)) := by
  rcases ha with ⟨k, ha⟩ | ha
  · exact fg_Cn_state hx hb hts hown hI hT ha hlink hsame hdg kk
  · exact fg_Sr_state hx hb hts hown hI hT ha hlink hsame hdg kk
theorem fp_Li_state (hx : p.tables.exec = Jvm.exec) (hb : c.code = cc) (hts : ∀ w ∈ wg, w.before args s = true) (hown : s.vm.findClass own = some m.cls) (hI : sw_I D cl_all (ty_s ca) A s H locs L f) (hT : ok_T ca T L f) (ha : is_li T a) (hlink : (Cond.fieldLink own index ref "state" "I").before args s = true) (hsame : ∀ x, s.fieldFound? "TelecontrolPost$Line" "state" "I" = some x → s.fieldFound? ref "state" "I" = some x) {v : Int32} (hdg : decode cc pc = .ok (.putfield index, 3)) (kk : ∀ (H1 : Heap) (locs1 : List Loc) (f1 : Nat → va_E), sw_I D cl_all (ty_s ca) A s H1 locs1 L f1 → ok_T ca T L f1 → W p l e R s m args below meth c H1 locs1 cells slots Q (F0 m (pc + 3) ls rest)) : W p l e R s m args below meth c H locs cells slots Q (F0 m pc ls (.int v :: .ref a :: rest)) := by
  rcases ha with ⟨k, ha⟩ | ha
  · exact fp_Cn_state hx hb hts hown hI hT ha hlink hsame  hdg kk
  · exact fp_Sr_state hx hb hts hown hI hT ha hlink hsame  hdg kk
theorem fgN_Li_state (hx : p.tables.exec = Jvm.exec) (hb : c.code = cc) (hts : ∀ w ∈ wg, w.before args s = true) (hown : s.vm.findClass own = some m.cls) (hI : sw_I D cl_all (ty_s ca) A s H locs L f) (hT : ok_T ca T L f) (ha : is_li T a) (hlink : (Cond.fieldLinkNest own index ref "state" "I" host).before args s = true) (hsame : ∀ x, s.fieldFound? "TelecontrolPost$Line" "state" "I" = some x → s.fieldFound? ref "state" "I" = some x) (hdg : decode cc pc = .ok (.getfield index, 3)) (kk : ∀ x : Int32, W p l e R s m args below meth c H locs cells slots Q (F0 m (pc + 3) ls (.int x :: rest))) : W p l e R s m args below meth c H locs cells slots Q (F0 m pc ls (.ref a :: rest)) := by
  rcases ha with ⟨k, ha⟩ | ha
  · exact fgN_Cn_state hx hb hts hown hI hT ha hlink hsame hdg kk
  · exact fgN_Sr_state hx hb hts hown hI hT ha hlink hsame hdg kk
theorem fpN_Li_state (hx : p.tables.exec = Jvm.exec) (hb : c.code = cc) (hts : ∀ w ∈ wg, w.before args s = true) (hown : s.vm.findClass own = some m.cls) (hI : sw_I D cl_all (ty_s ca) A s H locs L f) (hT : ok_T ca T L f) (ha : is_li T a) (hlink : (Cond.fieldLinkNest own index ref "state" "I" host).before args s = true) (hsame : ∀ x, s.fieldFound? "TelecontrolPost$Line" "state" "I" = some x → s.fieldFound? ref "state" "I" = some x) {v : Int32} (hdg : decode cc pc = .ok (.putfield index, 3)) (kk : ∀ (H1 : Heap) (locs1 : List Loc) (f1 : Nat → va_E), sw_I D cl_all (ty_s ca) A s H1 locs1 L f1 → ok_T ca T L f1 → W p l e R s m args below meth c H1 locs1 cells slots Q (F0 m (pc + 3) ls rest)) : W p l e R s m args below meth c H locs cells slots Q (F0 m pc ls (.int v :: .ref a :: rest)) := by
  rcases ha with ⟨k, ha⟩ | ha
  · exact fpN_Cn_state hx hb hts hown hI hT ha hlink hsame  hdg kk
  · exact fpN_Sr_state hx hb hts hown hI hT ha hlink hsame  hdg kk
theorem fg_Li_causeSize (hx : p.tables.exec = Jvm.exec) (hb : c.code = cc) (hts : ∀ w ∈ wg, w.before args s = true) (hown : s.vm.findClass own = some m.cls) (hI : sw_I D cl_all (ty_s ca) A s H locs L f) (hT : ok_T ca T L f) (ha : is_li T a) (hlink : (Cond.fieldLink own index ref "causeSize" "I").before args s = true) (hsame : ∀ x, s.fieldFound? "TelecontrolPost$Line" "causeSize" "I" = some x → s.fieldFound? ref "causeSize" "I" = some x) (hdg : decode cc pc = .ok (.getfield index, 3)) (kk : ∀ x : Nat, x ≤ 2 → W p l e R s m args below meth c H locs cells slots Q (F0 m (pc + 3) ls (.int (nI x) :: rest))) : W p l e R s m args below meth c H locs cells slots Q (F0 m pc ls (.ref a :: rest)) := by
  rcases ha with ⟨k, ha⟩ | ha
  · exact fg_Cn_causeSize hx hb hts hown hI hT ha hlink hsame hdg kk
  · exact fg_Sr_causeSize hx hb hts hown hI hT ha hlink hsame hdg kk
theorem fp_Li_causeSize (hx : p.tables.exec = Jvm.exec) (hb : c.code = cc) (hts : ∀ w ∈ wg, w.before args s = true) (hown : s.vm.findClass own = some m.cls) (hI : sw_I D cl_all (ty_s ca) A s H locs L f) (hT : ok_T ca T L f) (ha : is_li T a) (hlink : (Cond.fieldLink own index ref "causeSize" "I").before args s = true) (hsame : ∀ x, s.fieldFound? "TelecontrolPost$Line" "causeSize" "I" = some x → s.fieldFound? ref "causeSize" "I" = some x) {v : Nat} (hv : v ≤ 2) (hdg : decode cc pc = .ok (.putfield index, 3)) (kk : ∀ (H1 : Heap) (locs1 : List Loc) (f1 : Nat → va_E), sw_I D cl_all (ty_s ca) A s H1 locs1 L f1 → ok_T ca T L f1 → W p l e R s m args below meth c H1 locs1 cells slots Q (F0 m (pc + 3) ls rest)) : W p l e R s m args below meth c H locs cells slots Q (F0 m pc ls (.int (nI v) :: .ref a :: rest)) := by
  rcases ha with ⟨k, ha⟩ | ha
  · exact fp_Cn_causeSize hx hb hts hown hI hT ha hlink hsame hv hdg kk
  · exact fp_Sr_causeSize hx hb hts hown hI hT ha hlink hsame hv hdg kk
theorem fgN_Li_causeSize (hx : p.tables.exec = Jvm.exec) (hb : c.code = cc) (hts : ∀ w ∈ wg, w.before args s = true) (hown : s.vm.findClass own = some m.cls) (hI : sw_I D cl_all (ty_s ca) A s H locs L f) (hT : ok_T ca T L f) (ha : is_li T a) (hlink : (Cond.fieldLinkNest own index ref "causeSize" "I" host).before args s = true) (hsame : ∀ x, s.fieldFound? "TelecontrolPost$Line" "causeSize" "I" = some x → s.fieldFound? ref "causeSize" "I" = some x) (hdg : decode cc pc = .ok (.getfield index, 3)) (kk : ∀ x : Nat, x ≤ 2 → W p l e R s m args below meth c H locs cells slots Q (F0 m (pc + 3) ls (.int (nI x) :: rest))) : W p l e R s m args below meth c H locs cells slots Q (F0 m pc ls (.ref a :: rest)) := by
  rcases ha with ⟨k, ha⟩ | ha
  · exact fgN_Cn_causeSize hx hb hts hown hI hT ha hlink hsame hdg kk
  · exact fgN_Sr_causeSize hx hb hts hown hI hT ha hlink hsame hdg kk
theorem fpN_Li_causeSize (hx : p.tables.exec = Jvm.exec) (hb : c.code = cc) (hts : ∀ w ∈ wg, w.before args s = true) (hown : s.vm.findClass own = some m.cls) (hI : sw_I D cl_all (ty_s ca) A s H locs L f) (hT : ok_T ca T L f) (ha : is_li T a) (hlink : (Cond.fieldLinkNest own index ref "causeSize" "I" host).before args s = true) (hsame : ∀ x, s.fieldFound? "TelecontrolPost$Line" "causeSize" "I" = some x → s.fieldFound? ref "causeSize" "I" = some x) {v : Nat} (hv : v ≤ 2) (hdg : decode cc pc = .ok (.putfield index, 3)) (kk : ∀ (H1 : Heap) (locs1 : List Loc) (f1 : Nat → va_E), sw_I D cl_all (ty_s ca) A s H1 locs1 L f1 → ok_T ca T L f1 → W p l e R s m args below meth c H1 locs1 cells slots Q (F0 m (pc + 3) ls rest)) : W p l e R s m args below meth c H locs cells slots Q (F0 m pc ls (.int (nI v) :: .ref a :: rest)) := by
  rcases ha with ⟨k, ha⟩ | ha
  · exact fpN_Cn_causeSize hx hb hts hown hI hT ha hlink hsame hv hdg kk
  · exact fpN_Sr_causeSize hx hb hts hown hI hT ha hlink hsame hv hdg kk
theorem fg_Li_stationSize (hx : p.tables.exec = Jvm.exec) (hb : c.code = cc) (hts : ∀ w ∈ wg, w.before args s = true) (hown : s.vm.findClass own = some m.cls) (hI : sw_I D cl_all (ty_s ca) A s H locs L f) (hT : ok_T ca T L f) (ha : is_li T a) (hlink : (Cond.fieldLink own index ref "stationSize" "I").before args s = true) (hsame : ∀ x, s.fieldFound? "TelecontrolPost$Line" "stationSize" "I" = some x → s.fieldFound? ref "stationSize" "I" = some x) (hdg : decode cc pc = .ok (.getfield index, 3)) (kk : ∀ x : Nat, x ≤ 2 → W p l e R s m args below meth c H locs cells slots Q (F0 m (pc + 3) ls (.int (nI x) :: rest))) : W p l e R s m args below meth c H locs cells slots Q (F0 m pc ls (.ref a :: rest)) := by
  rcases ha with ⟨k, ha⟩ | ha
  · exact fg_Cn_stationSize hx hb hts hown hI hT ha hlink hsame hdg kk
  · exact fg_Sr_stationSize hx hb hts hown hI hT ha hlink hsame hdg kk
theorem fp_Li_stationSize (hx : p.tables.exec = Jvm.exec) (hb : c.code = cc) (hts : ∀ w ∈ wg, w.before args s = true) (hown : s.vm.findClass own = some m.cls) (hI : sw_I D cl_all (ty_s ca) A s H locs L f) (hT : ok_T ca T L f) (ha : is_li T a) (hlink : (Cond.fieldLink own index ref "stationSize" "I").before args s = true) (hsame : ∀ x, s.fieldFound? "TelecontrolPost$Line" "stationSize" "I" = some x → s.fieldFound? ref "stationSize" "I" = some x) {v : Nat} (hv : v ≤ 2) (hdg : decode cc pc = .ok (.putfield index, 3)) (kk : ∀ (H1 : Heap) (locs1 : List Loc) (f1 : Nat → va_E), sw_I D cl_all (ty_s ca) A s H1 locs1 L f1 → ok_T ca T L f1 → W p l e R s m args below meth c H1 locs1 cells slots Q (F0 m (pc + 3) ls rest)) : W p l e R s m args below meth c H locs cells slots Q (F0 m pc ls (.int (nI v) :: .ref a :: rest)) := by
  rcases ha with ⟨k, ha⟩ | ha
  · exact fp_Cn_stationSize hx hb hts hown hI hT ha hlink hsame hv hdg kk
  · exact fp_Sr_stationSize hx hb hts hown hI hT ha hlink hsame hv hdg kk
theorem fgN_Li_stationSize (hx : p.tables.exec = Jvm.exec) (hb : c.code = cc) (hts : ∀ w ∈ wg, w.before args s = true) (hown : s.vm.findClass own = some m.cls) (hI : sw_I D cl_all (ty_s ca) A s H locs L f) (hT : ok_T ca T L f) (ha : is_li T a) (hlink : (Cond.fieldLinkNest own index ref "stationSize" "I" host).before args s = true) (hsame : ∀ x, s.fieldFound? "TelecontrolPost$Line" "stationSize" "I" = some x → s.fieldFound? ref "stationSize" "I" = some x) (hdg : decode cc pc = .ok (.getfield index, 3)) (kk : ∀ x : Nat, x ≤ 2 → W p l e R s m args below meth c H locs cells slots Q (F0 m (pc + 3) ls (.int (nI x) :: rest))) : W p l e R s m args below meth c H locs cells slots Q (F0 m pc ls (.ref a :: rest)) := by
  rcases ha with ⟨k, ha⟩ | ha
  · exact fgN_Cn_stationSize hx hb hts hown hI hT ha hlink hsame hdg kk
  · exact fgN_Sr_stationSize hx hb hts hown hI hT ha hlink hsame hdg kk
theorem fpN_Li_stationSize (hx : p.tables.exec = Jvm.exec) (hb : c.code = cc) (hts : ∀ w ∈ wg, w.before args s = true) (hown : s.vm.findClass own = some m.cls) (hI : sw_I D cl_all (ty_s ca) A s H locs L f) (hT : ok_T ca T L f) (ha : is_li T a) (hlink : (Cond.fieldLinkNest own index ref "stationSize" "I" host).before args s = true) (hsame : ∀ x, s.fieldFound? "TelecontrolPost$Line" "stationSize" "I" = some x → s.fieldFound? ref "stationSize" "I" = some x) {v : Nat} (hv : v ≤ 2) (hdg : decode cc pc = .ok (.putfield index, 3)) (kk : ∀ (H1 : Heap) (locs1 : List Loc) (f1 : Nat → va_E), sw_I D cl_all (ty_s ca) A s H1 locs1 L f1 → ok_T ca T L f1 → W p l e R s m args below meth c H1 locs1 cells slots Q (F0 m (pc + 3) ls rest)) : W p l e R s m args below meth c H locs cells slots Q (F0 m pc ls (.int (nI v) :: .ref a :: rest)) := by
  rcases ha with ⟨k, ha⟩ | ha
  · exact fpN_Cn_stationSize hx hb hts hown hI hT ha hlink hsame hv hdg kk
  · exact fpN_Sr_stationSize hx hb hts hown hI hT ha hlink hsame hv hdg kk
theorem fg_Li_objectSize (hx : p.tables.exec = Jvm.exec) (hb : c.code = cc) (hts : ∀ w ∈ wg, w.before args s = true) (hown : s.vm.findClass own = some m.cls) (hI : sw_I D cl_all (ty_s ca) A s H locs L f) (hT : ok_T ca T L f) (ha : is_li T a) (hlink : (Cond.fieldLink own index ref "objectSize" "I").before args s = true) (hsame : ∀ x, s.fieldFound? "TelecontrolPost$Line" "objectSize" "I" = some x → s.fieldFound? ref "objectSize" "I" = some x) (hdg : decode cc pc = .ok (.getfield index, 3)) (kk : ∀ x : Nat, x ≤ 3 → W p l e R s m args below meth c H locs cells slots Q (F0 m (pc + 3) ls (.int (nI x) :: rest))) : W p l e R s m args below meth c H locs cells slots Q (F0 m pc ls (.ref a :: rest)) := by
  rcases ha with ⟨k, ha⟩ | ha
  · exact fg_Cn_objectSize hx hb hts hown hI hT ha hlink hsame hdg kk
  · exact fg_Sr_objectSize hx hb hts hown hI hT ha hlink hsame hdg kk
theorem fp_Li_objectSize (hx : p.tables.exec = Jvm.exec) (hb : c.code = cc) (hts : ∀ w ∈ wg, w.before args s = true) (hown : s.vm.findClass own = some m.cls) (hI : sw_I D cl_all (ty_s ca) A s H locs L f) (hT : ok_T ca T L f) (ha : is_li T a) (hlink : (Cond.fieldLink own index ref "objectSize" "I").before args s = true) (hsame : ∀ x, s.fieldFound? "TelecontrolPost$Line" "objectSize" "I" = some x → s.fieldFound? ref "objectSize" "I" = some x) {v : Nat} (hv : v ≤ 3) (hdg : decode cc pc = .ok (.putfield index, 3)) (kk : ∀ (H1 : Heap) (locs1 : List Loc) (f1 : Nat → va_E), sw_I D cl_all (ty_s ca) A s H1 locs1 L f1 → ok_T ca T L f1 → W p l e R s m args below meth c H1 locs1 cells slots Q (F0 m (pc + 3) ls rest)) : W p l e R s m args below meth c H locs cells slots Q (F0 m pc ls (.int (nI v) :: .ref a :: rest)) := by
  rcases ha with ⟨k, ha⟩ | ha
  · exact fp_Cn_objectSize hx hb hts hown hI hT ha hlink hsame hv hdg kk
  · exact fp_Sr_objectSize hx hb hts hown hI hT ha hlink hsame hv hdg kk
theorem fgN_Li_objectSize (hx : p.tables.exec = Jvm.exec) (hb : c.code = cc) (hts : ∀ w ∈ wg, w.before args s = true) (hown : s.vm.findClass own = some m.cls) (hI : sw_I D cl_all (ty_s ca) A s H locs L f) (hT : ok_T ca T L f) (ha : is_li T a) (hlink : (Cond.fieldLinkNest own index ref "objectSize" "I" host).before args s = true) (hsame : ∀ x, s.fieldFound? "TelecontrolPost$Line" "objectSize" "I" = some x → s.fieldFound? ref "objectSize" "I" = some x) (hdg : decode cc pc = .ok (.getfield index, 3)) (kk : ∀ x : Nat, x ≤ 3 → W p l e R s m args below meth c H locs cells slots Q (F0 m (pc + 3) ls (.int (nI x) :: rest))) : W p l e R s m args below meth c H locs cells slots Q (F0 m pc ls (.ref a :: rest)) := by
  rcases ha with ⟨k, ha⟩ | ha
  · exact fgN_Cn_objectSize hx hb hts hown hI hT ha hlink hsame hdg kk
  · exact fgN_Sr_objectSize hx hb hts hown hI hT ha hlink hsame hdg kk
theorem fpN_Li_objectSize (hx : p.tables.exec = Jvm.exec) (hb : c.code = cc) (hts : ∀ w ∈ wg, w.before args s = true) (hown : s.vm.findClass own = some m.cls) (hI : sw_I D cl_all (ty_s ca) A s H locs L f) (hT : ok_T ca T L f) (ha : is_li T a) (hlink : (Cond.fieldLinkNest own index ref "objectSize" "I" host).before args s = true) (hsame : ∀ x, s.fieldFound? "TelecontrolPost$Line" "objectSize" "I" = some x → s.fieldFound? ref "objectSize" "I" = some x) {v : Nat} (hv : v ≤ 3) (hdg : decode cc pc = .ok (.putfield index, 3)) (kk : ∀ (H1 : Heap) (locs1 : List Loc) (f1 : Nat → va_E), sw_I D cl_all (ty_s ca) A s H1 locs1 L f1 → ok_T ca T L f1 → W p l e R s m args below meth c H1 locs1 cells slots Q (F0 m (pc + 3) ls rest)) : W p l e R s m args below meth c H locs cells slots Q (F0 m pc ls (.int (nI v) :: .ref a :: rest)) := by
  rcases ha with ⟨k, ha⟩ | ha
  · exact fpN_Cn_objectSize hx hb hts hown hI hT ha hlink hsame hv hdg kk
  · exact fpN_Sr_objectSize hx hb hts hown hI hT ha hlink hsame hv hdg kk
theorem fg_Li_heardAt (hx : p.tables.exec = Jvm.exec) (hb : c.code = cc) (hts : ∀ w ∈ wg, w.before args s = true) (hown : s.vm.findClass own = some m.cls) (hI : sw_I D cl_all (ty_s ca) A s H locs L f) (hT : ok_T ca T L f) (ha : is_li T a) (hlink : (Cond.fieldLink own index ref "heardAt" "J").before args s = true) (hsame : ∀ x, s.fieldFound? "TelecontrolPost$Line" "heardAt" "J" = some x → s.fieldFound? ref "heardAt" "J" = some x) (hdg : decode cc pc = .ok (.getfield index, 3)) (kk : ∀ x : Int64, W p l e R s m args below meth c H locs cells slots Q (F0 m (pc + 3) ls (.long x :: rest))) : W p l e R s m args below meth c H locs cells slots Q (F0 m pc ls (.ref a :: rest)) := by
  rcases ha with ⟨k, ha⟩ | ha
  · exact fg_Cn_heardAt hx hb hts hown hI hT ha hlink hsame hdg kk
  · exact fg_Sr_heardAt hx hb hts hown hI hT ha hlink hsame hdg kk
theorem fp_Li_heardAt (hx : p.tables.exec = Jvm.exec) (hb : c.code = cc) (hts : ∀ w ∈ wg, w.before args s = true) (hown : s.vm.findClass own = some m.cls) (hI : sw_I D cl_all (ty_s ca) A s H locs L f) (hT : ok_T ca T L f) (ha : is_li T a) (hlink : (Cond.fieldLink own index ref "heardAt" "J").before args s = true) (hsame : ∀ x, s.fieldFound? "TelecontrolPost$Line" "heardAt" "J" = some x → s.fieldFound? ref "heardAt" "J" = some x) {v : Int64} (hdg : decode cc pc = .ok (.putfield index, 3)) (kk : ∀ (H1 : Heap) (locs1 : List Loc) (f1 : Nat → va_E), sw_I D cl_all (ty_s ca) A s H1 locs1 L f1 → ok_T ca T L f1 → W p l e R s m args below meth c H1 locs1 cells slots Q (F0 m (pc + 3) ls rest)) : W p l e R s m args below meth c H locs cells slots Q (F0 m pc ls (.long v :: .ref a :: rest)) := by
  rcases ha with ⟨k, ha⟩ | ha
  · exact fp_Cn_heardAt hx hb hts hown hI hT ha hlink hsame  hdg kk
  · exact fp_Sr_heardAt hx hb hts hown hI hT ha hlink hsame  hdg kk
theorem fgN_Li_heardAt (hx : p.tables.exec = Jvm.exec) (hb : c.code = cc) (hts : ∀ w ∈ wg, w.before args s = true) (hown : s.vm.findClass own = some m.cls) (hI : sw_I D cl_all (ty_s ca) A s H locs L f) (hT : ok_T ca T L f) (ha : is_li T a) (hlink : (Cond.fieldLinkNest own index ref "heardAt" "J" host).before args s = true) (hsame : ∀ x, s.fieldFound? "TelecontrolPost$Line" "heardAt" "J" = some x → s.fieldFound? ref "heardAt" "J" = some x) (hdg : decode cc pc = .ok (.getfield index, 3)) (kk : ∀ x : Int64, W p l e R s m args below meth c H locs cells slots Q (F0 m (pc + 3) ls (.long x :: rest))) : W p l e R s m args below meth c H locs cells slots Q (F0 m pc ls (.ref a :: rest)) := by
  rcases ha with ⟨k, ha⟩ | ha
  · exact fgN_Cn_heardAt hx hb hts hown hI hT ha hlink hsame hdg kk
  · exact fgN_Sr_heardAt hx hb hts hown hI hT ha hlink hsame hdg kk
theorem fpN_Li_heardAt (hx : p.tables.exec = Jvm.exec) (hb : c.code = cc) (hts : ∀ w ∈ wg, w.before args s = true) (hown : s.vm.findClass own = some m.cls) (hI : sw_I D cl_all (ty_s ca) A s H locs L f) (hT : ok_T ca T L f) (ha : is_li T a) (hlink : (Cond.fieldLinkNest own index ref "heardAt" "J" host).before args s = true) (hsame : ∀ x, s.fieldFound? "TelecontrolPost$Line" "heardAt" "J" = some x → s.fieldFound? ref "heardAt" "J" = some x) {v : Int64} (hdg : decode cc pc = .ok (.putfield index, 3)) (kk : ∀ (H1 : Heap) (locs1 : List Loc) (f1 : Nat → va_E), sw_I D cl_all (ty_s ca) A s H1 locs1 L f1 → ok_T ca T L f1 → W p l e R s m args below meth c H1 locs1 cells slots Q (F0 m (pc + 3) ls rest)) : W p l e R s m args below meth c H locs cells slots Q (F0 m pc ls (.long v :: .ref a :: rest)) := by
  rcases ha with ⟨k, ha⟩ | ha
  · exact fpN_Cn_heardAt hx hb hts hown hI hT ha hlink hsame  hdg kk
  · exact fpN_Sr_heardAt hx hb hts hown hI hT ha hlink hsame  hdg kk
theorem fg_Li_closings (hx : p.tables.exec = Jvm.exec) (hb : c.code = cc) (hts : ∀ w ∈ wg, w.before args s = true) (hown : s.vm.findClass own = some m.cls) (hI : sw_I D cl_all (ty_s ca) A s H locs L f) (hT : ok_T ca T L f) (ha : is_li T a) (hlink : (Cond.fieldLink own index ref "closings" "I").before args s = true) (hsame : ∀ x, s.fieldFound? "TelecontrolPost$Line" "closings" "I" = some x → s.fieldFound? ref "closings" "I" = some x) (hdg : decode cc pc = .ok (.getfield index, 3)) (kk : ∀ x : Int32, W p l e R s m args below meth c H locs cells slots Q (F0 m (pc + 3) ls (.int x :: rest))) : W p l e R s m args below meth c H locs cells slots Q (F0 m pc ls (.ref a :: rest)) := by
  rcases ha with ⟨k, ha⟩ | ha
  · exact fg_Cn_closings hx hb hts hown hI hT ha hlink hsame hdg kk
  · exact fg_Sr_closings hx hb hts hown hI hT ha hlink hsame hdg kk
theorem fp_Li_closings (hx : p.tables.exec = Jvm.exec) (hb : c.code = cc) (hts : ∀ w ∈ wg, w.before args s = true) (hown : s.vm.findClass own = some m.cls) (hI : sw_I D cl_all (ty_s ca) A s H locs L f) (hT : ok_T ca T L f) (ha : is_li T a) (hlink : (Cond.fieldLink own index ref "closings" "I").before args s = true) (hsame : ∀ x, s.fieldFound? "TelecontrolPost$Line" "closings" "I" = some x → s.fieldFound? ref "closings" "I" = some x) {v : Int32} (hdg : decode cc pc = .ok (.putfield index, 3)) (kk : ∀ (H1 : Heap) (locs1 : List Loc) (f1 : Nat → va_E), sw_I D cl_all (ty_s ca) A s H1 locs1 L f1 → ok_T ca T L f1 → W p l e R s m args below meth c H1 locs1 cells slots Q (F0 m (pc + 3) ls rest)) : W p l e R s m args below meth c H locs cells slots Q (F0 m pc ls (.int v :: .ref a :: rest)) := by
  rcases ha with ⟨k, ha⟩ | ha
  · exact fp_Cn_closings hx hb hts hown hI hT ha hlink hsame  hdg kk
  · exact fp_Sr_closings hx hb hts hown hI hT ha hlink hsame  hdg kk
theorem fgN_Li_closings (hx : p.tables.exec = Jvm.exec) (hb : c.code = cc) (hts : ∀ w ∈ wg, w.before args s = true) (hown : s.vm.findClass own = some m.cls) (hI : sw_I D cl_all (ty_s ca) A s H locs L f) (hT : ok_T ca T L f) (ha : is_li T a) (hlink : (Cond.fieldLinkNest own index ref "closings" "I" host).before args s = true) (hsame : ∀ x, s.fieldFound? "TelecontrolPost$Line" "closings" "I" = some x → s.fieldFound? ref "closings" "I" = some x) (hdg : decode cc pc = .ok (.getfield index, 3)) (kk : ∀ x : Int32, W p l e R s m args below meth c H locs cells slots Q (F0 m (pc + 3) ls (.int x :: rest))) : W p l e R s m args below meth c H locs cells slots Q (F0 m pc ls (.ref a :: rest)) := by
  rcases ha with ⟨k, ha⟩ | ha
  · exact fgN_Cn_closings hx hb hts hown hI hT ha hlink hsame hdg kk
  · exact fgN_Sr_closings hx hb hts hown hI hT ha hlink hsame hdg kk
theorem fpN_Li_closings (hx : p.tables.exec = Jvm.exec) (hb : c.code = cc) (hts : ∀ w ∈ wg, w.before args s = true) (hown : s.vm.findClass own = some m.cls) (hI : sw_I D cl_all (ty_s ca) A s H locs L f) (hT : ok_T ca T L f) (ha : is_li T a) (hlink : (Cond.fieldLinkNest own index ref "closings" "I" host).before args s = true) (hsame : ∀ x, s.fieldFound? "TelecontrolPost$Line" "closings" "I" = some x → s.fieldFound? ref "closings" "I" = some x) {v : Int32} (hdg : decode cc pc = .ok (.putfield index, 3)) (kk : ∀ (H1 : Heap) (locs1 : List Loc) (f1 : Nat → va_E), sw_I D cl_all (ty_s ca) A s H1 locs1 L f1 → ok_T ca T L f1 → W p l e R s m args below meth c H1 locs1 cells slots Q (F0 m (pc + 3) ls rest)) : W p l e R s m args below meth c H locs cells slots Q (F0 m pc ls (.int v :: .ref a :: rest)) := by
  rcases ha with ⟨k, ha⟩ | ha
  · exact fpN_Cn_closings hx hb hts hown hI hT ha hlink hsame  hdg kk
  · exact fpN_Sr_closings hx hb hts hown hI hT ha hlink hsame  hdg kk
theorem fg_Li_tooManyAnswers (hx : p.tables.exec = Jvm.exec) (hb : c.code = cc) (hts : ∀ w ∈ wg, w.before args s = true) (hown : s.vm.findClass own = some m.cls) (hI : sw_I D cl_all (ty_s ca) A s H locs L f) (hT : ok_T ca T L f) (ha : is_li T a) (hlink : (Cond.fieldLink own index ref "tooManyAnswers" "Z").before args s = true) (hsame : ∀ x, s.fieldFound? "TelecontrolPost$Line" "tooManyAnswers" "Z" = some x → s.fieldFound? ref "tooManyAnswers" "Z" = some x) (hdg : decode cc pc = .ok (.getfield index, 3)) (kk : ∀ x : Int32, x = 0 ∨ x = 1 → W p l e R s m args below meth c H locs cells slots Q (F0 m (pc + 3) ls (.int x :: rest))) : W p l e R s m args below meth c H locs cells slots Q (F0 m pc ls (.ref a :: rest)) := by
  rcases ha with ⟨k, ha⟩ | ha
  · exact fg_Cn_tooManyAnswers hx hb hts hown hI hT ha hlink hsame hdg kk
  · exact fg_Sr_tooManyAnswers hx hb hts hown hI hT ha hlink hsame hdg kk
theorem fp_Li_tooManyAnswers (hx : p.tables.exec = Jvm.exec) (hb : c.code = cc) (hts : ∀ w ∈ wg, w.before args s = true) (hown : s.vm.findClass own = some m.cls) (hI : sw_I D cl_all (ty_s ca) A s H locs L f) (hT : ok_T ca T L f) (ha : is_li T a) (hlink : (Cond.fieldLink own index ref "tooManyAnswers" "Z").before args s = true) (hsame : ∀ x, s.fieldFound? "TelecontrolPost$Line" "tooManyAnswers" "Z" = some x → s.fieldFound? ref "tooManyAnswers" "Z" = some x) {v : Int32} (hv : v = 0 ∨ v = 1) (hdg : decode cc pc = .ok (.putfield index, 3)) (kk : ∀ (H1 : Heap) (locs1 : List Loc) (f1 : Nat → va_E), sw_I D cl_all (ty_s ca) A s H1 locs1 L f1 → ok_T ca T L f1 → W p l e R s m args below meth c H1 locs1 cells slots Q (F0 m (pc + 3) ls rest)) : W p l e R s m args below meth c H locs cells slots Q (F0 m pc ls (.int v :: .ref a :: rest)) := by
  rcases ha with ⟨k, ha⟩ | ha
  · exact fp_Cn_tooManyAnswers hx hb hts hown hI hT ha hlink hsame hv hdg kk
  · exact fp_Sr_tooManyAnswers hx hb hts hown hI hT ha hlink hsame hv hdg kk
theorem fgN_Li_tooManyAnswers (hx : p.tables.exec = Jvm.exec) (hb : c.code = cc) (hts : ∀ w ∈ wg, w.before args s = true) (hown : s.vm.findClass own = some m.cls) (hI : sw_I D cl_all (ty_s ca) A s H locs L f) (hT : ok_T ca T L f) (ha : is_li T a) (hlink : (Cond.fieldLinkNest own index ref "tooManyAnswers" "Z" host).before args s = true) (hsame : ∀ x, s.fieldFound? "TelecontrolPost$Line" "tooManyAnswers" "Z" = some x → s.fieldFound? ref "tooManyAnswers" "Z" = some x) (hdg : decode cc pc = .ok (.getfield index, 3)) (kk : ∀ x : Int32, x = 0 ∨ x = 1 → W p l e R s m args below meth c H locs cells slots Q (F0 m (pc + 3) ls (.int x :: rest))) : W p l e R s m args below meth c H locs cells slots Q (F0 m pc ls (.ref a :: rest)) := by
  rcases ha with ⟨k, ha⟩ | ha
  · exact fgN_Cn_tooManyAnswers hx hb hts hown hI hT ha hlink hsame hdg kk
  · exact fgN_Sr_tooManyAnswers hx hb hts hown hI hT ha hlink hsame hdg kk
theorem fpN_Li_tooManyAnswers (hx : p.tables.exec = Jvm.exec) (hb : c.code = cc) (hts : ∀ w ∈ wg, w.before args s = true) (hown : s.vm.findClass own = some m.cls) (hI : sw_I D cl_all (ty_s ca) A s H locs L f) (hT : ok_T ca T L f) (ha : is_li T a) (hlink : (Cond.fieldLinkNest own index ref "tooManyAnswers" "Z" host).before args s = true) (hsame : ∀ x, s.fieldFound? "TelecontrolPost$Line" "tooManyAnswers" "Z" = some x → s.fieldFound? ref "tooManyAnswers" "Z" = some x) {v : Int32} (hv : v = 0 ∨ v = 1) (hdg : decode cc pc = .ok (.putfield index, 3)) (kk : ∀ (H1 : Heap) (locs1 : List Loc) (f1 : Nat → va_E), sw_I D cl_all (ty_s ca) A s H1 locs1 L f1 → ok_T ca T L f1 → W p l e R s m args below meth c H1 locs1 cells slots Q (F0 m (pc + 3) ls rest)) : W p l e R s m args below meth c H locs cells slots Q (F0 m pc ls (.int v :: .ref a :: rest)) := by
  rcases ha with ⟨k, ha⟩ | ha
  · exact fpN_Cn_tooManyAnswers hx hb hts hown hI hT ha hlink hsame hv hdg kk
  · exact fpN_Sr_tooManyAnswers hx hb hts hown hI hT ha hlink hsame hv hdg kk
end LINES
section RECV
variable {s : State} {A : Nat → Prop} {H : Heap} {locs : List Loc} {D : va_G} {L : List Nat} {f : Nat → va_E} {ca : Nat → ClassId} {T : ty_e} {a : Nat} {As : List Value}
theorem pv_Br (hI : sw_I D cl_all (ty_s ca) A s H locs L f) (hE : ek A s) (hT : ok_T ca T L f) {k : Nat} (ha : T a = some (ty_row k)) : PreV s H R_Br a (va_Pc (.ref a :: As) (sm_P D cl_all (ty_s ca) ek L f H.size)) As := by
  obtain ⟨_, _, _, _, h1, h2, -⟩ := ok_row_at hT ha
  exact sm_preV hI hE h1 h2 (q := (R_Br, F_Br, 2)) rfl
theorem pv_Pt (hI : sw_I D cl_all (ty_s ca) A s H locs L f) (hE : ek A s) (hT : ok_T ca T L f) {q : Int32 × Int32} (ha : T a = some (ty_pt q)) : PreV s H R_Pt a (va_Pc (.ref a :: As) (sm_P D cl_all (ty_s ca) ek L f H.size)) As := by
  obtain ⟨h1, _, _, _, _, h2, -⟩ := ok_pt_at hT ha
  exact sm_preV hI hE h1 h2 (q := (R_Pt, F_Pt, 6)) rfl
theorem pv_Ev (hI : sw_I D cl_all (ty_s ca) A s H locs L f) (hE : ek A s) (hT : ok_T ca T L f)  (ha : T a = some (ty_ev )) : PreV s H R_Ev a (va_Pc (.ref a :: As) (sm_P D cl_all (ty_s ca) ek L f H.size)) As := by
  obtain ⟨h1, _, _, _, _, _, h2, -⟩ := ok_ev_at hT ha
  exact sm_preV hI hE h1 h2 (q := (R_Ev, F_Ev, 5)) rfl
theorem pv_Es (hI : sw_I D cl_all (ty_s ca) A s H locs L f) (hE : ek A s) (hT : ok_T ca T L f)  (ha : T a = some (ty_es )) : PreV s H R_Es a (va_Pc (.ref a :: As) (sm_P D cl_all (ty_s ca) ek L f H.size)) As := by
  obtain ⟨h1, _, _, _, h2, -⟩ := ok_es_at hT ha
  exact sm_preV hI hE h1 h2 (q := (R_Es, F_Es, 3)) rfl
theorem pv_An (hI : sw_I D cl_all (ty_s ca) A s H locs L f) (hE : ek A s) (hT : ok_T ca T L f)  (ha : T a = some (ty_an )) : PreV s H R_An a (va_Pc (.ref a :: As) (sm_P D cl_all (ty_s ca) ek L f H.size)) As := by
  obtain ⟨h1, _, _, _, _, _, _, h2, -⟩ := ok_an_at hT ha
  exact sm_preV hI hE h1 h2 (q := (R_An, F_An, 6)) rfl
theorem pv_As (hI : sw_I D cl_all (ty_s ca) A s H locs L f) (hE : ek A s) (hT : ok_T ca T L f)  (ha : T a = some (ty_as )) : PreV s H R_As a (va_Pc (.ref a :: As) (sm_P D cl_all (ty_s ca) ek L f H.size)) As := by
  obtain ⟨h1, _, _, _, h2, -⟩ := ok_as_at hT ha
  exact sm_preV hI hE h1 h2 (q := (R_As, F_As, 3)) rfl
theorem pv_Se (hI : sw_I D cl_all (ty_s ca) A s H locs L f) (hE : ek A s) (hT : ok_T ca T L f)  (ha : T a = some (ty_se )) : PreV s H R_Se a (va_Pc (.ref a :: As) (sm_P D cl_all (ty_s ca) ek L f H.size)) As := by
  obtain ⟨h1, _, _, _, _, _, h2, -⟩ := ok_se_at hT ha
  exact sm_preV hI hE h1 h2 (q := (R_Se, F_Se, 5)) rfl
theorem pv_Op (hI : sw_I D cl_all (ty_s ca) A s H locs L f) (hE : ek A s) (hT : ok_T ca T L f)  (ha : T a = some (ty_op )) : PreV s H R_Op a (va_Pc (.ref a :: As) (sm_P D cl_all (ty_s ca) ek L f H.size)) As := by
  obtain ⟨h1, _, _, _, _, _, _, _, _, h2, -⟩ := ok_op_at hT ha
  exact sm_preV hI hE h1 h2 (q := (R_Op, F_Op, 8)) rfl
theorem pv_Cn (hI : sw_I D cl_all (ty_s ca) A s H locs L f) (hE : ek A s) (hT : ok_T ca T L f) {k : Nat} (ha : T a = some (ty_cn k)) : PreV s H R_Cn a (va_Pc (.ref a :: As) (sm_P D cl_all (ty_s ca) ek L f H.size)) As := by
  obtain ⟨h1, _, _, _, _, _, _, _, _, _, _, _, _, _, _, _, _, _, _, h2, -⟩ := ok_cn_at hT ha
  exact sm_preV hI hE h1 h2 (q := (R_Cn, F_Cn, 19)) rfl
theorem pv_Sr (hI : sw_I D cl_all (ty_s ca) A s H locs L f) (hE : ek A s) (hT : ok_T ca T L f)  (ha : T a = some (ty_sr )) : PreV s H R_Sr a (va_Pc (.ref a :: As) (sm_P D cl_all (ty_s ca) ek L f H.size)) As := by
  obtain ⟨h1, _, _, _, _, _, _, _, _, _, _, _, _, _, _, h2, -⟩ := ok_sr_at hT ha
  exact sm_preV hI hE h1 h2 (q := (R_Sr, F_Sr, 15)) rfl
theorem pv_Po (hI : sw_I D cl_all (ty_s ca) A s H locs L f) (hE : ek A s) (hT : ok_T ca T L f) {g : List (Int32 × Int32)} (ha : T a = some (ty_po g)) : PreV s H R_Po a (va_Pc (.ref a :: As) (sm_P D cl_all (ty_s ca) ek L f H.size)) As := by
  obtain ⟨h1, _, _, _, _, _, _, _, _, _, _, _, _, _, _, h2, -⟩ := ok_po_at hT ha
  exact sm_preV hI hE h1 h2 (q := (R_Po, F_Po, 15)) rfl
end RECV
