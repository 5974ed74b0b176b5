/-! types that grow (written by wip/tools/alloc.py) -/
def ty_le (T T1 : ty_e) : Prop := ∀ (b : Nat) (ty : ty_c), T b = some ty → T1 b = some ty
theorem ty_rf {T : ty_e} : ty_le T T := fun _ _ h => h
theorem ty_tr {T T1 T2 : ty_e} (h : ty_le T T1) (h2 : ty_le T1 T2) : ty_le T T2 := fun b ty q => h2 b ty (h b ty q)
theorem li_up {T T1 : ty_e} {a : Nat} (h : ty_le T T1) (q : is_li T a) : is_li T1 a := by
  rcases q with ⟨k, q⟩ | q
  · exact Or.inl ⟨k, h _ _ q⟩
  · exact Or.inr (h _ _ q)
def ty_up (T : ty_e) (q : Nat) (ty : ty_c) : ty_e := fun b => if b = q then some ty else T b
section MONO
variable {ca : Nat → ClassId} {T T1 : ty_e} {e : va_E}
theorem mo_row {m : Nat} (h : ty_le T T1) (hc : ok_row T m e) : ok_row T1 m e := by
  obtain ⟨b, n, len, e1, t, r⟩ := hc
  exact ⟨b, n, len, e1, h _ _ t, r⟩
theorem mo_pts {g : List (Int32 × Int32)} (h : ty_le T T1) (hc : ok_pts ca T g e) : ok_pts ca T1 g e := by
  obtain ⟨q, e1, r⟩ := hc
  refine ⟨q, e1, fun j x hj => ?_⟩
  obtain ⟨b, hb, t⟩ := r j x hj
  exact ⟨b, hb, h _ _ t⟩
theorem mo_cns (h : ty_le T T1) (hc : ok_cns ca T e) : ok_cns ca T1 e := by
  obtain ⟨q, e1, r⟩ := hc
  refine ⟨q, e1, fun j hj => ?_⟩
  obtain ⟨b, hb, t⟩ := r j hj
  exact ⟨b, hb, h _ _ t⟩
theorem mo_ops (h : ty_le T T1) (hc : ok_ops ca T e) : ok_ops ca T1 e := by
  obtain ⟨q, e1, r⟩ := hc
  refine ⟨q, e1, fun j hj => ?_⟩
  obtain ⟨b, hb, t⟩ := r j hj
  exact ⟨b, hb, h _ _ t⟩
theorem mo_evs (h : ty_le T T1) (hc : ok_evs ca T e) : ok_evs ca T1 e := by
  obtain ⟨q, e1, r⟩ := hc
  refine ⟨q, e1, fun j hj => ?_⟩
  obtain ⟨b, hb, t⟩ := r j hj
  exact ⟨b, hb, h _ _ t⟩
theorem mo_ans (h : ty_le T T1) (hc : ok_ans ca T e) : ok_ans ca T1 e := by
  obtain ⟨q, e1, r⟩ := hc
  refine ⟨q, e1, fun j hj => ?_⟩
  obtain ⟨b, hb, t⟩ := r j hj
  exact ⟨b, hb, h _ _ t⟩
theorem mo_pt {q : Int32 × Int32} (h : ty_le T T1) (hc : ok_pt T q e) : ok_pt T1 q e := by
  obtain ⟨v2, v3, v4, v5, e1, w3, wx⟩ := hc
  exact ⟨v2, v3, v4, v5, e1, w3, wx⟩
theorem mo_ev  (h : ty_le T T1) (hc : ok_ev T  e) : ok_ev T1  e := by
  obtain ⟨v0, v1, v2, v3, v4, e1, w2⟩ := hc
  exact ⟨v0, v1, v2, v3, v4, e1, h _ _ w2⟩
theorem mo_es  (h : ty_le T T1) (hc : ok_es T  e) : ok_es T1  e := by
  obtain ⟨v0, v1, v2, e1, w0, w1⟩ := hc
  exact ⟨v0, v1, v2, e1, h _ _ w0, w1⟩
theorem mo_an  (h : ty_le T T1) (hc : ok_an T  e) : ok_an T1  e := by
  obtain ⟨v0, v1, v2, v3, v4, v5, e1, w0, w1, w2, w3⟩ := hc
  exact ⟨v0, v1, v2, v3, v4, v5, e1, h _ _ w0, w1, w2, w3⟩
theorem mo_as  (h : ty_le T T1) (hc : ok_as T  e) : ok_as T1  e := by
  obtain ⟨v0, v1, v2, e1, w0, w1, w2⟩ := hc
  exact ⟨v0, v1, v2, e1, h _ _ w0, w1, w2⟩
theorem mo_se  (h : ty_le T T1) (hc : ok_se T  e) : ok_se T1  e := by
  obtain ⟨v0, v1, v2, v3, v4, e1, _⟩ := hc
  exact ⟨v0, v1, v2, v3, v4, e1, trivial⟩
theorem mo_op  (h : ty_le T T1) (hc : ok_op T  e) : ok_op T1  e := by
  obtain ⟨v0, v1, v2, v3, v4, v5, v6, v7, e1, w6, w7⟩ := hc
  exact ⟨v0, v1, v2, v3, v4, v5, v6, v7, e1, w6, h _ _ w7⟩
theorem mo_cn {k : Nat} (h : ty_le T T1) (hc : ok_cn T k e) : ok_cn T1 k e := by
  obtain ⟨v0, v1, v2, v3, v4, v5, v6, v7, v9, v10, v11, v12, v13, v14, v15, v16, v17, v18, e1, w2, w6, w9, w10, w11, w13, w14, w15, w18, wx⟩ := hc
  exact ⟨v0, v1, v2, v3, v4, v5, v6, v7, v9, v10, v11, v12, v13, v14, v15, v16, v17, v18, e1, h _ _ w2, w6, h _ _ w9, h _ _ w10, h _ _ w11, w13, w14, w15, w18, wx⟩
theorem mo_sr  (h : ty_le T T1) (hc : ok_sr T  e) : ok_sr T1  e := by
  obtain ⟨v0, v1, v2, v3, v5, v6, v7, v8, v9, v10, v11, v12, v13, v14, e1, w2, w3, w5, w6, w7, w9, w10, w11, w14⟩ := hc
  exact ⟨v0, v1, v2, v3, v5, v6, v7, v8, v9, v10, v11, v12, v13, v14, e1, h _ _ w2, h _ _ w3, h _ _ w5, h _ _ w6, h _ _ w7, w9, w10, w11, w14⟩
theorem mo_po {g : List (Int32 × Int32)} (h : ty_le T T1) (hc : ok_po T g e) : ok_po T1 g e := by
  obtain ⟨v0, v1, v3, v4, v5, v6, v7, v8, v9, v10, v11, v12, v13, v14, e1, w1, w3, w4, w5, w6, w10, w12, w13, w14, wx⟩ := hc
  exact ⟨v0, v1, v3, v4, v5, v6, v7, v8, v9, v10, v11, v12, v13, v14, e1, h _ _ w1, h _ _ w3, h _ _ w4, h _ _ w5, h _ _ w6, w10, h _ _ w12, h _ _ w13, h _ _ w14, wx⟩
theorem ok_mono (h : ty_le T T1) : ∀ (ty : ty_c) (e : va_E), ok_C ca T ty e → ok_C ca T1 ty e
  | (0, _, _), _, hc => hc
  | (1, _, _), _, hc => hc
  | (2, _, _), _, hc => hc
  | (3, _, _), _, hc => mo_pts h hc
  | (4, _, _), _, hc => mo_cns h hc
  | (5, _, _), _, hc => mo_ops h hc
  | (6, _, _), _, hc => mo_evs h hc
  | (7, _, _), _, hc => mo_ans h hc
  | (8, _, _), _, hc => hc
  | (9, _, _), _, hc => hc
  | (10, _, _), _, hc => mo_row h hc
  | (11, _, _), _, hc => ⟨hc.choose, hc.choose_spec.1, mo_pt h hc.choose_spec.2⟩
  | (12, _, _), _, hc => mo_ev h hc
  | (13, _, _), _, hc => mo_es h hc
  | (14, _, _), _, hc => mo_an h hc
  | (15, _, _), _, hc => mo_as h hc
  | (16, _, _), _, hc => mo_se h hc
  | (17, _, _), _, hc => mo_op h hc
  | (18, _, _), _, hc => mo_po h hc
  | (19, _, _), _, hc => hc
  | (20, _, _), _, hc => mo_cn h hc
  | (21, _, _), _, hc => mo_sr h hc
  | (_ + 22, _, _), _, hc => hc
end MONO
theorem ok_new {ca : Nat → ClassId} {T : ty_e} {L : List Nat} {f : Nat → va_E} {q : Nat} {ty : ty_c} {e : va_E} (hT : ok_T ca T L f) (hq : q ∉ L) (he : ok_C ca (ty_up T q ty) ty e) : ty_le T (ty_up T q ty) ∧ ok_T ca (ty_up T q ty) (L ++ [q]) (va_up f q e) := by
  have hle : ty_le T (ty_up T q ty) := fun b t hb => by
    have hne : b ≠ q := fun z => hq (z ▸ (hT b t hb).1)
    simp [ty_up, hne, hb]
  refine ⟨hle, fun b t hb => ?_⟩
  by_cases hz : b = q
  · subst hz
    have : ty = t := by simpa [ty_up] using hb
    subst this
    exact ⟨List.mem_append_right _ List.mem_cons_self, by rw [va_up_self]; exact he⟩
  · have hb2 : T b = some t := by simpa [ty_up, hz] using hb
    obtain ⟨h1, h2⟩ := hT b t hb2
    exact ⟨List.mem_append_left _ h1, by rw [va_up_ne _ _ hz]; exact ok_mono hle _ _ h2⟩
theorem nw_I (n : Nat) : ∀ cA : ClassId, vp_cell cA (n, .inl (fun _ => 0)) = arrV cA n (fun _ => defaultValue .int) := fun _ => rfl
theorem rw_grow {T T1 : ty_e} {f : Nat → va_E} {a k b n len q : Nat} {e : va_E} (hle : ty_le T T1) (hw : rw_is T f a k b n len) (hne : a ≠ q) : rw_is T1 (va_up f q e) a k b n len := ⟨by rw [va_up_ne _ _ hne]; exact hw.1, hle _ _ hw.2.1, hw.2.2⟩
section BRGROW
variable {p : Program} {l : Launch} {e : Env} {R : Room} {s : State} {m : MethodId} {args : Array Value} {below : List Frame} {meth : Method} {c : Code} {H : Heap} {locs : List Loc} {cells slots : Nat} {Q : State → Prop}
variable {cc : ByteArray} {pc : Nat} {ls : Array Slot} {rest : List Value} {D : va_G} {A : Nat → Prop} {a : Nat} {L : List Nat} {f : Nat → va_E} {ca : Nat → ClassId} {T : ty_e} {own : String} {index : Nat}
theorem fpr_bytes {k b n len b2 n2 : Nat} (hx : p.tables.exec = Jvm.exec) (hb : c.code = cc) (hts : ∀ w ∈ wg, w.before args s = true) (hown : s.vm.findClass own = some m.cls) (hI : sw_I D cl_all (ty_s ca) A s H locs L f) (hT : ok_T ca T L f) (ha : T a = some (ty_row k)) (hw : rw_is T f a k b n len) (hlink : (Cond.fieldLink own index R_Br "bytes" "[I").before args s = true) (hv : T b2 = some (ty_I n2)) (hl : len ≤ n2) (hk : n2 = k / 16 ∨ (k / 16 = 18 ∧ n2 = 259)) (hn : n2 ≤ 1000) (hdg : decode cc pc = .ok (.putfield index, 3))
    (kk : ∀ (H1 : Heap) (locs1 : List Loc) (f1 : Nat → va_E), sw_I D cl_all (ty_s ca) A s H1 locs1 L f1 → ok_T ca T L f1 → rw_is T f1 a k b2 n2 len → (∀ q, q ≠ a → f1 q = f q) → W p l e R s m args below meth c H1 locs1 cells slots Q (F0 m (pc + 3) ls rest)) : W p l e R s m args below meth c H locs cells slots Q (F0 m pc ls (.ref b2 :: .ref a :: rest)) :=
  sw_put (ci := 1) (ty := .array .int) (C := R_Br) (T := F_Br) (N := 2) hx hb hts in_Br t_Br t_Br_ok n_Br hown hI (hT a _ ha).1 hw.1 rfl 0 (by decide) hlink (fun _ h9 => h9) rfl (by decide +kernel) rfl rfl (Nat.le_of_ble_eq_true rfl) hdg (fun H1 locs1 hI1 => kk H1 locs1 _ hI1 (ok_up hT ha ⟨b2, n2, len, rfl, hv, hl, hk, hn⟩) ⟨va_up_self _ _ _, hv, hl, hk, hn⟩ (fun q h => va_up_ne _ _ h))
end BRGROW
section SMALLOC
variable {p : Program} {l : Launch} {e : Env} {R : Room} {s : State} {m : MethodId} {args : Array Value} {below : List Frame} {meth : Method} {c : Code} {H : Heap} {locs : List Loc} {cells slots mc ms : Nat} {Q : State → Prop}
variable {pc : Nat} {ls : Array Slot} {rest st0 : List Value} {D : va_G} {A : Nat → Prop} {ca : Nat → ClassId} {T : ty_e} {L : List Nat} {f : Nat → va_E} {a : Array Value}
abbrev po_a (ca : Nat → ClassId) (T : ty_e) (F : ty_e → Prop) (u : sm_S) : Prop := ∃ T1 : ty_e, ty_le T T1 ∧ ok_T ca T1 u.1 u.2 ∧ F T1
theorem sm_vA (hI : sw_I D cl_all (ty_s ca) A s H locs L f) (hr : sm_run p l e R s m args below meth c H locs cells slots mc ms pc ls st0 rest L f (sm_Qv D (ty_s ca) L f H.size (fun u => po_a ca T (fun _ => True) u) a))
    (kk : ∀ (T1 : ty_e) (L1 : List Nat) (H1 : Heap) (locs1 : List Loc) (f1 : Nat → va_E), ty_le T T1 → sw_I D cl_all (ty_s ca) A s H1 locs1 L1 f1 → ok_T ca T1 L1 f1 → W p l e R s m args below meth c H1 locs1 (cells + mc) (slots + ms) Q (F0 m (pc + 3) ls rest)) : W p l e R s m args below meth c H locs cells slots Q (F0 m pc ls st0) := by
  refine sm_callv hI hr (fun u H1 locs1 hp h1 => ?_)
  obtain ⟨T1, hle, h2, -⟩ := hp
  exact kk T1 u.1 H1 locs1 u.2 hle h1 h2
theorem sm_iA {F : Int32 → Prop} (hI : sw_I D cl_all (ty_s ca) A s H locs L f) (hr : sm_run p l e R s m args below meth c H locs cells slots mc ms pc ls st0 rest L f (sm_Qi D (ty_s ca) L f H.size (fun r u => po_a ca T (fun _ => F r) u) a))
    (kk : ∀ (r : Int32) (T1 : ty_e) (L1 : List Nat) (H1 : Heap) (locs1 : List Loc) (f1 : Nat → va_E), F r → ty_le T T1 → sw_I D cl_all (ty_s ca) A s H1 locs1 L1 f1 → ok_T ca T1 L1 f1 → W p l e R s m args below meth c H1 locs1 (cells + mc) (slots + ms) Q (F0 m (pc + 3) ls (.int r :: rest))) : W p l e R s m args below meth c H locs cells slots Q (F0 m pc ls st0) := by
  refine sm_calli hI hr (fun r u H1 locs1 hp h1 => ?_)
  obtain ⟨T1, hle, h2, hF⟩ := hp
  exact kk r T1 u.1 H1 locs1 u.2 hF hle h1 h2
theorem sm_qA {F : ty_e → Option Nat → Prop} (hI : sw_I D cl_all (ty_s ca) A s H locs L f) (hr : sm_run p l e R s m args below meth c H locs cells slots mc ms pc ls st0 rest L f (sm_Qq D (ty_s ca) L f H.size (fun r u => po_a ca T (fun T1 => F T1 r) u) a))
    (kk : ∀ (r : Option Nat) (T1 : ty_e) (L1 : List Nat) (H1 : Heap) (locs1 : List Loc) (f1 : Nat → va_E), F T1 r → ty_le T T1 → sw_I D cl_all (ty_s ca) A s H1 locs1 L1 f1 → ok_T ca T1 L1 f1 → W p l e R s m args below meth c H1 locs1 (cells + mc) (slots + ms) Q (F0 m (pc + 3) ls (va_rf r :: rest))) : W p l e R s m args below meth c H locs cells slots Q (F0 m pc ls st0) := by
  refine sm_callq hI hr (fun r u H1 locs1 hp h1 => ?_)
  obtain ⟨T1, hle, h2, hF⟩ := hp
  exact kk r T1 u.1 H1 locs1 u.2 hF hle h1 h2
end SMALLOC
