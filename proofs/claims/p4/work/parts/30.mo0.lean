/-! the reference: its fields and arrays as functions of their numbers (written by wip/tools/mo0.py) -/
abbrev mq_S : Type := (Nat → Int32) × (Nat → Int64) × (Nat → Nat → Int32) × (Nat → Nat → Int64)
abbrev mq_fs (ad : Nat → Nat) (σ : mq_S) : List Value := [.int (σ.1 0), .int (σ.1 1), .int (σ.1 2), .ref (ad 3), .ref (ad 4), .ref (ad 5), .ref (ad 6), .ref (ad 7), .ref (ad 8), .int (σ.1 9), .long (σ.2.1 10), .int (σ.1 11), .long (σ.2.1 12), .ref (ad 13), .ref (ad 14), .ref (ad 15), .ref (ad 16), .ref (ad 17), .ref (ad 18), .ref (ad 19), .ref (ad 20), .ref (ad 21), .ref (ad 22), .ref (ad 23), .ref (ad 24), .ref (ad 25), .ref (ad 26), .ref (ad 27), .ref (ad 28), .ref (ad 29), .ref (ad 30), .ref (ad 31), .ref (ad 32), .ref (ad 33), .ref (ad 34), .int (σ.1 35), .int (σ.1 36), .int (σ.1 37), .int (σ.1 38), .int (σ.1 39), .int (σ.1 40), .ref (ad 41), .int (σ.1 42), .int (σ.1 43), .int (σ.1 44), .ref (ad 45), .ref (ad 46), .ref (ad 47), .ref (ad 48), .ref (ad 49), .ref (ad 50), .ref (ad 51), .ref (ad 52), .int (σ.1 53), .int (σ.1 54), .int (σ.1 55), .int (σ.1 56), .ref (ad 57), .ref (ad 58), .ref (ad 59), .ref (ad 60), .ref (ad 61), .ref (ad 62), .ref (ad 63), .ref (ad 64), .int (σ.1 65), .int (σ.1 66), .long (σ.2.1 67), .ref (ad 68), .ref (ad 69), .int (σ.1 70)]
def mq_kd : Nat → Nat := fun k => match k with
  | 6 => 2
  | 23 => 1
  | 26 => 1
  | 27 => 1
  | 28 => 2
  | 29 => 1
  | 50 => 1
  | 51 => 2
  | 62 => 2
  | _ => 0
def mq_n : Nat → Nat := fun k => match k with
  | 3 => 32
  | 4 => 32
  | 5 => 32
  | 6 => 32
  | 7 => 32
  | 8 => 32
  | 13 => 4
  | 14 => 4
  | 15 => 5200
  | 16 => 4
  | 17 => 1080
  | 18 => 4
  | 19 => 3
  | 20 => 3
  | 21 => 3
  | 22 => 3
  | 23 => 36
  | 24 => 36
  | 25 => 3
  | 26 => 3
  | 27 => 3
  | 28 => 3
  | 29 => 3
  | 30 => 4
  | 31 => 16640
  | 32 => 64
  | 33 => 64
  | 34 => 64
  | 41 => 270
  | 45 => 48
  | 46 => 48
  | 47 => 48
  | 48 => 48
  | 49 => 48
  | 50 => 48
  | 51 => 48
  | 52 => 48
  | 57 => 600
  | 58 => 600
  | 59 => 600
  | 60 => 600
  | 61 => 600
  | 62 => 600
  | 63 => 14400
  | 64 => 600
  | 68 => 8
  | 69 => 260
  | _ => 0
def mq_li : Nat → Option (Nat × Nat) := fun k => match k with
  | 2 => some (0, 32)
  | 11 => some (0, 1)
  | 36 => some (1, 2)
  | 37 => some (1, 2)
  | 38 => some (1, 3)
  | 40 => some (0, 270)
  | 43 => some (0, 48)
  | 56 => some (0, 600)
  | 70 => some (0, 260)
  | _ => none
def mq_lg : Nat → Option (Nat × Nat) := fun k => match k with
  | 6 => some (0, 1)
  | 16 => some (0, 1299)
  | 17 => some (0, 255)
  | 18 => some (0, 269)
  | 21 => some (0, 32767)
  | 22 => some (0, 12)
  | 28 => some (0, 1)
  | 30 => some (0, 16)
  | 32 => some (0, 260)
  | 46 => some (0, 31)
  | 51 => some (0, 1)
  | 60 => some (0, 3)
  | 62 => some (0, 1)
  | 64 => some (0, 24)
  | _ => none
def mq_c (ca : Nat → ClassId) (σ : mq_S) (k : Nat) : va_E := match mq_kd k with
  | 0 => .inl (ca 0, mq_n k, .inl (σ.2.2.1 k))
  | 1 => .inl (ca 1, mq_n k, .inr (.inl (σ.2.2.2 k)))
  | _ => .inl (ca 2, mq_n k, .inl (σ.2.2.1 k))
abbrev mq_ar : List Nat := [3, 4, 5, 6, 7, 8, 13, 14, 15, 16, 17, 18, 19, 20, 21, 22, 23, 24, 25, 26, 27, 28, 29, 30, 31, 32, 33, 34, 41, 45, 46, 47, 48, 49, 50, 51, 52, 57, 58, 59, 60, 61, 62, 63, 64, 68, 69]
def mq_d (ad : Nat → Nat) : Prop := ∀ i ∈ 71 :: mq_ar, ∀ j ∈ 71 :: mq_ar, i ≠ j → ad i ≠ ad j
def mq_ok (o : Option (Nat × Nat)) (v : Int32) : Prop := match o with
  | none => True
  | some (lo, hi) => ∃ n : Nat, lo ≤ n ∧ n ≤ hi ∧ v = nI n
def mq_in (σ : mq_S) : Prop := (∀ k : Nat, mq_ok (mq_li k) (σ.1 k)) ∧ ∀ k i : Nat, mq_ok (mq_lg k) (σ.2.2.1 k i)
def mq_B (ca : Nat → ClassId) (ad : Nat → Nat) (σ : mq_S) (L : List Nat) (f : Nat → va_E) : Prop := mq_d ad ∧ (∀ k ∈ 71 :: mq_ar, ad k ∈ L) ∧ f (ad 71) = .inr (11, mq_fs ad σ) ∧ (∀ k ∈ mq_ar, f (ad k) = mq_c ca σ k) ∧ mq_in σ
def mq_ui (σ : mq_S) (k : Nat) (v : Int32) : mq_S := (fun j => bif Nat.beq j k then v else σ.1 j, σ.2)
def mq_uj (σ : mq_S) (k : Nat) (v : Int64) : mq_S := (σ.1, fun j => bif Nat.beq j k then v else σ.2.1 j, σ.2.2)
def mq_ug (σ : mq_S) (k j : Nat) (x : Int32) : mq_S := (σ.1, σ.2.1, fun i => bif Nat.beq i k then upd (σ.2.2.1 k) j x else σ.2.2.1 i, σ.2.2.2)
def mq_uh (σ : mq_S) (k j : Nat) (x : Int64) : mq_S := (σ.1, σ.2.1, σ.2.2.1, fun i => bif Nat.beq i k then vp_updL (σ.2.2.2 k) j x else σ.2.2.2 i)
theorem mq_be {k j : Nat} (h : k ≠ j) : Nat.beq k j = false := by
  cases e : Nat.beq k j with
  | false => rfl
  | true => exact absurd (Nat.eq_of_beq_eq_true e) h
theorem mq_bt (k : Nat) : Nat.beq k k = true := Nat.beq_refl k
theorem mq_okz {v : Int32} (h : v = 0 ∨ v = 1) : mq_ok (some (0, 1)) v := by
  rcases h with rfl | rfl
  · exact ⟨0, by decide, by decide, rfl⟩
  · exact ⟨1, by decide, by decide, rfl⟩
theorem mq_zok {v : Int32} (h : mq_ok (some (0, 1)) v) : v = 0 ∨ v = 1 := by
  obtain ⟨n, -, h2, e⟩ := h
  rcases Nat.lt_or_ge n 1 with z | z
  · have : n = 0 := by omega
    subst this
    exact Or.inl e
  · have : n = 1 := by omega
    subst this
    exact Or.inr e
theorem mq_in_ui {σ : mq_S} {k : Nat} {v : Int32} (h : mq_in σ) (hv : mq_ok (mq_li k) v) : mq_in (mq_ui σ k v) := by
  refine ⟨fun j => ?_, h.2⟩
  show mq_ok (mq_li j) (bif Nat.beq j k then v else σ.1 j)
  by_cases q : j = k
  · subst q
    rw [mq_bt]
    exact hv
  · rw [mq_be q]
    exact h.1 j
theorem mq_in_ug {σ : mq_S} {k j : Nat} {v : Int32} (h : mq_in σ) (hv : mq_ok (mq_lg k) v) : mq_in (mq_ug σ k j v) := by
  refine ⟨h.1, fun i t => ?_⟩
  show mq_ok (mq_lg i) ((bif Nat.beq i k then upd (σ.2.2.1 k) j v else σ.2.2.1 i) t)
  by_cases q : i = k
  · subst q
    rw [mq_bt]
    show mq_ok (mq_lg i) (if t = j then v else σ.2.2.1 i t)
    by_cases z : t = j
    · rw [if_pos z]
      exact hv
    · rw [if_neg z]
      exact h.2 i t
  · rw [mq_be q]
    exact h.2 i t
theorem mq_c0 {ca : Nat → ClassId} {σ : mq_S} {k : Nat} (h : mq_kd k = 0) : mq_c ca σ k = .inl (ca 0, mq_n k, .inl (σ.2.2.1 k)) := by
  simp only [mq_c, h]
theorem mq_c1 {ca : Nat → ClassId} {σ : mq_S} {k : Nat} (h : mq_kd k = 1) : mq_c ca σ k = .inl (ca 1, mq_n k, .inr (.inl (σ.2.2.2 k))) := by
  simp only [mq_c, h]
theorem mq_c2 {ca : Nat → ClassId} {σ : mq_S} {k : Nat} (h : mq_kd k = 2) : mq_c ca σ k = .inl (ca 2, mq_n k, .inl (σ.2.2.1 k)) := by
  simp only [mq_c, h]
theorem mq_ugk {σ : mq_S} {k j : Nat} {x : Int32} : (mq_ug σ k j x).2.2.1 k = upd (σ.2.2.1 k) j x := by
  show (bif Nat.beq k k then upd (σ.2.2.1 k) j x else σ.2.2.1 k) = _
  rw [mq_bt]
  rfl
theorem mq_uhk {σ : mq_S} {k j : Nat} {x : Int64} : (mq_uh σ k j x).2.2.2 k = vp_updL (σ.2.2.2 k) j x := by
  show (bif Nat.beq k k then vp_updL (σ.2.2.2 k) j x else σ.2.2.2 k) = _
  rw [mq_bt]
  rfl
theorem mq_ugj {σ σ1 : mq_S} {k j : Nat} {x : Int32} (e : σ1 = mq_ug σ k j x) : σ1.2.2.1 k j = x := by
  rw [e, mq_ugk]
  exact if_pos rfl
theorem mq_ugn {σ σ1 : mq_S} {k j i : Nat} {x v : Int32} (e : σ1 = mq_ug σ k j x) (h : i ≠ j) (t : σ.2.2.1 k i = v) : σ1.2.2.1 k i = v := by
  rw [e, mq_ugk, ← t]
  exact if_neg h
theorem mq_uik {σ σ1 : mq_S} {k : Nat} {v : Int32} (e : σ1 = mq_ui σ k v) : σ1.1 k = v := by
  rw [e]
  show (bif Nat.beq k k then v else σ.1 k) = v
  rw [mq_bt]
  rfl
theorem mq_c_ug {ca : Nat → ClassId} {σ : mq_S} {k j i : Nat} {x : Int32} (h : i ≠ k) : mq_c ca (mq_ug σ k j x) i = mq_c ca σ i := by
  have e : (mq_ug σ k j x).2.2.1 i = σ.2.2.1 i := by
    show (bif Nat.beq i k then upd (σ.2.2.1 k) j x else σ.2.2.1 i) = _
    rw [mq_be h]
    rfl
  unfold mq_c
  rw [e]
  rfl
theorem mq_c_uh {ca : Nat → ClassId} {σ : mq_S} {k j i : Nat} {x : Int64} (h : i ≠ k) : mq_c ca (mq_uh σ k j x) i = mq_c ca σ i := by
  have e : (mq_uh σ k j x).2.2.2 i = σ.2.2.2 i := by
    show (bif Nat.beq i k then vp_updL (σ.2.2.2 k) j x else σ.2.2.2 i) = _
    rw [mq_be h]
    rfl
  unfold mq_c
  rw [e]
  rfl
section MQROWS
variable {p : Program} {l : Launch} {e : Env} {R : Room} {s : State} {m : MethodId} {args : Array Value} {below : List Frame} {meth : Method} {c : Code} {H : Heap} {locs : List Loc} {cells slots : Nat} {Q : State → Prop}
variable {cc : ByteArray} {pc : Nat} {ls : Array Slot} {rest : List Value} {D : va_G} {A : Nat → Prop} {L : List Nat} {f : Nat → va_E} {ca : Nat → ClassId} {ad : Nat → Nat} {σ : mq_S} {own : String} {index : Nat}
theorem mq_get {k : Nat} {v : Value} (hx : p.tables.exec = Jvm.exec) (hb : c.code = cc) (hts : ∀ w ∈ wg, w.before args s = true) (hown : s.vm.findClass own = some m.cls) (hI : sw_I D cl_all (ty_s ca) A s H locs L f) (hM : mq_B ca ad σ L f) (hk : k < 71) (hv : (mq_fs ad σ)[k]? = some v) (hd : (F_Mo k).1 = R_Mo) (hlink : (Cond.fieldLink own index R_Mo (F_Mo k).2.1 (F_Mo k).2.2.1).before args s = true) (hdg : decode cc pc = .ok (.getfield index, 3))
    (kk : W p l e R s m args below meth c H locs cells slots Q (F0 m (pc + 3) ls (v :: rest))) : W p l e R s m args below meth c H locs cells slots Q (F0 m pc ls (.ref (ad 71) :: rest)) :=
  sw_get (ci := 11) (C := R_Mo) (T := F_Mo) (N := 71) hx hb hts in_Mo hown hI (hM.2.1 71 List.mem_cons_self) hM.2.2.1 rfl k hk hlink (fun _ h9 => hd ▸ h9) hv hdg kk
theorem mq_B_ob {σ1 : mq_S} {fs : List Value} (hM : mq_B ca ad σ L f) (h1 : fs = mq_fs ad σ1) (h2 : σ1.2.2 = σ.2.2) (h3 : mq_in σ1) : mq_B ca ad σ1 L (va_up f (ad 71) (.inr (11, fs))) := by
  refine ⟨hM.1, hM.2.1, by rw [va_up_self, h1], fun k hk => ?_, h3⟩
  rw [va_up_ne _ _ (hM.1 k (List.mem_cons_of_mem _ hk) 71 List.mem_cons_self (fun q => by subst q; exact absurd hk (by decide))), hM.2.2.2.1 k hk]
  unfold mq_c
  rw [h2]
theorem mq_B_ar {σ1 : mq_S} {k : Nat} {e0 : va_E} (hM : mq_B ca ad σ L f) (hk : k ∈ mq_ar) (h1 : σ1.1 = σ.1) (h2 : σ1.2.1 = σ.2.1) (h3 : mq_c ca σ1 k = e0) (h4 : ∀ i, i ≠ k → mq_c ca σ1 i = mq_c ca σ i) (h5 : mq_in σ1) : mq_B ca ad σ1 L (va_up f (ad k) e0) := by
  refine ⟨hM.1, hM.2.1, ?_, fun i hi => ?_, h5⟩
  · rw [va_up_ne _ _ (hM.1 71 List.mem_cons_self k (List.mem_cons_of_mem _ hk) (fun q => by subst q; exact absurd hk (by decide))), hM.2.2.1]
    unfold mq_fs
    rw [h1, h2]
  · by_cases q : i = k
    · subst q
      rw [va_up_self, h3]
    · rw [va_up_ne _ _ (hM.1 i (List.mem_cons_of_mem _ hi) k (List.mem_cons_of_mem _ hk) q), hM.2.2.2.1 i hi, h4 i q]
theorem mq_puti {k : Nat} {v : Int32} {ty : FieldType} (hx : p.tables.exec = Jvm.exec) (hb : c.code = cc) (hts : ∀ w ∈ wg, w.before args s = true) (hown : s.vm.findClass own = some m.cls) (hI : sw_I D cl_all (ty_s ca) A s H locs L f) (hM : mq_B ca ad σ L f) (hk : k < 71) (hv : (mq_fs ad σ).set k (.int v) = mq_fs ad (mq_ui σ k v)) (hd : (F_Mo k).1 = R_Mo) (hlink : (Cond.fieldLink own index R_Mo (F_Mo k).2.1 (F_Mo k).2.2.1).before args s = true) (hfin : (F_Mo k).2.2.2 = false) (hty : parseFieldDescriptor (F_Mo k).2.2.1 = some ty) (hn : narrow ty (.int v) = .int v) (hfit : fits ty (.int v) = true) (hok : mq_ok (mq_li k) v) (hdg : decode cc pc = .ok (.putfield index, 3))
    (kk : ∀ (H1 : Heap) (locs1 : List Loc) (f1 : Nat → va_E) (σ1 : mq_S), σ1 = mq_ui σ k v → sw_I D cl_all (ty_s ca) A s H1 locs1 L f1 → mq_B ca ad σ1 L f1 → W p l e R s m args below meth c H1 locs1 cells slots Q (F0 m (pc + 3) ls rest)) : W p l e R s m args below meth c H locs cells slots Q (F0 m pc ls (.int v :: .ref (ad 71) :: rest)) :=
  sw_put (ci := 11) (C := R_Mo) (T := F_Mo) (N := 71) hx hb hts in_Mo t_Mo t_Mo_ok n_Mo hown hI (hM.2.1 71 List.mem_cons_self) hM.2.2.1 rfl k hk hlink (fun _ h9 => hd ▸ h9) hfin hty hn hfit hk hdg (fun H1 locs1 hI1 => kk H1 locs1 _ _ rfl hI1 (mq_B_ob hM hv rfl (mq_in_ui hM.2.2.2.2 hok)))
theorem mq_putj {k : Nat} {v : Int64} (hx : p.tables.exec = Jvm.exec) (hb : c.code = cc) (hts : ∀ w ∈ wg, w.before args s = true) (hown : s.vm.findClass own = some m.cls) (hI : sw_I D cl_all (ty_s ca) A s H locs L f) (hM : mq_B ca ad σ L f) (hk : k < 71) (hv : (mq_fs ad σ).set k (.long v) = mq_fs ad (mq_uj σ k v)) (hd : (F_Mo k).1 = R_Mo) (hlink : (Cond.fieldLink own index R_Mo (F_Mo k).2.1 (F_Mo k).2.2.1).before args s = true) (hfin : (F_Mo k).2.2.2 = false) (hty : parseFieldDescriptor (F_Mo k).2.2.1 = some .long) (hdg : decode cc pc = .ok (.putfield index, 3))
    (kk : ∀ (H1 : Heap) (locs1 : List Loc) (f1 : Nat → va_E) (σ1 : mq_S), σ1 = mq_uj σ k v → sw_I D cl_all (ty_s ca) A s H1 locs1 L f1 → mq_B ca ad σ1 L f1 → W p l e R s m args below meth c H1 locs1 cells slots Q (F0 m (pc + 3) ls rest)) : W p l e R s m args below meth c H locs cells slots Q (F0 m pc ls (.long v :: .ref (ad 71) :: rest)) :=
  sw_put (ci := 11) (C := R_Mo) (T := F_Mo) (N := 71) hx hb hts in_Mo t_Mo t_Mo_ok n_Mo hown hI (hM.2.1 71 List.mem_cons_self) hM.2.2.1 rfl k hk hlink (fun _ h9 => hd ▸ h9) hfin hty rfl rfl hk hdg (fun H1 locs1 hI1 => kk H1 locs1 _ _ rfl hI1 (mq_B_ob hM hv rfl hM.2.2.2.2))
theorem mq_iald {k j : Nat} {v : Int32} (hx : p.tables.exec = Jvm.exec) (hb : c.code = cc) (hI : sw_I D cl_all (ty_s ca) A s H locs L f) (hM : mq_B ca ad σ L f) (hk : k ∈ mq_ar) (hkd : mq_kd k = 0) (hj : j < mq_n k) (hn : mq_n k < 2 ^ 31) (hv : σ.2.2.1 k j = v) (hdg : decode cc pc = .ok (.iaload, 1))
    (kk : W p l e R s m args below meth c H locs cells slots Q (F0 m (pc + 1) ls (.int v :: rest))) : W p l e R s m args below meth c H locs cells slots Q (F0 m pc ls (.int (nI j) :: .ref (ad k) :: rest)) := by
  have hf : f (ad k) = .inl (ca 0, mq_n k, .inl (σ.2.2.1 k)) := (hM.2.2.2.1 k hk).trans (mq_c0 hkd)
  refine sw_iald hx hb hI (hM.2.1 k (List.mem_cons_of_mem _ hk)) 0 hf rfl (vp_in_nI hj hn) hdg ?_
  rw [nI_clamp (by omega), hv]
  exact kk
theorem mq_zald {k j : Nat} {v : Int32} (hx : p.tables.exec = Jvm.exec) (hb : c.code = cc) (hI : sw_I D cl_all (ty_s ca) A s H locs L f) (hM : mq_B ca ad σ L f) (hk : k ∈ mq_ar) (hkd : mq_kd k = 2) (hj : j < mq_n k) (hn : mq_n k < 2 ^ 31) (hv : σ.2.2.1 k j = v) (hdg : decode cc pc = .ok (.baload, 1))
    (kk : W p l e R s m args below meth c H locs cells slots Q (F0 m (pc + 1) ls (.int v :: rest))) : W p l e R s m args below meth c H locs cells slots Q (F0 m pc ls (.int (nI j) :: .ref (ad k) :: rest)) := by
  have hf : f (ad k) = .inl (ca 2, mq_n k, .inl (σ.2.2.1 k)) := (hM.2.2.2.1 k hk).trans (mq_c2 hkd)
  obtain ⟨i, hi⟩ := sw_at (hM.2.1 k (List.mem_cons_of_mem _ hk)) hf
  refine va_zald hx hb hI.2.2.2.1 hI.1 i 2 hi rfl (vp_in_nI hj hn) hdg ?_
  rw [nI_clamp (by omega), hv]
  exact kk
theorem mq_lald {k j : Nat} (hx : p.tables.exec = Jvm.exec) (hb : c.code = cc) (hI : sw_I D cl_all (ty_s ca) A s H locs L f) (hM : mq_B ca ad σ L f) (hk : k ∈ mq_ar) (hkd : mq_kd k = 1) (hj : j < mq_n k) (hn : mq_n k < 2 ^ 31) (hdg : decode cc pc = .ok (.laload, 1))
    (kk : W p l e R s m args below meth c H locs cells slots Q (F0 m (pc + 1) ls (.long (σ.2.2.2 k j) :: rest))) : W p l e R s m args below meth c H locs cells slots Q (F0 m pc ls (.int (nI j) :: .ref (ad k) :: rest)) := by
  have hf : f (ad k) = .inl (ca 1, mq_n k, .inr (.inl (σ.2.2.2 k))) := (hM.2.2.2.1 k hk).trans (mq_c1 hkd)
  refine sw_lald hx hb hI (hM.2.1 k (List.mem_cons_of_mem _ hk)) 1 hf rfl (vp_in_nI hj hn) hdg ?_
  rw [nI_clamp (by omega)]
  exact kk
theorem mq_iast {k j : Nat} {x : Int32} (hx : p.tables.exec = Jvm.exec) (hb : c.code = cc) (hI : sw_I D cl_all (ty_s ca) A s H locs L f) (hM : mq_B ca ad σ L f) (hk : k ∈ mq_ar) (hkd : mq_kd k = 0) (hj : j < mq_n k) (hn : mq_n k < 2 ^ 31) (hok : mq_ok (mq_lg k) x) (hdg : decode cc pc = .ok (.iastore, 1))
    (kk : ∀ (H1 : Heap) (locs1 : List Loc) (f1 : Nat → va_E) (σ1 : mq_S), σ1 = mq_ug σ k j x → sw_I D cl_all (ty_s ca) A s H1 locs1 L f1 → mq_B ca ad σ1 L f1 → W p l e R s m args below meth c H1 locs1 cells slots Q (F0 m (pc + 1) ls rest)) : W p l e R s m args below meth c H locs cells slots Q (F0 m pc ls (.int x :: .int (nI j) :: .ref (ad k) :: rest)) := by
  have hf : f (ad k) = .inl (ca 0, mq_n k, .inl (σ.2.2.1 k)) := (hM.2.2.2.1 k hk).trans (mq_c0 hkd)
  refine sw_iast hx hb hI (hM.2.1 k (List.mem_cons_of_mem _ hk)) 0 hf rfl (vp_in_nI hj hn) hdg (fun H1 locs1 hI1 => ?_)
  refine kk H1 locs1 _ _ rfl hI1 (mq_B_ar hM hk rfl rfl ?_ (fun i hi => mq_c_ug hi) (mq_in_ug hM.2.2.2.2 hok))
  rw [nI_clamp (by omega), mq_c0 hkd, mq_ugk]
theorem mq_zast {k j : Nat} {x : Int32} (hx : p.tables.exec = Jvm.exec) (hb : c.code = cc) (hI : sw_I D cl_all (ty_s ca) A s H locs L f) (hM : mq_B ca ad σ L f) (hk : k ∈ mq_ar) (hkd : mq_kd k = 2) (hj : j < mq_n k) (hn : mq_n k < 2 ^ 31) (hl : mq_lg k = some (0, 1)) (hz : x = 0 ∨ x = 1) (hdg : decode cc pc = .ok (.bastore, 1))
    (kk : ∀ (H1 : Heap) (locs1 : List Loc) (f1 : Nat → va_E) (σ1 : mq_S), σ1 = mq_ug σ k j x → sw_I D cl_all (ty_s ca) A s H1 locs1 L f1 → mq_B ca ad σ1 L f1 → W p l e R s m args below meth c H1 locs1 cells slots Q (F0 m (pc + 1) ls rest)) : W p l e R s m args below meth c H locs cells slots Q (F0 m pc ls (.int x :: .int (nI j) :: .ref (ad k) :: rest)) := by
  have hf : f (ad k) = .inl (ca 2, mq_n k, .inl (σ.2.2.1 k)) := (hM.2.2.2.1 k hk).trans (mq_c2 hkd)
  have hx1 : vp_nar .boolean x = x := by rcases hz with rfl | rfl <;> decide
  obtain ⟨i, hi⟩ := sw_at (hM.2.1 k (List.mem_cons_of_mem _ hk)) hf
  refine va_zast hx hb hI.2.2.2.1 hI.1 hI.2.1 hI.2.2.1 i 2 hi rfl (vp_in_nI hj hn) hdg (fun H1 locs1 hP hD hS => ?_)
  have hI1 := sw_up hI (hM.2.1 k (List.mem_cons_of_mem _ hk)) hf hi hP hD hS
  refine kk H1 locs1 _ _ rfl hI1 (mq_B_ar hM hk rfl rfl ?_ (fun i hi => mq_c_ug hi) (mq_in_ug hM.2.2.2.2 (hl ▸ mq_okz hz)))
  rw [nI_clamp (by omega), mq_c2 hkd, mq_ugk, hx1]
theorem mq_last {k j : Nat} {x : Int64} (hx : p.tables.exec = Jvm.exec) (hb : c.code = cc) (hI : sw_I D cl_all (ty_s ca) A s H locs L f) (hM : mq_B ca ad σ L f) (hk : k ∈ mq_ar) (hkd : mq_kd k = 1) (hj : j < mq_n k) (hn : mq_n k < 2 ^ 31) (hdg : decode cc pc = .ok (.lastore, 1))
    (kk : ∀ (H1 : Heap) (locs1 : List Loc) (f1 : Nat → va_E) (σ1 : mq_S), σ1 = mq_uh σ k j x → sw_I D cl_all (ty_s ca) A s H1 locs1 L f1 → mq_B ca ad σ1 L f1 → W p l e R s m args below meth c H1 locs1 cells slots Q (F0 m (pc + 1) ls rest)) : W p l e R s m args below meth c H locs cells slots Q (F0 m pc ls (.long x :: .int (nI j) :: .ref (ad k) :: rest)) := by
  have hf : f (ad k) = .inl (ca 1, mq_n k, .inr (.inl (σ.2.2.2 k))) := (hM.2.2.2.1 k hk).trans (mq_c1 hkd)
  refine sw_last hx hb hI (hM.2.1 k (List.mem_cons_of_mem _ hk)) 1 hf rfl (vp_in_nI hj hn) hdg (fun H1 locs1 hI1 => ?_)
  refine kk H1 locs1 _ _ rfl hI1 (mq_B_ar hM hk rfl rfl ?_ (fun i hi => mq_c_uh hi) hM.2.2.2.2)
  rw [nI_clamp (by omega), mq_c1 hkd, mq_uhk]
theorem pv_Mo {As : List Value} (hI : sw_I D cl_all (ty_s ca) A s H locs L f) (hE : ek A s) (hM : mq_B ca ad σ L f) : PreV s H R_Mo (ad 71) (va_Pc (.ref (ad 71) :: As) (sm_P D cl_all (ty_s ca) ek L f H.size)) As :=
  sm_preV hI hE (hM.2.1 71 List.mem_cons_self) hM.2.2.1 (q := (R_Mo, F_Mo, 71)) rfl
end MQROWS
/-- what has not changed but in the fields X; 118 in X: what was heard may grow -/
def mq_fr (X : List Nat) (σ σ1 : mq_S) : Prop := (∀ k : Nat, X.elem k = false → σ1.1 k = σ.1 k ∧ σ1.2.1 k = σ.2.1 k ∧ σ1.2.2.1 k = σ.2.2.1 k ∧ σ1.2.2.2 k = σ.2.2.2 k) ∧ (X.elem 118 = false → ∀ i : Nat, σ1.2.2.1 18 i = σ.2.2.1 18 i ∨ σ1.2.2.1 18 i = 0)
theorem mq_fr_rf {X : List Nat} {σ : mq_S} : mq_fr X σ σ := ⟨fun _ _ => ⟨rfl, rfl, rfl, rfl⟩, fun _ _ => Or.inl rfl⟩
theorem mq_ne {X : List Nat} {j k : Nat} (hk : X.elem k = true) (hj : X.elem j = false) : j ≠ k := fun q => by
  rw [q, hk] at hj
  cases hj
theorem mq_fr_ui {X : List Nat} {σ0 σ σ1 : mq_S} {k : Nat} {v : Int32} (hF : mq_fr X σ0 σ) (e : σ1 = mq_ui σ k v) (hk : X.elem k = true) : mq_fr X σ0 σ1 := by
  subst e
  refine ⟨fun j hj => ?_, hF.2⟩
  obtain ⟨h1, h2⟩ := hF.1 j hj
  refine ⟨?_, h2⟩
  show (bif Nat.beq j k then v else σ.1 j) = _
  rw [mq_be (mq_ne hk hj)]
  exact h1
theorem mq_fr_uj {X : List Nat} {σ0 σ σ1 : mq_S} {k : Nat} {v : Int64} (hF : mq_fr X σ0 σ) (e : σ1 = mq_uj σ k v) (hk : X.elem k = true) : mq_fr X σ0 σ1 := by
  subst e
  refine ⟨fun j hj => ?_, hF.2⟩
  obtain ⟨h1, h2, h3⟩ := hF.1 j hj
  refine ⟨h1, ?_, h3⟩
  show (bif Nat.beq j k then v else σ.2.1 j) = _
  rw [mq_be (mq_ne hk hj)]
  exact h2
theorem mq_fr_uh {X : List Nat} {σ0 σ σ1 : mq_S} {k i : Nat} {v : Int64} (hF : mq_fr X σ0 σ) (e : σ1 = mq_uh σ k i v) (hk : X.elem k = true) : mq_fr X σ0 σ1 := by
  subst e
  refine ⟨fun j hj => ?_, hF.2⟩
  obtain ⟨h1, h2, h3, h4⟩ := hF.1 j hj
  refine ⟨h1, h2, h3, ?_⟩
  show (bif Nat.beq j k then vp_updL (σ.2.2.2 k) i v else σ.2.2.2 j) = _
  rw [mq_be (mq_ne hk hj)]
  exact h4
theorem mq_fr_ug {X : List Nat} {σ0 σ σ1 : mq_S} {k i : Nat} {v : Int32} (hF : mq_fr X σ0 σ) (e : σ1 = mq_ug σ k i v) (hk : X.elem k = true) (h18 : Nat.beq 18 k = false ∨ X.elem 118 = true ∨ v = 0) : mq_fr X σ0 σ1 := by
  subst e
  refine ⟨fun j hj => ?_, fun h j => ?_⟩
  · obtain ⟨h1, h2, h3, h4⟩ := hF.1 j hj
    refine ⟨h1, h2, ?_, h4⟩
    show (bif Nat.beq j k then upd (σ.2.2.1 k) i v else σ.2.2.1 j) = _
    rw [mq_be (mq_ne hk hj)]
    exact h3
  · rcases h18 with q | q | q
    · show (bif Nat.beq 18 k then upd (σ.2.2.1 k) i v else σ.2.2.1 18) j = _ ∨ (bif Nat.beq 18 k then upd (σ.2.2.1 k) i v else σ.2.2.1 18) j = _
      rw [q]
      exact hF.2 h j
    · rw [h] at q
      cases q
    · subst q
      by_cases z : 18 = k
      · subst z
        show (if j = i then 0 else σ.2.2.1 18 j) = _ ∨ (if j = i then 0 else σ.2.2.1 18 j) = _
        by_cases z2 : j = i
        · rw [if_pos z2]
          exact Or.inr rfl
        · rw [if_neg z2]
          exact hF.2 h j
      · show (bif Nat.beq 18 k then upd (σ.2.2.1 k) i 0 else σ.2.2.1 18) j = _ ∨ (bif Nat.beq 18 k then upd (σ.2.2.1 k) i 0 else σ.2.2.1 18) j = _
        rw [mq_be z]
        exact hF.2 h j
theorem mq_all {X Y : List Nat} (h : Y.all (fun k => X.elem k) = true) {k : Nat} (hk : X.elem k = false) : Y.elem k = false := by
  cases e : Y.elem k with
  | false => rfl
  | true =>
    have h1 := List.all_eq_true.mp h k (List.elem_iff.mp e)
    rw [hk] at h1
    cases h1
theorem mq_fr_tr {X Y : List Nat} {σ0 σ σ1 : mq_S} (hF : mq_fr X σ0 σ) (h1 : mq_fr Y σ σ1) (hs : Y.all (fun k => X.elem k) = true) : mq_fr X σ0 σ1 := by
  refine ⟨fun k hk => ?_, fun h i => ?_⟩
  · obtain ⟨a1, a2, a3, a4⟩ := hF.1 k hk
    obtain ⟨b1, b2, b3, b4⟩ := h1.1 k (mq_all hs hk)
    exact ⟨b1.trans a1, b2.trans a2, b3.trans a3, b4.trans a4⟩
  · rcases h1.2 (mq_all hs h) i with q | q
    · rcases hF.2 h i with r | r
      · exact Or.inl (q.trans r)
      · exact Or.inr (q.trans r)
    · exact Or.inr q
theorem mq_fi {X : List Nat} {σ σ1 : mq_S} {k : Nat} {v : Int32} (h : mq_fr X σ σ1) (hk : X.elem k = false) (t : σ.1 k = v) : σ1.1 k = v := ((h.1 k hk).1).trans t
theorem mq_fg {X : List Nat} {σ σ1 : mq_S} {k i : Nat} {v : Int32} (h : mq_fr X σ σ1) (hk : X.elem k = false) (t : σ.2.2.1 k i = v) : σ1.2.2.1 k i = v := (congrFun (h.1 k hk).2.2.1 i).trans t
abbrev mq_po (ca : Nat → ClassId) (ad : Nat → Nat) (L : List Nat) (σ : mq_S) (X : List Nat) (F : mq_S → Prop) (u : sm_S) : Prop := ∃ σ1 : mq_S, u.1 = L ∧ mq_B ca ad σ1 L u.2 ∧ mq_fr X σ σ1 ∧ F σ1
section MQCALL
variable {p : Program} {l : Launch} {e : Env} {R : Room} {s : State} {m : MethodId} {args : Array Value} {below : List Frame} {meth : Method} {c : Code} {H : Heap} {locs : List Loc} {cells slots mc ms : Nat} {Q : State → Prop}
variable {pc : Nat} {ls : Array Slot} {rest st0 : List Value} {D : va_G} {A : Nat → Prop} {ca : Nat → ClassId} {ad : Nat → Nat} {σ : mq_S} {X : List Nat} {L : List Nat} {f : Nat → va_E} {a : Array Value}
theorem sm_vM {F : mq_S → Prop} (hI : sw_I D cl_all (ty_s ca) A s H locs L f) (hr : sm_run p l e R s m args below meth c H locs cells slots mc ms pc ls st0 rest L f (sm_Qv D (ty_s ca) L f H.size (fun u => mq_po ca ad L σ X F u) a))
    (kk : ∀ (H1 : Heap) (locs1 : List Loc) (f1 : Nat → va_E) (σ1 : mq_S), sw_I D cl_all (ty_s ca) A s H1 locs1 L f1 → mq_B ca ad σ1 L f1 → mq_fr X σ σ1 → F σ1 → W p l e R s m args below meth c H1 locs1 (cells + mc) (slots + ms) Q (F0 m (pc + 3) ls rest)) : W p l e R s m args below meth c H locs cells slots Q (F0 m pc ls st0) := by
  refine sm_callv hI hr (fun u H1 locs1 hp h1 => ?_)
  obtain ⟨L1, f1⟩ := u
  obtain ⟨σ1, rfl, h2, h3, h4⟩ := hp
  exact kk H1 locs1 f1 σ1 h1 h2 h3 h4
theorem sm_iM {F : Int32 → mq_S → Prop} (hI : sw_I D cl_all (ty_s ca) A s H locs L f) (hr : sm_run p l e R s m args below meth c H locs cells slots mc ms pc ls st0 rest L f (sm_Qi D (ty_s ca) L f H.size (fun r u => mq_po ca ad L σ X (fun σ1 => F r σ1) u) a))
    (kk : ∀ (r : Int32) (H1 : Heap) (locs1 : List Loc) (f1 : Nat → va_E) (σ1 : mq_S), sw_I D cl_all (ty_s ca) A s H1 locs1 L f1 → mq_B ca ad σ1 L f1 → mq_fr X σ σ1 → F r σ1 → W p l e R s m args below meth c H1 locs1 (cells + mc) (slots + ms) Q (F0 m (pc + 3) ls (.int r :: rest))) : W p l e R s m args below meth c H locs cells slots Q (F0 m pc ls st0) := by
  refine sm_calli hI hr (fun r u H1 locs1 hp h1 => ?_)
  obtain ⟨L1, f1⟩ := u
  obtain ⟨σ1, rfl, h2, h3, h4⟩ := hp
  exact kk r H1 locs1 f1 σ1 h1 h2 h3 h4
end MQCALL
