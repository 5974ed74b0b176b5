/-! a call that is given a part of the store: the rest stays as it is -/
def sd_f (L : List Nat) (f g : Nat → va_E) : Nat → va_E := fun a => if a ∈ L then f a else g a
theorem sd_l {L : List Nat} {f g : Nat → va_E} {a : Nat} (h : a ∈ L) : sd_f L f g a = f a := if_pos h
theorem sd_r {L : List Nat} {f g : Nat → va_E} {a : Nat} (h : a ∉ L) : sd_f L f g a = g a := if_neg h
section SIDE
variable {s : State} {H : Heap} {locs : List Loc} {D : va_G} {cl : List vw_C} {tys : List (ClassId × FieldType)} {A : Nat → Prop} {L K : List Nat} {f : Nat → va_E}
theorem sd_app : va_pl (L ++ K) f = va_pl L f ++ va_pl K f := List.map_append
theorem sd_apart (h : va_D A (va_pl (L ++ K) f)) {a : Nat} (ha : a ∈ L) : a ∉ K := fun hk => by
  rw [sd_app] at h
  obtain ⟨i, hi⟩ := List.getElem?_of_mem (show (a, f a) ∈ va_pl L f from List.mem_map.mpr ⟨a, ha, rfl⟩)
  obtain ⟨j, hj⟩ := List.getElem?_of_mem (show (a, f a) ∈ va_pl K f from List.mem_map.mpr ⟨a, hk, rfl⟩)
  have h1 := (List.getElem?_eq_some_iff.mp hi).1
  have h2 : (va_pl L f ++ va_pl K f)[i]? = some (a, f a) := by rw [List.getElem?_append_left h1]; exact hi
  have h3 : (va_pl L f ++ va_pl K f)[(va_pl L f).length + j]? = some (a, f a) := by rw [List.getElem?_append_right (by omega), show (va_pl L f).length + j - (va_pl L f).length = j by omega]; exact hj
  have := h.1 _ _ _ _ h2 h3 rfl
  omega
theorem sd_P (h : va_P D cl (va_pl (L ++ K) f) H) : va_P D cl (va_pl K f) H := fun k q hk => by
  rw [sd_app] at h
  exact h ((va_pl L f).length + k) q (by rw [List.getElem?_append_right (by omega), show (va_pl L f).length + k - (va_pl L f).length = k by omega]; exact hk)
theorem sd_PL (h : va_P D cl (va_pl (L ++ K) f) H) : va_P D cl (va_pl L f) H := fun k q hk => by
  rw [sd_app] at h
  exact h k q (by rw [List.getElem?_append_left (List.getElem?_eq_some_iff.mp hk).1]; exact hk)
theorem sd_D (h : va_D A (va_pl (L ++ K) f)) : va_D A (va_pl K f) := by
  rw [sd_app] at h
  have key : ∀ (k : Nat) (q : Nat × va_E), (va_pl K f)[k]? = some q → (va_pl L f ++ va_pl K f)[(va_pl L f).length + k]? = some q := fun k q hk => by
    rw [List.getElem?_append_right (by omega), show (va_pl L f).length + k - (va_pl L f).length = k by omega]
    exact hk
  exact ⟨fun i j p q hi hj hpq => by have := h.1 _ _ p q (key i p hi) (key j q hj) hpq; omega, fun k q hk => h.2 _ q (key k q hk)⟩
theorem sd_DL (h : va_D A (va_pl (L ++ K) f)) : va_D A (va_pl L f) := by
  rw [sd_app] at h
  have key : ∀ (k : Nat) (q : Nat × va_E), (va_pl L f)[k]? = some q → (va_pl L f ++ va_pl K f)[k]? = some q := fun k q hk => by
    rw [List.getElem?_append_left (List.getElem?_eq_some_iff.mp hk).1]
    exact hk
  exact ⟨fun i j p q hi hj hpq => h.1 _ _ p q (key i p hi) (key j q hj) hpq, fun k q hk => h.2 _ q (key k q hk)⟩
theorem sd_free (hI : sw_I D cl tys A s H locs (L ++ K) f) : ∀ q, va_A (va_pl K f) H.size q → A q := fun q h => by
  rcases h with ⟨k, e0, h⟩ | h
  · exact (sd_D (L := L) hI.2.1).2 k (q, e0) h
  · exact hI.2.2.2.2 q (Nat.le_trans hI.2.2.1.1 h)
theorem sd_preS (hI : sw_I D cl tys A s H locs (L ++ K) f) (hE : ek A s) {As : List Value} : PreS s H (va_Pc As (sm_P D cl tys ek K f H.size)) As :=
  ⟨sm_blind, fun U hU hW => ⟨rfl, by rw [hU], by rw [hU]; exact sd_P (L := L) hI.1, va_K.moved hW.alike hI.2.2.2.1, (sd_D (L := L) hI.2.1).weaken (fun _ _ _ _ => trivial), ek_move hW (fun a h1 h2 => by rw [hU]; exact hI.2.2.1.2.1 a h1 h2) (sd_free hI) hE⟩⟩
theorem sd_preV (hI : sw_I D cl tys A s H locs (L ++ K) f) (hE : ek A s) {As : List Value} {b ci : Nat} {q : vw_C} {fs : List Value} (hb : b ∈ L ++ K) (hf : f b = .inr (ci, fs)) (hc : cl[ci]? = some q) : PreV s H q.1 b (va_Pc (.ref b :: As) (sm_P D cl tys ek K f H.size)) As := by
  obtain ⟨i, hi⟩ := sw_at hb hf
  exact ⟨sm_blind, va_recv hI.2.2.2.1 hI.1 hc hi, (sd_preS hI hE).2⟩
theorem sd_back (hI : sw_I D cl tys A s H locs (L ++ K) f) {u : sm_S} {t : State} {H1 : Heap} {locs1 : List Loc} (ht : t.heap = H1) (hB : sm_B D cl tys K f H.size u t) (hk : ∀ q : Nat, q < H.size → ¬ va_A (va_pl K f) H.size q → H1[q]? = H[q]?) (hS : va_S A s.heap H1 locs1) : sw_I D cl tys A s H1 locs1 (L ++ u.1) (sd_f L f u.2) ∧ ∀ a, a ∈ u.1 → a ∉ L := by
  obtain ⟨b1, b2, b3⟩ := hB
  have hlt : ∀ a, a ∈ L → a < H.size := fun a ha => va_pl_lt (X := []) (L := L ++ K) hI.1 (List.mem_append_left _ ha)
  have hnA : ∀ a, a ∈ L → ¬ va_A (va_pl K f) H.size a := fun a ha h => by
    rcases h with ⟨k, e0, h⟩ | h
    · have hm := List.mem_of_getElem? h
      obtain ⟨c, hc, he⟩ := List.mem_map.mp hm
      cases he
      exact sd_apart (A := A) hI.2.1 ha hc
    · have := hlt a ha
      omega
  have hdis : ∀ a, a ∈ u.1 → a ∉ L := fun a ha hl => by
    obtain ⟨i, hi⟩ := List.getElem?_of_mem (show (a, u.2 a) ∈ va_pl u.1 u.2 from List.mem_map.mpr ⟨a, ha, rfl⟩)
    exact hnA a hl (b3.2 i _ hi)
  have e1 : va_pl L (sd_f L f u.2) = va_pl L f := List.map_congr_left (fun a ha => by rw [sd_l ha])
  have e2 : va_pl u.1 (sd_f L f u.2) = va_pl u.1 u.2 := List.map_congr_left (fun a ha => by rw [sd_r (hdis a ha)])
  have hP : va_P D cl (va_pl L f) H1 := (sd_PL (K := K) hI.1).kept (fun k q hq => by
    obtain ⟨c, hc, he⟩ := List.mem_map.mp (List.mem_of_getElem? hq)
    cases he
    exact hk c (hlt c hc) (hnA c hc))
  refine ⟨⟨?_, ?_, hS, hI.2.2.2.1, hI.2.2.2.2⟩, hdis⟩
  · show va_P D cl (va_pl (L ++ u.1) (sd_f L f u.2)) H1
    rw [sd_app, e1, e2]
    exact va_P.app hP (ht ▸ b1)
  · show va_D A (va_pl (L ++ u.1) (sd_f L f u.2))
    rw [sd_app, e1, e2]
    refine va_D.app (sd_DL (K := K) hI.2.1) (b3.weaken (fun _ _ _ h => sd_free hI _ h)) (fun i j p q hi hj hpq => ?_)
    obtain ⟨c, hc, he⟩ := List.mem_map.mp (List.mem_of_getElem? hi)
    obtain ⟨d, hd, hf⟩ := List.mem_map.mp (List.mem_of_getElem? hj)
    cases he
    cases hf
    have hpq2 : c = d := hpq
    exact hdis d hd (hpq2 ▸ hc)
end SIDE
theorem sd_ok {ca : Nat → ClassId} {T T1 : ty_e} {L : List Nat} {f : Nat → va_E} {u : sm_S} (hT : ok_T ca T L f) (hu : ok_T ca T1 u.1 u.2) (hd : ∀ a, a ∈ u.1 → a ∉ L) :
    ∃ T2 : ty_e, ty_le T T2 ∧ ok_T ca T2 (L ++ u.1) (sd_f L f u.2) ∧ (∀ a, a ∈ L → T2 a = T a) ∧ ty_le T1 T2 := by
  have l1 : ty_le T (fun a => if a ∈ L then T a else T1 a) := fun b ty hb => by
    show (if b ∈ L then T b else T1 b) = some ty
    rw [if_pos (hT b ty hb).1]
    exact hb
  have l2 : ty_le T1 (fun a => if a ∈ L then T a else T1 a) := fun b ty hb => by
    show (if b ∈ L then T b else T1 b) = some ty
    rw [if_neg (hd b (hu b ty hb).1)]
    exact hb
  refine ⟨_, l1, fun b ty hb => ?_, fun a ha => if_pos ha, l2⟩
  by_cases z : b ∈ L
  · have hb2 : T b = some ty := by
      have : (if b ∈ L then T b else T1 b) = some ty := hb
      rwa [if_pos z] at this
    exact ⟨List.mem_append_left _ z, by rw [sd_l z]; exact ok_mono l1 _ _ (hT b ty hb2).2⟩
  · have hb2 : T1 b = some ty := by
      have : (if b ∈ L then T b else T1 b) = some ty := hb
      rwa [if_neg z] at this
    exact ⟨List.mem_append_right _ (hu b ty hb2).1, by rw [sd_r z]; exact ok_mono l2 _ _ (hu b ty hb2).2⟩
/-- what a constructor leaves of its own part: its cell has its type -/
abbrev po_k (ca : Nat → ClassId) (h : Nat) (ty : ty_c) (u : sm_S) : Prop := ∃ T1 : ty_e, ok_T ca T1 u.1 u.2 ∧ T1 h = some ty
section SMSIDE
variable {p : Program} {l : Launch} {e : Env} {R : Room} {s : State} {m : MethodId} {args : Array Value} {below : List Frame} {meth : Method} {c : Code} {H : Heap} {locs : List Loc} {cells slots mc ms : Nat} {Q : State → Prop}
variable {pc : Nat} {ls : Array Slot} {rest st0 : List Value} {D : va_G} {A : Nat → Prop} {ca : Nat → ClassId} {T : ty_e} {L K : List Nat} {f : Nat → va_E} {a : Array Value}
theorem sd_callv {post : sm_S → Prop} (hI : sw_I D cl_all (ty_s ca) A s H locs (L ++ K) f) (hr : sm_run p l e R s m args below meth c H locs cells slots mc ms pc ls st0 rest K f (sm_Qv D (ty_s ca) K f H.size post a))
    (kk : ∀ (u : sm_S) (H1 : Heap) (locs1 : List Loc), post u → sw_I D cl_all (ty_s ca) A s H1 locs1 (L ++ u.1) (sd_f L f u.2) → (∀ a, a ∈ u.1 → a ∉ L) → W p l e R s m args below meth c H1 locs1 (cells + mc) (slots + ms) Q (F0 m (pc + 3) ls rest)) : W p l e R s m args below meth c H locs cells slots Q (F0 m pc ls st0) :=
  va_callv hr hI.2.2.1 (fun q _ h => sd_free hI q h) (sd_free hI) fun u t H1 locs1 ht _ hp hB _ hk hS => kk u H1 locs1 hp (sd_back hI ht hB hk hS).1 (sd_back hI ht hB hk hS).2
theorem sm_vK {q : Nat} {ty : ty_c} (hI : sw_I D cl_all (ty_s ca) A s H locs (L ++ K) f) (hT : ok_T ca T L f) (hr : sm_run p l e R s m args below meth c H locs cells slots mc ms pc ls st0 rest K f (sm_Qv D (ty_s ca) K f H.size (fun u => po_k ca q ty u) a))
    (kk : ∀ (T1 : ty_e) (L1 : List Nat) (H1 : Heap) (locs1 : List Loc) (f1 : Nat → va_E), ty_le T T1 → sw_I D cl_all (ty_s ca) A s H1 locs1 L1 f1 → ok_T ca T1 L1 f1 → T1 q = some ty → (∀ a, a ∈ L → a ∈ L1 ∧ f1 a = f a ∧ T1 a = T a) → W p l e R s m args below meth c H1 locs1 (cells + mc) (slots + ms) Q (F0 m (pc + 3) ls rest)) : W p l e R s m args below meth c H locs cells slots Q (F0 m pc ls st0) := by
  refine sd_callv hI hr (fun u H1 locs1 hp h1 h2 => ?_)
  obtain ⟨T1, g1, g2⟩ := hp
  obtain ⟨T2, k1, k2, k3, k4⟩ := sd_ok hT g1 h2
  exact kk T2 _ H1 locs1 _ k1 h1 k2 (k4 _ _ g2) (fun a ha => ⟨List.mem_append_left _ ha, sd_l ha, k3 a ha⟩)
end SMSIDE
