/-! the law's own store: the reference's cells, the array of answers, the post's cells, side by side -/
section SWAP
variable {s : State} {H H1 : Heap} {locs locs1 : List Loc} {D : va_G} {cl : List vw_C} {tys : List (ClassId × FieldType)} {A : Nat → Prop} {L K : List Nat} {f : Nat → va_E}
theorem sw_swap (hI : sw_I D cl tys A s H locs (L ++ K) f) : sw_I D cl tys A s H locs (K ++ L) f := by
  refine ⟨?_, ?_, hI.2.2⟩
  · show va_P D cl (va_pl (K ++ L) f) H
    rw [sd_app]
    exact va_P.app (sd_P (L := L) hI.1) (sd_PL (K := K) hI.1)
  · show va_D A (va_pl (K ++ L) f)
    rw [sd_app]
    refine va_D.app (sd_D (L := L) hI.2.1) (sd_DL (K := K) hI.2.1) (fun i j p q hi hj hpq => ?_)
    obtain ⟨c, hc, he⟩ := List.mem_map.mp (List.mem_of_getElem? hi)
    obtain ⟨d, hd, hf⟩ := List.mem_map.mp (List.mem_of_getElem? hj)
    cases he
    cases hf
    have hpq2 : c = d := hpq
    exact sd_apart (A := A) hI.2.1 hd (hpq2 ▸ hc)
theorem sw_keep (hI : sw_I D cl tys A s H locs L f) (hk : ∀ q : Nat, q < H.size → H1[q]? = H[q]?) (hS : va_S A s.heap H1 locs1) : sw_I D cl tys A s H1 locs1 L f :=
  ⟨va_P.kept hI.1 (fun k q hq => by
    obtain ⟨c, hc, he⟩ := List.mem_map.mp (List.mem_of_getElem? hq)
    cases he
    exact hk c (va_pl_lt (X := []) (L := L) hI.1 hc)), hI.2.1, hS, hI.2.2.2⟩
end SWAP
section SDCALL
variable {p : Program} {l : Launch} {e : Env} {R : Room} {s : State} {m : MethodId} {args : Array Value} {below : List Frame} {meth : Method} {c : Code} {H : Heap} {locs : List Loc} {cells slots mc ms : Nat} {Q : State → Prop}
variable {pc : Nat} {ls : Array Slot} {rest st0 : List Value} {D : va_G} {A : Nat → Prop} {ca : Nat → ClassId} {L K : List Nat} {f : Nat → va_E} {a : Array Value}
theorem sd_calli {post : Int32 → sm_S → Prop} (hI : sw_I D cl_all (ty_s ca) A s H locs (L ++ K) f) (hr : sm_run p l e R s m args below meth c H locs cells slots mc ms pc ls st0 rest K f (sm_Qi D (ty_s ca) K f H.size post a))
    (kk : ∀ (r : Int32) (u : sm_S) (H1 : Heap) (locs1 : List Loc), post r u → sw_I D cl_all (ty_s ca) A s H1 locs1 (L ++ u.1) (sd_f L f u.2) → (∀ a, a ∈ u.1 → a ∉ L) → W p l e R s m args below meth c H1 locs1 (cells + mc) (slots + ms) Q (F0 m (pc + 3) ls (.int r :: rest))) : W p l e R s m args below meth c H locs cells slots Q (F0 m pc ls st0) :=
  va_calli hr hI.2.2.1 (fun q _ h => sd_free hI q h) (sd_free hI) fun r u t H1 locs1 ht _ hp hB _ hk hS => kk r u H1 locs1 hp (sd_back hI ht hB hk hS).1 (sd_back hI ht hB hk hS).2
theorem sd_calll {post : Int64 → sm_S → Prop} (hI : sw_I D cl_all (ty_s ca) A s H locs (L ++ K) f) (hr : sm_run p l e R s m args below meth c H locs cells slots mc ms pc ls st0 rest K f (sm_Ql D (ty_s ca) K f H.size post a))
    (kk : ∀ (r : Int64) (u : sm_S) (H1 : Heap) (locs1 : List Loc), post r u → sw_I D cl_all (ty_s ca) A s H1 locs1 (L ++ u.1) (sd_f L f u.2) → (∀ a, a ∈ u.1 → a ∉ L) → W p l e R s m args below meth c H1 locs1 (cells + mc) (slots + ms) Q (F0 m (pc + 3) ls (.long r :: rest))) : W p l e R s m args below meth c H locs cells slots Q (F0 m pc ls st0) :=
  va_calll hr hI.2.2.1 (fun q _ h => sd_free hI q h) (sd_free hI) fun r u t H1 locs1 ht _ hp hB _ hk hS => kk r u H1 locs1 hp (sd_back hI ht hB hk hS).1 (sd_back hI ht hB hk hS).2
end SDCALL
theorem pw_cg {ca : Nat → ClassId} {o h0 : Nat} {L1 : List Nat} {f f1 : Nat → va_E} {G : List (Int32 × Int32) → Prop} (h : pw ca o h0 L1 f G) (hk : ∀ a, a ∈ o :: L1 → f1 a = f a) : pw ca o h0 L1 f1 G := by
  obtain ⟨h1, ⟨gg, h2⟩, T1, g1, h3, h4⟩ := h
  exact ⟨h1, ⟨gg, by rw [hk o List.mem_cons_self]; exact h2⟩, T1, g1, ok_cg h3 (fun a ha => hk a (List.mem_cons_of_mem _ ha)), h4⟩
theorem mq_cg {ca : Nat → ClassId} {ad : Nat → Nat} {σ : mq_S} {L : List Nat} {f f1 : Nat → va_E} (h : mq_B ca ad σ L f) (hk : ∀ a, a ∈ L → f1 a = f a) : mq_B ca ad σ L f1 := by
  obtain ⟨h1, h2, h3, h4, h5⟩ := h
  exact ⟨h1, h2, by rw [hk _ (h2 71 List.mem_cons_self)]; exact h3, fun k hk2 => by rw [hk _ (h2 k (List.mem_cons_of_mem _ hk2))]; exact h4 k hk2, h5⟩
/-- the law's store -/
def LI (D : va_G) (ca : Nat → ClassId) (A : Nat → Prop) (s : State) (H : Heap) (locs : List Loc) (o hP : Nat) (ad : Nat → Nat) (M Q1 : List Nat) (f : Nat → va_E) (g : List (Int32 × Int32)) (σ : mq_S) : Prop :=
  sw_I D cl_all (ty_s ca) A s H locs (M ++ (o :: Q1)) f ∧ pw ca o hP Q1 f (fun x => x = g) ∧ mq_B ca ad σ M f
/-- what of the reference is carried from call to call -/
def IQ (z : Nat) (σ : mq_S) : Prop := IH σ ∧ BIa σ ∧ SI σ ∧ ∃ n : Nat, n ≤ z ∧ σ.1 56 = nI n
theorem iq_k {X : List Nat} {σ σ1 : mq_S} {z : Nat} (h : mq_fr X σ σ1) (hx : ([17, 118, 56] : List Nat).all (fun k => !X.elem k) = true) (hI : IH σ1) (q : IQ z σ) : IQ (z + 1) σ1 := by
  obtain ⟨-, q2, q3, n, q4, q5⟩ := q
  have g : ∀ k, k ∈ ([17, 118, 56] : List Nat) → X.elem k = false := fun k hk => by
    have := List.all_eq_true.mp hx k hk
    simpa using this
  have hx2 : ([17, 118] : List Nat).all (fun k => !X.elem k) = true := List.all_eq_true.mpr (fun k hk => List.all_eq_true.mp hx k (by
    rcases List.mem_cons.mp hk with rfl | hk
    · simp
    · rcases List.mem_cons.mp hk with rfl | hk
      · simp
      · cases hk))
  exact ⟨hI, BIa_fr h hx2 q2, SI_fr h hx2 q3, n, by omega, by rw [(h.1 56 (g 56 (by simp))).1]; exact q5⟩
theorem iq_f {X : List Nat} {σ σ1 : mq_S} {z : Nat} (h : mq_fr X σ σ1) (hx : ([17, 118, 56] : List Nat).all (fun k => !X.elem k) = true) (hx2 : ih_X.all (fun k => !X.elem k) = true) (q : IQ z σ) : IQ (z + 1) σ1 := iq_k h hx (IH_fr h hx2 q.1) q
theorem iq_s {σ : mq_S} {z : Nat} (q : IQ z σ) : IQ (z + 1) σ := by
  obtain ⟨q1, q2, q3, n, q4, q5⟩ := q
  exact ⟨q1, q2, q3, n, by omega, q5⟩
section LAWCALL
variable {p : Program} {l : Launch} {e : Env} {R : Room} {s : State} {m : MethodId} {args : Array Value} {below : List Frame} {meth : Method} {c : Code} {H : Heap} {locs : List Loc} {cells slots mc ms : Nat} {Q : State → Prop}
variable {pc : Nat} {ls : Array Slot} {rest st0 : List Value} {D : va_G} {A : Nat → Prop} {ca : Nat → ClassId} {M Q1 : List Nat} {f : Nat → va_E} {a : Array Value} {o hP : Nat} {ad : Nat → Nat} {σ : mq_S} {X : List Nat} {F : mq_S → Prop} {g : List (Int32 × Int32)}
theorem lw_back {u : sm_S} {H1 : Heap} {locs1 : List Loc} {L1 : List Nat} {G : List (Int32 × Int32) → Prop} (h : LI D ca A s H locs o hP ad M Q1 f g σ) (hu : u.1 = o :: L1) (hw : pw ca o hP L1 u.2 G) (h1 : sw_I D cl_all (ty_s ca) A s H1 locs1 (M ++ u.1) (sd_f M f u.2)) (hd : ∀ a, a ∈ u.1 → a ∉ M) : ∃ g1 : List (Int32 × Int32), G g1 ∧ LI D ca A s H1 locs1 o hP ad M L1 (sd_f M f u.2) g1 σ := by
  obtain ⟨w1, w2, T1, g1, w3, w4, w5⟩ := hw
  exact ⟨g1, w5, hu ▸ h1, pw_cg ⟨w1, w2, T1, g1, w3, w4, rfl⟩ (fun a ha => sd_r (hd a (hu ▸ ha))), mq_cg h.2.2 (fun a ha => sd_l ha)⟩
theorem lw_wr (G : Int32 → List (Int32 × Int32) → Prop) (EX : Int32 → va_E → Prop) (h : LI D ca A s H locs o hP ad M Q1 f g σ) (hr : sm_run p l e R s m args below meth c H locs cells slots mc ms pc ls st0 rest (o :: Q1) f (sm_Qi D (ty_s ca) (o :: Q1) f H.size (fun r u => ∃ L1 : List Nat, u.1 = o :: L1 ∧ pw ca o hP L1 u.2 (G r) ∧ EX r (u.2 o)) a))
    (kk : ∀ (r : Int32) (H1 : Heap) (locs1 : List Loc) (Q2 : List Nat) (f2 : Nat → va_E) (g1 : List (Int32 × Int32)), G r g1 → EX r (f2 o) → LI D ca A s H1 locs1 o hP ad M Q2 f2 g1 σ → W p l e R s m args below meth c H1 locs1 (cells + mc) (slots + ms) Q (F0 m (pc + 3) ls (.int r :: rest))) : W p l e R s m args below meth c H locs cells slots Q (F0 m pc ls st0) := by
  refine sd_calli (L := M) (K := o :: Q1) h.1 hr (fun r u H1 locs1 hp h1 hd => ?_)
  obtain ⟨L1, hu, hw, hex⟩ := hp
  obtain ⟨g1, hG, hL⟩ := lw_back h hu hw h1 hd
  exact kk r H1 locs1 L1 _ g1 hG (by rw [sd_r (hd o (by rw [hu]; exact List.mem_cons_self))]; exact hex) hL
theorem lw_w0 {EX : Int32 → Prop} (h : LI D ca A s H locs o hP ad M Q1 f g σ) (hr : sm_run p l e R s m args below meth c H locs cells slots mc ms pc ls st0 rest (o :: Q1) f (sm_Qi D (ty_s ca) (o :: Q1) f H.size (fun r u => ∃ L1 : List Nat, u.1 = o :: L1 ∧ pw ca o hP L1 u.2 (fun x => x = g) ∧ EX r) a))
    (kk : ∀ (r : Int32) (H1 : Heap) (locs1 : List Loc) (Q2 : List Nat) (f2 : Nat → va_E), EX r → LI D ca A s H1 locs1 o hP ad M Q2 f2 g σ → W p l e R s m args below meth c H1 locs1 (cells + mc) (slots + ms) Q (F0 m (pc + 3) ls (.int r :: rest))) : W p l e R s m args below meth c H locs cells slots Q (F0 m pc ls st0) := by
  refine lw_wr (fun _ x => x = g) (fun r _ => EX r) h hr (fun r H1 locs1 Q2 f2 g1 hG hex hL => ?_)
  subst hG
  exact kk r H1 locs1 Q2 f2 hex hL
theorem lw_mback {u : sm_S} {H1 : Heap} {locs1 : List Loc} {σ1 : mq_S} (h : LI D ca A s H locs o hP ad M Q1 f g σ) (hu : u.1 = M) (hB : mq_B ca ad σ1 M u.2) (h1 : sw_I D cl_all (ty_s ca) A s H1 locs1 ((o :: Q1) ++ u.1) (sd_f (o :: Q1) f u.2)) (hd : ∀ a, a ∈ u.1 → a ∉ o :: Q1) : LI D ca A s H1 locs1 o hP ad M Q1 (sd_f (o :: Q1) f u.2) g σ1 := by
  exact ⟨sw_swap (hu ▸ h1), pw_cg h.2.1 (fun a ha => sd_l ha), mq_cg hB (fun a ha => sd_r (hd a (hu ▸ ha)))⟩
theorem lw_mv (h : LI D ca A s H locs o hP ad M Q1 f g σ) (hr : sm_run p l e R s m args below meth c H locs cells slots 0 0 pc ls st0 rest M f (sm_Qv D (ty_s ca) M f H.size (fun u => mq_po ca ad M σ X F u) a))
    (kk : ∀ (H1 : Heap) (locs1 : List Loc) (f2 : Nat → va_E) (σ1 : mq_S), mq_fr X σ σ1 → F σ1 → LI D ca A s H1 locs1 o hP ad M Q1 f2 g σ1 → W p l e R s m args below meth c H1 locs1 cells slots Q (F0 m (pc + 3) ls rest)) : W p l e R s m args below meth c H locs cells slots Q (F0 m pc ls st0) := by
  refine sd_callv (L := o :: Q1) (K := M) (sw_swap h.1) hr (fun u H1 locs1 hp h1 hd => ?_)
  obtain ⟨σ1, hu, hB, hF, hf⟩ := hp
  exact kk H1 locs1 _ σ1 hF hf (lw_mback h hu hB h1 hd)
theorem lw_mi {F : Int32 → mq_S → Prop} (h : LI D ca A s H locs o hP ad M Q1 f g σ) (hr : sm_run p l e R s m args below meth c H locs cells slots 0 0 pc ls st0 rest M f (sm_Qi D (ty_s ca) M f H.size (fun r u => mq_po ca ad M σ X (F r) u) a))
    (kk : ∀ (r : Int32) (H1 : Heap) (locs1 : List Loc) (f2 : Nat → va_E) (σ1 : mq_S), f2 o = f o → mq_fr X σ σ1 → F r σ1 → LI D ca A s H1 locs1 o hP ad M Q1 f2 g σ1 → W p l e R s m args below meth c H1 locs1 cells slots Q (F0 m (pc + 3) ls (.int r :: rest))) : W p l e R s m args below meth c H locs cells slots Q (F0 m pc ls st0) := by
  refine sd_calli (L := o :: Q1) (K := M) (sw_swap h.1) hr (fun r u H1 locs1 hp h1 hd => ?_)
  obtain ⟨σ1, hu, hB, hF, hf⟩ := hp
  exact kk r H1 locs1 _ σ1 (sd_l List.mem_cons_self) hF hf (lw_mback h hu hB h1 hd)
theorem lw_ml (h : LI D ca A s H locs o hP ad M Q1 f g σ) (hr : sm_run p l e R s m args below meth c H locs cells slots 0 0 pc ls st0 rest M f (sm_Ql D (ty_s ca) M f H.size (fun _ u => mq_po ca ad M σ X F u) a))
    (kk : ∀ (r : Int64) (H1 : Heap) (locs1 : List Loc) (f2 : Nat → va_E) (σ1 : mq_S), mq_fr X σ σ1 → F σ1 → LI D ca A s H1 locs1 o hP ad M Q1 f2 g σ1 → W p l e R s m args below meth c H1 locs1 cells slots Q (F0 m (pc + 3) ls (.long r :: rest))) : W p l e R s m args below meth c H locs cells slots Q (F0 m pc ls st0) := by
  refine sd_calll (L := o :: Q1) (K := M) (sw_swap h.1) hr (fun r u H1 locs1 hp h1 hd => ?_)
  obtain ⟨σ1, hu, hB, hF, hf⟩ := hp
  exact kk r H1 locs1 _ σ1 hF hf (lw_mback h hu hB h1 hd)
/-- a call of the reference that only reads -/
theorem lw_mr {P : Int32 → Prop} (h : LI D ca A s H locs o hP ad M Q1 f g σ) (hr : sm_run p l e R s m args below meth c H locs cells slots 0 0 pc ls st0 rest M f (sm_Qi D (ty_s ca) M f H.size (fun r u => P r ∧ u = (M, f)) a))
    (kk : ∀ (r : Int32) (H1 : Heap) (locs1 : List Loc) (f2 : Nat → va_E), f2 o = f o → P r → LI D ca A s H1 locs1 o hP ad M Q1 f2 g σ → W p l e R s m args below meth c H1 locs1 cells slots Q (F0 m (pc + 3) ls (.int r :: rest))) : W p l e R s m args below meth c H locs cells slots Q (F0 m pc ls st0) := by
  refine sd_calli (L := o :: Q1) (K := M) (sw_swap h.1) hr (fun r u H1 locs1 hp h1 hd => ?_)
  obtain ⟨hP, rfl⟩ := hp
  exact kk r H1 locs1 _ (sd_l List.mem_cons_self) hP (lw_mback h rfl h.2.2 h1 hd)
/-- a call of the post that only reads -/
theorem lw_pr {P : Int64 → Prop} (h : LI D ca A s H locs o hP ad M Q1 f g σ) (hr : sm_run p l e R s m args below meth c H locs cells slots 0 0 pc ls st0 rest Q1 f (sm_Ql D (ty_s ca) Q1 f H.size (fun r u => P r ∧ u = (Q1, f)) a))
    (kk : ∀ (r : Int64) (H1 : Heap) (locs1 : List Loc) (f2 : Nat → va_E), LI D ca A s H1 locs1 o hP ad M Q1 f2 g σ → W p l e R s m args below meth c H1 locs1 cells slots Q (F0 m (pc + 3) ls (.long r :: rest))) : W p l e R s m args below meth c H locs cells slots Q (F0 m pc ls st0) := by
  have hI : sw_I D cl_all (ty_s ca) A s H locs ((M ++ [o]) ++ Q1) f := by
    rw [List.append_assoc]
    exact h.1
  refine sd_calll (L := M ++ [o]) (K := Q1) hI hr (fun r u H1 locs1 hp h1 hd => ?_)
  obtain ⟨-, rfl⟩ := hp
  have he : sd_f (M ++ [o]) f f = f := by
    funext a
    unfold sd_f
    split <;> rfl
  rw [show ((Q1, f) : sm_S).2 = f from rfl, he, List.append_assoc] at h1
  exact kk r H1 locs1 f ⟨h1, h.2⟩
end LAWCALL
theorem wg_cons {args : Array Value} {s : State} {c : Cond} (hts : ∀ w ∈ wg, w.before args s = true) (h : c ∈ wg) : ∀ w ∈ c :: wg, ∀ (a' : Array Value) (U : State), s.WarmedH U.vm → w.before a' U = true := fun w hw a' U hW =>
  wg_at hts hW w ((List.mem_cons.mp hw).elim (fun q => q ▸ h) (fun q => q))
def bz (x : Int32) : Int32 := if x = 0 then 0 else 1
theorem bz_0 {x : Int32} (h : x = 0) : (0 : Int32) = bz x := by simp [bz, h]
theorem bz_1 {x : Int32} (h : ¬ x = 0) : (1 : Int32) = bz x := by simp [bz, h]
theorem bz_01 {x y : Int32} (h : y = bz x) : y = 0 ∨ y = 1 := by
  subst h
  unfold bz
  split
  · exact Or.inl rfl
  · exact Or.inr rfl
theorem lg_same {x y : Int64} (h : x = y) : lg_cmp x y = 0 := by
  subst h
  simp [lg_cmp]
