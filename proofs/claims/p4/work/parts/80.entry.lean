/-! where the law begins: what the statement gives (written by wip/tools/entry.py) -/
section ENTRY
variable {args : Array Value} {s : State}
theorem le_A : ∀ a : Nat, a < s.heap.size → ¬ (fun q => s.heap.size ≤ q) a := fun a h q => absurd h (Nat.not_lt.mpr q)
theorem le_l (hts : ∀ w ∈ lw_tbl, w.before args s = true) {w : Cond} (h : w ∈ lw_tbl) : w.before args s = true := hts w h
theorem wl {w : Cond} (h : w ∈ wg) : w ∈ lw_tbl := (List.mem_filter.mp h).1
theorem le_wg (hts : ∀ w ∈ lw_tbl, w.before args s = true) : ∀ w ∈ wg, w.before args s = true := fun w h => hts w (List.mem_filter.mp h).1
theorem le_nest {w : Cond} (h : ek_nest w = true) : w.onTables = true := by cases w <;> first | rfl | (cases h)
theorem le_more {w : Cond} (h : ek_more w = true) : w.onTables = true := by cases w <;> first | rfl | (cases h)
theorem le_str {own tx : String} {k : Nat} (h : (Cond.stringRef own k tx).before args s = true) : ∃ q : Nat, vk_R own k tx q s := by
  have hcur : ∃ cur, s.vm.findClass own = some cur := by
    have h1 := h
    simp only [Cond.before, Cond.holds, Cond.value] at h1
    cases hc : s.vm.findClass own with
    | none => simp [hc] at h1
    | some cur => exact ⟨cur, rfl⟩
  obtain ⟨cur, hcur⟩ := hcur
  obtain ⟨kc, cf, i, a', hk, hcf, hcp, -, hr, hev'⟩ := Cond.stringRef_spec hcur h
  exact ⟨a', vk_R.of h hev'⟩
set_option maxRecDepth 100000 in
theorem le_tb0 (hts : ∀ w ∈ lw_tbl, w.before args s = true) (hgv : (Jvm.Cond.and given_1 narrow_1).before args s = true) : ek_tb 0 (fun q => s.heap.size ≤ q) s s.heap := by
  have hel : ∀ j : Nat, j < 7 → (Term.elem (Jvm.Term.static "TelecontrolPost" "TYPES" "[I") (.int (Int32.ofNat j))).eval args s none [] s = some (.int ((st_v 0).getD j 0)) := fun j hj => by
    match j, hj with
    | 0, _ => exact va_eqt (z := 1) (flat_of_before _ hgv (Jvm.Cond.eq (Jvm.Term.elem (Jvm.Term.static "TelecontrolPost" "TYPES" "[I") (Jvm.Term.int (0 : Int32))) (Jvm.Term.int (1 : Int32))) (by decide +kernel))
    | 1, _ => exact va_eqt (z := 3) (flat_of_before _ hgv (Jvm.Cond.eq (Jvm.Term.elem (Jvm.Term.static "TelecontrolPost" "TYPES" "[I") (Jvm.Term.int (1 : Int32))) (Jvm.Term.int (3 : Int32))) (by decide +kernel))
    | 2, _ => exact va_eqt (z := 5) (flat_of_before _ hgv (Jvm.Cond.eq (Jvm.Term.elem (Jvm.Term.static "TelecontrolPost" "TYPES" "[I") (Jvm.Term.int (2 : Int32))) (Jvm.Term.int (5 : Int32))) (by decide +kernel))
    | 3, _ => exact va_eqt (z := 9) (flat_of_before _ hgv (Jvm.Cond.eq (Jvm.Term.elem (Jvm.Term.static "TelecontrolPost" "TYPES" "[I") (Jvm.Term.int (3 : Int32))) (Jvm.Term.int (9 : Int32))) (by decide +kernel))
    | 4, _ => exact va_eqt (z := 11) (flat_of_before _ hgv (Jvm.Cond.eq (Jvm.Term.elem (Jvm.Term.static "TelecontrolPost" "TYPES" "[I") (Jvm.Term.int (4 : Int32))) (Jvm.Term.int (11 : Int32))) (by decide +kernel))
    | 5, _ => exact va_eqt (z := 13) (flat_of_before _ hgv (Jvm.Cond.eq (Jvm.Term.elem (Jvm.Term.static "TelecontrolPost" "TYPES" "[I") (Jvm.Term.int (5 : Int32))) (Jvm.Term.int (13 : Int32))) (by decide +kernel))
    | 6, _ => exact va_eqt (z := 15) (flat_of_before _ hgv (Jvm.Cond.eq (Jvm.Term.elem (Jvm.Term.static "TelecontrolPost" "TYPES" "[I") (Jvm.Term.int (6 : Int32))) (Jvm.Term.int (15 : Int32))) (by decide +kernel))
    | j + 7, hj => omega
  obtain ⟨t, ht, hT⟩ := va_Tof (N := 7) (f := fun j => .int ((st_v 0).getD j 0)) (by decide) (flat_of_before _ hgv (Jvm.Cond.arrayOf (Jvm.Term.static "TelecontrolPost" "TYPES" "[I") Jvm.ClassFile.FieldType.int) (by decide +kernel)) (va_eqt (z := Int32.ofNat 7) (flat_of_before _ hgv (Jvm.Cond.eq (Jvm.Term.length (Jvm.Term.static "TelecontrolPost" "TYPES" "[I")) (Jvm.Term.int (7 : Int32))) (by decide +kernel))) hel le_A
  exact ⟨t, va_Zref (le_l hts tn_696) (hts _ (wl tw_1)) ht le_A, hT⟩
set_option maxRecDepth 100000 in
theorem le_tb1 (hts : ∀ w ∈ lw_tbl, w.before args s = true) (hgv : (Jvm.Cond.and given_1 narrow_1).before args s = true) : ek_tb 1 (fun q => s.heap.size ≤ q) s s.heap := by
  have hel : ∀ j : Nat, j < 7 → (Term.elem (Jvm.Term.static "TelecontrolPost" "TIMED_TYPES" "[I") (.int (Int32.ofNat j))).eval args s none [] s = some (.int ((st_v 1).getD j 0)) := fun j hj => by
    match j, hj with
    | 0, _ => exact va_eqt (z := 30) (flat_of_before _ hgv (Jvm.Cond.eq (Jvm.Term.elem (Jvm.Term.static "TelecontrolPost" "TIMED_TYPES" "[I") (Jvm.Term.int (0 : Int32))) (Jvm.Term.int (30 : Int32))) (by decide +kernel))
    | 1, _ => exact va_eqt (z := 31) (flat_of_before _ hgv (Jvm.Cond.eq (Jvm.Term.elem (Jvm.Term.static "TelecontrolPost" "TIMED_TYPES" "[I") (Jvm.Term.int (1 : Int32))) (Jvm.Term.int (31 : Int32))) (by decide +kernel))
    | 2, _ => exact va_eqt (z := 32) (flat_of_before _ hgv (Jvm.Cond.eq (Jvm.Term.elem (Jvm.Term.static "TelecontrolPost" "TIMED_TYPES" "[I") (Jvm.Term.int (2 : Int32))) (Jvm.Term.int (32 : Int32))) (by decide +kernel))
    | 3, _ => exact va_eqt (z := 34) (flat_of_before _ hgv (Jvm.Cond.eq (Jvm.Term.elem (Jvm.Term.static "TelecontrolPost" "TIMED_TYPES" "[I") (Jvm.Term.int (3 : Int32))) (Jvm.Term.int (34 : Int32))) (by decide +kernel))
    | 4, _ => exact va_eqt (z := 35) (flat_of_before _ hgv (Jvm.Cond.eq (Jvm.Term.elem (Jvm.Term.static "TelecontrolPost" "TIMED_TYPES" "[I") (Jvm.Term.int (4 : Int32))) (Jvm.Term.int (35 : Int32))) (by decide +kernel))
    | 5, _ => exact va_eqt (z := 36) (flat_of_before _ hgv (Jvm.Cond.eq (Jvm.Term.elem (Jvm.Term.static "TelecontrolPost" "TIMED_TYPES" "[I") (Jvm.Term.int (5 : Int32))) (Jvm.Term.int (36 : Int32))) (by decide +kernel))
    | 6, _ => exact va_eqt (z := 37) (flat_of_before _ hgv (Jvm.Cond.eq (Jvm.Term.elem (Jvm.Term.static "TelecontrolPost" "TIMED_TYPES" "[I") (Jvm.Term.int (6 : Int32))) (Jvm.Term.int (37 : Int32))) (by decide +kernel))
    | j + 7, hj => omega
  obtain ⟨t, ht, hT⟩ := va_Tof (N := 7) (f := fun j => .int ((st_v 1).getD j 0)) (by decide) (flat_of_before _ hgv (Jvm.Cond.arrayOf (Jvm.Term.static "TelecontrolPost" "TIMED_TYPES" "[I") Jvm.ClassFile.FieldType.int) (by decide +kernel)) (va_eqt (z := Int32.ofNat 7) (flat_of_before _ hgv (Jvm.Cond.eq (Jvm.Term.length (Jvm.Term.static "TelecontrolPost" "TIMED_TYPES" "[I")) (Jvm.Term.int (7 : Int32))) (by decide +kernel))) hel le_A
  exact ⟨t, va_Zref (le_l hts tn_620) (hts _ (wl tw_1)) ht le_A, hT⟩
set_option maxRecDepth 100000 in
theorem le_tb2 (hts : ∀ w ∈ lw_tbl, w.before args s = true) (hgv : (Jvm.Cond.and given_1 narrow_1).before args s = true) : ek_tb 2 (fun q => s.heap.size ≤ q) s s.heap := by
  have hel : ∀ j : Nat, j < 7 → (Term.elem (Jvm.Term.static "TelecontrolPost" "LEAST_VALUES" "[I") (.int (Int32.ofNat j))).eval args s none [] s = some (.int ((st_v 2).getD j 0)) := fun j hj => by
    match j, hj with
    | 0, _ => exact va_eqt (z := 0) (flat_of_before _ hgv (Jvm.Cond.eq (Jvm.Term.elem (Jvm.Term.static "TelecontrolPost" "LEAST_VALUES" "[I") (Jvm.Term.int (0 : Int32))) (Jvm.Term.int (0 : Int32))) (by decide +kernel))
    | 1, _ => exact va_eqt (z := 0) (flat_of_before _ hgv (Jvm.Cond.eq (Jvm.Term.elem (Jvm.Term.static "TelecontrolPost" "LEAST_VALUES" "[I") (Jvm.Term.int (1 : Int32))) (Jvm.Term.int (0 : Int32))) (by decide +kernel))
    | 2, _ => exact va_eqt (z := (-64)) (flat_of_before _ hgv (Jvm.Cond.eq (Jvm.Term.elem (Jvm.Term.static "TelecontrolPost" "LEAST_VALUES" "[I") (Jvm.Term.int (2 : Int32))) (Jvm.Term.int (-64 : Int32))) (by decide +kernel))
    | 3, _ => exact va_eqt (z := (-32768)) (flat_of_before _ hgv (Jvm.Cond.eq (Jvm.Term.elem (Jvm.Term.static "TelecontrolPost" "LEAST_VALUES" "[I") (Jvm.Term.int (3 : Int32))) (Jvm.Term.int (-32768 : Int32))) (by decide +kernel))
    | 4, _ => exact va_eqt (z := (-32768)) (flat_of_before _ hgv (Jvm.Cond.eq (Jvm.Term.elem (Jvm.Term.static "TelecontrolPost" "LEAST_VALUES" "[I") (Jvm.Term.int (4 : Int32))) (Jvm.Term.int (-32768 : Int32))) (by decide +kernel))
    | 5, _ => exact va_eqt (z := (-2147483648)) (flat_of_before _ hgv (Jvm.Cond.eq (Jvm.Term.elem (Jvm.Term.static "TelecontrolPost" "LEAST_VALUES" "[I") (Jvm.Term.int (5 : Int32))) (Jvm.Term.int (-2147483648 : Int32))) (by decide +kernel))
    | 6, _ => exact va_eqt (z := (-2147483648)) (flat_of_before _ hgv (Jvm.Cond.eq (Jvm.Term.elem (Jvm.Term.static "TelecontrolPost" "LEAST_VALUES" "[I") (Jvm.Term.int (6 : Int32))) (Jvm.Term.int (-2147483648 : Int32))) (by decide +kernel))
    | j + 7, hj => omega
  obtain ⟨t, ht, hT⟩ := va_Tof (N := 7) (f := fun j => .int ((st_v 2).getD j 0)) (by decide) (flat_of_before _ hgv (Jvm.Cond.arrayOf (Jvm.Term.static "TelecontrolPost" "LEAST_VALUES" "[I") Jvm.ClassFile.FieldType.int) (by decide +kernel)) (va_eqt (z := Int32.ofNat 7) (flat_of_before _ hgv (Jvm.Cond.eq (Jvm.Term.length (Jvm.Term.static "TelecontrolPost" "LEAST_VALUES" "[I")) (Jvm.Term.int (7 : Int32))) (by decide +kernel))) hel le_A
  exact ⟨t, va_Zref (le_l hts tn_598) (hts _ (wl tw_1)) ht le_A, hT⟩
set_option maxRecDepth 100000 in
theorem le_tb3 (hts : ∀ w ∈ lw_tbl, w.before args s = true) (hgv : (Jvm.Cond.and given_1 narrow_1).before args s = true) : ek_tb 3 (fun q => s.heap.size ≤ q) s s.heap := by
  have hel : ∀ j : Nat, j < 7 → (Term.elem (Jvm.Term.static "TelecontrolPost" "GREATEST_VALUES" "[I") (.int (Int32.ofNat j))).eval args s none [] s = some (.int ((st_v 3).getD j 0)) := fun j hj => by
    match j, hj with
    | 0, _ => exact va_eqt (z := 1) (flat_of_before _ hgv (Jvm.Cond.eq (Jvm.Term.elem (Jvm.Term.static "TelecontrolPost" "GREATEST_VALUES" "[I") (Jvm.Term.int (0 : Int32))) (Jvm.Term.int (1 : Int32))) (by decide +kernel))
    | 1, _ => exact va_eqt (z := 3) (flat_of_before _ hgv (Jvm.Cond.eq (Jvm.Term.elem (Jvm.Term.static "TelecontrolPost" "GREATEST_VALUES" "[I") (Jvm.Term.int (1 : Int32))) (Jvm.Term.int (3 : Int32))) (by decide +kernel))
    | 2, _ => exact va_eqt (z := 63) (flat_of_before _ hgv (Jvm.Cond.eq (Jvm.Term.elem (Jvm.Term.static "TelecontrolPost" "GREATEST_VALUES" "[I") (Jvm.Term.int (2 : Int32))) (Jvm.Term.int (63 : Int32))) (by decide +kernel))
    | 3, _ => exact va_eqt (z := 32767) (flat_of_before _ hgv (Jvm.Cond.eq (Jvm.Term.elem (Jvm.Term.static "TelecontrolPost" "GREATEST_VALUES" "[I") (Jvm.Term.int (3 : Int32))) (Jvm.Term.int (32767 : Int32))) (by decide +kernel))
    | 4, _ => exact va_eqt (z := 32767) (flat_of_before _ hgv (Jvm.Cond.eq (Jvm.Term.elem (Jvm.Term.static "TelecontrolPost" "GREATEST_VALUES" "[I") (Jvm.Term.int (4 : Int32))) (Jvm.Term.int (32767 : Int32))) (by decide +kernel))
    | 5, _ => exact va_eqt (z := 2147483647) (flat_of_before _ hgv (Jvm.Cond.eq (Jvm.Term.elem (Jvm.Term.static "TelecontrolPost" "GREATEST_VALUES" "[I") (Jvm.Term.int (5 : Int32))) (Jvm.Term.int (2147483647 : Int32))) (by decide +kernel))
    | 6, _ => exact va_eqt (z := 2147483647) (flat_of_before _ hgv (Jvm.Cond.eq (Jvm.Term.elem (Jvm.Term.static "TelecontrolPost" "GREATEST_VALUES" "[I") (Jvm.Term.int (6 : Int32))) (Jvm.Term.int (2147483647 : Int32))) (by decide +kernel))
    | j + 7, hj => omega
  obtain ⟨t, ht, hT⟩ := va_Tof (N := 7) (f := fun j => .int ((st_v 3).getD j 0)) (by decide) (flat_of_before _ hgv (Jvm.Cond.arrayOf (Jvm.Term.static "TelecontrolPost" "GREATEST_VALUES" "[I") Jvm.ClassFile.FieldType.int) (by decide +kernel)) (va_eqt (z := Int32.ofNat 7) (flat_of_before _ hgv (Jvm.Cond.eq (Jvm.Term.length (Jvm.Term.static "TelecontrolPost" "GREATEST_VALUES" "[I")) (Jvm.Term.int (7 : Int32))) (by decide +kernel))) hel le_A
  exact ⟨t, va_Zref (le_l hts tn_600) (hts _ (wl tw_1)) ht le_A, hT⟩
set_option maxRecDepth 100000 in
theorem le_tb4 (hts : ∀ w ∈ lw_tbl, w.before args s = true) (hgv : (Jvm.Cond.and given_1 narrow_1).before args s = true) : ek_tb 4 (fun q => s.heap.size ≤ q) s s.heap := by
  have hel : ∀ j : Nat, j < 7 → (Term.elem (Jvm.Term.static "TelecontrolPost" "OBJECT_BYTES" "[I") (.int (Int32.ofNat j))).eval args s none [] s = some (.int ((st_v 4).getD j 0)) := fun j hj => by
    match j, hj with
    | 0, _ => exact va_eqt (z := 1) (flat_of_before _ hgv (Jvm.Cond.eq (Jvm.Term.elem (Jvm.Term.static "TelecontrolPost" "OBJECT_BYTES" "[I") (Jvm.Term.int (0 : Int32))) (Jvm.Term.int (1 : Int32))) (by decide +kernel))
    | 1, _ => exact va_eqt (z := 1) (flat_of_before _ hgv (Jvm.Cond.eq (Jvm.Term.elem (Jvm.Term.static "TelecontrolPost" "OBJECT_BYTES" "[I") (Jvm.Term.int (1 : Int32))) (Jvm.Term.int (1 : Int32))) (by decide +kernel))
    | 2, _ => exact va_eqt (z := 2) (flat_of_before _ hgv (Jvm.Cond.eq (Jvm.Term.elem (Jvm.Term.static "TelecontrolPost" "OBJECT_BYTES" "[I") (Jvm.Term.int (2 : Int32))) (Jvm.Term.int (2 : Int32))) (by decide +kernel))
    | 3, _ => exact va_eqt (z := 3) (flat_of_before _ hgv (Jvm.Cond.eq (Jvm.Term.elem (Jvm.Term.static "TelecontrolPost" "OBJECT_BYTES" "[I") (Jvm.Term.int (3 : Int32))) (Jvm.Term.int (3 : Int32))) (by decide +kernel))
    | 4, _ => exact va_eqt (z := 3) (flat_of_before _ hgv (Jvm.Cond.eq (Jvm.Term.elem (Jvm.Term.static "TelecontrolPost" "OBJECT_BYTES" "[I") (Jvm.Term.int (4 : Int32))) (Jvm.Term.int (3 : Int32))) (by decide +kernel))
    | 5, _ => exact va_eqt (z := 5) (flat_of_before _ hgv (Jvm.Cond.eq (Jvm.Term.elem (Jvm.Term.static "TelecontrolPost" "OBJECT_BYTES" "[I") (Jvm.Term.int (5 : Int32))) (Jvm.Term.int (5 : Int32))) (by decide +kernel))
    | 6, _ => exact va_eqt (z := 5) (flat_of_before _ hgv (Jvm.Cond.eq (Jvm.Term.elem (Jvm.Term.static "TelecontrolPost" "OBJECT_BYTES" "[I") (Jvm.Term.int (6 : Int32))) (Jvm.Term.int (5 : Int32))) (by decide +kernel))
    | j + 7, hj => omega
  obtain ⟨t, ht, hT⟩ := va_Tof (N := 7) (f := fun j => .int ((st_v 4).getD j 0)) (by decide) (flat_of_before _ hgv (Jvm.Cond.arrayOf (Jvm.Term.static "TelecontrolPost" "OBJECT_BYTES" "[I") Jvm.ClassFile.FieldType.int) (by decide +kernel)) (va_eqt (z := Int32.ofNat 7) (flat_of_before _ hgv (Jvm.Cond.eq (Jvm.Term.length (Jvm.Term.static "TelecontrolPost" "OBJECT_BYTES" "[I")) (Jvm.Term.int (7 : Int32))) (by decide +kernel))) hel le_A
  exact ⟨t, va_Zref (le_l hts tn_694) (hts _ (wl tw_1)) ht le_A, hT⟩
set_option maxRecDepth 100000 in
theorem le_tb5 (hts : ∀ w ∈ lw_tbl, w.before args s = true) (hgv : (Jvm.Cond.and given_1 narrow_1).before args s = true) : ek_tb 5 (fun q => s.heap.size ≤ q) s s.heap := by
  have hel : ∀ j : Nat, j < 12 → (Term.elem (Jvm.Term.static "TelecontrolPost" "MONTH_DAYS" "[I") (.int (Int32.ofNat j))).eval args s none [] s = some (.int ((st_v 5).getD j 0)) := fun j hj => by
    match j, hj with
    | 0, _ => exact va_eqt (z := 31) (flat_of_before _ hgv (Jvm.Cond.eq (Jvm.Term.elem (Jvm.Term.static "TelecontrolPost" "MONTH_DAYS" "[I") (Jvm.Term.int (0 : Int32))) (Jvm.Term.int (31 : Int32))) (by decide +kernel))
    | 1, _ => exact va_eqt (z := 28) (flat_of_before _ hgv (Jvm.Cond.eq (Jvm.Term.elem (Jvm.Term.static "TelecontrolPost" "MONTH_DAYS" "[I") (Jvm.Term.int (1 : Int32))) (Jvm.Term.int (28 : Int32))) (by decide +kernel))
    | 2, _ => exact va_eqt (z := 31) (flat_of_before _ hgv (Jvm.Cond.eq (Jvm.Term.elem (Jvm.Term.static "TelecontrolPost" "MONTH_DAYS" "[I") (Jvm.Term.int (2 : Int32))) (Jvm.Term.int (31 : Int32))) (by decide +kernel))
    | 3, _ => exact va_eqt (z := 30) (flat_of_before _ hgv (Jvm.Cond.eq (Jvm.Term.elem (Jvm.Term.static "TelecontrolPost" "MONTH_DAYS" "[I") (Jvm.Term.int (3 : Int32))) (Jvm.Term.int (30 : Int32))) (by decide +kernel))
    | 4, _ => exact va_eqt (z := 31) (flat_of_before _ hgv (Jvm.Cond.eq (Jvm.Term.elem (Jvm.Term.static "TelecontrolPost" "MONTH_DAYS" "[I") (Jvm.Term.int (4 : Int32))) (Jvm.Term.int (31 : Int32))) (by decide +kernel))
    | 5, _ => exact va_eqt (z := 30) (flat_of_before _ hgv (Jvm.Cond.eq (Jvm.Term.elem (Jvm.Term.static "TelecontrolPost" "MONTH_DAYS" "[I") (Jvm.Term.int (5 : Int32))) (Jvm.Term.int (30 : Int32))) (by decide +kernel))
    | 6, _ => exact va_eqt (z := 31) (flat_of_before _ hgv (Jvm.Cond.eq (Jvm.Term.elem (Jvm.Term.static "TelecontrolPost" "MONTH_DAYS" "[I") (Jvm.Term.int (6 : Int32))) (Jvm.Term.int (31 : Int32))) (by decide +kernel))
    | 7, _ => exact va_eqt (z := 31) (flat_of_before _ hgv (Jvm.Cond.eq (Jvm.Term.elem (Jvm.Term.static "TelecontrolPost" "MONTH_DAYS" "[I") (Jvm.Term.int (7 : Int32))) (Jvm.Term.int (31 : Int32))) (by decide +kernel))
    | 8, _ => exact va_eqt (z := 30) (flat_of_before _ hgv (Jvm.Cond.eq (Jvm.Term.elem (Jvm.Term.static "TelecontrolPost" "MONTH_DAYS" "[I") (Jvm.Term.int (8 : Int32))) (Jvm.Term.int (30 : Int32))) (by decide +kernel))
    | 9, _ => exact va_eqt (z := 31) (flat_of_before _ hgv (Jvm.Cond.eq (Jvm.Term.elem (Jvm.Term.static "TelecontrolPost" "MONTH_DAYS" "[I") (Jvm.Term.int (9 : Int32))) (Jvm.Term.int (31 : Int32))) (by decide +kernel))
    | 10, _ => exact va_eqt (z := 30) (flat_of_before _ hgv (Jvm.Cond.eq (Jvm.Term.elem (Jvm.Term.static "TelecontrolPost" "MONTH_DAYS" "[I") (Jvm.Term.int (10 : Int32))) (Jvm.Term.int (30 : Int32))) (by decide +kernel))
    | 11, _ => exact va_eqt (z := 31) (flat_of_before _ hgv (Jvm.Cond.eq (Jvm.Term.elem (Jvm.Term.static "TelecontrolPost" "MONTH_DAYS" "[I") (Jvm.Term.int (11 : Int32))) (Jvm.Term.int (31 : Int32))) (by decide +kernel))
    | j + 12, hj => omega
  obtain ⟨t, ht, hT⟩ := va_Tof (N := 12) (f := fun j => .int ((st_v 5).getD j 0)) (by decide) (flat_of_before _ hgv (Jvm.Cond.arrayOf (Jvm.Term.static "TelecontrolPost" "MONTH_DAYS" "[I") Jvm.ClassFile.FieldType.int) (by decide +kernel)) (va_eqt (z := Int32.ofNat 12) (flat_of_before _ hgv (Jvm.Cond.eq (Jvm.Term.length (Jvm.Term.static "TelecontrolPost" "MONTH_DAYS" "[I")) (Jvm.Term.int (12 : Int32))) (by decide +kernel))) hel le_A
  exact ⟨t, va_Zref (le_l hts tn_648) (hts _ (wl tw_1)) ht le_A, hT⟩
set_option maxRecDepth 100000 in
theorem le_ek (hts : ∀ w ∈ lw_tbl, w.before args s = true) (hgv : (Jvm.Cond.and given_1 narrow_1).before args s = true) : ek3 (fun q => s.heap.size ≤ q) s := by
  refine ⟨⟨⟨fun w hw hn => va_Nw.of (le_nest hn) (hts w hw), fun own k tx hw => le_str (hts _ hw), fun C hw => va_AO.of (hts _ hw), fun i hi => ?_, va_Zqof (hts _ tn_452) (hts _ (wl tw_13)) (flat_of_before _ hgv (Jvm.Cond.isRef (Jvm.Term.static "java/lang/Throwable" "UNASSIGNED_STACK" "[Ljava/lang/StackTraceElement;")) (by decide +kernel)) le_A, va_Zqof (hts _ tn_454) (hts _ (wl tw_13)) (flat_of_before _ hgv (Jvm.Cond.isRef (Jvm.Term.static "java/lang/Throwable" "SUPPRESSED_SENTINEL" "Ljava/util/List;")) (by decide +kernel)) le_A⟩, fun w hw hn => va_Nw.of (le_more hn) (hts w hw), ls_of (hts _ tn_452) le_A, ls_of (hts _ tn_454) le_A⟩, va_Nc.of (flat_of_before _ hgv (Jvm.Cond.not (Jvm.Cond.castable "java/lang/IllegalStateException" "java/lang/IllegalArgumentException")) (by decide +kernel))⟩
  match i, hi with
  | 0, _ => exact le_tb0 hts hgv
  | 1, _ => exact le_tb1 hts hgv
  | 2, _ => exact le_tb2 hts hgv
  | 3, _ => exact le_tb3 hts hgv
  | 4, _ => exact le_tb4 hts hgv
  | 5, _ => exact le_tb5 hts hgv
  | i + 6, hi => omega
theorem le_arrP {t : FieldType} (h : (Cond.arrayClass t).before args s = true) : ∃ cA : ClassId, ArrOfT s cA t ∧ s.vm.findClass ("[" ++ t.toString) = some cA := by
  obtain ⟨cA, kA, comp, h1, h2, h3⟩ := Cond.arrayClass_spec h
  exact ⟨cA, fun n z => ⟨(fun q h => by cases h), kA, h2, comp, h3⟩, h1⟩
theorem le_arrQ {C : String} (h : (Cond.arrayOver (.object C)).before args s = true) : ∃ cA : ClassId, ArrOfT s cA (.object C) ∧ va_RA s cA (.object C) := by
  obtain ⟨comp, c, k, h1, h2, h3, h4, h5⟩ := Cond.arrayOver_spec h
  exact ⟨c, fun n z => ⟨(fun q h => by cases h), k, h3, comp, h4⟩, k, comp, h3, h4, h1, h5⟩
set_option maxRecDepth 100000 in
theorem le_K (hts : ∀ w ∈ lw_tbl, w.before args s = true) : ∃ (D : va_G) (ca : Nat → ClassId), va_K D cl_all (ty_s ca) s := by
  have hg := le_wg hts
  obtain ⟨c0, i0, k0⟩ := u_known hg in_Po (hg _ tw_21)
  obtain ⟨c1, i1, k1⟩ := u_known hg in_Br (hg _ tw_42)
  obtain ⟨c2, i2, k2⟩ := u_known hg in_An (hg _ tw_66)
  obtain ⟨c3, i3, k3⟩ := u_known hg in_As (hg _ tw_59)
  obtain ⟨c4, i4, k4⟩ := u_known hg in_Ev (hg _ tw_210)
  obtain ⟨c5, i5, k5⟩ := u_known hg in_Es (hg _ tw_203)
  obtain ⟨c6, i6, k6⟩ := u_known hg in_Cn (hg _ tw_279)
  obtain ⟨c7, i7, k7⟩ := u_known hg in_Sr (hg _ tw_33)
  obtain ⟨c8, i8, k8⟩ := u_known hg in_Se (hg _ tw_252)
  obtain ⟨c9, i9, k9⟩ := u_known hg in_Op (hg _ tw_328)
  obtain ⟨c10, i10, k10⟩ := u_known hg in_Pt (hg _ tw_513)
  obtain ⟨c11, i11, k11⟩ := u_known hg in_Mo (hg _ tw_1163)
  obtain ⟨a0, r0, z0⟩ := le_arrP (hg _ tw_57)
  obtain ⟨a1, r1, z1⟩ := le_arrP (hg _ tw_327)
  obtain ⟨a2, r2, z2⟩ := le_arrP (hg _ tw_1383)
  obtain ⟨a3, r3, z3⟩ := le_arrQ (hts _ tn_29)
  obtain ⟨a4, r4, z4⟩ := le_arrQ (hts _ tn_31)
  obtain ⟨a5, r5, z5⟩ := le_arrQ (hts _ tn_250)
  obtain ⟨a6, r6, z6⟩ := le_arrQ (hts _ tn_209)
  obtain ⟨a7, r7, z7⟩ := le_arrQ (hts _ tn_65)
  refine ⟨(fun c => [c0, c1, c2, c3, c4, c5, c6, c7, c8, c9, c10, c11].getD c 0, fun c => [i0, i1, i2, i3, i4, i5, i6, i7, i8, i9, i10, i11].getD c (fun _ => 0)), fun k => [a0, a1, a2, a3, a4, a5, a6, a7].getD k 0, fun c q hq => ?_, fun k q hk => ?_⟩
  · match c, hq with
    | 0, hq => cases hq; exact k0
    | 1, hq => cases hq; exact k1
    | 2, hq => cases hq; exact k2
    | 3, hq => cases hq; exact k3
    | 4, hq => cases hq; exact k4
    | 5, hq => cases hq; exact k5
    | 6, hq => cases hq; exact k6
    | 7, hq => cases hq; exact k7
    | 8, hq => cases hq; exact k8
    | 9, hq => cases hq; exact k9
    | 10, hq => cases hq; exact k10
    | 11, hq => cases hq; exact k11
    | c + 12, hq => exact absurd hq (by simp)
  · match k, hk with
    | 0, hk => cases hk; exact ⟨r0, z0⟩
    | 1, hk => cases hk; exact ⟨r1, z1⟩
    | 2, hk => cases hk; exact ⟨r2, z2⟩
    | 3, hk => cases hk; exact ⟨r3, z3⟩
    | 4, hk => cases hk; exact ⟨r4, z4⟩
    | 5, hk => cases hk; exact ⟨r5, z5⟩
    | 6, hk => cases hk; exact ⟨r6, z6⟩
    | 7, hk => cases hk; exact ⟨r7, z7⟩
    | k + 8, hk => exact absurd hk (by simp)
end ENTRY
