/-! what the tables' words and the premises of the start give -/
theorem st_arr {args : Array Value} {s : State} {t : FieldType} (h : (Cond.arrayClass t).before args s = true) : ∃ c : ClassId, ArrOfT s c t ∧ s.vm.findClass ("[" ++ t.toString) = some c := by
  obtain ⟨c, k, comp, h1, h2, h3⟩ := Cond.arrayClass_spec h
  exact ⟨c, fun n z => ⟨fun q h => (by cases h), k, h2, comp, h3⟩, h1⟩
theorem st_K {args : Array Value} {s : State} (hts : ∀ w ∈ lw_tbl, w.before args s = true) : ∃ Γ : GG, xK Γ s := by
  obtain ⟨c0, i0, h0⟩ := u_known (C := RX0) (T := TX0) (N := 8) (n := 8) hts in_wsX00 (hts (.instantiable RX0 8) (by decide +kernel))
  obtain ⟨c1, i1, h1⟩ := u_known (C := RX1) (T := TX1) (N := 3) (n := 3) hts in_wsX10 (hts (.instantiable RX1 3) (by decide +kernel))
  obtain ⟨cI, aI, fI⟩ := st_arr (hts (.arrayClass .int) (by decide +kernel))
  obtain ⟨cZ, aZ, fZ⟩ := st_arr (hts (.arrayClass .boolean) (by decide +kernel))
  obtain ⟨comp, cQ, kQ, e1, -, e3, e4, e5⟩ := Cond.arrayOver_spec (hts (.arrayOver (.object RX0)) (by decide +kernel))
  refine ⟨((fun k => if k = 0 then c0 else c1, fun k => if k = 0 then i0 else i1), cI, cZ, cQ), ?_, ?_⟩
  · intro k q hq
    match k, hq with
    | 0, hq => cases hq; exact h0
    | 1, hq => cases hq; exact h1
    | k + 2, hq => simp [vwCl] at hq
  · intro k q hq
    match k, hq with
    | 0, hq => cases hq; exact ⟨aI, fI⟩
    | 1, hq => cases hq; exact ⟨aZ, fZ⟩
    | 2, hq => cases hq; exact ⟨fun N z => ⟨fun j h => (by cases h), kQ, e3, comp, e4⟩, kQ, comp, e3, e4, e1, e5⟩
    | k + 3, hq => simp at hq
set_option maxRecDepth 100000 in
theorem st_XB : ∀ w ∈ XB, w ∈ lw_tbl := by decide +kernel
theorem st_E {args : Array Value} {s : State} (hts : ∀ w ∈ lw_tbl, w.before args s = true) : xE s := va_Nw.of rfl (hts (.castable eIS eIS) (by decide +kernel))
set_option maxRecDepth 100000 in
theorem st_str1 : ∀ q ∈ STR, Cond.stringRef RX1 q.1 q.2 ∈ lw_tbl := by decide +kernel
set_option maxRecDepth 100000 in
theorem st_str2 : ∀ q ∈ STR, Cond.exactly (.string RX1 q.1) "java/lang/String" ∈ flatC (Jvm.Cond.and given_1 narrow_1) := by decide +kernel
set_option maxRecDepth 100000 in
theorem st_T {args : Array Value} {s : State} (hts : ∀ w ∈ lw_tbl, w.before args s = true) (hgv : (Jvm.Cond.and given_1 narrow_1).before args s = true) : xT s.heap.size s := by
  have hs := flat_of_before _ hgv
  have hA : ∀ a : Nat, a < s.heap.size → ¬ (fun q : Nat => s.heap.size ≤ q) a := fun a h => Nat.not_le.mpr h
  refine ⟨vx_Zqof (hts (.laysStatic Bundle.tN "UNASSIGNED_STACK" Bundle.steD) (by decide +kernel)) (hts (.initialized Bundle.tN) (by decide +kernel)) (hs (.isRef (.static Bundle.tN "UNASSIGNED_STACK" Bundle.steD)) (by decide +kernel)) hA, vx_Zqof (hts (.laysStatic Bundle.tN "SUPPRESSED_SENTINEL" Bundle.listD) (by decide +kernel)) (hts (.initialized Bundle.tN) (by decide +kernel)) (hs (.isRef (.static Bundle.tN "SUPPRESSED_SENTINEL" Bundle.listD)) (by decide +kernel)) hA, fun w hw => va_Nw.of (XB_ot (List.all_eq_true.mp XB_c w hw)) (hts w (st_XB w hw)), fun q hq => ?_⟩
  obtain ⟨a, -, -, -, ha, -⟩ := Cond.exactly_spec (hs _ (st_str2 q hq))
  exact ⟨a, vk_R.of (hts _ (st_str1 q hq)) ha⟩
set_option maxRecDepth 100000 in
theorem st_M {args : Array Value} {s : State} (hts : ∀ w ∈ lw_tbl, w.before args s = true) (hgv : (Jvm.Cond.and given_1 narrow_1).before args s = true) : xM s.heap.size s := by
  have hs := flat_of_before _ hgv
  have hA : ∀ a : Nat, a < s.heap.size → ¬ (fun q : Nat => s.heap.size ≤ q) a := fun a h => Nat.not_le.mpr h
  obtain ⟨u, cu, cell, ku, h1, h2, h3, -, h5, h6, -⟩ := Cond.exactly_spec (hs (.exactly (.static RJ8 "U" "Ljdk/internal/misc/Unsafe;") RJx9a822) (by decide +kernel))
  refine ⟨va_Zof (hts (.laysStatic RJ8 "LOG2_ARRAY_LONG_INDEX_SCALE" "I") (by decide +kernel)) (hts (.initialized RJ8) (by decide +kernel)) (va_eqi (z := 3) (hs _ (by decide +kernel))) hA, va_Zof (hts (.laysStatic RJ8 "LOG2_ARRAY_INT_INDEX_SCALE" "I") (by decide +kernel)) (hts (.initialized RJ8) (by decide +kernel)) (va_eqi (z := 2) (hs _ (by decide +kernel))) hA, va_Zof (hts (.laysStatic RJx9a822 "ARRAY_INT_BASE_OFFSET" "I") (by decide +kernel)) (hts (.initialized RJx9a822) (by decide +kernel)) (va_eqi (z := 16) (hs _ (by decide +kernel))) hA, u, va_Zof (hts (.laysStatic RJ8 "U" "Ljdk/internal/misc/Unsafe;") (by decide +kernel)) (hts (.initialized RJ8) (by decide +kernel)) h1 hA, (Array.getElem?_eq_some_iff.mp h3).1, cell, h3, h5, ?_⟩
  rw [h6]
  exact h2
