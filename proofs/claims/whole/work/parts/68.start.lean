/-! what the tables' words and the premises of the start give -/
theorem st_arr {args : Array Value} {s : State} {t : FieldType} (h : (Cond.arrayClass t).before args s = true) : ∃ c : ClassId, ArrOfT s c t ∧ s.vm.findClass ("[" ++ t.toString) = some c := by
  obtain ⟨c, k, comp, h1, h2, h3⟩ := Cond.arrayClass_spec h
  exact ⟨c, fun n z => ⟨fun q h => (by cases h), k, h2, comp, h3⟩, h1⟩
theorem st_K {args : Array Value} {s : State} (hts : ∀ w ∈ lw_tbl, w.before args s = true) : ∃ Γ : GG, xK Γ s := by
  obtain ⟨c0, i0, h0⟩ := u_known (C := RX0) (T := TX0) (N := 8) (n := 8) hts in_wsX00 (hts (.instantiable RX0 8) (by decide +kernel))
  obtain ⟨c1, i1, h1⟩ := u_known (C := RX1) (T := TX1) (N := 3) (n := 3) hts in_wsX10 (hts (.instantiable RX1 3) (by decide +kernel))
  obtain ⟨c2, i2, h2⟩ := u_known (C := RX2) (T := TX2) (N := 13) (n := 13) hts in_wsX20 (hts (.instantiable RX2 13) (by decide +kernel))
  obtain ⟨cI, aI, fI⟩ := st_arr (hts (.arrayClass .int) (by decide +kernel))
  obtain ⟨cZ, aZ, fZ⟩ := st_arr (hts (.arrayClass .boolean) (by decide +kernel))
  obtain ⟨comp, cQ, kQ, e1, -, e3, e4, e5⟩ := Cond.arrayOver_spec (hts (.arrayOver (.object RX0)) (by decide +kernel))
  refine ⟨((fun k => if k = 0 then c0 else if k = 1 then c1 else c2, fun k => if k = 0 then i0 else if k = 1 then i1 else i2), cI, cZ, cQ), ?_, ?_⟩
  · intro k q hq
    match k, hq with
    | 0, hq => cases hq; exact h0
    | 1, hq => cases hq; exact h1
    | 2, hq => cases hq; exact h2
    | k + 3, hq => simp [vwCl] at hq
  · intro k q hq
    match k, hq with
    | 0, hq => cases hq; exact ⟨aI, fI⟩
    | 1, hq => cases hq; exact ⟨aZ, fZ⟩
    | 2, hq => cases hq; exact ⟨fun N z => ⟨fun j h => (by cases h), kQ, e3, comp, e4⟩, kQ, comp, e3, e4, e1, e5⟩
    | k + 3, hq => simp at hq
theorem st_J {args : Array Value} {s : State} (hts : ∀ w ∈ lw_tbl, w.before args s = true) : ∃ cJ : ClassId, xJ cJ s := by
  obtain ⟨cJ, aJ, fJ⟩ := st_arr (hts (.arrayClass .long) (by decide +kernel))
  exact ⟨cJ, aJ, fJ⟩
set_option maxRecDepth 100000 in
theorem st_XE : ∀ w ∈ XE, w ∈ lw_tbl := by decide +kernel
set_option maxRecDepth 100000 in
theorem st_XB : ∀ w ∈ XB, w ∈ lw_tbl := by decide +kernel
set_option maxRecDepth 100000 in
theorem st_E {args : Array Value} {s : State} (hts : ∀ w ∈ lw_tbl, w.before args s = true) (hgv : (Jvm.Cond.and given_1 narrow_1).before args s = true) : xE s := by
  have hs := flat_of_before _ hgv
  exact ⟨fun w hw => va_Nw.of (XB_ot (List.all_eq_true.mp XE_c w hw)) (hts w (st_XE w hw)), va_Nc.of (hs (.not (.castable eIA eIS)) (by decide +kernel)), va_Nc.of (hs (.not (.castable eIA eIO)) (by decide +kernel)), va_Nc.of (hs (.not (.castable eIS eIA)) (by decide +kernel)), va_Nc.of (hs (.not (.castable eIS eIO)) (by decide +kernel)), va_Nc.of (hs (.not (.castable eIO eIA)) (by decide +kernel)), va_Nc.of (hs (.not (.castable eIO eIS)) (by decide +kernel))⟩
set_option maxRecDepth 100000 in
theorem st_str1 : ∀ q ∈ STR, Cond.stringRef RX1 q.1 q.2 ∈ lw_tbl := by decide +kernel
set_option maxRecDepth 100000 in
theorem st_str2 : ∀ q ∈ STR, Cond.exactly (.string RX1 q.1) "java/lang/String" ∈ flatC (Jvm.Cond.and given_1 narrow_1) := by decide +kernel
set_option maxRecDepth 100000 in
theorem st_T {args : Array Value} {s : State} (hts : ∀ w ∈ lw_tbl, w.before args s = true) (hgv : (Jvm.Cond.and given_1 narrow_1).before args s = true) : xT s.heap.size s := by
  have hs := flat_of_before _ hgv
  have hA : ∀ a : Nat, a < s.heap.size → ¬ (fun q : Nat => s.heap.size ≤ q) a := fun a h => Nat.not_le.mpr h
  refine ⟨vx_Zqof (hts (.laysStatic Bundle.tN "UNASSIGNED_STACK" Bundle.steD) (by decide +kernel)) (hts (.initialized Bundle.tN) (by decide +kernel)) (hs (.isRef (.static Bundle.tN "UNASSIGNED_STACK" Bundle.steD)) (by decide +kernel)) hA, vx_Zqof (hts (.laysStatic Bundle.tN "SUPPRESSED_SENTINEL" Bundle.listD) (by decide +kernel)) (hts (.initialized Bundle.tN) (by decide +kernel)) (hs (.isRef (.static Bundle.tN "SUPPRESSED_SENTINEL" Bundle.listD)) (by decide +kernel)) hA, fun w hw => va_Nw.of (XB_ot (List.all_eq_true.mp XB_c w hw)) (hts w (st_XB w hw)), fun q hq => ?_⟩
  obtain ⟨a, -, -, -, ha, -⟩ := Cond.exactly_spec (hs _ (st_str2 q hq))
  exact ⟨a, vk_R.of (hts _ (st_str1 q hq)) ha⟩
