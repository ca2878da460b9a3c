/-! ArraysSupport and Arrays.equals, at two rows of one content -/
theorem gu_blind {Γ : GG} {u a n : Nat} {f : Nat → Int32} {av : List Value} : FrameBlind (va_Pc av (fun U => xK Γ U ∧ xU u U ∧ Ai Γ a n f U.heap)) := fun a U g mk h => ⟨h.1, xK.moved (u := U) (U := U.calling g mk a) (Vm.Alike.refl U.vm) h.2.1, h.2.2.1, h.2.2.2⟩
section GUC
variable {p : Program} {l : Launch} {e : Env} {R : Room} {s : State} {m : MethodId} {args : Array Value} {below : List Frame} {meth : Method} {c : Code} {H : Heap} {locs : List Loc} {cells slots : Nat} {Q : State → Prop}
variable {cc : ByteArray} {pc : Nat} {ls : Array Slot} {rest : List Value} {Γ : GG}
theorem gu_call {own : String} {index nL u a n i : Nat} {f : Nat → Int32} {Ts : List Cond} (S : CallFix p m c cc nL s args Ts own) (hK : xK Γ s) (hU : xU u s) (hH : H = s.heap) (hA : Ai Γ a n f H) (hi : i < 30) (hn : 2 * i + 1 < n) (cw : CallW R s args own RJx9a822 index yGU cJx9a822_getLongUnaligned_f02c6 4 (some .long) wsGU { frames := 1, cells := 0, slots := 0, locals := 25 } 0 0 2) (hsz : ls.size = nL) (hW : (rest.map fun v => v.category).sum ≤ 8) (hdg : decode cc pc = .ok (.invokevirtual index, 3)) (hf : cells + 0 ≤ R.cells ∧ slots + 0 ≤ R.slots)
    (k : W p l e R s m args below meth c H locs cells slots Q (F0 m (pc + 3) ls (.long (gL (f (2 * i)) (f (2 * i + 1))) :: rest))) : W p l e R s m args below meth c H locs cells slots Q (F0 m pc ls (.long (o16 + bO i) :: .ref a :: .ref u :: rest)) := by
  refine q_run (v0 := some (.long (gL (f (2 * i)) (f (2 * i + 1))))) (Post := fun H v H1 => v = some (.long (gL (f (2 * i)) (f (2 * i + 1)))) ∧ H1 = H) (va_runV S (c_GU l Γ u a n i f hi hn) cw ⟨gu_blind, ?_, fun U hU1 hW1 => ⟨rfl, hK.moved hW1.alike, ?_, by rw [hU1]; exact hA⟩⟩ rfl rfl hsz rfl (lv_room hW) hdg hf) (fun v H1 h => h) k
  · obtain ⟨cell, h1, h2, h3⟩ := hU
    exact ⟨cell, by rw [hH]; exact h1, h2, h3⟩
  · obtain ⟨cell, h1, h2, h3⟩ := hU
    exact ⟨cell, by rw [hU1, hH]; exact h1, h2, by rw [hW1.alike.findClass]; exact h3⟩
end GUC
theorem hS0 {bs : Nat} {s : State} : va_S (fun q => bs ≤ q) s.heap s.heap [] := ⟨Nat.le_refl _, fun _ _ _ => rfl, fun _ h => by cases h⟩
set_option maxHeartbeats 4000000 in
set_option maxRecDepth 100000 in
theorem c_VM (l : Launch) (Γ : GG) (bs sb L : Nat) (xs : Nat → Int32) (a b : Nat) (f : Nat → Int32) : Lx l yVM wsVM ({ frames := 2, cells := 0, slots := 0, locals := 48 }) Γ bs sb L xs [.ref a, .long o16, .ref b, .long o16, .int (nI 60), .int (nI 2)] (fun H => Ai Γ a 60 f H ∧ Ai Γ b 60 f H) (fun H v H2 => v = some (.int (-1)) ∧ H2 = H) 0 0 := by
  refine Lx.of (cc := cJ8_vectorizedMismatch_456ae) (maxL := 19) (ret := some .int) (by decide) rfl (Nat.le_of_ble_eq_true rfl) ?_
  intro p e s m below meth c S hr hlk hX hP ls hl
  obtain ⟨hx, hb, hml, hown, hts⟩ := id S
  obtain ⟨hA, hB⟩ := hP
  obtain ⟨z1, z2, z3, u, z4, z5, hU⟩ := hX.2.2.2.2.1
  have hl : lv_has ls 19 [(0, .ref a), (1, .long o16), (3, .ref b), (4, .long o16), (6, .int (nI 60)), (7, .int (nI 2))] := hl
  refine va_gets hx hb z1 hS0 hown (hts (.fieldLink RJ8 20 "jdk/internal/util/ArraysSupport" "LOG2_ARRAY_LONG_INDEX_SCALE" "I") (by decide +kernel)) (fun x h => h) dJ8_vectorizedMismatch_456ae_0 ?_
  refine lv_iload hx hb dJ8_vectorizedMismatch_456ae_3 (lv_at hl 5 rfl) ?_
  refine x_sub hx hb (by omega) dJ8_vectorizedMismatch_456ae_5 ?_
  refine x_e (show nI (3 - 2) = nI 1 from rfl) ?_
  refine lv_istore (lv' := [(8, .int (nI 1)), (0, .ref a), (1, .long o16), (3, .ref b), (4, .long o16), (6, .int (nI 60)), (7, .int (nI 2))]) hx hb dJ8_vectorizedMismatch_456ae_6 hl (by decide) rfl (fun ls hl => ?_)
  refine lv_iconst (v := nI 0) hx hb dJ8_vectorizedMismatch_456ae_8 (by decide +kernel) ?_
  refine lv_istore (lv' := [(9, .int (nI 0)), (8, .int (nI 1)), (0, .ref a), (1, .long o16), (3, .ref b), (4, .long o16), (6, .int (nI 60)), (7, .int (nI 2))]) hx hb dJ8_vectorizedMismatch_456ae_9 hl (by decide) rfl (fun ls hl => ?_)
  refine x_loop (fun i => [(9, .int (nI i)), (8, .int (nI 1)), (0, .ref a), (1, .long o16), (3, .ref b), (4, .long o16), (6, .int (nI 60)), (7, .int (nI 2))]) (fun i => i ≤ 30) (fun i => 30 - i) ?_ 0 (by omega) ls hl
  intro i hi ih ls hl
  refine lv_iload hx hb dJ8_vectorizedMismatch_456ae_11 (lv_at hl 0 rfl) ?_
  refine lv_iload hx hb dJ8_vectorizedMismatch_456ae_13 (lv_at hl 6 rfl) ?_
  refine lv_iload hx hb dJ8_vectorizedMismatch_456ae_15 (lv_at hl 1 rfl) ?_
  refine lv_ishr hx hb dJ8_vectorizedMismatch_456ae_17 ?_
  refine x_e (show nI 60 >>> (nI 1 &&& 31) = nI 30 by decide +kernel) ?_
  refine x_icge hx hb (by omega) (by omega) (tgt := 122) dJ8_vectorizedMismatch_456ae_18 (by decide) (fun c_1 => ?_) (fun c_1 => ?_)
  · have e1 : i = 30 := by omega
    subst e1
    refine lv_iload hx hb dJ8_vectorizedMismatch_456ae_122 (lv_at hl 6 rfl) ?_
    refine lv_iload hx hb dJ8_vectorizedMismatch_456ae_124 (lv_at hl 0 rfl) ?_
    refine lv_iload hx hb dJ8_vectorizedMismatch_456ae_126 (lv_at hl 1 rfl) ?_
    refine lv_ishl hx hb dJ8_vectorizedMismatch_456ae_128 ?_
    refine x_e (show nI 30 <<< (nI 1 &&& 31) = nI 60 by decide +kernel) ?_
    refine x_sub hx hb (by omega) dJ8_vectorizedMismatch_456ae_129 ?_
    refine x_e (show nI (60 - 60) = nI 0 from rfl) ?_
    refine lv_istore (lv' := [(10, .int (nI 0)), (9, .int (nI 30)), (8, .int (nI 1)), (0, .ref a), (1, .long o16), (3, .ref b), (4, .long o16), (6, .int (nI 60)), (7, .int (nI 2))]) hx hb dJ8_vectorizedMismatch_456ae_130 hl (by decide) rfl (fun ls hl => ?_)
    refine lv_iload hx hb dJ8_vectorizedMismatch_456ae_132 (lv_at hl 8 rfl) ?_
    refine va_gets hx hb z2 hS0 hown (hts (.fieldLink RJ8 51 "jdk/internal/util/ArraysSupport" "LOG2_ARRAY_INT_INDEX_SCALE" "I") (by decide +kernel)) (fun x h => h) dJ8_vectorizedMismatch_456ae_134 ?_
    refine x_icge hx hb (by omega) (by omega) (tgt := 263) dJ8_vectorizedMismatch_456ae_137 (by decide) (fun c_2 => ?_) (fun c_2 => absurd c_2 (by decide))
    refine lv_iload hx hb dJ8_vectorizedMismatch_456ae_263 (lv_at hl 0 rfl) ?_
    refine lv_iconst (v := -1) hx hb dJ8_vectorizedMismatch_456ae_265 (by decide +kernel) ?_
    refine lv_ixor hx hb dJ8_vectorizedMismatch_456ae_266 ?_
    refine x_e (show nI 0 ^^^ (-1) = -1 by decide +kernel) ?_
    exact m_iret (Post := fun H v H2 => v = some (.int (-1)) ∧ H2 = H) hx hb hr hlk lo.nil dJ8_vectorizedMismatch_456ae_267 ⟨rfl, rfl⟩
  · refine lv_iload hx hb dJ8_vectorizedMismatch_456ae_21 (lv_at hl 0 rfl) ?_
    refine lv_i2l hx hb dJ8_vectorizedMismatch_456ae_23 rfl ?_
    refine va_gets hx hb z1 hS0 hown (hts (.fieldLink RJ8 20 "jdk/internal/util/ArraysSupport" "LOG2_ARRAY_LONG_INDEX_SCALE" "I") (by decide +kernel)) (fun x h => h) dJ8_vectorizedMismatch_456ae_24 ?_
    refine lv_lshl (v := bO i) hx hb dJ8_vectorizedMismatch_456ae_27 rfl ?_
    refine lv_lstore (lv' := [(10, .long (bO i)), (9, .int (nI i)), (8, .int (nI 1)), (0, .ref a), (1, .long o16), (3, .ref b), (4, .long o16), (6, .int (nI 60)), (7, .int (nI 2))]) hx hb dJ8_vectorizedMismatch_456ae_28 hl (by decide) rfl (fun ls hl => ?_)
    refine va_gets hx hb z4 hS0 hown (hts (.fieldLink RJ8 26 "jdk/internal/util/ArraysSupport" "U" "Ljdk/internal/misc/Unsafe;") (by decide +kernel)) (fun x h => h) dJ8_vectorizedMismatch_456ae_30 ?_
    refine lv_aload_n hx hb dJ8_vectorizedMismatch_456ae_33 rfl (lv_at hl 3 rfl) ?_
    refine lv_lload_n hx hb dJ8_vectorizedMismatch_456ae_34 rfl (lv_at hl 4 rfl) ?_
    refine lv_lload hx hb dJ8_vectorizedMismatch_456ae_35 (lv_at hl 0 rfl) ?_
    refine lv_ladd hx hb dJ8_vectorizedMismatch_456ae_37 ?_
    refine gu_call S hX.1 hU rfl hA c_1 (by omega) (cwV 2 hts gVM_GU rfl rfl rfl (by decide +kernel) ⟨Nat.le_of_ble_eq_true rfl, Nat.le_of_ble_eq_true rfl⟩) hl.1 (Nat.le_of_ble_eq_true rfl) dJ8_vectorizedMismatch_456ae_38 ⟨Nat.le_of_ble_eq_true rfl, Nat.le_of_ble_eq_true rfl⟩ ?_
    refine lv_lstore (lv' := [(12, .long (gL (f (2 * i)) (f (2 * i + 1)))), (10, .long (bO i)), (9, .int (nI i)), (8, .int (nI 1)), (0, .ref a), (1, .long o16), (3, .ref b), (4, .long o16), (6, .int (nI 60)), (7, .int (nI 2))]) hx hb dJ8_vectorizedMismatch_456ae_41 hl (by decide) rfl (fun ls hl => ?_)
    refine va_gets hx hb z4 hS0 hown (hts (.fieldLink RJ8 26 "jdk/internal/util/ArraysSupport" "U" "Ljdk/internal/misc/Unsafe;") (by decide +kernel)) (fun x h => h) dJ8_vectorizedMismatch_456ae_43 ?_
    refine lv_aload_n hx hb dJ8_vectorizedMismatch_456ae_46 rfl (lv_at hl 6 rfl) ?_
    refine lv_lload hx hb dJ8_vectorizedMismatch_456ae_47 (lv_at hl 7 rfl) ?_
    refine lv_lload hx hb dJ8_vectorizedMismatch_456ae_49 (lv_at hl 1 rfl) ?_
    refine lv_ladd hx hb dJ8_vectorizedMismatch_456ae_51 ?_
    refine gu_call S hX.1 hU rfl hB c_1 (by omega) (cwV 2 hts gVM_GU rfl rfl rfl (by decide +kernel) ⟨Nat.le_of_ble_eq_true rfl, Nat.le_of_ble_eq_true rfl⟩) hl.1 (Nat.le_of_ble_eq_true rfl) dJ8_vectorizedMismatch_456ae_52 ⟨Nat.le_of_ble_eq_true rfl, Nat.le_of_ble_eq_true rfl⟩ ?_
    refine lv_lstore (lv' := [(14, .long (gL (f (2 * i)) (f (2 * i + 1)))), (12, .long (gL (f (2 * i)) (f (2 * i + 1)))), (10, .long (bO i)), (9, .int (nI i)), (8, .int (nI 1)), (0, .ref a), (1, .long o16), (3, .ref b), (4, .long o16), (6, .int (nI 60)), (7, .int (nI 2))]) hx hb dJ8_vectorizedMismatch_456ae_55 hl (by decide) rfl (fun ls hl => ?_)
    refine lv_lload hx hb dJ8_vectorizedMismatch_456ae_57 (lv_at hl 1 rfl) ?_
    refine lv_lload hx hb dJ8_vectorizedMismatch_456ae_59 (lv_at hl 0 rfl) ?_
    refine x_lcmp (v := nI 0) hx hb dJ8_vectorizedMismatch_456ae_61 (lcmp_eq _) ?_
    refine x_ifeq hx hb (by omega) (tgt := 116) dJ8_vectorizedMismatch_456ae_62 (by decide) (fun c_2 => ?_) (fun c_2 => absurd c_2 (by decide))
    refine x_iinc (n := 1) (lv' := [(9, .int (nI (i + 1))), (14, .long (gL (f (2 * i)) (f (2 * i + 1)))), (12, .long (gL (f (2 * i)) (f (2 * i + 1)))), (10, .long (bO i)), (8, .int (nI 1)), (0, .ref a), (1, .long o16), (3, .ref b), (4, .long o16), (6, .int (nI 60)), (7, .int (nI 2))]) hx hb dJ8_vectorizedMismatch_456ae_116 hl (k := 3) rfl (by decide) rfl (fun ls hl => ?_)
    refine lv_goto (tgt := 11) hx hb dJ8_vectorizedMismatch_456ae_119 (by decide) ?_
    exact ih (i + 1) (by omega) (by omega) ls (lv_sub hl [0, 4, 5, 6, 7, 8, 9, 10] rfl)
set_option maxHeartbeats 4000000 in
set_option maxRecDepth 100000 in
theorem c_MM (l : Launch) (Γ : GG) (bs sb L : Nat) (xs : Nat → Int32) (a b : Nat) (f : Nat → Int32) : Lx l yMM wsMM ({ frames := 3, cells := 0, slots := 0, locals := 86 }) Γ bs sb L xs [.ref a, .ref b, .int (nI 60)] (fun H => Ai Γ a 60 f H ∧ Ai Γ b 60 f H) (fun H v H2 => v = some (.int (-1)) ∧ H2 = H) 0 0 := by
  refine Lx.of (cc := cJ8_mismatch_05dfe) (maxL := 4) (ret := some .int) (by decide) rfl (Nat.le_of_ble_eq_true rfl) ?_
  intro p e s m below meth c S hr hlk hX hP ls hl
  obtain ⟨hx, hb, hml, hown, hts⟩ := id S
  obtain ⟨hA, hB⟩ := id hP
  obtain ⟨z1, z2, z3, -⟩ := hX.2.2.2.2.1
  have hl : lv_has ls 4 [(0, .ref a), (1, .ref b), (2, .int (nI 60))] := hl
  refine lv_iconst (v := nI 0) hx hb dJ8_mismatch_05dfe_0 (by decide +kernel) ?_
  refine lv_istore_n (lv' := [(3, .int (nI 0)), (0, .ref a), (1, .ref b), (2, .int (nI 60))]) hx hb dJ8_mismatch_05dfe_1 rfl hl (by decide) rfl (fun ls hl => ?_)
  refine lv_iload_n hx hb dJ8_mismatch_05dfe_2 rfl (lv_at hl 3 rfl) ?_
  refine lv_iconst (v := nI 1) hx hb dJ8_mismatch_05dfe_3 (by decide +kernel) ?_
  refine x_icle hx hb (by omega) (by omega) (tgt := 48) dJ8_mismatch_05dfe_4 (by decide) (fun c_1 => absurd c_1 (by decide)) (fun c_1 => ?_)
  refine lv_aload_n hx hb dJ8_mismatch_05dfe_7 rfl (lv_at hl 1 rfl) ?_
  refine lv_iconst (v := nI 0) hx hb dJ8_mismatch_05dfe_8 (by decide +kernel) ?_
  refine x_iald hx hb hX.1 hA (by omega) (by omega) dJ8_mismatch_05dfe_9 ?_
  refine lv_aload_n hx hb dJ8_mismatch_05dfe_10 rfl (lv_at hl 2 rfl) ?_
  refine lv_iconst (v := nI 0) hx hb dJ8_mismatch_05dfe_11 (by decide +kernel) ?_
  refine x_iald hx hb hX.1 hB (by omega) (by omega) dJ8_mismatch_05dfe_12 ?_
  refine lv_icmp_eq (tgt := 18) hx hb dJ8_mismatch_05dfe_13 (by decide) (fun c_2 => ?_) (fun c_2 => absurd rfl c_2)
  refine lv_aload_n hx hb dJ8_mismatch_05dfe_18 rfl (lv_at hl 1 rfl) ?_
  refine va_gets hx hb z3 hS0 hown (hts (.fieldLink RJ8 144 "jdk/internal/misc/Unsafe" "ARRAY_INT_BASE_OFFSET" "I") (by decide +kernel)) (fun x h => h) dJ8_mismatch_05dfe_19 ?_
  refine lv_i2l (v := o16) hx hb dJ8_mismatch_05dfe_22 rfl ?_
  refine lv_aload_n hx hb dJ8_mismatch_05dfe_23 rfl (lv_at hl 2 rfl) ?_
  refine va_gets hx hb z3 hS0 hown (hts (.fieldLink RJ8 144 "jdk/internal/misc/Unsafe" "ARRAY_INT_BASE_OFFSET" "I") (by decide +kernel)) (fun x h => h) dJ8_mismatch_05dfe_24 ?_
  refine lv_i2l (v := o16) hx hb dJ8_mismatch_05dfe_27 rfl ?_
  refine lv_iload_n hx hb dJ8_mismatch_05dfe_28 rfl (lv_at hl 3 rfl) ?_
  refine va_gets hx hb z2 hS0 hown (hts (.fieldLink RJ8 51 "jdk/internal/util/ArraysSupport" "LOG2_ARRAY_INT_INDEX_SCALE" "I") (by decide +kernel)) (fun x h => h) dJ8_mismatch_05dfe_29 ?_
  refine l_Sq (v0 := some (.int (-1))) (rest := []) S hX (fun q _ => rfl) (c_VM l Γ bs sb L xs a b f) (va_cwS 6 hts gMM_VM rfl rfl rfl (by decide +kernel) ⟨Nat.le_of_ble_eq_true rfl, Nat.le_of_ble_eq_true rfl⟩) hP rfl hl.1 rfl (Nat.le_of_ble_eq_true rfl) dJ8_mismatch_05dfe_32 ⟨Nat.le_of_ble_eq_true rfl, Nat.le_of_ble_eq_true rfl⟩ (fun v H1 h => h) ?_
  refine W.eq (g2 := F0 m 35 ls [.int (-1)]) rfl ?_
  refine lv_istore_n (lv' := [(3, .int (-1)), (0, .ref a), (1, .ref b), (2, .int (nI 60))]) hx hb dJ8_mismatch_05dfe_35 rfl hl (by decide) rfl (fun ls hl => ?_)
  refine lv_iload_n hx hb dJ8_mismatch_05dfe_36 rfl (lv_at hl 0 rfl) ?_
  refine lv_if_lt (tgt := 42) hx hb dJ8_mismatch_05dfe_37 (by decide) (fun c_3 => ?_) (fun c_3 => absurd (by decide +kernel) c_3)
  refine lv_iload_n hx hb dJ8_mismatch_05dfe_42 rfl (lv_at hl 3 rfl) ?_
  refine lv_iload_n hx hb dJ8_mismatch_05dfe_43 rfl (lv_at hl 0 rfl) ?_
  refine lv_iconst (v := -1) hx hb dJ8_mismatch_05dfe_44 (by decide +kernel) ?_
  refine lv_ixor hx hb dJ8_mismatch_05dfe_45 ?_
  refine lv_isub hx hb dJ8_mismatch_05dfe_46 ?_
  refine x_e (show nI 60 - ((-1) ^^^ (-1)) = nI 60 by decide +kernel) ?_
  refine lv_istore_n (lv' := [(3, .int (nI 60)), (0, .ref a), (1, .ref b), (2, .int (nI 60))]) hx hb dJ8_mismatch_05dfe_47 rfl hl (by decide) rfl (fun ls hl => ?_)
  refine lv_iload_n hx hb dJ8_mismatch_05dfe_48 rfl (lv_at hl 0 rfl) ?_
  refine lv_iload_n hx hb dJ8_mismatch_05dfe_49 rfl (lv_at hl 3 rfl) ?_
  refine x_icge hx hb (by omega) (by omega) (tgt := 70) dJ8_mismatch_05dfe_50 (by decide) (fun c_4 => ?_) (fun c_4 => absurd c_4 (by decide))
  refine lv_iconst (v := -1) hx hb dJ8_mismatch_05dfe_70 (by decide +kernel) ?_
  exact m_iret (Post := fun H v H2 => v = some (.int (-1)) ∧ H2 = H) hx hb hr hlk lo.nil dJ8_mismatch_05dfe_71 ⟨rfl, rfl⟩
set_option maxHeartbeats 4000000 in
set_option maxRecDepth 100000 in
theorem c_AE (l : Launch) (Γ : GG) (bs sb L : Nat) (xs : Nat → Int32) (a b : Nat) (f : Nat → Int32) (hab : a ≠ b) : Lx l yAE wsAE ({ frames := 4, cells := 0, slots := 0, locals := 109 }) Γ bs sb L xs [.ref a, .ref b] (fun H => Ai Γ a 60 f H ∧ Ai Γ b 60 f H) (fun H v H2 => v = some (.int (nI 1)) ∧ H2 = H) 0 0 := by
  refine Lx.of (cc := cJ7_equals_bbcde) (maxL := 3) (ret := some .boolean) (by decide) rfl (Nat.le_of_ble_eq_true rfl) ?_
  intro p e s m below meth c S hr hlk hX hP ls hl
  obtain ⟨hx, hb, hml, hown, hts⟩ := id S
  obtain ⟨hA, hB⟩ := id hP
  have hl : lv_has ls 3 [(0, .ref a), (1, .ref b)] := hl
  refine lv_aload_n hx hb dJ7_equals_bbcde_0 rfl (lv_at hl 0 rfl) ?_
  refine lv_aload_n hx hb dJ7_equals_bbcde_1 rfl (lv_at hl 1 rfl) ?_
  refine lv_acmp_ne (rx := some a) (ry := some b) (tgt := 7) hx hb dJ7_equals_bbcde_2 (by decide) (fun c_1 => ?_) (fun c_1 => absurd (Option.some.inj c_1) hab)
  refine lv_aload_n hx hb dJ7_equals_bbcde_7 rfl (lv_at hl 0 rfl) ?_
  refine lv_ifnull hx hb dJ7_equals_bbcde_8 ?_
  refine lv_aload_n hx hb dJ7_equals_bbcde_11 rfl (lv_at hl 1 rfl) ?_
  refine lv_ifnonnull (tgt := 17) hx hb dJ7_equals_bbcde_12 (by decide) ?_
  refine lv_aload_n hx hb dJ7_equals_bbcde_17 rfl (lv_at hl 0 rfl) ?_
  refine x_ilen hx hb hX.1 hA dJ7_equals_bbcde_18 ?_
  refine lv_istore_n (lv' := [(2, .int (nI 60)), (0, .ref a), (1, .ref b)]) hx hb dJ7_equals_bbcde_19 rfl hl (by decide) rfl (fun ls hl => ?_)
  refine lv_aload_n hx hb dJ7_equals_bbcde_20 rfl (lv_at hl 2 rfl) ?_
  refine x_ilen hx hb hX.1 hB dJ7_equals_bbcde_21 ?_
  refine lv_iload_n hx hb dJ7_equals_bbcde_22 rfl (lv_at hl 0 rfl) ?_
  refine x_iceq hx hb (by omega) (by omega) (tgt := 28) dJ7_equals_bbcde_23 (by decide) (fun c_2 => ?_) (fun c_2 => absurd rfl c_2)
  refine lv_aload_n hx hb dJ7_equals_bbcde_28 rfl (lv_at hl 1 rfl) ?_
  refine lv_aload_n hx hb dJ7_equals_bbcde_29 rfl (lv_at hl 2 rfl) ?_
  refine lv_iload_n hx hb dJ7_equals_bbcde_30 rfl (lv_at hl 0 rfl) ?_
  refine l_Sq (v0 := some (.int (-1))) (rest := []) S hX (fun q _ => rfl) (c_MM l Γ bs sb L xs a b f) (va_cwS 3 hts gAE_MM rfl rfl rfl (by decide +kernel) ⟨Nat.le_of_ble_eq_true rfl, Nat.le_of_ble_eq_true rfl⟩) hP rfl hl.1 rfl (Nat.le_of_ble_eq_true rfl) dJ7_equals_bbcde_31 ⟨Nat.le_of_ble_eq_true rfl, Nat.le_of_ble_eq_true rfl⟩ (fun v H1 h => h) ?_
  refine W.eq (g2 := F0 m 34 ls [.int (-1)]) rfl ?_
  refine lv_if_ge (tgt := 41) hx hb dJ7_equals_bbcde_34 (by decide) (fun c_3 => absurd c_3 (by decide +kernel)) (fun c_3 => ?_)
  refine lv_iconst (v := nI 1) hx hb dJ7_equals_bbcde_37 (by decide +kernel) ?_
  refine lv_goto (tgt := 42) hx hb dJ7_equals_bbcde_38 (by decide) ?_
  exact m_zret (v := 1) (by omega) (Post := fun H v H2 => v = some (.int (nI 1)) ∧ H2 = H) hx hb hr hlk lo.nil dJ7_equals_bbcde_42 ⟨rfl, rfl⟩
