theorem minN (a b : Nat) (ha : a < 2 ^ 31) (hb : b < 2 ^ 31) : (if nI b < nI a then nI b else nI a) = nI (min a b) := by
  by_cases h : b < a
  · rw [if_pos ((nI_ltI hb ha).mpr h), Nat.min_eq_right (by omega)]
  · rw [if_neg (fun q => h ((nI_ltI hb ha).mp q)), Nat.min_eq_left (by omega)]
set_option maxHeartbeats 8000000 in
set_option maxRecDepth 100000 in
theorem law_E {p : Program} {l : Launch} {e : Env} {s : State} {m : MethodId} {args : Array Value} {below : List Frame} {meth : Method} {c : Code} {H : Heap} {locs : List Loc} {Q : State → Prop} {Γ : GG} {bs sb L C0 S0 : Nat} {xs : Nat → Int32} {σ : St} {ad : Nat → Nat} {t : Nat} {X : Int32}
    (hfl : l.stackTraces = false) (S : CallFix p m c cL_law 26 s args wsL_law RL) (hX : xW Γ bs sb L xs s) (hC0 : C0 + 100 ≤ 600104) (hS0 : S0 + 1500 ≤ 7301314) (hLI : LI Γ bs s σ ad H locs) 
    (k : ∀ ls : Array Slot, lv_has ls 26 [(2, .int (nI t)), (1, .ref bs), (0, .ref sb)] → W p l e room_1 s m args below meth c H locs C0 S0 Q (F0 m 1541 ls []))
    (ls : Array Slot) (hl : lv_has ls 26 [(17, .int (nI (thr σ (qn σ)))), (15, .long (dig σ)), (4, .int (nI (qn σ))), (3, .int X), (2, .int (nI t)), (1, .ref bs), (0, .ref sb)]) : W p l e room_1 s m args below meth c H locs C0 S0 Q (F0 m 1309 ls []) := by
  obtain ⟨hx, hb, hml, hown, hts⟩ := id S
  obtain ⟨hI, hJ, hy, hC, hlo, hb9, hlow⟩ := id hLI
  have h40 := hI.1
  have h1n := hJ.1
  have hth12 : thr σ (qn σ) ≤ 12 := hI.2.2.2.2.2.2
  refine lv_iload_n hx hb dL_law_1309 rfl (lv_at hl 3 rfl) ?_
  refine lv_bipush (v := nI 8) hx hb dL_law_1310 (by decide +kernel) ?_
  refine lv_ishr hx hb dL_law_1312 ?_
  refine lv_iconst (v := nI 3) hx hb dL_law_1313 (by decide +kernel) ?_
  refine ro_S (rest := []) S hX.1 (c_L_below l Γ (X >>> ((nI 8) &&& 31)) 3 (by omega) (by omega)) (cwlaw_L_below hts) trivial rfl hl.1 rfl (Nat.le_of_ble_eq_true rfl) dL_law_1314 ⟨by show _ ≤ 600104; omega, by show _ ≤ 7301314; omega⟩ ?_
  refine W.eq (g2 := F0 m 1317 ls [.int (nI (bl (X >>> ((nI 8) &&& 31)) 3))]) rfl ?_
  obtain ⟨b_1, hb_1, eb_1⟩ : ∃ z : Nat, z < 3 ∧ bl (X >>> ((nI 8) &&& 31)) 3 = z := ⟨_, bl_lt _ (by omega), rfl⟩
  refine x_e (show nI (bl (X >>> ((nI 8) &&& 31)) 3) = nI b_1 by rw [eb_1]) ?_
  clear eb_1
  refine lv_istore (lv' := [(20, .int (nI b_1)), (17, .int (nI (thr σ (qn σ)))), (15, .long (dig σ)), (4, .int (nI (qn σ))), (3, .int X), (2, .int (nI t)), (1, .ref bs), (0, .ref sb)]) hx hb dL_law_1317 hl (by decide) rfl (fun ls hl => ?_)
  refine lv_iload_n hx hb dL_law_1319 rfl (lv_at hl 4 rfl) ?_
  refine lv_iconst (v := nI 4) hx hb dL_law_1320 (by decide +kernel) ?_
  refine lv_ishr hx hb dL_law_1321 ?_
  refine lv_iload hx hb dL_law_1322 (lv_at hl 3 rfl) ?_
  refine ro_S (rest := []) S hX.1 (c_L_below l Γ (X >>> ((nI 4) &&& 31)) (qn σ) (by omega) (by omega)) (cwlaw_L_below hts) trivial rfl hl.1 rfl (Nat.le_of_ble_eq_true rfl) dL_law_1324 ⟨by show _ ≤ 600104; omega, by show _ ≤ 7301314; omega⟩ ?_
  refine W.eq (g2 := F0 m 1327 ls [.int (nI (bl (X >>> ((nI 4) &&& 31)) (qn σ)))]) rfl ?_
  obtain ⟨b_2, hb_2, eb_2⟩ : ∃ z : Nat, z < qn σ ∧ bl (X >>> ((nI 4) &&& 31)) (qn σ) = z := ⟨_, bl_lt _ (by omega), rfl⟩
  refine x_e (show nI (bl (X >>> ((nI 4) &&& 31)) (qn σ)) = nI b_2 by rw [eb_2]) ?_
  clear eb_2
  refine lv_istore (lv' := [(21, .int (nI b_2)), (20, .int (nI b_1)), (17, .int (nI (thr σ (qn σ)))), (15, .long (dig σ)), (4, .int (nI (qn σ))), (3, .int X), (2, .int (nI t)), (1, .ref bs), (0, .ref sb)]) hx hb dL_law_1327 hl (by decide) rfl (fun ls hl => ?_)
  refine lv_iload_n hx hb dL_law_1329 rfl (lv_at hl 5 rfl) ?_
  refine lv_iconst (v := nI 2) hx hb dL_law_1330 (by decide +kernel) ?_
  refine lv_ishr hx hb dL_law_1331 ?_
  refine lv_iload hx hb dL_law_1332 (lv_at hl 4 rfl) ?_
  refine ro_S (rest := []) S hX.1 (c_L_below l Γ (X >>> ((nI 2) &&& 31)) (qn σ) (by omega) (by omega)) (cwlaw_L_below hts) trivial rfl hl.1 rfl (Nat.le_of_ble_eq_true rfl) dL_law_1334 ⟨by show _ ≤ 600104; omega, by show _ ≤ 7301314; omega⟩ ?_
  refine W.eq (g2 := F0 m 1337 ls [.int (nI (bl (X >>> ((nI 2) &&& 31)) (qn σ)))]) rfl ?_
  obtain ⟨b_3, hb_3, eb_3⟩ : ∃ z : Nat, z < qn σ ∧ bl (X >>> ((nI 2) &&& 31)) (qn σ) = z := ⟨_, bl_lt _ (by omega), rfl⟩
  refine x_e (show nI (bl (X >>> ((nI 2) &&& 31)) (qn σ)) = nI b_3 by rw [eb_3]) ?_
  clear eb_3
  refine lv_istore (lv' := [(22, .int (nI b_3)), (21, .int (nI b_2)), (20, .int (nI b_1)), (17, .int (nI (thr σ (qn σ)))), (15, .long (dig σ)), (4, .int (nI (qn σ))), (3, .int X), (2, .int (nI t)), (1, .ref bs), (0, .ref sb)]) hx hb dL_law_1337 hl (by decide) rfl (fun ls hl => ?_)
  have r1 := rhy_1 σ b_2 b_3 b_1
  have r2 := rhy_1 σ b_3 b_2 b_1
  have r3 := rhy_comm σ b_2 b_3 b_1
  have r4 := rhy_self σ b_2 b_1
  have z2 := sz_le σ b_2 b_1
  have z3 := sz_le σ b_3 b_1
  have p2 := (hI.2.1 b_2 hb_2).2.1
  have p3 := (hI.2.1 b_3 hb_3).2.1
  have p2a := (hI.2.1 b_2 hb_2).1
  have q4 := rbest_le σ b_2 b_3 b_1
  refine lv_aload_n hx hb dL_law_1339 rfl (lv_at hl 8 rfl) ?_
  refine lv_iload hx hb dL_law_1340 (lv_at hl 1 rfl) ?_
  refine lv_iload hx hb dL_law_1342 (lv_at hl 0 rfl) ?_
  refine lv_iload hx hb dL_law_1344 (lv_at hl 2 rfl) ?_
  refine q_rhyme (v := .int (nI (rhy σ b_2 (qu σ b_2) b_3 b_1))) hfl S hX hlow hI hy hC hb_2 hb_3 (by omega) (cwlaw_rhyme hts) hl.1 (Nat.le_of_ble_eq_true rfl) dL_law_1346 ⟨by show _ ≤ 600104; omega, by show _ ≤ 7301314; omega⟩ (rfl) ?_
  refine W.eq (g2 := F0 m 1349 ls [.int (nI (rhy σ b_2 (qu σ b_2) b_3 b_1))]) rfl ?_
  refine lv_istore (lv' := [(23, .int (nI (rhy σ b_2 (qu σ b_2) b_3 b_1))), (22, .int (nI b_3)), (21, .int (nI b_2)), (20, .int (nI b_1)), (17, .int (nI (thr σ (qn σ)))), (15, .long (dig σ)), (4, .int (nI (qn σ))), (3, .int X), (2, .int (nI t)), (1, .ref bs), (0, .ref sb)]) hx hb dL_law_1349 hl (by decide) rfl (fun ls hl => ?_)
  refine lv_iload_n hx hb dL_law_1351 rfl (lv_at hl 7 rfl) ?_
  refine lv_iconst (v := nI 5) hx hb dL_law_1352 (by decide +kernel) ?_
  refine lv_ishr hx hb dL_law_1353 ?_
  refine lv_bipush (v := nI 24) hx hb dL_law_1354 (by decide +kernel) ?_
  refine ro_S (rest := []) S hX.1 (c_L_below l Γ (X >>> ((nI 5) &&& 31)) 24 (by omega) (by omega)) (cwlaw_L_below hts) trivial rfl hl.1 rfl (Nat.le_of_ble_eq_true rfl) dL_law_1356 ⟨by show _ ≤ 600104; omega, by show _ ≤ 7301314; omega⟩ ?_
  refine W.eq (g2 := F0 m 1359 ls [.int (nI (bl (X >>> ((nI 5) &&& 31)) 24))]) rfl ?_
  obtain ⟨b_4, hb_4, eb_4⟩ : ∃ z : Nat, z < 24 ∧ bl (X >>> ((nI 5) &&& 31)) 24 = z := ⟨_, bl_lt _ (by omega), rfl⟩
  refine x_e (show nI (bl (X >>> ((nI 5) &&& 31)) 24) = nI b_4 by rw [eb_4]) ?_
  clear eb_4
  refine lv_istore (lv' := [(24, .int (nI b_4)), (23, .int (nI (rhy σ b_2 (qu σ b_2) b_3 b_1))), (22, .int (nI b_3)), (21, .int (nI b_2)), (20, .int (nI b_1)), (17, .int (nI (thr σ (qn σ)))), (15, .long (dig σ)), (4, .int (nI (qn σ))), (3, .int X), (2, .int (nI t)), (1, .ref bs), (0, .ref sb)]) hx hb dL_law_1359 hl (by decide) rfl (fun ls hl => ?_)
  refine lv_iload hx hb dL_law_1361 (lv_at hl 1 rfl) ?_
  refine lv_aload_n hx hb dL_law_1363 rfl (lv_at hl 10 rfl) ?_
  refine lv_iload hx hb dL_law_1364 (lv_at hl 2 rfl) ?_
  refine lv_iload hx hb dL_law_1366 (lv_at hl 3 rfl) ?_
  refine lv_iload hx hb dL_law_1368 (lv_at hl 4 rfl) ?_
  refine q_rhyme (v := .int (nI (rhy σ b_3 (qu σ b_3) b_2 b_1))) hfl S hX hlow hI hy hC hb_3 hb_2 (by omega) (cwlaw_rhyme hts) hl.1 (Nat.le_of_ble_eq_true rfl) dL_law_1370 ⟨by show _ ≤ 600104; omega, by show _ ≤ 7301314; omega⟩ (rfl) ?_
  refine W.eq (g2 := F0 m 1373 ls [.int (nI (rhy σ b_3 (qu σ b_3) b_2 b_1)), .int (nI (rhy σ b_2 (qu σ b_2) b_3 b_1))]) rfl ?_
  refine x_icne hx hb (by omega) (by omega) (tgt := 1502) dL_law_1373 (by decide) (fun c_5 => ?_) (fun c_5 => ?_)
  · skip
    exact False.elim (by omega)
  · skip
    refine lv_iload hx hb dL_law_1376 (lv_at hl 1 rfl) ?_
    refine lv_iconst (v := nI 2) hx hb dL_law_1378 (by decide +kernel) ?_
    refine lv_aload_n hx hb dL_law_1379 rfl (lv_at hl 10 rfl) ?_
    refine lv_iload hx hb dL_law_1380 (lv_at hl 3 rfl) ?_
    refine lv_iload hx hb dL_law_1382 (lv_at hl 4 rfl) ?_
    refine q_size (v := .int (nI (sz σ b_2 b_1))) hfl S hX hlow hI hy hC hb_2 (by omega) (cwlaw_size hts) hl.1 (Nat.le_of_ble_eq_true rfl) dL_law_1384 ⟨by show _ ≤ 600104; omega, by show _ ≤ 7301314; omega⟩ (rfl) ?_
    refine W.eq (g2 := F0 m 1387 ls [.int (nI (sz σ b_2 b_1)), .int (nI 2), .int (nI (rhy σ b_2 (qu σ b_2) b_3 b_1))]) rfl ?_
    refine lv_aload_n hx hb dL_law_1387 rfl (lv_at hl 10 rfl) ?_
    refine lv_iload hx hb dL_law_1388 (lv_at hl 2 rfl) ?_
    refine lv_iload hx hb dL_law_1390 (lv_at hl 4 rfl) ?_
    refine q_size (v := .int (nI (sz σ b_3 b_1))) hfl S hX hlow hI hy hC hb_3 (by omega) (cwlaw_size hts) hl.1 (Nat.le_of_ble_eq_true rfl) dL_law_1392 ⟨by show _ ≤ 600104; omega, by show _ ≤ 7301314; omega⟩ (rfl) ?_
    refine W.eq (g2 := F0 m 1395 ls [.int (nI (sz σ b_3 b_1)), .int (nI (sz σ b_2 b_1)), .int (nI 2), .int (nI (rhy σ b_2 (qu σ b_2) b_3 b_1))]) rfl ?_
    refine va_mmin hx hb (hml.trans hl.1.symm) hown (hts _ (by decide +kernel)) (hts _ (by decide +kernel)) (hts _ (by decide +kernel)) (hts _ (by decide +kernel)) (Nat.le_of_ble_eq_true rfl) (Nat.le_of_ble_eq_true rfl) (by show _ ≤ 600104; omega) (by show _ ≤ 7301314; omega) dL_law_1395 ?_
    refine x_e (minN (sz σ b_2 b_1) (sz σ b_3 b_1) (by omega) (by omega)) ?_
    refine W.eq (g2 := F0 m 1398 ls [.int (nI (min (sz σ b_2 b_1) (sz σ b_3 b_1))), .int (nI 2), .int (nI (rhy σ b_2 (qu σ b_2) b_3 b_1))]) rfl ?_
    refine x_mul hx hb dL_law_1398 ?_
    refine x_icgt hx hb (by omega) (by omega) (tgt := 1502) dL_law_1399 (by decide) (fun c_6 => ?_) (fun c_6 => ?_)
    · skip
      exact False.elim (by omega)
    · skip
      refine lv_aload_n hx hb dL_law_1402 rfl (lv_at hl 10 rfl) ?_
      refine lv_iload hx hb dL_law_1403 (lv_at hl 3 rfl) ?_
      refine lv_iload hx hb dL_law_1405 (lv_at hl 3 rfl) ?_
      refine lv_iload hx hb dL_law_1407 (lv_at hl 4 rfl) ?_
      refine q_rhyme (v := .int (nI (rhy σ b_2 (qu σ b_2) b_2 b_1))) hfl S hX hlow hI hy hC hb_2 hb_2 (by omega) (cwlaw_rhyme hts) hl.1 (Nat.le_of_ble_eq_true rfl) dL_law_1409 ⟨by show _ ≤ 600104; omega, by show _ ≤ 7301314; omega⟩ (rfl) ?_
      refine W.eq (g2 := F0 m 1412 ls [.int (nI (rhy σ b_2 (qu σ b_2) b_2 b_1))]) rfl ?_
      refine lv_iconst (v := nI 2) hx hb dL_law_1412 (by decide +kernel) ?_
      refine lv_aload_n hx hb dL_law_1413 rfl (lv_at hl 10 rfl) ?_
      refine lv_iload hx hb dL_law_1414 (lv_at hl 3 rfl) ?_
      refine lv_iload hx hb dL_law_1416 (lv_at hl 4 rfl) ?_
      refine q_size (v := .int (nI (sz σ b_2 b_1))) hfl S hX hlow hI hy hC hb_2 (by omega) (cwlaw_size hts) hl.1 (Nat.le_of_ble_eq_true rfl) dL_law_1418 ⟨by show _ ≤ 600104; omega, by show _ ≤ 7301314; omega⟩ (rfl) ?_
      refine W.eq (g2 := F0 m 1421 ls [.int (nI (sz σ b_2 b_1)), .int (nI 2), .int (nI (rhy σ b_2 (qu σ b_2) b_2 b_1))]) rfl ?_
      refine x_mul hx hb dL_law_1421 ?_
      refine x_icne hx hb (by omega) (by omega) (tgt := 1502) dL_law_1422 (by decide) (fun c_7 => ?_) (fun c_7 => ?_)
      · skip
        exact False.elim (by omega)
      · skip
        refine lv_aload_n hx hb dL_law_1425 rfl (lv_at hl 10 rfl) ?_
        refine lv_iload hx hb dL_law_1426 (lv_at hl 3 rfl) ?_
        refine lv_iload hx hb dL_law_1428 (lv_at hl 2 rfl) ?_
        refine lv_iload hx hb dL_law_1430 (lv_at hl 4 rfl) ?_
        refine q_best (v := .int (nI (rbest σ b_2 b_3 b_1))) hfl S hX hlow hI hy hC hb_2 hb_3 (by omega) (cwlaw_best hts) hl.1 (Nat.le_of_ble_eq_true rfl) dL_law_1432 ⟨by show _ ≤ 600104; omega, by show _ ≤ 7301314; omega⟩ (rfl) ?_
        refine W.eq (g2 := F0 m 1435 ls [.int (nI (rbest σ b_2 b_3 b_1))]) rfl ?_
        refine lv_iconst (v := nI 2) hx hb dL_law_1435 (by decide +kernel) ?_
        refine x_icgt hx hb (by omega) (by omega) (tgt := 1502) dL_law_1436 (by decide) (fun c_8 => ?_) (fun c_8 => ?_)
        · skip
          exact False.elim (by omega)
        · skip
          refine lv_aload_n hx hb dL_law_1439 rfl (lv_at hl 10 rfl) ?_
          refine lv_iload hx hb dL_law_1440 (lv_at hl 3 rfl) ?_
          refine lv_iload hx hb dL_law_1442 (lv_at hl 0 rfl) ?_
          refine lv_iload_n hx hb dL_law_1444 rfl (lv_at hl 8 rfl) ?_
          refine lv_iconst (v := nI 3) hx hb dL_law_1445 (by decide +kernel) ?_
          refine lv_ishr hx hb dL_law_1446 ?_
          refine lv_bipush (v := nI 24) hx hb dL_law_1447 (by decide +kernel) ?_
          refine ro_S (rest := [.int (nI b_4), .int (nI b_2), .ref bs]) S hX.1 (c_L_below l Γ (X >>> ((nI 3) &&& 31)) 24 (by omega) (by omega)) (cwlaw_L_below hts) trivial rfl hl.1 rfl (Nat.le_of_ble_eq_true rfl) dL_law_1449 ⟨by show _ ≤ 600104; omega, by show _ ≤ 7301314; omega⟩ ?_
          refine W.eq (g2 := F0 m 1452 ls [.int (nI (bl (X >>> ((nI 3) &&& 31)) 24)), .int (nI b_4), .int (nI b_2), .ref bs]) rfl ?_
          obtain ⟨b_9, hb_9, eb_9⟩ : ∃ z : Nat, z < 24 ∧ bl (X >>> ((nI 3) &&& 31)) 24 = z := ⟨_, bl_lt _ (by omega), rfl⟩
          refine x_e (show nI (bl (X >>> ((nI 3) &&& 31)) 24) = nI b_9 by rw [eb_9]) ?_
          clear eb_9
          refine q_has (v := .int (nI (hs σ b_2 (nI b_4) (nI b_9)))) hfl S hX hlow hI hy hC hb_2 (by omega) (by omega) (cwlaw_has hts) hl.1 (Nat.le_of_ble_eq_true rfl) dL_law_1452 ⟨by show _ ≤ 600104; omega, by show _ ≤ 7301314; omega⟩ (rfl) ?_
          refine W.eq (g2 := F0 m 1455 ls [.int (nI (hs σ b_2 (nI b_4) (nI b_9)))]) rfl ?_
          have q5 : hs σ b_2 (nI b_4) (nI b_9) ≤ 9 := hs_le _ _ _ _ _
          refine lv_bipush (v := nI 9) hx hb dL_law_1455 (by decide +kernel) ?_
          refine x_icgt hx hb (by omega) (by omega) (tgt := 1502) dL_law_1457 (by decide) (fun c_10 => ?_) (fun c_10 => ?_)
          · skip
            exact False.elim (by omega)
          · skip
            refine lv_aload_n hx hb dL_law_1460 rfl (lv_at hl 10 rfl) ?_
            refine lv_iload hx hb dL_law_1461 (lv_at hl 3 rfl) ?_
            refine lv_iconst (v := nI 1) hx hb dL_law_1463 (by decide +kernel) ?_
            refine lv_iload_n hx hb dL_law_1464 rfl (lv_at hl 8 rfl) ?_
            refine lv_bipush (v := nI 20) hx hb dL_law_1465 (by decide +kernel) ?_
            refine ro_S (rest := [.int (nI 1), .int (nI b_2), .ref bs]) S hX.1 (c_L_below l Γ X 20 (by omega) (by omega)) (cwlaw_L_below hts) trivial rfl hl.1 rfl (Nat.le_of_ble_eq_true rfl) dL_law_1467 ⟨by show _ ≤ 600104; omega, by show _ ≤ 7301314; omega⟩ ?_
            refine W.eq (g2 := F0 m 1470 ls [.int (nI (bl X 20)), .int (nI 1), .int (nI b_2), .ref bs]) rfl ?_
            obtain ⟨b_11, hb_11, eb_11⟩ : ∃ z : Nat, z < 20 ∧ bl X 20 = z := ⟨_, bl_lt _ (by omega), rfl⟩
            refine x_e (show nI (bl X 20) = nI b_11 by rw [eb_11]) ?_
            clear eb_11
            refine x_add hx hb dL_law_1470 ?_
            refine q_pieces (v := .int (nI (cW (stn (rk σ b_2) (ak σ b_2)) (nI (1 + b_11)) (qp σ b_2 - 1) + 1))) hfl S hX hlow hI hy hC hb_2 (by omega) (by omega) (cwlaw_pieces hts) hl.1 (Nat.le_of_ble_eq_true rfl) dL_law_1471 ⟨by show _ ≤ 600104; omega, by show _ ≤ 7301314; omega⟩ (rfl) ?_
            refine W.eq (g2 := F0 m 1474 ls [.int (nI (cW (stn (rk σ b_2) (ak σ b_2)) (nI (1 + b_11)) (qp σ b_2 - 1) + 1))]) rfl ?_
            have q6 : cW (stn (rk σ b_2) (ak σ b_2)) (nI (1 + b_11)) (qp σ b_2 - 1) ≤ qp σ b_2 - 1 := cW_le _ _ _
            refine lv_aload_n hx hb dL_law_1474 rfl (lv_at hl 10 rfl) ?_
            refine lv_iload hx hb dL_law_1475 (lv_at hl 3 rfl) ?_
            refine lv_iconst (v := nI 0) hx hb dL_law_1477 (by decide +kernel) ?_
            refine q_stick (v := .int (nI (qp σ b_2))) hfl S hX hlow hI hy hC hb_2 (by omega) (cwlaw_stick hts) hl.1 (Nat.le_of_ble_eq_true rfl) dL_law_1478 ⟨by show _ ≤ 600104; omega, by show _ ≤ 7301314; omega⟩ (rfl) ?_
            refine W.eq (g2 := F0 m 1481 ls [.int (nI (qp σ b_2)), .int (nI (cW (stn (rk σ b_2) (ak σ b_2)) (nI (1 + b_11)) (qp σ b_2 - 1) + 1))]) rfl ?_
            refine x_icgt hx hb (by omega) (by omega) (tgt := 1502) dL_law_1481 (by decide) (fun c_12 => ?_) (fun c_12 => ?_)
            · skip
              exact False.elim (by omega)
            · skip
              refine lv_aload_n hx hb dL_law_1484 rfl (lv_at hl 10 rfl) ?_
              refine lv_iload hx hb dL_law_1485 (lv_at hl 3 rfl) ?_
              refine lv_iload hx hb dL_law_1487 (lv_at hl 4 rfl) ?_
              refine q_size (v := .int (nI (sz σ b_2 b_1))) hfl S hX hlow hI hy hC hb_2 (by omega) (cwlaw_size hts) hl.1 (Nat.le_of_ble_eq_true rfl) dL_law_1489 ⟨by show _ ≤ 600104; omega, by show _ ≤ 7301314; omega⟩ (rfl) ?_
              refine W.eq (g2 := F0 m 1492 ls [.int (nI (sz σ b_2 b_1))]) rfl ?_
              refine lv_aload_n hx hb dL_law_1492 rfl (lv_at hl 10 rfl) ?_
              refine lv_iload hx hb dL_law_1493 (lv_at hl 3 rfl) ?_
              refine lv_iconst (v := nI 0) hx hb dL_law_1495 (by decide +kernel) ?_
              refine q_stick (v := .int (nI (qp σ b_2))) hfl S hX hlow hI hy hC hb_2 (by omega) (cwlaw_stick hts) hl.1 (Nat.le_of_ble_eq_true rfl) dL_law_1496 ⟨by show _ ≤ 600104; omega, by show _ ≤ 7301314; omega⟩ (rfl) ?_
              refine W.eq (g2 := F0 m 1499 ls [.int (nI (qp σ b_2)), .int (nI (sz σ b_2 b_1))]) rfl ?_
              refine x_icle hx hb (by omega) (by omega) (tgt := 1504) dL_law_1499 (by decide) (fun c_13 => ?_) (fun c_13 => ?_)
              · skip
                refine lv_aload_n hx hb dL_law_1504 rfl (lv_at hl 10 rfl) ?_
                refine lv_iload hx hb dL_law_1505 (lv_at hl 7 rfl) ?_
                refine lv_iconst (v := nI 1) hx hb dL_law_1507 (by decide +kernel) ?_
                refine x_sub hx hb (by omega) dL_law_1508 ?_
                refine lv_iload hx hb dL_law_1509 (lv_at hl 4 rfl) ?_
                refine q_row (v := .int (nI (rw_ σ ((qn σ) - 1) b_1 (qn σ)))) hfl S hX hlow hI hy hC (by omega) hJ.2.1 (by omega) (cwlaw_row hts) hl.1 (Nat.le_of_ble_eq_true rfl) dL_law_1511 ⟨by show _ ≤ 600104; omega, by show _ ≤ 7301314; omega⟩ (rfl) ?_
                refine W.eq (g2 := F0 m 1514 ls [.int (nI (rw_ σ ((qn σ) - 1) b_1 (qn σ)))]) rfl ?_
                have q7 : 1 ≤ rw_ σ ((qn σ) - 1) b_1 (qn σ) := Nat.le_add_right 1 _
                have q8 : rw_ σ ((qn σ) - 1) b_1 (qn σ) ≤ thr σ (qn σ) := row_le (by omega) hJ.2.1
                refine lv_istore (lv' := [(25, .int (nI (rw_ σ ((qn σ) - 1) b_1 (qn σ)))), (24, .int (nI b_4)), (23, .int (nI (rhy σ b_2 (qu σ b_2) b_3 b_1))), (22, .int (nI b_3)), (21, .int (nI b_2)), (20, .int (nI b_1)), (17, .int (nI (thr σ (qn σ)))), (15, .long (dig σ)), (4, .int (nI (qn σ))), (3, .int X), (2, .int (nI t)), (1, .ref bs), (0, .ref sb)]) hx hb dL_law_1514 hl (by decide) rfl (fun ls hl => ?_)
                refine lv_iload hx hb dL_law_1516 (lv_at hl 0 rfl) ?_
                refine lv_iconst (v := nI 1) hx hb dL_law_1518 (by decide +kernel) ?_
                refine x_iclt hx hb (by omega) (by omega) (tgt := 1539) dL_law_1519 (by decide) (fun c_14 => ?_) (fun c_14 => ?_)
                · skip
                  exact False.elim (by omega)
                · skip
                  refine lv_iload hx hb dL_law_1522 (lv_at hl 0 rfl) ?_
                  refine lv_iload hx hb dL_law_1524 (lv_at hl 6 rfl) ?_
                  refine x_icgt hx hb (by omega) (by omega) (tgt := 1539) dL_law_1526 (by decide) (fun c_15 => ?_) (fun c_15 => ?_)
                  · skip
                    exact False.elim (by omega)
                  · skip
                    refine lv_aload_n hx hb dL_law_1529 rfl (lv_at hl 11 rfl) ?_
                    refine ro_V (rest := []) S hX.1 (c_X1_digest l Γ bs σ ad hI (bs + 2) hy) (cwlaw_digest hts) (Ob.recv hX.1 hC.1 rfl) hC rfl hl.1 rfl (Nat.le_of_ble_eq_true rfl) dL_law_1530 ⟨by show _ ≤ 600104; omega, by show _ ≤ 7301314; omega⟩ ?_
                    refine W.eq (g2 := F0 m 1533 ls [.long (dig σ)]) rfl ?_
                    refine lv_lload hx hb dL_law_1533 (lv_at hl 7 rfl) ?_
                    refine x_lcmp (v := nI 0) hx hb dL_law_1535 (lcmp_eq _) ?_
                    refine x_ifeq hx hb (by omega) (tgt := 1541) dL_law_1536 (by decide) (fun c_16 => ?_) (fun c_16 => absurd c_16 (by decide))
                    exact k ls (lv_sub hl [10, 11, 12] rfl)
              · skip
                exact False.elim (by omega)
set_option maxHeartbeats 8000000 in
set_option maxRecDepth 100000 in
theorem law_D {p : Program} {l : Launch} {e : Env} {s : State} {m : MethodId} {args : Array Value} {below : List Frame} {meth : Method} {c : Code} {H : Heap} {locs : List Loc} {Q : State → Prop} {Γ : GG} {bs sb L C0 S0 : Nat} {xs : Nat → Int32} {σ : St} {ad : Nat → Nat} {t : Nat} {X : Int32}
    (hfl : l.stackTraces = false) (S : CallFix p m c cL_law 26 s args wsL_law RL) (hX : xW Γ bs sb L xs s) (hC0 : C0 + 100 ≤ 600104) (hS0 : S0 + 1500 ≤ 7301314) (hLI : LI Γ bs s σ ad H locs) 
    (k : ∀ ls : Array Slot, lv_has ls 26 [(17, .int (nI (thr σ (qn σ)))), (15, .long (dig σ)), (4, .int (nI (qn σ))), (3, .int X), (2, .int (nI t)), (1, .ref bs), (0, .ref sb)] → W p l e room_1 s m args below meth c H locs C0 S0 Q (F0 m 1309 ls []))
    (ls : Array Slot) (hl : lv_has ls 26 [(19, .int (nI (fA σ (qn σ)))), (18, .int (nI (tN σ (c2 σ) (qn σ)))), (17, .int (nI (thr σ (qn σ)))), (15, .long (dig σ)), (4, .int (nI (qn σ))), (3, .int X), (2, .int (nI t)), (1, .ref bs), (0, .ref sb)]) : W p l e room_1 s m args below meth c H locs C0 S0 Q (F0 m 1238 ls []) := by
  obtain ⟨hx, hb, hml, hown, hts⟩ := id S
  obtain ⟨hI, hJ, hy, hC, hlo, hb9, hlow⟩ := id hLI
  have h40 := hI.1
  have h1n := hJ.1
  have hth12 : thr σ (qn σ) ≤ 12 := hI.2.2.2.2.2.2
  have hfa : fA σ (qn σ) ≤ 1600 := by
    have h1 := fA_le σ (qn σ)
    have h2 := Nat.mul_le_mul h40 h40
    omega
  have hc2 := tN_small (g := c2 σ) hI (fun k hk => c2_le hI hk)
  have ht1 : 1 ≤ thr σ (qn σ) := by
    have h1 := thr_y (σ := σ) (n := qn σ - 1) hJ.2.1
    rw [show qn σ - 1 + 1 = qn σ by omega] at h1
    omega
  have e2 : tS σ (fun k => fk σ k 2) (qn σ) = nI (tN σ (c2 σ) (qn σ)) := tot_2 σ
  have hne : ¬ thr σ (qn σ) = 0 := by omega
  have hmn := mnv_ok hI hne
  rw [e2] at hmn
  have hmv : FP.ddiv (FP.i2d (nI (tN σ (c2 σ) (qn σ)))) (FP.i2d (nI (thr σ (qn σ)))) = mnv σ := by
    unfold mnv
    rw [if_neg hne, e2]
  refine lv_iload hx hb dL_law_1238 (lv_at hl 2 rfl) ?_
  refine lv_aload_n hx hb dL_law_1240 rfl (lv_at hl 7 rfl) ?_
  refine lv_iconst (v := nI 0) hx hb dL_law_1241 (by decide +kernel) ?_
  refine q_count (v := .int (nI (thr σ (qn σ)))) hfl S hX hlow hI hy hC (by omega) (cwlaw_count hts) hl.1 (Nat.le_of_ble_eq_true rfl) dL_law_1242 ⟨by show _ ≤ 600104; omega, by show _ ≤ 7301314; omega⟩ (congrArg Value.int (tot_0 σ)) ?_
  refine W.eq (g2 := F0 m 1245 ls [.int (nI (thr σ (qn σ))), .int (nI (thr σ (qn σ)))]) rfl ?_
  refine x_icne hx hb (by omega) (by omega) (tgt := 1307) dL_law_1245 (by decide) (fun c_1 => ?_) (fun c_1 => ?_)
  · skip
    exact False.elim (by omega)
  · skip
    refine lv_iload hx hb dL_law_1248 (lv_at hl 1 rfl) ?_
    refine lv_aload_n hx hb dL_law_1250 rfl (lv_at hl 7 rfl) ?_
    refine lv_iconst (v := nI 2) hx hb dL_law_1251 (by decide +kernel) ?_
    refine q_count (v := .int (nI (tN σ (c2 σ) (qn σ)))) hfl S hX hlow hI hy hC (by omega) (cwlaw_count hts) hl.1 (Nat.le_of_ble_eq_true rfl) dL_law_1252 ⟨by show _ ≤ 600104; omega, by show _ ≤ 7301314; omega⟩ (congrArg Value.int (tot_2 σ)) ?_
    refine W.eq (g2 := F0 m 1255 ls [.int (nI (tN σ (c2 σ) (qn σ))), .int (nI (tN σ (c2 σ) (qn σ)))]) rfl ?_
    refine x_icne hx hb (by omega) (by omega) (tgt := 1307) dL_law_1255 (by decide) (fun c_2 => ?_) (fun c_2 => ?_)
    · skip
      exact False.elim (by omega)
    · skip
      refine lv_iload hx hb dL_law_1258 (lv_at hl 0 rfl) ?_
      refine lv_aload_n hx hb dL_law_1260 rfl (lv_at hl 7 rfl) ?_
      refine lv_bipush (v := nI 6) hx hb dL_law_1261 (by decide +kernel) ?_
      refine q_count (v := .int (nI (fA σ (qn σ)))) hfl S hX hlow hI hy hC (by omega) (cwlaw_count hts) hl.1 (Nat.le_of_ble_eq_true rfl) dL_law_1263 ⟨by show _ ≤ 600104; omega, by show _ ≤ 7301314; omega⟩ (congrArg Value.int (tot_6 σ)) ?_
      refine W.eq (g2 := F0 m 1266 ls [.int (nI (fA σ (qn σ))), .int (nI (fA σ (qn σ)))]) rfl ?_
      refine x_icne hx hb (by omega) (by omega) (tgt := 1307) dL_law_1266 (by decide) (fun c_3 => ?_) (fun c_3 => ?_)
      · skip
        exact False.elim (by omega)
      · skip
        refine lv_iload hx hb dL_law_1269 (lv_at hl 2 rfl) ?_
        refine lv_bipush (v := nI 12) hx hb dL_law_1271 (by decide +kernel) ?_
        refine x_icgt hx hb (by omega) (by omega) (tgt := 1307) dL_law_1273 (by decide) (fun c_4 => ?_) (fun c_4 => ?_)
        · skip
          exact False.elim (by omega)
        · skip
          refine lv_iload hx hb dL_law_1276 (lv_at hl 4 rfl) ?_
          refine lv_bipush (v := nI 40) hx hb dL_law_1278 (by decide +kernel) ?_
          refine x_icgt hx hb (by omega) (by omega) (tgt := 1307) dL_law_1280 (by decide) (fun c_5 => ?_) (fun c_5 => ?_)
          · skip
            exact False.elim (by omega)
          · skip
            refine lv_aload_n hx hb dL_law_1283 rfl (lv_at hl 7 rfl) ?_
            refine ro_V (rest := []) S hX.1 (c_X1_mean l Γ bs σ ad hI) (cwlaw_mean hts) (Ob.recv hX.1 hC.1 rfl) hC rfl hl.1 rfl (Nat.le_of_ble_eq_true rfl) dL_law_1284 ⟨by show _ ≤ 600104; omega, by show _ ≤ 7301314; omega⟩ ?_
            refine W.eq (g2 := F0 m 1287 ls [.double (mnv σ)]) rfl ?_
            refine lv_iload hx hb dL_law_1287 (lv_at hl 2 rfl) ?_
            refine x_ifne hx hb (by omega) (tgt := 1296) dL_law_1289 (by decide) (fun c_6 => ?_) (fun c_6 => ?_)
            · skip
              refine lv_iload hx hb dL_law_1296 (lv_at hl 1 rfl) ?_
              refine lv_i2d hx hb dL_law_1298 ?_
              refine lv_iload hx hb dL_law_1299 (lv_at hl 2 rfl) ?_
              refine lv_i2d hx hb dL_law_1301 ?_
              refine lv_ddiv hx hb dL_law_1302 hmn ?_
              refine x_eD hmv ?_
              refine lv_dcmp hx hb dL_law_1303 ?_
              refine x_e (show _ = nI 0 from mnv_eq hI) ?_
              refine x_ifeq hx hb (by omega) (tgt := 1309) dL_law_1304 (by decide) (fun c_7 => ?_) (fun c_7 => absurd c_7 (by decide))
              exact k ls (lv_sub hl [2, 3, 4, 5, 6, 7, 8] rfl)
            · skip
              exact False.elim (by omega)
theorem tN_n {σ : St} {g : Nat → Nat} {n : Nat} (h : 0 < qg σ n) : tN σ g (n + 1) = tN σ g n := by
  show tN σ g n + (if qg σ n = 0 then g n else 0) = _
  rw [if_neg (by omega), Nat.add_zero]
set_option maxHeartbeats 8000000 in
set_option maxRecDepth 100000 in
theorem law_C {p : Program} {l : Launch} {e : Env} {s : State} {m : MethodId} {args : Array Value} {below : List Frame} {meth : Method} {c : Code} {H : Heap} {locs : List Loc} {Q : State → Prop} {Γ : GG} {bs sb L C0 S0 : Nat} {xs : Nat → Int32} {σ : St} {ad : Nat → Nat} {t : Nat} {X : Int32}
    (hfl : l.stackTraces = false) (S : CallFix p m c cL_law 26 s args wsL_law RL) (hX : xW Γ bs sb L xs s) (hC0 : C0 + 100 ≤ 600104) (hS0 : S0 + 1500 ≤ 7301314) (hLI : LI Γ bs s σ ad H locs) 
    (k : ∀ ls : Array Slot, lv_has ls 26 [(19, .int (nI (fA σ (qn σ)))), (18, .int (nI (tN σ (c2 σ) (qn σ)))), (17, .int (nI (thr σ (qn σ)))), (15, .long (dig σ)), (4, .int (nI (qn σ))), (3, .int X), (2, .int (nI t)), (1, .ref bs), (0, .ref sb)] → W p l e room_1 s m args below meth c H locs C0 S0 Q (F0 m 1238 ls []))
    (ls : Array Slot) (hl : lv_has ls 26 [(3, .int X), (2, .int (nI t)), (1, .ref bs), (0, .ref sb)]) : W p l e room_1 s m args below meth c H locs C0 S0 Q (F0 m 1027 ls []) := by
  obtain ⟨hx, hb, hml, hown, hts⟩ := id S
  obtain ⟨hI, hJ, hy, hC, hlo, hb9, hlow⟩ := id hLI
  have h40 := hI.1
  have h1n := hJ.1
  have hth12 : thr σ (qn σ) ≤ 12 := hI.2.2.2.2.2.2
  refine lv_aload_n hx hb dL_law_1027 rfl (lv_at hl 2 rfl) ?_
  refine lv_iconst (v := nI 1) hx hb dL_law_1028 (by decide +kernel) ?_
  refine q_count (v := .int (nI (qn σ))) hfl S hX hlow hI hy hC (by omega) (cwlaw_count hts) hl.1 (Nat.le_of_ble_eq_true rfl) dL_law_1029 ⟨by show _ ≤ 600104; omega, by show _ ≤ 7301314; omega⟩ (congrArg Value.int (tot_1 σ)) ?_
  refine W.eq (g2 := F0 m 1032 ls [.int (nI (qn σ))]) rfl ?_
  refine lv_istore (lv' := [(4, .int (nI (qn σ))), (3, .int X), (2, .int (nI t)), (1, .ref bs), (0, .ref sb)]) hx hb dL_law_1032 hl (by decide) rfl (fun ls hl => ?_)
  refine lv_aload_n hx hb dL_law_1034 rfl (lv_at hl 3 rfl) ?_
  refine ro_V (rest := []) S hX.1 (c_X1_digest l Γ bs σ ad hI (bs + 2) hy) (cwlaw_digest hts) (Ob.recv hX.1 hC.1 rfl) hC rfl hl.1 rfl (Nat.le_of_ble_eq_true rfl) dL_law_1035 ⟨by show _ ≤ 600104; omega, by show _ ≤ 7301314; omega⟩ ?_
  refine W.eq (g2 := F0 m 1038 ls [.long (dig σ)]) rfl ?_
  refine lv_lstore (lv' := [(15, .long (dig σ)), (4, .int (nI (qn σ))), (3, .int X), (2, .int (nI t)), (1, .ref bs), (0, .ref sb)]) hx hb dL_law_1038 hl (by decide) rfl (fun ls hl => ?_)
  refine lv_iconst (v := nI 0) hx hb dL_law_1040 (by decide +kernel) ?_
  refine lv_istore (lv' := [(17, .int (nI 0)), (15, .long (dig σ)), (4, .int (nI (qn σ))), (3, .int X), (2, .int (nI t)), (1, .ref bs), (0, .ref sb)]) hx hb dL_law_1041 hl (by decide) rfl (fun ls hl => ?_)
  refine lv_iconst (v := nI 0) hx hb dL_law_1043 (by decide +kernel) ?_
  refine lv_istore (lv' := [(18, .int (nI 0)), (17, .int (nI 0)), (15, .long (dig σ)), (4, .int (nI (qn σ))), (3, .int X), (2, .int (nI t)), (1, .ref bs), (0, .ref sb)]) hx hb dL_law_1044 hl (by decide) rfl (fun ls hl => ?_)
  refine lv_iconst (v := nI 0) hx hb dL_law_1046 (by decide +kernel) ?_
  refine lv_istore (lv' := [(19, .int (nI 0)), (18, .int (nI 0)), (17, .int (nI 0)), (15, .long (dig σ)), (4, .int (nI (qn σ))), (3, .int X), (2, .int (nI t)), (1, .ref bs), (0, .ref sb)]) hx hb dL_law_1047 hl (by decide) rfl (fun ls hl => ?_)
  refine lv_iconst (v := nI 0) hx hb dL_law_1049 (by decide +kernel) ?_
  refine lv_istore (lv' := [(20, .int (nI 0)), (19, .int (nI 0)), (18, .int (nI 0)), (17, .int (nI 0)), (15, .long (dig σ)), (4, .int (nI (qn σ))), (3, .int X), (2, .int (nI t)), (1, .ref bs), (0, .ref sb)]) hx hb dL_law_1050 hl (by decide) rfl (fun ls hl => ?_)
  refine x_loop (fun u => [(20, .int (nI u)), (19, .int (nI (fA σ u))), (18, .int (nI (tN σ (c2 σ) u))), (17, .int (nI (thr σ u))), (15, .long (dig σ)), (4, .int (nI (qn σ))), (3, .int X), (2, .int (nI t)), (1, .ref bs), (0, .ref sb)]) (fun u => u ≤ qn σ) (fun u => qn σ - u) ?_ 0 (Nat.zero_le _) ls (x_hl (lv_sub hl [0, 1, 2, 3, 4, 5, 6, 7, 8, 9] rfl) rfl)
  clear hl ls
  intro u hu ih ls hl
  have htu : thr σ u ≤ u := thr_le σ u
  have hfu : fA σ u ≤ 1600 := by
    have h1 := fA_le σ u
    have h2 := Nat.mul_le_mul hu h40
    have h3 := Nat.mul_le_mul h40 (Nat.le_refl 40)
    omega
  have htn : tN σ (c2 σ) u ≤ 1440 := by
    have h1 := tN_le (σ := σ) (g := c2 σ) (c := 36) (n := u) (fun k hk => c2_le hI (by omega))
    omega
  refine lv_iload hx hb dL_law_1052 (lv_at hl 0 rfl) ?_
  refine lv_iload hx hb dL_law_1054 (lv_at hl 5 rfl) ?_
  refine x_icge hx hb (by omega) (by omega) (tgt := 1238) dL_law_1056 (by decide) (fun c_1 => ?_) (fun c_1 => ?_)
  · skip
    have e9 : u = qn σ := by omega
    rw [e9] at hl
    exact k ls (lv_sub hl [1, 2, 3, 4, 5, 6, 7, 8, 9] rfl)
  · skip
    have hqu := (hI.2.1 u (by omega)).2.2.2
    have hpu := hI.2.1 u (by omega)
    refine lv_aload_n hx hb dL_law_1059 rfl (lv_at hl 8 rfl) ?_
    refine lv_iload hx hb dL_law_1060 (lv_at hl 0 rfl) ?_
    refine lv_bipush (v := nI 6) hx hb dL_law_1062 (by decide +kernel) ?_
    refine q_stick (v := .int (nI (qg σ u))) hfl S hX hlow hI hy hC (by omega) (by omega) (cwlaw_stick hts) hl.1 (Nat.le_of_ble_eq_true rfl) dL_law_1064 ⟨by show _ ≤ 600104; omega, by show _ ≤ 7301314; omega⟩ (rfl) ?_
    refine W.eq (g2 := F0 m 1067 ls [.int (nI (qg σ u))]) rfl ?_
    refine lv_iconst (v := nI 1) hx hb dL_law_1067 (by decide +kernel) ?_
    refine x_icne hx hb (by omega) (by omega) (tgt := 1074) dL_law_1068 (by decide) (fun c_2 => ?_) (fun c_2 => ?_)
    · skip
      have hg0 : qg σ u = 0 := by omega
      have hcu := c2_le hI (show u < qn σ by omega)
      refine x_iinc (n := 1) (lv' := [(17, .int (nI (thr σ u + 1))), (20, .int (nI u)), (19, .int (nI (fA σ u))), (18, .int (nI (tN σ (c2 σ) u))), (15, .long (dig σ)), (4, .int (nI (qn σ))), (3, .int X), (2, .int (nI t)), (1, .ref bs), (0, .ref sb)]) hx hb dL_law_1074 hl (k := 3) rfl (by decide) rfl (fun ls hl => ?_)
      refine lv_iload hx hb dL_law_1077 (lv_at hl 3 rfl) ?_
      refine lv_aload_n hx hb dL_law_1079 rfl (lv_at hl 8 rfl) ?_
      refine lv_iload hx hb dL_law_1080 (lv_at hl 1 rfl) ?_
      refine lv_iconst (v := nI 2) hx hb dL_law_1082 (by decide +kernel) ?_
      refine q_stick (v := .int (nI (c2 σ u))) hfl S hX hlow hI hy hC (by omega) (by omega) (cwlaw_stick hts) hl.1 (Nat.le_of_ble_eq_true rfl) dL_law_1083 ⟨by show _ ≤ 600104; omega, by show _ ≤ 7301314; omega⟩ (rfl) ?_
      refine W.eq (g2 := F0 m 1086 ls [.int (nI (c2 σ u)), .int (nI (tN σ (c2 σ) u))]) rfl ?_
      refine x_add hx hb dL_law_1086 ?_
      refine lv_istore (lv' := [(18, .int (nI ((tN σ (c2 σ) u) + (c2 σ u)))), (17, .int (nI (thr σ u + 1))), (20, .int (nI u)), (19, .int (nI (fA σ u))), (15, .long (dig σ)), (4, .int (nI (qn σ))), (3, .int X), (2, .int (nI t)), (1, .ref bs), (0, .ref sb)]) hx hb dL_law_1087 hl (by decide) rfl (fun ls hl => ?_)
      refine lv_iconst (v := nI 0) hx hb dL_law_1089 (by decide +kernel) ?_
      refine lv_istore (lv' := [(21, .int (nI 0)), (18, .int (nI ((tN σ (c2 σ) u) + (c2 σ u)))), (17, .int (nI (thr σ u + 1))), (20, .int (nI u)), (19, .int (nI (fA σ u))), (15, .long (dig σ)), (4, .int (nI (qn σ))), (3, .int X), (2, .int (nI t)), (1, .ref bs), (0, .ref sb)]) hx hb dL_law_1090 hl (by decide) rfl (fun ls hl => ?_)
      refine x_loop (fun v => [(21, .int (nI v)), (20, .int (nI u)), (19, .int (nI (fA σ u + fB σ u v))), (18, .int (nI (tN σ (c2 σ) u + c2 σ u))), (17, .int (nI (thr σ u + 1))), (15, .long (dig σ)), (4, .int (nI (qn σ))), (3, .int X), (2, .int (nI t)), (1, .ref bs), (0, .ref sb)]) (fun v => v ≤ qn σ) (fun v => qn σ - v) ?_ 0 (Nat.zero_le _) ls (x_hl (lv_sub hl [0, 3, 4, 1, 2, 5, 6, 7, 8, 9, 10] rfl) rfl)
      clear hl ls
      intro v hv ihv ls hl
      have hfv := fB_le σ u v
      refine lv_iload hx hb dL_law_1092 (lv_at hl 0 rfl) ?_
      refine lv_iload hx hb dL_law_1094 (lv_at hl 6 rfl) ?_
      refine x_icge hx hb (by omega) (by omega) (tgt := 1183) dL_law_1096 (by decide) (fun c_3 => ?_) (fun c_3 => ?_)
      · skip
        have e9 : v = qn σ := by omega
        rw [e9] at hl
        clear e9
        refine lv_iconst (v := nI 0) hx hb dL_law_1183 (by decide +kernel) ?_
        refine lv_istore (lv' := [(21, .int (nI 0)), (20, .int (nI u)), (19, .int (nI (fA σ u + fB σ u (qn σ)))), (18, .int (nI (tN σ (c2 σ) u + c2 σ u))), (17, .int (nI (thr σ u + 1))), (15, .long (dig σ)), (4, .int (nI (qn σ))), (3, .int X), (2, .int (nI t)), (1, .ref bs), (0, .ref sb)]) hx hb dL_law_1184 hl (by decide) rfl (fun ls hl => ?_)
        refine x_loop (fun j => [(21, .int (nI j)), (20, .int (nI u)), (19, .int (nI (fA σ u + fB σ u (qn σ)))), (18, .int (nI (tN σ (c2 σ) u + c2 σ u))), (17, .int (nI (thr σ u + 1))), (15, .long (dig σ)), (4, .int (nI (qn σ))), (3, .int X), (2, .int (nI t)), (1, .ref bs), (0, .ref sb)]) (fun j => j ≤ 12) (fun j => 12 - j) ?_ 0 (Nat.zero_le _) ls (lv_sub hl [0, 1, 2, 3, 4, 5, 6, 7, 8, 9, 10] rfl)
        clear hl ls
        intro j hj ihj ls hl
        obtain ⟨sv, hsv, esv⟩ := stn_12 hJ.2.2 u j
        refine lv_iload hx hb dL_law_1186 (lv_at hl 0 rfl) ?_
        refine lv_iconst (v := nI 1) hx hb dL_law_1188 (by decide +kernel) ?_
        refine x_add hx hb dL_law_1189 ?_
        refine lv_aload_n hx hb dL_law_1190 rfl (lv_at hl 9 rfl) ?_
        refine lv_iload hx hb dL_law_1191 (lv_at hl 1 rfl) ?_
        refine lv_iconst (v := nI 0) hx hb dL_law_1193 (by decide +kernel) ?_
        refine q_stick (v := .int (nI (qp σ u))) hfl S hX hlow hI hy hC (by omega) (by omega) (cwlaw_stick hts) hl.1 (Nat.le_of_ble_eq_true rfl) dL_law_1194 ⟨by show _ ≤ 600104; omega, by show _ ≤ 7301314; omega⟩ (rfl) ?_
        refine W.eq (g2 := F0 m 1197 ls [.int (nI (qp σ u)), .int (nI (j + 1))]) rfl ?_
        refine x_icge hx hb (by omega) (by omega) (tgt := 1232) dL_law_1197 (by decide) (fun c_4 => ?_) (fun c_4 => ?_)
        · skip
          refine x_iinc (n := 1) (lv' := [(20, .int (nI (u + 1))), (21, .int (nI j)), (19, .int (nI (fA σ u + fB σ u (qn σ)))), (18, .int (nI (tN σ (c2 σ) u + c2 σ u))), (17, .int (nI (thr σ u + 1))), (15, .long (dig σ)), (4, .int (nI (qn σ))), (3, .int X), (2, .int (nI t)), (1, .ref bs), (0, .ref sb)]) hx hb dL_law_1232 hl (k := 1) rfl (by decide) rfl (fun ls hl => ?_)
          refine lv_goto (tgt := 1052) hx hb dL_law_1235 (by decide) ?_
          rw [← fA_s, ← tN_y (g := c2 σ) hg0, ← thr_y hg0] at hl
          exact ih (u + 1) (by omega) (by omega) ls (lv_sub hl [0, 2, 3, 4, 5, 6, 7, 8, 9, 10] rfl)
        · skip
          refine lv_aload_n hx hb dL_law_1200 rfl (lv_at hl 9 rfl) ?_
          refine lv_iload hx hb dL_law_1201 (lv_at hl 1 rfl) ?_
          refine lv_iload hx hb dL_law_1203 (lv_at hl 0 rfl) ?_
          refine q_strength (v := .int (nI sv)) hfl S hX hlow hI hy hC (by omega) (by omega) (cwlaw_strength hts) hl.1 (Nat.le_of_ble_eq_true rfl) dL_law_1205 ⟨by show _ ≤ 600104; omega, by show _ ≤ 7301314; omega⟩ (congrArg Value.int (esv)) ?_
          refine W.eq (g2 := F0 m 1208 ls [.int (nI sv)]) rfl ?_
          refine lv_bipush (v := nI 12) hx hb dL_law_1208 (by decide +kernel) ?_
          refine x_icgt hx hb (by omega) (by omega) (tgt := 1224) dL_law_1210 (by decide) (fun c_5 => ?_) (fun c_5 => ?_)
          · skip
            exact False.elim (by omega)
          · skip
            refine lv_aload_n hx hb dL_law_1213 rfl (lv_at hl 9 rfl) ?_
            refine lv_iload hx hb dL_law_1214 (lv_at hl 1 rfl) ?_
            refine lv_iload hx hb dL_law_1216 (lv_at hl 0 rfl) ?_
            refine q_strength (v := .int (nI sv)) hfl S hX hlow hI hy hC (by omega) (by omega) (cwlaw_strength hts) hl.1 (Nat.le_of_ble_eq_true rfl) dL_law_1218 ⟨by show _ ≤ 600104; omega, by show _ ≤ 7301314; omega⟩ (congrArg Value.int (esv)) ?_
            refine W.eq (g2 := F0 m 1221 ls [.int (nI sv)]) rfl ?_
            refine x_ifge hx hb (by omega) (tgt := 1226) dL_law_1221 (by decide) ?_
            refine x_iinc (n := 1) (lv' := [(21, .int (nI (j + 1))), (20, .int (nI u)), (19, .int (nI (fA σ u + fB σ u (qn σ)))), (18, .int (nI (tN σ (c2 σ) u + c2 σ u))), (17, .int (nI (thr σ u + 1))), (15, .long (dig σ)), (4, .int (nI (qn σ))), (3, .int X), (2, .int (nI t)), (1, .ref bs), (0, .ref sb)]) hx hb dL_law_1226 hl (k := 0) rfl (by decide) rfl (fun ls hl => ?_)
            refine lv_goto (tgt := 1186) hx hb dL_law_1229 (by decide) ?_
            exact ihj (j + 1) (by omega) (by omega) ls hl
      · skip
        have hqv := (hI.2.1 v (by omega)).2.2.2
        refine lv_aload_n hx hb dL_law_1099 rfl (lv_at hl 9 rfl) ?_
        refine lv_iload hx hb dL_law_1100 (lv_at hl 1 rfl) ?_
        refine lv_iload hx hb dL_law_1102 (lv_at hl 0 rfl) ?_
        refine q_fits (v := .int (nI (bP (fitP σ u v)))) hfl S hX hlow hI hy hC (by omega) (by omega) (cwlaw_fits hts) hl.1 (Nat.le_of_ble_eq_true rfl) dL_law_1104 ⟨by show _ ≤ 600104; omega, by show _ ≤ 7301314; omega⟩ (rfl) ?_
        refine W.eq (g2 := F0 m 1107 ls [.int (nI (bP (fitP σ u v)))]) rfl ?_
        have hbp : bP (fitP σ u v) ≤ 1 := bP_le _
        refine lv_istore (lv' := [(22, .int (nI (bP (fitP σ u v)))), (21, .int (nI v)), (20, .int (nI u)), (19, .int (nI (fA σ u + fB σ u v))), (18, .int (nI (tN σ (c2 σ) u + c2 σ u))), (17, .int (nI (thr σ u + 1))), (15, .long (dig σ)), (4, .int (nI (qn σ))), (3, .int X), (2, .int (nI t)), (1, .ref bs), (0, .ref sb)]) hx hb dL_law_1107 hl (by decide) rfl (fun ls hl => ?_)
        refine lv_iload hx hb dL_law_1109 (lv_at hl 3 rfl) ?_
        refine lv_iload hx hb dL_law_1111 (lv_at hl 0 rfl) ?_
        refine x_ifeq hx hb (by omega) (tgt := 1120) dL_law_1113 (by decide) (fun c_7 => ?_) (fun c_7 => ?_)
        · skip
          refine lv_iconst (v := nI 0) hx hb dL_law_1120 (by decide +kernel) ?_
          refine x_add hx hb dL_law_1121 ?_
          refine lv_istore (lv' := [(19, .int (nI ((fA σ u + fB σ u v) + 0))), (22, .int (nI (bP (fitP σ u v)))), (21, .int (nI v)), (20, .int (nI u)), (18, .int (nI (tN σ (c2 σ) u + c2 σ u))), (17, .int (nI (thr σ u + 1))), (15, .long (dig σ)), (4, .int (nI (qn σ))), (3, .int X), (2, .int (nI t)), (1, .ref bs), (0, .ref sb)]) hx hb dL_law_1122 hl (by decide) rfl (fun ls hl => ?_)
          refine lv_iload hx hb dL_law_1124 (lv_at hl 1 rfl) ?_
          refine x_ifeq hx hb (by omega) (tgt := 1177) dL_law_1126 (by decide) (fun c_8 => ?_) (fun c_8 => ?_)
          · skip
            refine x_iinc (n := 1) (lv' := [(21, .int (nI (v + 1))), (19, .int (nI ((fA σ u + fB σ u v) + 0))), (22, .int (nI (bP (fitP σ u v)))), (20, .int (nI u)), (18, .int (nI (tN σ (c2 σ) u + c2 σ u))), (17, .int (nI (thr σ u + 1))), (15, .long (dig σ)), (4, .int (nI (qn σ))), (3, .int X), (2, .int (nI t)), (1, .ref bs), (0, .ref sb)]) hx hb dL_law_1177 hl (k := 2) rfl (by decide) rfl (fun ls hl => ?_)
            refine lv_goto (tgt := 1092) hx hb dL_law_1180 (by decide) ?_
            rw [show fA σ u + fB σ u v + 0 = fA σ u + fB σ u (v + 1) by rw [fB_s]; omega] at hl
            exact ihv (v + 1) (by omega) (by omega) ls (lv_sub hl [0, 3, 1, 4, 5, 6, 7, 8, 9, 10, 11] rfl)
          · skip
            exact False.elim (by omega)
        · skip
          have hf := bP_1 c_7
          obtain ⟨ee, hee, e5⟩ : ∃ ee : Nat, ee ≤ 20 ∧ qE σ u = nI ee := by
            rcases hJ.2.2.2.2 u (by omega) with h9 | h9
            · exact absurd h9 hf.2.2.2.1
            · exact h9
          refine lv_iconst (v := nI 1) hx hb dL_law_1116 (by decide +kernel) ?_
          refine lv_goto (tgt := 1121) hx hb dL_law_1117 (by decide) ?_
          refine x_add hx hb dL_law_1121 ?_
          refine lv_istore (lv' := [(19, .int (nI ((fA σ u + fB σ u v) + 1))), (22, .int (nI (bP (fitP σ u v)))), (21, .int (nI v)), (20, .int (nI u)), (18, .int (nI (tN σ (c2 σ) u + c2 σ u))), (17, .int (nI (thr σ u + 1))), (15, .long (dig σ)), (4, .int (nI (qn σ))), (3, .int X), (2, .int (nI t)), (1, .ref bs), (0, .ref sb)]) hx hb dL_law_1122 hl (by decide) rfl (fun ls hl => ?_)
          refine lv_iload hx hb dL_law_1124 (lv_at hl 1 rfl) ?_
          refine x_ifeq hx hb (by omega) (tgt := 1177) dL_law_1126 (by decide) (fun c_9 => ?_) (fun c_9 => ?_)
          · skip
            exact False.elim (by omega)
          · skip
            refine lv_aload_n hx hb dL_law_1129 rfl (lv_at hl 10 rfl) ?_
            refine lv_iload hx hb dL_law_1130 (lv_at hl 2 rfl) ?_
            refine lv_bipush (v := nI 6) hx hb dL_law_1132 (by decide +kernel) ?_
            refine q_stick (v := .int (nI 0)) hfl S hX hlow hI hy hC (by omega) (by omega) (cwlaw_stick hts) hl.1 (Nat.le_of_ble_eq_true rfl) dL_law_1134 ⟨by show _ ≤ 600104; omega, by show _ ≤ 7301314; omega⟩ (congrArg Value.int (congrArg nI hf.2.2.1)) ?_
            refine W.eq (g2 := F0 m 1137 ls [.int (nI 0)]) rfl ?_
            refine lv_iconst (v := nI 1) hx hb dL_law_1137 (by decide +kernel) ?_
            refine x_iceq hx hb (by omega) (by omega) (tgt := 1175) dL_law_1138 (by decide) (fun c_10 => absurd c_10 (by decide)) (fun c_10 => ?_)
            refine lv_iload hx hb dL_law_1141 (lv_at hl 3 rfl) ?_
            refine lv_iload hx hb dL_law_1143 (lv_at hl 2 rfl) ?_
            refine x_iceq hx hb (by omega) (by omega) (tgt := 1175) dL_law_1145 (by decide) (fun c_11 => ?_) (fun c_11 => ?_)
            · skip
              exact absurd c_11 hf.1
            · skip
              refine lv_aload_n hx hb dL_law_1148 rfl (lv_at hl 10 rfl) ?_
              refine lv_iload hx hb dL_law_1149 (lv_at hl 3 rfl) ?_
              refine lv_iconst (v := nI 5) hx hb dL_law_1151 (by decide +kernel) ?_
              refine q_stick (v := .int (nI ee)) hfl S hX hlow hI hy hC (by omega) (by omega) (cwlaw_stick hts) hl.1 (Nat.le_of_ble_eq_true rfl) dL_law_1152 ⟨by show _ ≤ 600104; omega, by show _ ≤ 7301314; omega⟩ (congrArg Value.int (e5)) ?_
              refine W.eq (g2 := F0 m 1155 ls [.int (nI ee)]) rfl ?_
              refine lv_aload_n hx hb dL_law_1155 rfl (lv_at hl 10 rfl) ?_
              refine lv_iload hx hb dL_law_1156 (lv_at hl 2 rfl) ?_
              refine lv_iconst (v := nI 4) hx hb dL_law_1158 (by decide +kernel) ?_
              refine q_stick (v := .int (nI ee)) hfl S hX hlow hI hy hC (by omega) (by omega) (cwlaw_stick hts) hl.1 (Nat.le_of_ble_eq_true rfl) dL_law_1159 ⟨by show _ ≤ 600104; omega, by show _ ≤ 7301314; omega⟩ (congrArg Value.int (hf.2.2.2.2.symm.trans e5)) ?_
              refine W.eq (g2 := F0 m 1162 ls [.int (nI ee), .int (nI ee)]) rfl ?_
              refine x_icne hx hb (by omega) (by omega) (tgt := 1175) dL_law_1162 (by decide) (fun c_12 => ?_) (fun c_12 => ?_)
              · skip
                exact False.elim (by omega)
              · skip
                refine lv_aload_n hx hb dL_law_1165 rfl (lv_at hl 10 rfl) ?_
                refine lv_iload hx hb dL_law_1166 (lv_at hl 3 rfl) ?_
                refine lv_iconst (v := nI 5) hx hb dL_law_1168 (by decide +kernel) ?_
                refine q_stick (v := .int (nI ee)) hfl S hX hlow hI hy hC (by omega) (by omega) (cwlaw_stick hts) hl.1 (Nat.le_of_ble_eq_true rfl) dL_law_1169 ⟨by show _ ≤ 600104; omega, by show _ ≤ 7301314; omega⟩ (congrArg Value.int (e5)) ?_
                refine W.eq (g2 := F0 m 1172 ls [.int (nI ee)]) rfl ?_
                refine x_ifge hx hb (by omega) (tgt := 1177) dL_law_1172 (by decide) ?_
                refine x_iinc (n := 1) (lv' := [(21, .int (nI (v + 1))), (19, .int (nI ((fA σ u + fB σ u v) + 1))), (22, .int (nI (bP (fitP σ u v)))), (20, .int (nI u)), (18, .int (nI (tN σ (c2 σ) u + c2 σ u))), (17, .int (nI (thr σ u + 1))), (15, .long (dig σ)), (4, .int (nI (qn σ))), (3, .int X), (2, .int (nI t)), (1, .ref bs), (0, .ref sb)]) hx hb dL_law_1177 hl (k := 2) rfl (by decide) rfl (fun ls hl => ?_)
                refine lv_goto (tgt := 1092) hx hb dL_law_1180 (by decide) ?_
                rw [show fA σ u + fB σ u v + 1 = fA σ u + fB σ u (v + 1) by rw [fB_s]; omega] at hl
                exact ihv (v + 1) (by omega) (by omega) ls (lv_sub hl [0, 3, 1, 4, 5, 6, 7, 8, 9, 10, 11] rfl)
    · skip
      refine lv_goto (tgt := 1232) hx hb dL_law_1071 (by decide) ?_
      have hp0 : 0 < qg σ u := by omega
      refine x_iinc (n := 1) (lv' := [(20, .int (nI (u + 1))), (19, .int (nI (fA σ u))), (18, .int (nI (tN σ (c2 σ) u))), (17, .int (nI (thr σ u))), (15, .long (dig σ)), (4, .int (nI (qn σ))), (3, .int X), (2, .int (nI t)), (1, .ref bs), (0, .ref sb)]) hx hb dL_law_1232 hl (k := 0) rfl (by decide) rfl (fun ls hl => ?_)
      refine lv_goto (tgt := 1052) hx hb dL_law_1235 (by decide) ?_
      have e1 : fA σ u = fA σ (u + 1) := by rw [fA_s, fB_gone hp0, Nat.add_zero]
      rw [e1, ← tN_n (g := c2 σ) hp0, ← thr_n hp0] at hl
      exact ih (u + 1) (by omega) (by omega) ls hl
