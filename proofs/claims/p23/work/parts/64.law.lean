set_option maxRecDepth 100000 in
theorem gAE0 : GoodIn (va_wsS RL 79 yAE wsAE) (va_wsS RL 79 yAE wsAE) := goodIn_sub (fun _ h => h) (by decide +kernel)
theorem cwlaw_AE {s : State} {args : Array Value} (hts : ∀ w ∈ va_wsS RL 79 yAE wsAE, w.before args s = true) : CallB room_1 s args RL 79 yAE cJ7_equals_bbcde 3 (some .boolean) wsAE ({ frames := 4, cells := 0, slots := 0, locals := 109 }) 0 0 2 ∧ (Cond.static yAE).before args s = true := va_cwS 2 hts gAE0 rfl rfl rfl (by decide +kernel) ⟨Nat.le_of_ble_eq_true rfl, Nat.le_of_ble_eq_true rfl⟩
theorem cwlaw_L_sticks {s : State} {args : Array Value} (hts : ∀ w ∈ wsL_law, w.before args s = true) : CallB room_1 s args RL 53 yL_sticks cL_sticks 9 (some (.object "RuneSticks")) wsL_sticks rmK 900 10200 1 ∧ (Cond.static yL_sticks).before args s = true := va_cwS 1 hts gL_law_L_sticks rfl rfl rfl (by decide +kernel) ⟨Nat.le_of_ble_eq_true rfl, Nat.le_of_ble_eq_true rfl⟩
set_option maxHeartbeats 8000000 in
set_option maxRecDepth 100000 in
theorem law_B {p : Program} {l : Launch} {e : Env} {s : State} {m : MethodId} {args : Array Value} {below : List Frame} {meth : Method} {c : Code} {H : Heap} {locs : List Loc} {Q : State → Prop} {Γ : GG} {bs sb L C0 S0 : Nat} {xs : Nat → Int32} {σ : St} {ad : Nat → Nat} {t g ig wa : Nat} {X : Int32} {f0 : Nat → Int32}
    (hfl : l.stackTraces = false) (S : CallFix p m c cL_law 26 s args wsL_law RL) (hX : xW Γ bs sb L xs s) (hC0 : C0 + 100 ≤ 600104) (hS0 : S0 + 1500 ≤ 7301314) (hLI : LI Γ bs s σ ad H locs) (hAE : ∀ w ∈ va_wsS RL 79 yAE wsAE, w.before args s = true) (hig : ig ≤ 1) (hg : g < qn σ) (hwA : Ai Γ wa 60 f0 H) (hf0 : 0 < ig → ∀ i, i < 60 → f0 i = tv σ g i)
    (k : ∀ (H1 : Heap) (lc1 : List Loc), LI Γ bs s σ ad H1 lc1 → ∀ ls : Array Slot, lv_has ls 26 [(3, .int X), (2, .int (nI t)), (1, .ref bs), (0, .ref sb)] → W p l e room_1 s m args below meth c H1 lc1 (C0 + 3) (S0 + 72) Q (F0 m 1027 ls []))
    (ls : Array Slot) (hl : lv_has ls 26 [(9, .int (nI ig)), (8, .ref wa), (7, .int (nI g)), (3, .int X), (2, .int (nI t)), (1, .ref bs), (0, .ref sb)]) : W p l e room_1 s m args below meth c H locs C0 S0 Q (F0 m 1006 ls []) := by
  obtain ⟨hx, hb, hml, hown, hts⟩ := id S
  obtain ⟨hI, hJ, hy, hC, hlo, hb9, hlow⟩ := id hLI
  have h40 := hI.1
  have h1n := hJ.1
  have hth12 : thr σ (qn σ) ≤ 12 := hI.2.2.2.2.2.2
  refine lv_iload hx hb dL_law_1006 (lv_at hl 0 rfl) ?_
  refine x_ifeq hx hb (by omega) (tgt := 1027) dL_law_1008 (by decide) (fun c_1 => ?_) (fun c_1 => ?_)
  · skip
    refine W.widen (k := C0 + 3) (n := S0 + 72) (by omega) (by omega) ?_
    exact k H locs hLI ls (lv_sub hl [3, 4, 5, 6] rfl)
  · skip
    refine lv_aload_n hx hb dL_law_1011 rfl (lv_at hl 5 rfl) ?_
    refine lv_iload hx hb dL_law_1012 (lv_at hl 2 rfl) ?_
    refine l_S (rest := []) S hX hlow (c_L_told l hfl Γ bs sb L xs bs σ ad hI (bs + 2) g hg hy (Nat.le_refl _) (Nat.le_refl _)) (cwlaw_L_told hts) ⟨hC, hb9⟩ rfl hl.1 rfl (Nat.le_of_ble_eq_true rfl) dL_law_1014 ⟨by show _ ≤ 600104; omega, by show _ ≤ 7301314; omega⟩ hlo (fun v H3 lc3 hp hlo3 => ?_)
    obtain ⟨rfl, hz3, hA3, ho3⟩ := hp
    obtain ⟨w2, hw2⟩ : ∃ z : Nat, H.size = z := ⟨_, rfl⟩
    rw [hw2] at hz3 hA3
    have hww : wa < H.size := hwA.lt
    have hwB : Ai Γ wa 60 (tv σ g) H3 := (hwA.kept (ho3 _ hww)).ext (hf0 (by omega))
    have hLI3 : LI Γ bs s σ ad H3 lc3 := hLI.same (by omega) ho3 hlo3
    have hlow3 := hLI3.2.2.2.2.2.2
    refine W.eq (g2 := F0 m 1017 ls [.ref (H.size)]) rfl ?_
    refine x_v (congrArg Value.ref hw2) ?_
    refine lv_aload hx hb dL_law_1017 (lv_at hl 1 rfl) ?_
    refine l_Sq (v0 := some (.int (nI 1))) (rest := []) S hX hlow3 (c_AE l Γ bs sb L xs w2 wa (tv σ g) (by omega)) (cwlaw_AE hAE) ⟨hA3, hwB⟩ rfl hl.1 rfl (Nat.le_of_ble_eq_true rfl) dL_law_1019 ⟨by show _ ≤ 600104; omega, by show _ ≤ 7301314; omega⟩ (fun v H1 h => h) ?_
    refine W.eq (g2 := F0 m 1022 ls [.int (nI 1)]) rfl ?_
    refine x_ifne hx hb (by omega) (tgt := 1027) dL_law_1022 (by decide) (fun c_2 => ?_) (fun c_2 => absurd c_2 (by decide))
    refine W.widen (k := C0 + 3) (n := S0 + 72) (by omega) (by omega) ?_
    exact k H3 lc3 hLI3 ls (lv_sub hl [3, 4, 5, 6] rfl)
set_option maxHeartbeats 8000000 in
set_option maxRecDepth 100000 in
theorem law_A {p : Program} {l : Launch} {e : Env} {s : State} {m : MethodId} {args : Array Value} {below : List Frame} {meth : Method} {c : Code} {H : Heap} {locs : List Loc} {Q : State → Prop} {Γ : GG} {bs sb L C0 S0 : Nat} {xs : Nat → Int32} {σ : St} {ad : Nat → Nat} {t : Nat}
    (hfl : l.stackTraces = false) (S : CallFix p m c cL_law 26 s args wsL_law RL) (hX : xW Γ bs sb L xs s) (hC0 : C0 + 100 ≤ 600104) (hS0 : S0 + 1500 ≤ 7301314) (hLI : LI Γ bs s σ ad H locs) (ht : t < 24)
    (k : ∀ (X : Int32) (a b g ig wa β z : Nat) (H1 : Heap) (lc1 : List Loc), LI Γ bs s σ ad H1 lc1 → a < qn σ → qg σ a = 0 → b < qn σ → g < qn σ → qb σ = nI β → 2 * β ≤ qn σ → (∀ i, i < qn σ → ad i + 4 ≤ wa) → bs + 2 ≤ wa → Ai Γ wa 60 (tv σ g) H1 → ig ≤ 1 → (0 < ig → qg σ g = 1) → z < 5 → ∀ ls : Array Slot, lv_has ls 26 [(15, .long (dig σ)), (14, .int (nI (tN σ (qp σ) (qn σ)))), (13, .int (nI (tN σ (c4 σ) (qn σ)))), (12, .int (nI β)), (11, .int (nI (tN σ (c2 σ) (qn σ)))), (10, .int (nI (thr σ (qn σ)))), (9, .int (nI ig)), (8, .ref wa), (7, .int (nI g)), (6, .int (nI b)), (5, .int (nI a)), (4, .int (nI (qn σ))), (3, .int X), (2, .int (nI t)), (1, .ref bs), (0, .ref sb)] → W p l e room_1 s m args below meth c H1 lc1 (C0 + 3) (S0 + 72) Q (F0 m 159 ls [.int (nI z)]))
    (ls : Array Slot) (hl : lv_has ls 26 [(2, .int (nI t)), (1, .ref bs), (0, .ref sb)]) : W p l e room_1 s m args below meth c H locs C0 S0 Q (F0 m 13 ls []) := by
  obtain ⟨hx, hb, hml, hown, hts⟩ := id S
  obtain ⟨hI, hJ, hy, hC, hlo, hb9, hlow⟩ := id hLI
  have h40 := hI.1
  have h1n := hJ.1
  have hth12 : thr σ (qn σ) ≤ 12 := hI.2.2.2.2.2.2
  refine lv_aload_n hx hb dL_law_13 rfl (lv_at hl 2 rfl) ?_
  refine lv_iload_n hx hb dL_law_14 rfl (lv_at hl 0 rfl) ?_
  refine lv_bipush (v := nI 16) hx hb dL_law_15 (by decide +kernel) ?_
  refine x_rem hx hb (by omega) (by omega) (by omega) dL_law_17 ?_
  refine l_Sq (v0 := some (.int (cl L xs (t % 16)))) (rest := []) S hX hlow (c_L_cell l Γ bs sb L xs (t % 16) (by omega)) (cwlaw_L_cell hts) trivial rfl hl.1 rfl (Nat.le_of_ble_eq_true rfl) dL_law_18 ⟨by show _ ≤ 600104; omega, by show _ ≤ 7301314; omega⟩ (fun v H1 h => h) ?_
  refine W.eq (g2 := F0 m 21 ls [.int (cl L xs (t % 16))]) rfl ?_
  refine lv_iload_n hx hb dL_law_21 rfl (lv_at hl 0 rfl) ?_
  refine lv_bipush (v := nI 16) hx hb dL_law_22 (by decide +kernel) ?_
  refine x_div hx hb (by omega) (by omega) (by omega) dL_law_24 ?_
  refine lv_bipush (v := nI 6) hx hb dL_law_25 (by decide +kernel) ?_
  refine x_mul hx hb dL_law_27 ?_
  refine lv_ishr hx hb dL_law_28 ?_
  obtain ⟨X, eX⟩ : ∃ z : Int32, (cl L xs (t % 16)) >>> ((nI ((t / 16) * 6)) &&& 31) = z := ⟨_, rfl⟩
  refine x_e eX ?_
  clear eX
  refine lv_istore_n (lv' := [(3, .int X), (2, .int (nI t)), (1, .ref bs), (0, .ref sb)]) hx hb dL_law_29 rfl hl (by decide) rfl (fun ls hl => ?_)
  refine lv_aload_n hx hb dL_law_30 rfl (lv_at hl 2 rfl) ?_
  refine lv_iconst (v := nI 1) hx hb dL_law_31 (by decide +kernel) ?_
  refine q_count (v := .int (nI (qn σ))) hfl S hX hlow hI hy hC (by omega) (cwlaw_count hts) hl.1 (Nat.le_of_ble_eq_true rfl) dL_law_32 ⟨by show _ ≤ 600104; omega, by show _ ≤ 7301314; omega⟩ (congrArg Value.int (tot_1 σ)) ?_
  refine W.eq (g2 := F0 m 35 ls [.int (nI (qn σ))]) rfl ?_
  refine lv_istore (lv' := [(4, .int (nI (qn σ))), (3, .int X), (2, .int (nI t)), (1, .ref bs), (0, .ref sb)]) hx hb dL_law_35 hl (by decide) rfl (fun ls hl => ?_)
  refine lv_iload_n hx hb dL_law_37 rfl (lv_at hl 1 rfl) ?_
  refine lv_iconst (v := nI 3) hx hb dL_law_38 (by decide +kernel) ?_
  refine lv_ishr hx hb dL_law_39 ?_
  refine lv_iload hx hb dL_law_40 (lv_at hl 0 rfl) ?_
  refine ro_S (rest := []) S hX.1 (c_L_below l Γ (X >>> ((nI 3) &&& 31)) (qn σ) (by omega) (by omega)) (cwlaw_L_below hts) trivial rfl hl.1 rfl (Nat.le_of_ble_eq_true rfl) dL_law_42 ⟨by show _ ≤ 600104; omega, by show _ ≤ 7301314; omega⟩ ?_
  refine W.eq (g2 := F0 m 45 ls [.int (nI (bl (X >>> ((nI 3) &&& 31)) (qn σ)))]) rfl ?_
  obtain ⟨b_1, hb_1, eb_1⟩ : ∃ z : Nat, z < qn σ ∧ bl (X >>> ((nI 3) &&& 31)) (qn σ) = z := ⟨_, bl_lt _ (by omega), rfl⟩
  refine x_e (show nI (bl (X >>> ((nI 3) &&& 31)) (qn σ)) = nI b_1 by rw [eb_1]) ?_
  clear eb_1
  refine lv_istore (lv' := [(5, .int (nI b_1)), (4, .int (nI (qn σ))), (3, .int X), (2, .int (nI t)), (1, .ref bs), (0, .ref sb)]) hx hb dL_law_45 hl (by decide) rfl (fun ls hl => ?_)
  refine lv_iload_n hx hb dL_law_47 rfl (lv_at hl 2 rfl) ?_
  refine lv_iconst (v := nI 5) hx hb dL_law_48 (by decide +kernel) ?_
  refine lv_ishr hx hb dL_law_49 ?_
  refine lv_iload hx hb dL_law_50 (lv_at hl 1 rfl) ?_
  refine ro_S (rest := []) S hX.1 (c_L_below l Γ (X >>> ((nI 5) &&& 31)) (qn σ) (by omega) (by omega)) (cwlaw_L_below hts) trivial rfl hl.1 rfl (Nat.le_of_ble_eq_true rfl) dL_law_52 ⟨by show _ ≤ 600104; omega, by show _ ≤ 7301314; omega⟩ ?_
  refine W.eq (g2 := F0 m 55 ls [.int (nI (bl (X >>> ((nI 5) &&& 31)) (qn σ)))]) rfl ?_
  obtain ⟨b_2, hb_2, eb_2⟩ : ∃ z : Nat, z < qn σ ∧ bl (X >>> ((nI 5) &&& 31)) (qn σ) = z := ⟨_, bl_lt _ (by omega), rfl⟩
  refine x_e (show nI (bl (X >>> ((nI 5) &&& 31)) (qn σ)) = nI b_2 by rw [eb_2]) ?_
  clear eb_2
  refine lv_istore (lv' := [(6, .int (nI b_2)), (5, .int (nI b_1)), (4, .int (nI (qn σ))), (3, .int X), (2, .int (nI t)), (1, .ref bs), (0, .ref sb)]) hx hb dL_law_55 hl (by decide) rfl (fun ls hl => ?_)
  refine lv_aload_n hx hb dL_law_57 rfl (lv_at hl 5 rfl) ?_
  refine lv_iload hx hb dL_law_58 (lv_at hl 1 rfl) ?_
  refine lv_bipush (v := nI 6) hx hb dL_law_60 (by decide +kernel) ?_
  refine q_stick (v := .int (nI (qg σ b_1))) hfl S hX hlow hI hy hC hb_1 (by omega) (cwlaw_stick hts) hl.1 (Nat.le_of_ble_eq_true rfl) dL_law_62 ⟨by show _ ≤ 600104; omega, by show _ ≤ 7301314; omega⟩ (rfl) ?_
  refine W.eq (g2 := F0 m 65 ls [.int (nI (qg σ b_1))]) rfl ?_
  have hqa := (hI.2.1 b_1 hb_1).2.2.2
  have key : ∀ a : Nat, a < qn σ → qg σ a = 0 → ∀ ls : Array Slot, lv_has ls 26 [(6, .int (nI b_2)), (5, .int (nI a)), (4, .int (nI (qn σ))), (3, .int X), (2, .int (nI t)), (1, .ref bs), (0, .ref sb)] → W p l e room_1 s m args below meth c H locs C0 S0 Q (F0 m 75 ls []) := by
    clear hl ls
    intro a ha hga ls hl
    refine lv_iload_n hx hb dL_law_75 rfl (lv_at hl 3 rfl) ?_
    refine lv_bipush (v := nI 7) hx hb dL_law_76 (by decide +kernel) ?_
    refine lv_ishr hx hb dL_law_78 ?_
    refine lv_iload hx hb dL_law_79 (lv_at hl 2 rfl) ?_
    refine ro_S (rest := []) S hX.1 (c_L_below l Γ (X >>> ((nI 7) &&& 31)) (qn σ) (by omega) (by omega)) (cwlaw_L_below hts) trivial rfl hl.1 rfl (Nat.le_of_ble_eq_true rfl) dL_law_81 ⟨by show _ ≤ 600104; omega, by show _ ≤ 7301314; omega⟩ ?_
    refine W.eq (g2 := F0 m 84 ls [.int (nI (bl (X >>> ((nI 7) &&& 31)) (qn σ)))]) rfl ?_
    obtain ⟨b_51, hb_51, eb_51⟩ : ∃ z : Nat, z < qn σ ∧ bl (X >>> ((nI 7) &&& 31)) (qn σ) = z := ⟨_, bl_lt _ (by omega), rfl⟩
    refine x_e (show nI (bl (X >>> ((nI 7) &&& 31)) (qn σ)) = nI b_51 by rw [eb_51]) ?_
    clear eb_51
    refine lv_istore (lv' := [(7, .int (nI b_51)), (6, .int (nI b_2)), (5, .int (nI a)), (4, .int (nI (qn σ))), (3, .int X), (2, .int (nI t)), (1, .ref bs), (0, .ref sb)]) hx hb dL_law_84 hl (by decide) rfl (fun ls hl => ?_)
    refine lv_aload_n hx hb dL_law_86 rfl (lv_at hl 6 rfl) ?_
    refine lv_iload hx hb dL_law_87 (lv_at hl 0 rfl) ?_
    refine l_S (rest := []) S hX hlow (c_L_told l hfl Γ bs sb L xs bs σ ad hI (bs + 2) b_51 hb_51 hy (Nat.le_refl _) (Nat.le_refl _)) (cwlaw_L_told hts) ⟨hC, hb9⟩ rfl hl.1 rfl (Nat.le_of_ble_eq_true rfl) dL_law_89 ⟨by show _ ≤ 600104; omega, by show _ ≤ 7301314; omega⟩ hlo (fun v H3 lc3 hp hlo3 => ?_)
    obtain ⟨rfl, hz3, hA3, ho3⟩ := hp
    have hwa : ∀ i, i < qn σ → ad i + 4 ≤ H.size := fun i hi => by have := hC.lt hi; omega
    obtain ⟨wa, hw2⟩ : ∃ z : Nat, H.size = z := ⟨_, rfl⟩
    rw [hw2] at hz3 hA3 hwa hb9
    have hLI3 : LI Γ bs s σ ad H3 lc3 := hLI.same (by omega) ho3 hlo3
    refine W.eq (g2 := F0 m 92 ls [.ref (H.size)]) rfl ?_
    refine x_v (congrArg Value.ref hw2) ?_
    obtain ⟨hI3, hJ3, hy3, hC3, hlo3, hb3, hlow3⟩ := id hLI3
    refine lv_astore (lv' := [(8, .ref wa), (7, .int (nI b_51)), (6, .int (nI b_2)), (5, .int (nI a)), (4, .int (nI (qn σ))), (3, .int X), (2, .int (nI t)), (1, .ref bs), (0, .ref sb)]) hx hb dL_law_92 hl (by decide) rfl (fun ls hl => ?_)
    refine lv_aload_n hx hb dL_law_94 rfl (lv_at hl 7 rfl) ?_
    refine lv_iload hx hb dL_law_95 (lv_at hl 1 rfl) ?_
    refine lv_bipush (v := nI 6) hx hb dL_law_97 (by decide +kernel) ?_
    refine q_stick (v := .int (nI (qg σ b_51))) hfl S hX hlow3 hI3 hy3 hC3 hb_51 (by omega) (cwlaw_stick hts) hl.1 (Nat.le_of_ble_eq_true rfl) dL_law_99 ⟨by show _ ≤ 600104; omega, by show _ ≤ 7301314; omega⟩ (rfl) ?_
    refine W.eq (g2 := F0 m 102 ls [.int (nI (qg σ b_51))]) rfl ?_
    have hqg := (hI.2.1 b_51 hb_51).2.2.2
    have key2 : ∀ ig : Nat, ig ≤ 1 → (0 < ig → qg σ b_51 = 1) → ∀ ls : Array Slot, lv_has ls 26 [(8, .ref wa), (7, .int (nI b_51)), (6, .int (nI b_2)), (5, .int (nI a)), (4, .int (nI (qn σ))), (3, .int X), (2, .int (nI t)), (1, .ref bs), (0, .ref sb)] → W p l e room_1 s m args below meth c H3 lc3 (C0 + 3) (S0 + 72) Q (F0 m 111 ls [.int (nI ig)]) := by
      clear hl ls
      intro ig hig hig2 ls hl
      obtain ⟨β, hβ, hβ2⟩ := hJ.2.2.2.1
      refine lv_istore (lv' := [(9, .int (nI ig)), (8, .ref wa), (7, .int (nI b_51)), (6, .int (nI b_2)), (5, .int (nI a)), (4, .int (nI (qn σ))), (3, .int X), (2, .int (nI t)), (1, .ref bs), (0, .ref sb)]) hx hb dL_law_111 hl (by decide) rfl (fun ls hl => ?_)
      refine lv_aload_n hx hb dL_law_113 rfl (lv_at hl 8 rfl) ?_
      refine lv_iconst (v := nI 0) hx hb dL_law_114 (by decide +kernel) ?_
      refine q_count (v := .int (nI (thr σ (qn σ)))) hfl S hX hlow3 hI3 hy3 hC3 (by omega) (cwlaw_count hts) hl.1 (Nat.le_of_ble_eq_true rfl) dL_law_115 ⟨by show _ ≤ 600104; omega, by show _ ≤ 7301314; omega⟩ (congrArg Value.int (tot_0 σ)) ?_
      refine W.eq (g2 := F0 m 118 ls [.int (nI (thr σ (qn σ)))]) rfl ?_
      refine lv_istore (lv' := [(10, .int (nI (thr σ (qn σ)))), (9, .int (nI ig)), (8, .ref wa), (7, .int (nI b_51)), (6, .int (nI b_2)), (5, .int (nI a)), (4, .int (nI (qn σ))), (3, .int X), (2, .int (nI t)), (1, .ref bs), (0, .ref sb)]) hx hb dL_law_118 hl (by decide) rfl (fun ls hl => ?_)
      refine lv_aload_n hx hb dL_law_120 rfl (lv_at hl 9 rfl) ?_
      refine lv_iconst (v := nI 2) hx hb dL_law_121 (by decide +kernel) ?_
      refine q_count (v := .int (nI (tN σ (c2 σ) (qn σ)))) hfl S hX hlow3 hI3 hy3 hC3 (by omega) (cwlaw_count hts) hl.1 (Nat.le_of_ble_eq_true rfl) dL_law_122 ⟨by show _ ≤ 600104; omega, by show _ ≤ 7301314; omega⟩ (congrArg Value.int (tot_2 σ)) ?_
      refine W.eq (g2 := F0 m 125 ls [.int (nI (tN σ (c2 σ) (qn σ)))]) rfl ?_
      refine lv_istore (lv' := [(11, .int (nI (tN σ (c2 σ) (qn σ)))), (10, .int (nI (thr σ (qn σ)))), (9, .int (nI ig)), (8, .ref wa), (7, .int (nI b_51)), (6, .int (nI b_2)), (5, .int (nI a)), (4, .int (nI (qn σ))), (3, .int X), (2, .int (nI t)), (1, .ref bs), (0, .ref sb)]) hx hb dL_law_125 hl (by decide) rfl (fun ls hl => ?_)
      refine lv_aload_n hx hb dL_law_127 rfl (lv_at hl 10 rfl) ?_
      refine lv_iconst (v := nI 3) hx hb dL_law_128 (by decide +kernel) ?_
      refine q_count (v := .int (nI β)) hfl S hX hlow3 hI3 hy3 hC3 (by omega) (cwlaw_count hts) hl.1 (Nat.le_of_ble_eq_true rfl) dL_law_129 ⟨by show _ ≤ 600104; omega, by show _ ≤ 7301314; omega⟩ (congrArg Value.int (hβ)) ?_
      refine W.eq (g2 := F0 m 132 ls [.int (nI β)]) rfl ?_
      refine lv_istore (lv' := [(12, .int (nI β)), (11, .int (nI (tN σ (c2 σ) (qn σ)))), (10, .int (nI (thr σ (qn σ)))), (9, .int (nI ig)), (8, .ref wa), (7, .int (nI b_51)), (6, .int (nI b_2)), (5, .int (nI a)), (4, .int (nI (qn σ))), (3, .int X), (2, .int (nI t)), (1, .ref bs), (0, .ref sb)]) hx hb dL_law_132 hl (by decide) rfl (fun ls hl => ?_)
      refine lv_aload_n hx hb dL_law_134 rfl (lv_at hl 11 rfl) ?_
      refine lv_iconst (v := nI 4) hx hb dL_law_135 (by decide +kernel) ?_
      refine q_count (v := .int (nI (tN σ (c4 σ) (qn σ)))) hfl S hX hlow3 hI3 hy3 hC3 (by omega) (cwlaw_count hts) hl.1 (Nat.le_of_ble_eq_true rfl) dL_law_136 ⟨by show _ ≤ 600104; omega, by show _ ≤ 7301314; omega⟩ (congrArg Value.int (tot_4 σ)) ?_
      refine W.eq (g2 := F0 m 139 ls [.int (nI (tN σ (c4 σ) (qn σ)))]) rfl ?_
      refine lv_istore (lv' := [(13, .int (nI (tN σ (c4 σ) (qn σ)))), (12, .int (nI β)), (11, .int (nI (tN σ (c2 σ) (qn σ)))), (10, .int (nI (thr σ (qn σ)))), (9, .int (nI ig)), (8, .ref wa), (7, .int (nI b_51)), (6, .int (nI b_2)), (5, .int (nI a)), (4, .int (nI (qn σ))), (3, .int X), (2, .int (nI t)), (1, .ref bs), (0, .ref sb)]) hx hb dL_law_139 hl (by decide) rfl (fun ls hl => ?_)
      refine lv_aload_n hx hb dL_law_141 rfl (lv_at hl 12 rfl) ?_
      refine lv_iconst (v := nI 5) hx hb dL_law_142 (by decide +kernel) ?_
      refine q_count (v := .int (nI (tN σ (qp σ) (qn σ)))) hfl S hX hlow3 hI3 hy3 hC3 (by omega) (cwlaw_count hts) hl.1 (Nat.le_of_ble_eq_true rfl) dL_law_143 ⟨by show _ ≤ 600104; omega, by show _ ≤ 7301314; omega⟩ (congrArg Value.int (tot_5 σ)) ?_
      refine W.eq (g2 := F0 m 146 ls [.int (nI (tN σ (qp σ) (qn σ)))]) rfl ?_
      refine lv_istore (lv' := [(14, .int (nI (tN σ (qp σ) (qn σ)))), (13, .int (nI (tN σ (c4 σ) (qn σ)))), (12, .int (nI β)), (11, .int (nI (tN σ (c2 σ) (qn σ)))), (10, .int (nI (thr σ (qn σ)))), (9, .int (nI ig)), (8, .ref wa), (7, .int (nI b_51)), (6, .int (nI b_2)), (5, .int (nI a)), (4, .int (nI (qn σ))), (3, .int X), (2, .int (nI t)), (1, .ref bs), (0, .ref sb)]) hx hb dL_law_146 hl (by decide) rfl (fun ls hl => ?_)
      refine lv_aload_n hx hb dL_law_148 rfl (lv_at hl 13 rfl) ?_
      refine ro_V (rest := []) S hX.1 (c_X1_digest l Γ bs σ ad hI3 (bs + 2) hy3) (cwlaw_digest hts) (Ob.recv hX.1 hC3.1 rfl) hC3 rfl hl.1 rfl (Nat.le_of_ble_eq_true rfl) dL_law_149 ⟨by show _ ≤ 600104; omega, by show _ ≤ 7301314; omega⟩ ?_
      refine W.eq (g2 := F0 m 152 ls [.long (dig σ)]) rfl ?_
      refine lv_lstore (lv' := [(15, .long (dig σ)), (14, .int (nI (tN σ (qp σ) (qn σ)))), (13, .int (nI (tN σ (c4 σ) (qn σ)))), (12, .int (nI β)), (11, .int (nI (tN σ (c2 σ) (qn σ)))), (10, .int (nI (thr σ (qn σ)))), (9, .int (nI ig)), (8, .ref wa), (7, .int (nI b_51)), (6, .int (nI b_2)), (5, .int (nI a)), (4, .int (nI (qn σ))), (3, .int X), (2, .int (nI t)), (1, .ref bs), (0, .ref sb)]) hx hb dL_law_152 hl (by decide) rfl (fun ls hl => ?_)
      refine lv_iload_n hx hb dL_law_154 rfl (lv_at hl 12 rfl) ?_
      refine lv_iconst (v := nI 5) hx hb dL_law_155 (by decide +kernel) ?_
      refine ro_S (rest := []) S hX.1 (c_L_below l Γ X 5 (by omega) (by omega)) (cwlaw_L_below hts) trivial rfl hl.1 rfl (Nat.le_of_ble_eq_true rfl) dL_law_156 ⟨by show _ ≤ 600104; omega, by show _ ≤ 7301314; omega⟩ ?_
      refine W.eq (g2 := F0 m 159 ls [.int (nI (bl X 5))]) rfl ?_
      obtain ⟨b_81, hb_81, eb_81⟩ : ∃ z : Nat, z < 5 ∧ bl X 5 = z := ⟨_, bl_lt _ (by omega), rfl⟩
      refine x_e (show nI (bl X 5) = nI b_81 by rw [eb_81]) ?_
      clear eb_81
      exact k X a b_2 b_51 ig wa β b_81 H3 lc3 hLI3 ha hga hb_2 hb_51 hβ hβ2 hwa hb9 hA3 hig hig2 hb_81 ls (lv_sub hl [0, 1, 2, 3, 4, 5, 6, 7, 8, 9, 10, 11, 12, 13, 14, 15] rfl)
    refine lv_iconst (v := nI 1) hx hb dL_law_102 (by decide +kernel) ?_
    refine x_icne hx hb (by omega) (by omega) (tgt := 110) dL_law_103 (by decide) (fun c_52 => ?_) (fun c_52 => ?_)
    · skip
      refine lv_iconst (v := nI 0) hx hb dL_law_110 (by decide +kernel) ?_
      exact key2 0 (by omega) (fun _ => by omega) ls (lv_sub hl [0, 1, 2, 3, 4, 5, 6, 7, 8] rfl)
    · skip
      refine lv_iconst (v := nI 1) hx hb dL_law_106 (by decide +kernel) ?_
      refine lv_goto (tgt := 111) hx hb dL_law_107 (by decide) ?_
      exact key2 1 (by omega) (fun _ => by omega) ls (lv_sub hl [0, 1, 2, 3, 4, 5, 6, 7, 8] rfl)
  refine lv_iconst (v := nI 1) hx hb dL_law_65 (by decide +kernel) ?_
  refine x_icne hx hb (by omega) (by omega) (tgt := 75) dL_law_66 (by decide) (fun c_3 => ?_) (fun c_3 => ?_)
  · skip
    exact key b_1 hb_1 (by omega) ls (lv_sub hl [0, 1, 2, 3, 4, 5, 6] rfl)
  · skip
    refine lv_iload hx hb dL_law_69 (lv_at hl 2 rfl) ?_
    refine lv_iconst (v := nI 1) hx hb dL_law_71 (by decide +kernel) ?_
    refine x_sub hx hb (by omega) dL_law_72 ?_
    refine lv_istore (lv' := [(5, .int (nI ((qn σ) - 1))), (6, .int (nI b_2)), (4, .int (nI (qn σ))), (3, .int X), (2, .int (nI t)), (1, .ref bs), (0, .ref sb)]) hx hb dL_law_73 hl (by decide) rfl (fun ls hl => ?_)
    exact key ((qn σ) - 1) (by omega) hJ.2.1 ls (lv_sub hl [1, 0, 2, 3, 4, 5, 6] rfl)
set_option maxHeartbeats 8000000 in
set_option maxRecDepth 100000 in
theorem law_loop {p : Program} {l : Launch} {e : Env} {s : State} {m : MethodId} {args : Array Value} {below : List Frame} {meth : Method} {c : Code} {Q : State → Prop} {Γ : GG} {bs sb L : Nat} {xs : Nat → Int32} (hfl : l.stackTraces = false) (S : CallFix p m c cL_law 26 s args wsL_law RL) (hX : xW Γ bs sb L xs s) (hAE : ∀ w ∈ va_wsS RL 79 yAE wsAE, w.before args s = true)
    (hend : ∀ (H : Heap) (locs : List Loc) (ls : Array Slot), lo bs locs → W p l e room_1 s m args below meth c H locs 600104 7301314 Q (F0 m 1547 ls []))
    (H : Heap) (locs : List Loc) (hLI : ∃ (σ : St) (ad : Nat → Nat), LI Γ bs s σ ad H locs) (ls : Array Slot) (hl : lv_has ls 26 [(2, .int (nI 0)), (1, .ref bs), (0, .ref sb)]) : W p l e room_1 s m args below meth c H locs 1000 11000 Q (F0 m 7 ls []) := by
  obtain ⟨hx, hb, hml, hown, hts⟩ := id S
  refine W.widen (k := 1000 + 20 * 0) (n := 11000 + 310 * 0) (by omega) (by omega) ?_
  refine x_loopC (fun t => [(2, .int (nI t)), (1, .ref bs), (0, .ref sb)]) (fun t H locs => t ≤ 24 ∧ ∃ (σ : St) (ad : Nat → Nat), LI Γ bs s σ ad H locs) (fun t => 1000 + 20 * t) (fun t => 11000 + 310 * t) (fun t => 24 - t) ?_ 0 ⟨Nat.zero_le _, hLI⟩ ls hl
  clear hLI hl ls H locs
  intro t H locs ht ih ls hl
  obtain ⟨ht24, σ, ad, hLI⟩ := ht
  refine lv_iload_n hx hb dL_law_7 rfl (lv_at hl 0 rfl) ?_
  refine lv_bipush (v := nI 24) hx hb dL_law_8 (by decide +kernel) ?_
  refine x_icge hx hb (by omega) (by omega) (tgt := 1547) dL_law_10 (by decide) (fun c_1 => ?_) (fun c_1 => ?_)
  · refine W.widen (k := 600104) (n := 7301314) (by omega) (by omega) ?_
    exact hend H locs ls hLI.2.2.2.2.1
  refine law_A (C0 := 1000 + 20 * t) (S0 := 11000 + 310 * t) hfl S hX (by omega) (by omega) hLI c_1 (fun X a b g ig wa β z H1 lc1 hLI1 ha hga hb_ hg hβ hβ2 hwa hwb hwA hig hig2 hz ls hl => ?_) ls hl
  have fin : ∀ (σ1 : St) (ad1 : Nat → Nat) (H2 : Heap) (lc2 : List Loc), LI Γ bs s σ1 ad1 H2 lc2 → g < qn σ1 → Ai Γ wa 60 (tv σ g) H2 → (qg σ g = 1 → Keep σ σ1 g) → ∀ ls : Array Slot, lv_has ls 26 [(9, .int (nI ig)), (8, .ref wa), (7, .int (nI g)), (3, .int X), (2, .int (nI t)), (1, .ref bs), (0, .ref sb)] → W p l e room_1 s m args below meth c H2 lc2 (1000 + 20 * t + 3 + 12) (11000 + 310 * t + 72 + 156) Q (F0 m 1006 ls []) := by
    intro σ1 ad1 H2 lc2 hLI2 hg2 hwA2 hkp ls hl
    refine law_B (C0 := 1000 + 20 * t + 3 + 12) (S0 := 11000 + 310 * t + 72 + 156) hfl S hX (by omega) (by omega) hLI2 hAE hig hg2 hwA2 (fun h9 i hi => (tv_keep (hLI1.1.2.1 g hg).2.1 (hkp (hig2 h9)) i hi).symm) (fun H3 lc3 hLI3 ls hl => ?_) ls hl
    refine law_C (C0 := 1000 + 20 * t + 3 + 12 + 3) (S0 := 11000 + 310 * t + 72 + 156 + 72) hfl S hX (by omega) (by omega) hLI3 (fun ls hl => ?_) ls hl
    refine law_D (C0 := 1000 + 20 * t + 3 + 12 + 3) (S0 := 11000 + 310 * t + 72 + 156 + 72) hfl S hX (by omega) (by omega) hLI3 (fun ls hl => ?_) ls hl
    refine law_E (C0 := 1000 + 20 * t + 3 + 12 + 3) (S0 := 11000 + 310 * t + 72 + 156 + 72) hfl S hX (by omega) (by omega) hLI3 (fun ls hl => ?_) ls hl
    refine x_iinc (n := 1) (lv' := [(2, .int (nI (t + 1))), (1, .ref bs), (0, .ref sb)]) hx hb dL_law_1541 hl (k := 0) rfl (by decide) rfl (fun ls hl => ?_)
    refine lv_goto (tgt := 7) hx hb dL_law_1544 (by decide) ?_
    refine W.widen (k := 1000 + 20 * (t + 1)) (n := 11000 + 310 * (t + 1)) (by omega) (by omega) ?_
    exact ih (t + 1) H3 lc3 ⟨by omega, σ1, ad1, hLI3⟩ (by omega) ls hl
  by_cases h_0 : z = 0
  · subst h_0
    refine lv_tableIn (off := 29) (tgt := 188) hx hb dL_law_159 (by decide +kernel) (by decide +kernel) rfl (by decide) ?_
    exact lawc_0 (C0 := 1000 + 20 * t + 3) (S0 := 11000 + 310 * t + 72) hfl S hX (by omega) (by omega) hLI1 ha hga hb_ hg hβ hβ2 hwa hwb hwA fin ls hl
  by_cases h_1 : z = 1
  · subst h_1
    refine lv_tableIn (off := 320) (tgt := 479) hx hb dL_law_159 (by decide +kernel) (by decide +kernel) rfl (by decide) ?_
    exact lawc_1 (C0 := 1000 + 20 * t + 3) (S0 := 11000 + 310 * t + 72) hfl S hX (by omega) (by omega) hLI1 ha hga hb_ hg hβ hβ2 hwa hwb hwA fin ls hl
  by_cases h_2 : z = 2
  · subst h_2
    refine lv_tableIn (off := 620) (tgt := 779) hx hb dL_law_159 (by decide +kernel) (by decide +kernel) rfl (by decide) ?_
    exact lawc_2 (C0 := 1000 + 20 * t + 3) (S0 := 11000 + 310 * t + 72) hfl S hX (by omega) (by omega) hLI1 ha hga hb_ hg hβ hβ2 hwa hwb hwA fin ls hl
  by_cases h_3 : z = 3
  · subst h_3
    refine lv_tableIn (off := 722) (tgt := 881) hx hb dL_law_159 (by decide +kernel) (by decide +kernel) rfl (by decide) ?_
    exact lawc_3 (C0 := 1000 + 20 * t + 3) (S0 := 11000 + 310 * t + 72) hfl S hX (by omega) (by omega) hLI1 ha hga hb_ hg hβ hβ2 hwa hwb hwA fin ls hl
  refine lv_tableOut (tgt := 946) hx hb dL_law_159 (Or.inr (by rw [nI_toInt (by omega)]; omega)) (by decide) ?_
  exact lawc_4 (C0 := 1000 + 20 * t + 3) (S0 := 11000 + 310 * t + 72) hfl S hX (by omega) (by omega) hLI1 ha hga hb_ hg hβ hβ2 hwa hwb hwA fin ls hl
set_option maxHeartbeats 8000000 in
set_option maxRecDepth 100000 in
theorem law_body {p : Program} {l : Launch} {e : Env} {s : State} {m : MethodId} {args : Array Value} {below : List Frame} {meth : Method} {c : Code} {Q : State → Prop} {Γ : GG} {bs sb L : Nat} {xs : Nat → Int32} (hfl : l.stackTraces = false) (S : CallFix p m c cL_law 26 s args wsL_law RL) (hX : xW Γ bs sb L xs s) (hAE : ∀ w ∈ va_wsS RL 79 yAE wsAE, w.before args s = true) (hbs : s.heap.size = bs)
    (hend : ∀ (H : Heap) (locs : List Loc) (ls : Array Slot), lo bs locs → W p l e room_1 s m args below meth c H locs 600104 7301314 Q (F0 m 1547 ls []))
    (ls : Array Slot) (hl : lv_has ls 26 [(0, .ref sb)]) : W p l e room_1 s m args below meth c s.heap [] 0 0 Q (F0 m 0 ls []) := by
  obtain ⟨hx, hb, hml, hown, hts⟩ := id S
  refine lv_aload_n hx hb dL_law_0 rfl (lv_at hl 0 rfl) ?_
  refine l_S (rest := []) S hX (fun q _ => rfl) (c_L_sticks l hfl Γ bs sb L xs) (cwlaw_L_sticks hts) hbs rfl hl.1 rfl (Nat.le_of_ble_eq_true rfl) dL_law_1 ⟨Nat.le_of_ble_eq_true rfl, Nat.le_of_ble_eq_true rfl⟩ lo.nil (fun v H1 lc1 hp hlo => ?_)
  obtain ⟨rfl, ⟨σ, ad, hI, hJ, hy, hC⟩, hb9, hlow⟩ := hp
  refine W.eq (g2 := F0 m 4 ls [.ref bs]) rfl ?_
  refine lv_astore_n (lv' := [(1, .ref bs), (0, .ref sb)]) hx hb dL_law_4 rfl hl (by decide) rfl (fun ls hl => ?_)
  refine lv_iconst (v := nI 0) hx hb dL_law_5 (by decide +kernel) ?_
  refine lv_istore_n (lv' := [(2, .int (nI 0)), (1, .ref bs), (0, .ref sb)]) hx hb dL_law_6 rfl hl (by decide) rfl (fun ls hl => ?_)
  refine W.widen (k := 1000) (n := 11000) (by omega) (by omega) ?_
  exact law_loop hfl S hX hAE hend H1 lc1 ⟨σ, ad, hI, hJ, hy, hC, hlo, hb9, hlow⟩ ls hl
