/-! a row of 60 ints is no part of a stick -/
theorem wa_ap {Γ : GG} {U : State} {x wa : Nat} {σ : St} {ad : Nat → Nat} {H : Heap} {f : Nat → Int32} (hK : xK Γ U) (hC : CW Γ x σ ad H) (hA : Ai Γ wa 60 f H) : ∀ i, i < qn σ → wa < ad i ∨ ad i + 4 ≤ wa := by
  intro i hi
  obtain ⟨h0, h1, h2, h3⟩ := hC.2.2 i hi
  have hA' : H[wa]? = some (arrV Γ.2.1 60 (fun j => .int (f j))) := hA
  rcases Nat.lt_or_ge wa (ad i) with q | q
  · exact Or.inl q
  · rcases Nat.lt_or_ge wa (ad i + 4) with q2 | q2
    · exfalso
      rcases (show wa = ad i ∨ wa = ad i + 1 ∨ wa = ad i + 2 ∨ wa = ad i + 3 by omega) with e | e | e | e
      · obtain ⟨r, hr, cell, g1, g2, -⟩ := h0
        have g1' : H[ad i]? = some cell := g1
        rw [← e] at g1'
        have e2 := Option.some.inj (g1'.symm.trans hA')
        obtain ⟨-, -, kC, hkC, hkind⟩ := hK.1 0 _ rfl
        obtain ⟨-, k9, hk9, comp, hkind9⟩ := (hK.2 0 _ rfl).1 60 (fun j => .int (f j))
        have e3 : Γ.1.1 0 = (arrV Γ.2.1 60 (fun j => Value.int (f j))).cls := by
          rw [← e2]
          exact g2.symm
        rw [← e3] at hk9
        have e4 := Option.some.inj (hkC.symm.trans hk9)
        rw [← e4, hkind] at hkind9
        cases hkind9
      · have h9 : H[ad i + 1]? = some (arrV Γ.2.1 36 (fun j => .int (rk σ i j))) := h1
        rw [← e] at h9
        have e2 := congrArg (fun c : Cell => c.slots.size) (Option.some.inj (h9.symm.trans hA'))
        simp only [arrV_size] at e2
        omega
      · have h9 : H[ad i + 2]? = some (arrV Γ.2.1 11 (fun j => .int (ak σ i j))) := h2
        rw [← e] at h9
        have e2 := congrArg (fun c : Cell => c.slots.size) (Option.some.inj (h9.symm.trans hA'))
        simp only [arrV_size] at e2
        omega
      · have h9 : H[ad i + 3]? = some (arrV Γ.2.2.1 11 (fun j => .int (lk σ i j))) := h3
        rw [← e] at h9
        have e2 := congrArg (fun c : Cell => c.slots.size) (Option.some.inj (h9.symm.trans hA'))
        simp only [arrV_size] at e2
        omega
    · exact Or.inr q2
theorem m1_le {n : Nat} (h : n < 2 ^ 31) : (-1 : Int32) ≤ nI n := by
  rw [Int32.le_iff_toInt_le, nI_toInt h]
  have h2 : (-1 : Int32).toInt = -1 := by decide +kernel
  omega
theorem more_0 {σ : St} {k j tw : Nat} (h : ¬ (tw = 0 ∧ fitP σ k j)) : more σ k j tw = 0 := by
  unfold more
  rw [bP_f h]
set_option maxHeartbeats 8000000 in
set_option maxRecDepth 100000 in
theorem lawc_4 {p : Program} {l : Launch} {e : Env} {s : State} {m : MethodId} {args : Array Value} {below : List Frame} {meth : Method} {c : Code} {H : Heap} {locs : List Loc} {Q : State → Prop} {Γ : GG} {bs sb L C0 S0 : Nat} {xs : Nat → Int32} {σ : St} {ad : Nat → Nat} {t a b g ig wa β : Nat} {X : Int32}
    (hfl : l.stackTraces = false) (S : CallFix p m c cL_law 26 s args wsL_law RL) (hX : xW Γ bs sb L xs s) (hC0 : C0 + 100 ≤ 600104) (hS0 : S0 + 1500 ≤ 7301314) (hLI : LI Γ bs s σ ad H locs) (ha : a < qn σ) (hga : qg σ a = 0) (hb_ : b < qn σ) (hg : g < qn σ) (hβ : qb σ = nI β) (hβ2 : 2 * β ≤ qn σ) (hwa : ∀ i, i < qn σ → ad i + 4 ≤ wa) (hwb : bs + 2 ≤ wa) (hwA : Ai Γ wa 60 (tv σ g) H)
    (k : ∀ (σ1 : St) (ad1 : Nat → Nat) (H1 : Heap) (lc1 : List Loc), LI Γ bs s σ1 ad1 H1 lc1 → g < qn σ1 → Ai Γ wa 60 (tv σ g) H1 → (qg σ g = 1 → Keep σ σ1 g) → ∀ ls : Array Slot, lv_has ls 26 [(9, .int (nI ig)), (8, .ref wa), (7, .int (nI g)), (3, .int X), (2, .int (nI t)), (1, .ref bs), (0, .ref sb)] → W p l e room_1 s m args below meth c H1 lc1 (C0 + 12) (S0 + 156) Q (F0 m 1006 ls []))
    (ls : Array Slot) (hl : lv_has ls 26 [(15, .long (dig σ)), (14, .int (nI (tN σ (qp σ) (qn σ)))), (13, .int (nI (tN σ (c4 σ) (qn σ)))), (12, .int (nI β)), (11, .int (nI (tN σ (c2 σ) (qn σ)))), (10, .int (nI (thr σ (qn σ)))), (9, .int (nI ig)), (8, .ref wa), (7, .int (nI g)), (6, .int (nI b)), (5, .int (nI a)), (4, .int (nI (qn σ))), (3, .int X), (2, .int (nI t)), (1, .ref bs), (0, .ref sb)]) : W p l e room_1 s m args below meth c H locs C0 S0 Q (F0 m 946 ls []) := by
  obtain ⟨hx, hb, hml, hown, hts⟩ := id S
  obtain ⟨hI, hJ, hy, hC, hlo, hb9, hlow⟩ := id hLI
  have h40 := hI.1
  have h1n := hJ.1
  have hth12 : thr σ (qn σ) ≤ 12 := hI.2.2.2.2.2.2
  have hpa := hI.2.1 a ha
  have hpb := hI.2.1 b hb_
  have hc2s := tN_small (g := c2 σ) hI (fun k hk => c2_le hI hk)
  have hc4s := tN_small (g := c4 σ) hI (fun k hk => Nat.le_trans (c4_le hI hk) (by decide))
  have hc5s := tN_small (g := qp σ) hI (fun k hk => Nat.le_trans (hI.2.1 k hk).2.1 (by decide))
  refine lv_iload hx hb dL_law_946 (lv_at hl 5 rfl) ?_
  refine lv_bipush (v := nI 12) hx hb dL_law_948 (by decide +kernel) ?_
  refine x_iceq hx hb (by omega) (by omega) (tgt := 1006) dL_law_950 (by decide) (fun c_1 => ?_) (fun c_1 => ?_)
  · skip
    refine W.widen (k := C0 + 12) (n := S0 + 156) (by omega) (by omega) ?_
    exact k _ _ _ _ hLI hg hwA (fun _ => Keep.rf) ls (lv_sub hl [6, 7, 8, 12, 13, 14, 15] rfl)
  · skip
    refine lv_iload hx hb dL_law_953 (lv_at hl 11 rfl) ?_
    refine lv_bipush (v := nI 40) hx hb dL_law_955 (by decide +kernel) ?_
    refine x_icne hx hb (by omega) (by omega) (tgt := 963) dL_law_957 (by decide) (fun c_2 => ?_) (fun c_2 => ?_)
    · skip
      refine lv_aload_n hx hb dL_law_963 rfl (lv_at hl 14 rfl) ?_
      refine lv_iconst (v := nI 1) hx hb dL_law_964 (by decide +kernel) ?_
      refine lv_iload_n hx hb dL_law_965 rfl (lv_at hl 12 rfl) ?_
      refine lv_iconst (v := nI 4) hx hb dL_law_966 (by decide +kernel) ?_
      refine lv_ishr hx hb dL_law_967 ?_
      refine lv_bipush (v := nI 12) hx hb dL_law_968 (by decide +kernel) ?_
      refine ro_S (rest := [.int (nI 1), .ref bs]) S hX.1 (c_L_below l Γ (X >>> ((nI 4) &&& 31)) 12 (by omega) (by omega)) (cwlaw_L_below hts) trivial rfl hl.1 rfl (Nat.le_of_ble_eq_true rfl) dL_law_970 ⟨by show _ ≤ 600104; omega, by show _ ≤ 7301314; omega⟩ ?_
      refine W.eq (g2 := F0 m 973 ls [.int (nI (bl (X >>> ((nI 4) &&& 31)) 12)), .int (nI 1), .ref bs]) rfl ?_
      obtain ⟨b_3, hb_3, eb_3⟩ : ∃ z : Nat, z < 12 ∧ bl (X >>> ((nI 4) &&& 31)) 12 = z := ⟨_, bl_lt _ (by omega), rfl⟩
      refine x_e (show nI (bl (X >>> ((nI 4) &&& 31)) 12) = nI b_3 by rw [eb_3]) ?_
      clear eb_3
      refine x_add hx hb dL_law_973 ?_
      refine q_make hfl S hX hlow hI hy hC (Nat.le_refl _) (Nat.le_refl _) hb9 hlo (P := 1 + b_3) (by omega) (by omega) (by omega) (by omega) (cwlaw_make hts) hl.1 (Nat.le_of_ble_eq_true rfl) dL_law_974 ⟨by show _ ≤ 600104; omega, by show _ ≤ 7301314; omega⟩ (fun ad2 H3 lc3 hC3 hy3 hF3 hlo3 => ?_)
      refine W.eq (g2 := F0 m 977 ls [.int (nI (qn σ))]) rfl ?_
      obtain ⟨σ1, e1⟩ : ∃ z : St, z = sMake σ (1 + b_3) := ⟨_, rfl⟩
      rw [← e1] at hC3 hy3
      have hn1 : qn σ1 = qn σ + 1 := by rw [e1]; rfl
      have hth1 : thr σ1 (qn σ1) = thr σ (qn σ) + 1 := by rw [e1]; exact thr_make hI
      have hc1 : c2 σ1 (qn σ) = 0 := by rw [e1]; exact mk_c2 hI (by omega)
      have hLI1 : LI Γ bs s σ1 ad2 H3 lc3 := hLI.step (by rw [e1]; exact Iv_make hI (by omega) (by omega) (by omega) (by omega) (by decide)) (by rw [e1]; exact Jv_make hI hJ.2.2) hC3 hy3 hF3 hlo3
      have hkp : Keep σ σ1 g := by rw [e1]; exact keep_make hg
      have hwA1 := hwA.kept (hF3.2 wa hwA.lt (by omega) (by omega) (fun i hi => Or.inr (hwa i hi)))
      obtain ⟨hI1, hJ1, hy1, hC1, hlo1, hb1, hlow1⟩ := id hLI1
      refine lv_iload hx hb dL_law_977 (lv_at hl 11 rfl) ?_
      refine x_icne hx hb (by omega) (by omega) (tgt := 1004) dL_law_979 (by decide) (fun c_4 => ?_) (fun c_4 => ?_)
      · skip
        exact False.elim (by omega)
      · skip
        refine lv_aload_n hx hb dL_law_982 rfl (lv_at hl 14 rfl) ?_
        refine lv_iload hx hb dL_law_983 (lv_at hl 11 rfl) ?_
        refine lv_iconst (v := nI 2) hx hb dL_law_985 (by decide +kernel) ?_
        refine q_stick (v := .int (nI (c2 σ1 (qn σ)))) hfl S hX hlow1 hI1 hy1 hC1 (by omega) (by omega) (cwlaw_stick hts) hl.1 (Nat.le_of_ble_eq_true rfl) dL_law_986 ⟨by show _ ≤ 600104; omega, by show _ ≤ 7301314; omega⟩ (rfl) ?_
        refine W.eq (g2 := F0 m 989 ls [.int (nI (c2 σ1 (qn σ)))]) rfl ?_
        refine x_ifne hx hb (by omega) (tgt := 1004) dL_law_989 (by decide) (fun c_5 => ?_) (fun c_5 => ?_)
        · skip
          exact False.elim (by omega)
        · skip
          refine lv_aload_n hx hb dL_law_992 rfl (lv_at hl 14 rfl) ?_
          refine lv_iconst (v := nI 0) hx hb dL_law_993 (by decide +kernel) ?_
          refine q_count (v := .int (nI (thr σ1 (qn σ1)))) hfl S hX hlow1 hI1 hy1 hC1 (by omega) (cwlaw_count hts) hl.1 (Nat.le_of_ble_eq_true rfl) dL_law_994 ⟨by show _ ≤ 600104; omega, by show _ ≤ 7301314; omega⟩ (congrArg Value.int (tot_0 σ1)) ?_
          refine W.eq (g2 := F0 m 997 ls [.int (nI (thr σ1 (qn σ1)))]) rfl ?_
          refine lv_iload hx hb dL_law_997 (lv_at hl 5 rfl) ?_
          refine lv_iconst (v := nI 1) hx hb dL_law_999 (by decide +kernel) ?_
          refine x_add hx hb dL_law_1000 ?_
          refine x_iceq hx hb (by omega) (by omega) (tgt := 1006) dL_law_1001 (by decide) (fun c_6 => ?_) (fun c_6 => ?_)
          · skip
            refine W.widen (k := C0 + 12) (n := S0 + 156) (by omega) (by omega) ?_
            exact k σ1 ad2 H3 lc3 hLI1 (by omega) hwA1 (fun _ => hkp) ls (lv_sub hl [6, 7, 8, 12, 13, 14, 15] rfl)
          · skip
            exact False.elim (by omega)
    · skip
      refine lv_goto (tgt := 1006) hx hb dL_law_960 (by decide) ?_
      refine W.widen (k := C0 + 12) (n := S0 + 156) (by omega) (by omega) ?_
      exact k _ _ _ _ hLI hg hwA (fun _ => Keep.rf) ls (lv_sub hl [6, 7, 8, 12, 13, 14, 15] rfl)
set_option maxHeartbeats 8000000 in
set_option maxRecDepth 100000 in
theorem lawc_2 {p : Program} {l : Launch} {e : Env} {s : State} {m : MethodId} {args : Array Value} {below : List Frame} {meth : Method} {c : Code} {H : Heap} {locs : List Loc} {Q : State → Prop} {Γ : GG} {bs sb L C0 S0 : Nat} {xs : Nat → Int32} {σ : St} {ad : Nat → Nat} {t a b g ig wa β : Nat} {X : Int32}
    (hfl : l.stackTraces = false) (S : CallFix p m c cL_law 26 s args wsL_law RL) (hX : xW Γ bs sb L xs s) (hC0 : C0 + 100 ≤ 600104) (hS0 : S0 + 1500 ≤ 7301314) (hLI : LI Γ bs s σ ad H locs) (ha : a < qn σ) (hga : qg σ a = 0) (hb_ : b < qn σ) (hg : g < qn σ) (hβ : qb σ = nI β) (hβ2 : 2 * β ≤ qn σ) (hwa : ∀ i, i < qn σ → ad i + 4 ≤ wa) (hwb : bs + 2 ≤ wa) (hwA : Ai Γ wa 60 (tv σ g) H)
    (k : ∀ (σ1 : St) (ad1 : Nat → Nat) (H1 : Heap) (lc1 : List Loc), LI Γ bs s σ1 ad1 H1 lc1 → g < qn σ1 → Ai Γ wa 60 (tv σ g) H1 → (qg σ g = 1 → Keep σ σ1 g) → ∀ ls : Array Slot, lv_has ls 26 [(9, .int (nI ig)), (8, .ref wa), (7, .int (nI g)), (3, .int X), (2, .int (nI t)), (1, .ref bs), (0, .ref sb)] → W p l e room_1 s m args below meth c H1 lc1 (C0 + 12) (S0 + 156) Q (F0 m 1006 ls []))
    (ls : Array Slot) (hl : lv_has ls 26 [(15, .long (dig σ)), (14, .int (nI (tN σ (qp σ) (qn σ)))), (13, .int (nI (tN σ (c4 σ) (qn σ)))), (12, .int (nI β)), (11, .int (nI (tN σ (c2 σ) (qn σ)))), (10, .int (nI (thr σ (qn σ)))), (9, .int (nI ig)), (8, .ref wa), (7, .int (nI g)), (6, .int (nI b)), (5, .int (nI a)), (4, .int (nI (qn σ))), (3, .int X), (2, .int (nI t)), (1, .ref bs), (0, .ref sb)]) : W p l e room_1 s m args below meth c H locs C0 S0 Q (F0 m 779 ls []) := by
  obtain ⟨hx, hb, hml, hown, hts⟩ := id S
  obtain ⟨hI, hJ, hy, hC, hlo, hb9, hlow⟩ := id hLI
  have h40 := hI.1
  have h1n := hJ.1
  have hth12 : thr σ (qn σ) ≤ 12 := hI.2.2.2.2.2.2
  have hpa := hI.2.1 a ha
  have hpb := hI.2.1 b hb_
  have hc2s := tN_small (g := c2 σ) hI (fun k hk => c2_le hI hk)
  have hc4s := tN_small (g := c4 σ) hI (fun k hk => Nat.le_trans (c4_le hI hk) (by decide))
  have hc5s := tN_small (g := qp σ) hI (fun k hk => Nat.le_trans (hI.2.1 k hk).2.1 (by decide))
  refine lv_iload_n hx hb dL_law_779 rfl (lv_at hl 12 rfl) ?_
  refine lv_iconst (v := nI 4) hx hb dL_law_780 (by decide +kernel) ?_
  refine lv_ishr hx hb dL_law_781 ?_
  refine lv_iconst (v := nI 3) hx hb dL_law_782 (by decide +kernel) ?_
  refine ro_S (rest := []) S hX.1 (c_L_below l Γ (X >>> ((nI 4) &&& 31)) 3 (by omega) (by omega)) (cwlaw_L_below hts) trivial rfl hl.1 rfl (Nat.le_of_ble_eq_true rfl) dL_law_783 ⟨by show _ ≤ 600104; omega, by show _ ≤ 7301314; omega⟩ ?_
  refine W.eq (g2 := F0 m 786 ls [.int (nI (bl (X >>> ((nI 4) &&& 31)) 3))]) rfl ?_
  obtain ⟨b_1, hb_1, eb_1⟩ : ∃ z : Nat, z < 3 ∧ bl (X >>> ((nI 4) &&& 31)) 3 = z := ⟨_, bl_lt _ (by omega), rfl⟩
  refine x_e (show nI (bl (X >>> ((nI 4) &&& 31)) 3) = nI b_1 by rw [eb_1]) ?_
  clear eb_1
  refine lv_istore (lv' := [(17, .int (nI b_1)), (15, .long (dig σ)), (14, .int (nI (tN σ (qp σ) (qn σ)))), (13, .int (nI (tN σ (c4 σ) (qn σ)))), (12, .int (nI β)), (11, .int (nI (tN σ (c2 σ) (qn σ)))), (10, .int (nI (thr σ (qn σ)))), (9, .int (nI ig)), (8, .ref wa), (7, .int (nI g)), (6, .int (nI b)), (5, .int (nI a)), (4, .int (nI (qn σ))), (3, .int X), (2, .int (nI t)), (1, .ref bs), (0, .ref sb)]) hx hb dL_law_786 hl (by decide) rfl (fun ls hl => ?_)
  refine lv_iload_n hx hb dL_law_788 rfl (lv_at hl 13 rfl) ?_
  refine lv_iconst (v := nI 5) hx hb dL_law_789 (by decide +kernel) ?_
  refine lv_ishr hx hb dL_law_790 ?_
  refine lv_aload_n hx hb dL_law_791 rfl (lv_at hl 15 rfl) ?_
  refine lv_iload hx hb dL_law_792 (lv_at hl 11 rfl) ?_
  refine lv_iconst (v := nI 0) hx hb dL_law_794 (by decide +kernel) ?_
  refine q_stick (v := .int (nI (qp σ a))) hfl S hX hlow hI hy hC ha (by omega) (cwlaw_stick hts) hl.1 (Nat.le_of_ble_eq_true rfl) dL_law_795 ⟨by show _ ≤ 600104; omega, by show _ ≤ 7301314; omega⟩ (rfl) ?_
  refine W.eq (g2 := F0 m 798 ls [.int (nI (qp σ a)), .int (X >>> ((nI 5) &&& 31))]) rfl ?_
  refine ro_S (rest := []) S hX.1 (c_L_below l Γ (X >>> ((nI 5) &&& 31)) (qp σ a) (by omega) (by omega)) (cwlaw_L_below hts) trivial rfl hl.1 rfl (Nat.le_of_ble_eq_true rfl) dL_law_798 ⟨by show _ ≤ 600104; omega, by show _ ≤ 7301314; omega⟩ ?_
  refine W.eq (g2 := F0 m 801 ls [.int (nI (bl (X >>> ((nI 5) &&& 31)) (qp σ a)))]) rfl ?_
  obtain ⟨b_2, hb_2, eb_2⟩ : ∃ z : Nat, z < qp σ a ∧ bl (X >>> ((nI 5) &&& 31)) (qp σ a) = z := ⟨_, bl_lt _ (by omega), rfl⟩
  refine x_e (show nI (bl (X >>> ((nI 5) &&& 31)) (qp σ a)) = nI b_2 by rw [eb_2]) ?_
  clear eb_2
  refine lv_istore (lv' := [(18, .int (nI b_2)), (17, .int (nI b_1)), (15, .long (dig σ)), (14, .int (nI (tN σ (qp σ) (qn σ)))), (13, .int (nI (tN σ (c4 σ) (qn σ)))), (12, .int (nI β)), (11, .int (nI (tN σ (c2 σ) (qn σ)))), (10, .int (nI (thr σ (qn σ)))), (9, .int (nI ig)), (8, .ref wa), (7, .int (nI g)), (6, .int (nI b)), (5, .int (nI a)), (4, .int (nI (qn σ))), (3, .int X), (2, .int (nI t)), (1, .ref bs), (0, .ref sb)]) hx hb dL_law_801 hl (by decide) rfl (fun ls hl => ?_)
  refine lv_iload_n hx hb dL_law_803 rfl (lv_at hl 14 rfl) ?_
  refine lv_bipush (v := nI 6) hx hb dL_law_804 (by decide +kernel) ?_
  refine lv_ishr hx hb dL_law_806 ?_
  refine lv_bipush (v := nI 24) hx hb dL_law_807 (by decide +kernel) ?_
  refine ro_S (rest := []) S hX.1 (c_L_below l Γ (X >>> ((nI 6) &&& 31)) 24 (by omega) (by omega)) (cwlaw_L_below hts) trivial rfl hl.1 rfl (Nat.le_of_ble_eq_true rfl) dL_law_809 ⟨by show _ ≤ 600104; omega, by show _ ≤ 7301314; omega⟩ ?_
  refine W.eq (g2 := F0 m 812 ls [.int (nI (bl (X >>> ((nI 6) &&& 31)) 24))]) rfl ?_
  obtain ⟨b_3, hb_3, eb_3⟩ : ∃ z : Nat, z < 24 ∧ bl (X >>> ((nI 6) &&& 31)) 24 = z := ⟨_, bl_lt _ (by omega), rfl⟩
  refine x_e (show nI (bl (X >>> ((nI 6) &&& 31)) 24) = nI b_3 by rw [eb_3]) ?_
  clear eb_3
  refine lv_istore (lv' := [(19, .int (nI b_3)), (18, .int (nI b_2)), (17, .int (nI b_1)), (15, .long (dig σ)), (14, .int (nI (tN σ (qp σ) (qn σ)))), (13, .int (nI (tN σ (c4 σ) (qn σ)))), (12, .int (nI β)), (11, .int (nI (tN σ (c2 σ) (qn σ)))), (10, .int (nI (thr σ (qn σ)))), (9, .int (nI ig)), (8, .ref wa), (7, .int (nI g)), (6, .int (nI b)), (5, .int (nI a)), (4, .int (nI (qn σ))), (3, .int X), (2, .int (nI t)), (1, .ref bs), (0, .ref sb)]) hx hb dL_law_812 hl (by decide) rfl (fun ls hl => ?_)
  refine lv_aload_n hx hb dL_law_814 rfl (lv_at hl 17 rfl) ?_
  refine lv_iload hx hb dL_law_815 (lv_at hl 13 rfl) ?_
  refine lv_iload hx hb dL_law_817 (lv_at hl 2 rfl) ?_
  refine lv_iload hx hb dL_law_819 (lv_at hl 1 rfl) ?_
  refine q_rune (v := .int (rk σ a (3 * b_2 + b_1))) hfl S hX hlow hI hy hC ha (by omega) (by omega) (cwlaw_rune hts) hl.1 (Nat.le_of_ble_eq_true rfl) dL_law_821 ⟨by show _ ≤ 600104; omega, by show _ ≤ 7301314; omega⟩ (rfl) ?_
  refine W.eq (g2 := F0 m 824 ls [.int (rk σ a (3 * b_2 + b_1))]) rfl ?_
  refine lv_istore (lv' := [(20, .int (rk σ a (3 * b_2 + b_1))), (19, .int (nI b_3)), (18, .int (nI b_2)), (17, .int (nI b_1)), (15, .long (dig σ)), (14, .int (nI (tN σ (qp σ) (qn σ)))), (13, .int (nI (tN σ (c4 σ) (qn σ)))), (12, .int (nI β)), (11, .int (nI (tN σ (c2 σ) (qn σ)))), (10, .int (nI (thr σ (qn σ)))), (9, .int (nI ig)), (8, .ref wa), (7, .int (nI g)), (6, .int (nI b)), (5, .int (nI a)), (4, .int (nI (qn σ))), (3, .int X), (2, .int (nI t)), (1, .ref bs), (0, .ref sb)]) hx hb dL_law_824 hl (by decide) rfl (fun ls hl => ?_)
  refine lv_aload_n hx hb dL_law_826 rfl (lv_at hl 18 rfl) ?_
  refine lv_iload hx hb dL_law_827 (lv_at hl 14 rfl) ?_
  refine lv_iload hx hb dL_law_829 (lv_at hl 3 rfl) ?_
  refine lv_iload hx hb dL_law_831 (lv_at hl 2 rfl) ?_
  refine lv_iload hx hb dL_law_833 (lv_at hl 1 rfl) ?_
  refine q_carve hfl S hX hlow hI hy hC (Nat.le_refl _) (Nat.le_refl _) hb9 hlo ha hga (by omega) (by omega) (r := b_3) (by omega) (cwlaw_carve hts) hl.1 (Nat.le_of_ble_eq_true rfl) dL_law_835 ⟨by show _ ≤ 600104; omega, by show _ ≤ 7301314; omega⟩ (fun ad2 H3 lc3 hC3 hy3 hF3 hlo3 => ?_)
  refine W.eq (g2 := F0 m 838 ls [.int (rk σ a (3 * b_2 + b_1))]) rfl ?_
  obtain ⟨σ1, e1⟩ : ∃ z : St, z = o_rune σ (36 * a + (3 * b_2 + b_1)) (nI b_3) := ⟨_, rfl⟩
  rw [← e1] at hC3 hy3
  have hn1 : qn σ1 = qn σ := by rw [e1]; rfl
  have hp1 : qp σ1 a = qp σ a := by rw [e1]; rfl
  have hn2 : tN σ1 (c2 σ1) (qn σ1) = tN σ (c2 σ) (qn σ) + (if rk σ a (3 * b_2 + b_1) = -1 then 1 else 0) := by rw [e1]; exact n2_carve hI ha hga (by omega) (by omega) (by omega)
  have hrn : rk σ1 a (3 * b_2 + b_1) = nI b_3 := by rw [e1, rk_rune_s]; exact upd_s
  have hok : okR (rk σ a (3 * b_2 + b_1)) := hI.2.2.2.1 _
  have hLI1 : LI Γ bs s σ1 ad2 H3 lc3 := hLI.step (by rw [e1]; exact Iv_rune hI (by omega) (Or.inr ⟨_, by omega, rfl⟩)) (by rw [e1]; exact Jv_rune hJ) hC3 hy3 hF3 hlo3
  have hkp : qg σ g = 1 → Keep σ σ1 g := fun h9 => by rw [e1]; exact keep_rune (fun h8 => by rw [h8] at h9; omega) (by omega)
  have hwA1 := hwA.kept (hF3.2 wa hwA.lt (by omega) (by omega) (fun i hi => Or.inr (hwa i hi)))
  obtain ⟨hI1, hJ1, hy1, hC1, hlo1, hb1, hlow1⟩ := id hLI1
  refine lv_iload hx hb dL_law_838 (lv_at hl 0 rfl) ?_
  refine lv_icmp_ne (tgt := 879) hx hb dL_law_840 (by decide) (fun c_4 => ?_) (fun c_4 => ?_)
  · skip
    exact absurd rfl c_4
  · skip
    refine lv_aload_n hx hb dL_law_843 rfl (lv_at hl 18 rfl) ?_
    refine lv_iload hx hb dL_law_844 (lv_at hl 14 rfl) ?_
    refine lv_iload hx hb dL_law_846 (lv_at hl 3 rfl) ?_
    refine lv_iload hx hb dL_law_848 (lv_at hl 2 rfl) ?_
    refine q_rune (v := .int (nI b_3)) hfl S hX hlow1 hI1 hy1 hC1 (by omega) (by omega) (by omega) (cwlaw_rune hts) hl.1 (Nat.le_of_ble_eq_true rfl) dL_law_850 ⟨by show _ ≤ 600104; omega, by show _ ≤ 7301314; omega⟩ (congrArg Value.int (hrn)) ?_
    refine W.eq (g2 := F0 m 853 ls [.int (nI b_3)]) rfl ?_
    refine lv_iload hx hb dL_law_853 (lv_at hl 1 rfl) ?_
    refine x_icne hx hb (by omega) (by omega) (tgt := 879) dL_law_855 (by decide) (fun c_5 => ?_) (fun c_5 => ?_)
    · skip
      exact False.elim (by omega)
    · skip
      refine lv_aload_n hx hb dL_law_858 rfl (lv_at hl 18 rfl) ?_
      refine lv_iconst (v := nI 2) hx hb dL_law_859 (by decide +kernel) ?_
      refine q_count (v := .int (nI (tN σ1 (c2 σ1) (qn σ1)))) hfl S hX hlow1 hI1 hy1 hC1 (by omega) (cwlaw_count hts) hl.1 (Nat.le_of_ble_eq_true rfl) dL_law_860 ⟨by show _ ≤ 600104; omega, by show _ ≤ 7301314; omega⟩ (congrArg Value.int (tot_2 σ1)) ?_
      refine W.eq (g2 := F0 m 863 ls [.int (nI (tN σ1 (c2 σ1) (qn σ1)))]) rfl ?_
      refine lv_iload hx hb dL_law_863 (lv_at hl 8 rfl) ?_
      refine lv_iload hx hb dL_law_865 (lv_at hl 0 rfl) ?_
      refine lv_if_ge (tgt := 874) hx hb dL_law_867 (by decide) (fun c_6 => ?_) (fun c_6 => ?_)
      · skip
        have hne : ¬ rk σ a (3 * b_2 + b_1) = -1 := fun e9 => by
          rw [e9] at c_6
          exact absurd c_6 (by decide +kernel)
        rw [if_neg hne] at hn2
        refine lv_iconst (v := nI 0) hx hb dL_law_874 (by decide +kernel) ?_
        refine x_add hx hb dL_law_875 ?_
        refine x_iceq hx hb (by omega) (by omega) (tgt := 1006) dL_law_876 (by decide) (fun c_7 => ?_) (fun c_7 => ?_)
        · skip
          refine W.widen (k := C0 + 12) (n := S0 + 156) (by omega) (by omega) ?_
          exact k σ1 ad2 H3 lc3 hLI1 (by omega) hwA1 hkp ls (lv_sub hl [10, 11, 12, 16, 17, 18, 19] rfl)
        · skip
          exact False.elim (by omega)
      · skip
        have hne : rk σ a (3 * b_2 + b_1) = -1 := by
          rcases hok with h9 | ⟨r9, hr9, h9⟩
          · exact h9
          · rw [h9] at c_6
            exact absurd (nI_ge0 (by omega)) c_6
        rw [if_pos hne] at hn2
        refine lv_iconst (v := nI 1) hx hb dL_law_870 (by decide +kernel) ?_
        refine lv_goto (tgt := 875) hx hb dL_law_871 (by decide) ?_
        refine x_add hx hb dL_law_875 ?_
        refine x_iceq hx hb (by omega) (by omega) (tgt := 1006) dL_law_876 (by decide) (fun c_8 => ?_) (fun c_8 => ?_)
        · skip
          refine W.widen (k := C0 + 12) (n := S0 + 156) (by omega) (by omega) ?_
          exact k σ1 ad2 H3 lc3 hLI1 (by omega) hwA1 hkp ls (lv_sub hl [10, 11, 12, 16, 17, 18, 19] rfl)
        · skip
          exact False.elim (by omega)
set_option maxHeartbeats 8000000 in
set_option maxRecDepth 100000 in
theorem lawc_3 {p : Program} {l : Launch} {e : Env} {s : State} {m : MethodId} {args : Array Value} {below : List Frame} {meth : Method} {c : Code} {H : Heap} {locs : List Loc} {Q : State → Prop} {Γ : GG} {bs sb L C0 S0 : Nat} {xs : Nat → Int32} {σ : St} {ad : Nat → Nat} {t a b g ig wa β : Nat} {X : Int32}
    (hfl : l.stackTraces = false) (S : CallFix p m c cL_law 26 s args wsL_law RL) (hX : xW Γ bs sb L xs s) (hC0 : C0 + 100 ≤ 600104) (hS0 : S0 + 1500 ≤ 7301314) (hLI : LI Γ bs s σ ad H locs) (ha : a < qn σ) (hga : qg σ a = 0) (hb_ : b < qn σ) (hg : g < qn σ) (hβ : qb σ = nI β) (hβ2 : 2 * β ≤ qn σ) (hwa : ∀ i, i < qn σ → ad i + 4 ≤ wa) (hwb : bs + 2 ≤ wa) (hwA : Ai Γ wa 60 (tv σ g) H)
    (k : ∀ (σ1 : St) (ad1 : Nat → Nat) (H1 : Heap) (lc1 : List Loc), LI Γ bs s σ1 ad1 H1 lc1 → g < qn σ1 → Ai Γ wa 60 (tv σ g) H1 → (qg σ g = 1 → Keep σ σ1 g) → ∀ ls : Array Slot, lv_has ls 26 [(9, .int (nI ig)), (8, .ref wa), (7, .int (nI g)), (3, .int X), (2, .int (nI t)), (1, .ref bs), (0, .ref sb)] → W p l e room_1 s m args below meth c H1 lc1 (C0 + 12) (S0 + 156) Q (F0 m 1006 ls []))
    (ls : Array Slot) (hl : lv_has ls 26 [(15, .long (dig σ)), (14, .int (nI (tN σ (qp σ) (qn σ)))), (13, .int (nI (tN σ (c4 σ) (qn σ)))), (12, .int (nI β)), (11, .int (nI (tN σ (c2 σ) (qn σ)))), (10, .int (nI (thr σ (qn σ)))), (9, .int (nI ig)), (8, .ref wa), (7, .int (nI g)), (6, .int (nI b)), (5, .int (nI a)), (4, .int (nI (qn σ))), (3, .int X), (2, .int (nI t)), (1, .ref bs), (0, .ref sb)]) : W p l e room_1 s m args below meth c H locs C0 S0 Q (F0 m 881 ls []) := by
  obtain ⟨hx, hb, hml, hown, hts⟩ := id S
  obtain ⟨hI, hJ, hy, hC, hlo, hb9, hlow⟩ := id hLI
  have h40 := hI.1
  have h1n := hJ.1
  have hth12 : thr σ (qn σ) ≤ 12 := hI.2.2.2.2.2.2
  have hpa := hI.2.1 a ha
  have hpb := hI.2.1 b hb_
  have hc2s := tN_small (g := c2 σ) hI (fun k hk => c2_le hI hk)
  have hc4s := tN_small (g := c4 σ) hI (fun k hk => Nat.le_trans (c4_le hI hk) (by decide))
  have hc5s := tN_small (g := qp σ) hI (fun k hk => Nat.le_trans (hI.2.1 k hk).2.1 (by decide))
  refine lv_aload_n hx hb dL_law_881 rfl (lv_at hl 14 rfl) ?_
  refine lv_iload hx hb dL_law_882 (lv_at hl 10 rfl) ?_
  refine lv_iconst (v := nI 1) hx hb dL_law_884 (by decide +kernel) ?_
  refine q_stick (v := .int (nI (qu σ a))) hfl S hX hlow hI hy hC ha (by omega) (cwlaw_stick hts) hl.1 (Nat.le_of_ble_eq_true rfl) dL_law_885 ⟨by show _ ≤ 600104; omega, by show _ ≤ 7301314; omega⟩ (rfl) ?_
  refine W.eq (g2 := F0 m 888 ls [.int (nI (qu σ a))]) rfl ?_
  refine lv_istore (lv' := [(17, .int (nI (qu σ a))), (15, .long (dig σ)), (14, .int (nI (tN σ (qp σ) (qn σ)))), (13, .int (nI (tN σ (c4 σ) (qn σ)))), (12, .int (nI β)), (11, .int (nI (tN σ (c2 σ) (qn σ)))), (10, .int (nI (thr σ (qn σ)))), (9, .int (nI ig)), (8, .ref wa), (7, .int (nI g)), (6, .int (nI b)), (5, .int (nI a)), (4, .int (nI (qn σ))), (3, .int X), (2, .int (nI t)), (1, .ref bs), (0, .ref sb)]) hx hb dL_law_888 hl (by decide) rfl (fun ls hl => ?_)
  refine lv_aload_n hx hb dL_law_890 rfl (lv_at hl 15 rfl) ?_
  refine lv_iload hx hb dL_law_891 (lv_at hl 11 rfl) ?_
  refine lv_iconst (v := nI 1) hx hb dL_law_893 (by decide +kernel) ?_
  refine q_roll hfl S hX hlow hI hy hC (Nat.le_refl _) (Nat.le_refl _) hb9 hlo ha hga (by omega) (cwlaw_roll hts) hl.1 (Nat.le_of_ble_eq_true rfl) dL_law_894 ⟨by show _ ≤ 600104; omega, by show _ ≤ 7301314; omega⟩ (fun ad5 H5 lc5 hCs hys hFs hlos => ?_)
  refine W.eq (g2 := F0 m 897 ls [.int (nI ((qu σ a + 1) % 3))]) rfl ?_
  have hwB1 := hwA.kept (hFs.2 wa hwA.lt (by omega) (by omega) (fun i hi => Or.inr (hwa i hi)))
  obtain ⟨σ5, eσ5⟩ : ∃ z : St, z = o_up σ a ((qu σ a + 1) % 3) := ⟨_, rfl⟩
  rw [← eσ5] at hCs hys
  have hu1 : qu σ5 a = (qu σ a + 1) % 3 := by rw [eσ5]; exact va_up_self _ _ _
  have hn5 : qn σ5 = qn σ := by rw [eσ5]; rfl
  have hgr1 : qg σ5 a = 0 := by rw [eσ5]; exact hga
  have hLIr1 : LI Γ bs s σ5 ad5 H5 lc5 := hLI.step (by rw [eσ5]; exact Iv_up hI (Nat.mod_lt _ (by decide))) (by rw [eσ5]; exact Jv_up hJ) hCs hys hFs hlos
  obtain ⟨hIr1, hJr1, hyr1, hCr1, hlor1, hbr1, hlowr1⟩ := id hLIr1
  refine lv_iload hx hb dL_law_897 (lv_at hl 0 rfl) ?_
  refine lv_iconst (v := nI 1) hx hb dL_law_899 (by decide +kernel) ?_
  refine x_add hx hb dL_law_900 ?_
  refine lv_iconst (v := nI 3) hx hb dL_law_901 (by decide +kernel) ?_
  refine x_rem hx hb (by omega) (by omega) (by omega) dL_law_902 ?_
  refine x_icne hx hb (by omega) (by omega) (tgt := 944) dL_law_903 (by decide) (fun c_1 => ?_) (fun c_1 => ?_)
  · skip
    exact False.elim (by omega)
  · skip
    refine lv_aload_n hx hb dL_law_906 rfl (lv_at hl 15 rfl) ?_
    refine lv_iload hx hb dL_law_907 (lv_at hl 11 rfl) ?_
    refine lv_iconst (v := nI 1) hx hb dL_law_909 (by decide +kernel) ?_
    refine q_roll hfl S hX hlowr1 hIr1 hyr1 hCr1 (Nat.le_refl _) (Nat.le_refl _) hbr1 hlor1 (by omega) hgr1 (by omega) (cwlaw_roll hts) hl.1 (Nat.le_of_ble_eq_true rfl) dL_law_910 ⟨by show _ ≤ 600104; omega, by show _ ≤ 7301314; omega⟩ (fun ad6 H6 lc6 hCs hys hFs hlos => ?_)
    refine W.eq (g2 := F0 m 913 ls [.int (nI ((qu σ5 a + 1) % 3))]) rfl ?_
    have hwB2 := hwB1.kept (hFs.2 wa hwB1.lt (by omega) (by omega) (wa_ap hX.1 hCr1 hwB1))
    obtain ⟨σ6, eσ6⟩ : ∃ z : St, z = o_up σ5 a ((qu σ5 a + 1) % 3) := ⟨_, rfl⟩
    rw [← eσ6] at hCs hys
    have hu2 : qu σ6 a = (qu σ5 a + 1) % 3 := by rw [eσ6]; exact va_up_self _ _ _
    have hn6 : qn σ6 = qn σ5 := by rw [eσ6]; rfl
    have hgr2 : qg σ6 a = 0 := by rw [eσ6]; exact hgr1
    have hLIr2 : LI Γ bs s σ6 ad6 H6 lc6 := hLIr1.step (by rw [eσ6]; exact Iv_up hIr1 (Nat.mod_lt _ (by decide))) (by rw [eσ6]; exact Jv_up hJr1) hCs hys hFs hlos
    obtain ⟨hIr2, hJr2, hyr2, hCr2, hlor2, hbr2, hlowr2⟩ := id hLIr2
    refine lv_iload hx hb dL_law_913 (lv_at hl 0 rfl) ?_
    refine lv_iconst (v := nI 2) hx hb dL_law_915 (by decide +kernel) ?_
    refine x_add hx hb dL_law_916 ?_
    refine lv_iconst (v := nI 3) hx hb dL_law_917 (by decide +kernel) ?_
    refine x_rem hx hb (by omega) (by omega) (by omega) dL_law_918 ?_
    refine x_icne hx hb (by omega) (by omega) (tgt := 944) dL_law_919 (by decide) (fun c_2 => ?_) (fun c_2 => ?_)
    · skip
      exact False.elim (by omega)
    · skip
      refine lv_aload_n hx hb dL_law_922 rfl (lv_at hl 15 rfl) ?_
      refine lv_iload hx hb dL_law_923 (lv_at hl 11 rfl) ?_
      refine lv_iconst (v := nI 1) hx hb dL_law_925 (by decide +kernel) ?_
      refine q_roll hfl S hX hlowr2 hIr2 hyr2 hCr2 (Nat.le_refl _) (Nat.le_refl _) hbr2 hlor2 (by omega) hgr2 (by omega) (cwlaw_roll hts) hl.1 (Nat.le_of_ble_eq_true rfl) dL_law_926 ⟨by show _ ≤ 600104; omega, by show _ ≤ 7301314; omega⟩ (fun ad7 H7 lc7 hCs hys hFs hlos => ?_)
      refine W.eq (g2 := F0 m 929 ls [.int (nI ((qu σ6 a + 1) % 3))]) rfl ?_
      have hwB3 := hwB2.kept (hFs.2 wa hwB2.lt (by omega) (by omega) (wa_ap hX.1 hCr2 hwB2))
      have e9 : o_up σ6 a ((qu σ6 a + 1) % 3) = σ := by
        rw [show (qu σ6 a + 1) % 3 = qu σ a by omega, eσ6, eσ5, up_up, up_up]
        exact up_same
      rw [e9] at hCs hys
      have hLI9 : LI Γ bs s σ ad7 H7 lc7 := hLIr2.step hI hJ hCs hys hFs hlos
      obtain ⟨hI9, hJ9, hy9, hC9, hlo9, hb9, hlow9⟩ := id hLI9
      refine lv_iload hx hb dL_law_929 (lv_at hl 0 rfl) ?_
      refine x_icne hx hb (by omega) (by omega) (tgt := 944) dL_law_931 (by decide) (fun c_3 => ?_) (fun c_3 => ?_)
      · skip
        exact False.elim (by omega)
      · skip
        refine lv_aload_n hx hb dL_law_934 rfl (lv_at hl 15 rfl) ?_
        refine ro_V (rest := []) S hX.1 (c_X1_digest l Γ bs σ ad7 hI9 (bs + 2) hy9) (cwlaw_digest hts) (Ob.recv hX.1 hC9.1 rfl) hC9 rfl hl.1 rfl (Nat.le_of_ble_eq_true rfl) dL_law_935 ⟨by show _ ≤ 600104; omega, by show _ ≤ 7301314; omega⟩ ?_
        refine W.eq (g2 := F0 m 938 ls [.long (dig σ)]) rfl ?_
        refine lv_lload hx hb dL_law_938 (lv_at hl 1 rfl) ?_
        refine x_lcmp (v := nI 0) hx hb dL_law_940 (lcmp_eq _) ?_
        refine x_ifeq hx hb (by omega) (tgt := 1006) dL_law_941 (by decide) (fun c_4 => ?_) (fun c_4 => absurd c_4 (by decide))
        refine W.widen (k := C0 + 12) (n := S0 + 156) (by omega) (by omega) ?_
        exact k σ ad7 H7 lc7 hLI9 hg hwB3 (fun _ => Keep.rf) ls (lv_sub hl [7, 8, 9, 13, 14, 15, 16] rfl)
set_option maxHeartbeats 8000000 in
set_option maxRecDepth 100000 in
theorem lawc_0 {p : Program} {l : Launch} {e : Env} {s : State} {m : MethodId} {args : Array Value} {below : List Frame} {meth : Method} {c : Code} {H : Heap} {locs : List Loc} {Q : State → Prop} {Γ : GG} {bs sb L C0 S0 : Nat} {xs : Nat → Int32} {σ : St} {ad : Nat → Nat} {t a b g ig wa β : Nat} {X : Int32}
    (hfl : l.stackTraces = false) (S : CallFix p m c cL_law 26 s args wsL_law RL) (hX : xW Γ bs sb L xs s) (hC0 : C0 + 100 ≤ 600104) (hS0 : S0 + 1500 ≤ 7301314) (hLI : LI Γ bs s σ ad H locs) (ha : a < qn σ) (hga : qg σ a = 0) (hb_ : b < qn σ) (hg : g < qn σ) (hβ : qb σ = nI β) (hβ2 : 2 * β ≤ qn σ) (hwa : ∀ i, i < qn σ → ad i + 4 ≤ wa) (hwb : bs + 2 ≤ wa) (hwA : Ai Γ wa 60 (tv σ g) H)
    (k : ∀ (σ1 : St) (ad1 : Nat → Nat) (H1 : Heap) (lc1 : List Loc), LI Γ bs s σ1 ad1 H1 lc1 → g < qn σ1 → Ai Γ wa 60 (tv σ g) H1 → (qg σ g = 1 → Keep σ σ1 g) → ∀ ls : Array Slot, lv_has ls 26 [(9, .int (nI ig)), (8, .ref wa), (7, .int (nI g)), (3, .int X), (2, .int (nI t)), (1, .ref bs), (0, .ref sb)] → W p l e room_1 s m args below meth c H1 lc1 (C0 + 12) (S0 + 156) Q (F0 m 1006 ls []))
    (ls : Array Slot) (hl : lv_has ls 26 [(15, .long (dig σ)), (14, .int (nI (tN σ (qp σ) (qn σ)))), (13, .int (nI (tN σ (c4 σ) (qn σ)))), (12, .int (nI β)), (11, .int (nI (tN σ (c2 σ) (qn σ)))), (10, .int (nI (thr σ (qn σ)))), (9, .int (nI ig)), (8, .ref wa), (7, .int (nI g)), (6, .int (nI b)), (5, .int (nI a)), (4, .int (nI (qn σ))), (3, .int X), (2, .int (nI t)), (1, .ref bs), (0, .ref sb)]) : W p l e room_1 s m args below meth c H locs C0 S0 Q (F0 m 188 ls []) := by
  obtain ⟨hx, hb, hml, hown, hts⟩ := id S
  obtain ⟨hI, hJ, hy, hC, hlo, hb9, hlow⟩ := id hLI
  have h40 := hI.1
  have h1n := hJ.1
  have hth12 : thr σ (qn σ) ≤ 12 := hI.2.2.2.2.2.2
  have hpa := hI.2.1 a ha
  have hpb := hI.2.1 b hb_
  have hc2s := tN_small (g := c2 σ) hI (fun k hk => c2_le hI hk)
  have hc4s := tN_small (g := c4 σ) hI (fun k hk => Nat.le_trans (c4_le hI hk) (by decide))
  have hc5s := tN_small (g := qp σ) hI (fun k hk => Nat.le_trans (hI.2.1 k hk).2.1 (by decide))
  refine lv_iconst (v := nI 1) hx hb dL_law_188 (by decide +kernel) ?_
  refine lv_iload_n hx hb dL_law_189 rfl (lv_at hl 12 rfl) ?_
  refine lv_iconst (v := nI 4) hx hb dL_law_190 (by decide +kernel) ?_
  refine lv_ishr hx hb dL_law_191 ?_
  refine lv_bipush (v := nI 20) hx hb dL_law_192 (by decide +kernel) ?_
  refine ro_S (rest := [.int (nI 1)]) S hX.1 (c_L_below l Γ (X >>> ((nI 4) &&& 31)) 20 (by omega) (by omega)) (cwlaw_L_below hts) trivial rfl hl.1 rfl (Nat.le_of_ble_eq_true rfl) dL_law_194 ⟨by show _ ≤ 600104; omega, by show _ ≤ 7301314; omega⟩ ?_
  refine W.eq (g2 := F0 m 197 ls [.int (nI (bl (X >>> ((nI 4) &&& 31)) 20)), .int (nI 1)]) rfl ?_
  obtain ⟨b_1, hb_1, eb_1⟩ : ∃ z : Nat, z < 20 ∧ bl (X >>> ((nI 4) &&& 31)) 20 = z := ⟨_, bl_lt _ (by omega), rfl⟩
  refine x_e (show nI (bl (X >>> ((nI 4) &&& 31)) 20) = nI b_1 by rw [eb_1]) ?_
  clear eb_1
  refine x_add hx hb dL_law_197 ?_
  refine lv_istore (lv' := [(17, .int (nI (1 + b_1))), (15, .long (dig σ)), (14, .int (nI (tN σ (qp σ) (qn σ)))), (13, .int (nI (tN σ (c4 σ) (qn σ)))), (12, .int (nI β)), (11, .int (nI (tN σ (c2 σ) (qn σ)))), (10, .int (nI (thr σ (qn σ)))), (9, .int (nI ig)), (8, .ref wa), (7, .int (nI g)), (6, .int (nI b)), (5, .int (nI a)), (4, .int (nI (qn σ))), (3, .int X), (2, .int (nI t)), (1, .ref bs), (0, .ref sb)]) hx hb dL_law_198 hl (by decide) rfl (fun ls hl => ?_)
  refine lv_aload_n hx hb dL_law_200 rfl (lv_at hl 15 rfl) ?_
  refine lv_iload hx hb dL_law_201 (lv_at hl 11 rfl) ?_
  refine lv_iload hx hb dL_law_203 (lv_at hl 0 rfl) ?_
  refine q_pieces (v := .int (nI (cW (stn (rk σ a) (ak σ a)) (nI (1 + b_1)) (qp σ a - 1) + 1))) hfl S hX hlow hI hy hC ha (by omega) (by omega) (cwlaw_pieces hts) hl.1 (Nat.le_of_ble_eq_true rfl) dL_law_205 ⟨by show _ ≤ 600104; omega, by show _ ≤ 7301314; omega⟩ (rfl) ?_
  refine W.eq (g2 := F0 m 208 ls [.int (nI (cW (stn (rk σ a) (ak σ a)) (nI (1 + b_1)) (qp σ a - 1) + 1))]) rfl ?_
  refine lv_istore (lv' := [(18, .int (nI (cW (stn (rk σ a) (ak σ a)) (nI (1 + b_1)) (qp σ a - 1) + 1))), (17, .int (nI (1 + b_1))), (15, .long (dig σ)), (14, .int (nI (tN σ (qp σ) (qn σ)))), (13, .int (nI (tN σ (c4 σ) (qn σ)))), (12, .int (nI β)), (11, .int (nI (tN σ (c2 σ) (qn σ)))), (10, .int (nI (thr σ (qn σ)))), (9, .int (nI ig)), (8, .ref wa), (7, .int (nI g)), (6, .int (nI b)), (5, .int (nI a)), (4, .int (nI (qn σ))), (3, .int X), (2, .int (nI t)), (1, .ref bs), (0, .ref sb)]) hx hb dL_law_208 hl (by decide) rfl (fun ls hl => ?_)
  refine lv_aload_n hx hb dL_law_210 rfl (lv_at hl 16 rfl) ?_
  refine lv_iload hx hb dL_law_211 (lv_at hl 12 rfl) ?_
  refine lv_iload hx hb dL_law_213 (lv_at hl 1 rfl) ?_
  refine l_SW (rest := []) S hX hlow (c_L_bend l hfl Γ bs sb L xs bs σ ad hI (bs + 2) a (1 + b_1) ha hga (by omega) (by omega) hy (Nat.le_refl _) (Nat.le_refl _)) (vx_cwSW 3 hts gL_law_L_bend rfl rfl rfl (by decide +kernel) ⟨Nat.le_of_ble_eq_true rfl, Nat.le_of_ble_eq_true rfl⟩) ⟨hC, hb9⟩ rfl hl.1 rfl (Nat.le_of_ble_eq_true rfl) dL_law_215 ⟨by show _ ≤ 600104; omega, by show _ ≤ 7301314; omega⟩ hlo (fun v H3 lc3 hp hlo3 => ?_)
  have hcle := cW_le (stn (rk σ a) (ak σ a)) (nI (1 + b_1)) (qp σ a - 1)
  rcases hp with ⟨hc, rfl, ⟨ad2, hC3, hy3⟩, hF3⟩ | ⟨hc, rfl, hz3, ho3⟩
  · skip
    have hwA1 := hwA.kept (hF3.2 wa hwA.lt (by omega) (by omega) (fun i hi => Or.inr (hwa i hi)))
    cases eJ : bJ σ a (nI (1 + b_1)) with
    | none =>
      have eV : bdV σ a (nI (1 + b_1)) = -1 := by unfold bdV; rw [eJ]
      have eS : bdS σ a (nI (1 + b_1)) = σ := by unfold bdS; rw [eJ]
      rw [eS] at hC3 hy3
      refine W.eq (g2 := F0 m 218 ls [.int (bdV σ a (nI (1 + b_1)))]) rfl ?_
      refine x_e eV ?_
      have hpc : cW (stn (rk σ a) (ak σ a)) (nI (1 + b_1)) (qp σ a - 1) = 0 := bJ_no eJ
      have hLI1 : LI Γ bs s σ ad2 H3 lc3 := hLI.step hI hJ hC3 hy3 hF3 hlo3
      obtain ⟨hI1, hJ1, hy1, hC1, hlo1, hb1, hlow1⟩ := id hLI1
      refine lv_istore (lv' := [(19, .int ((-1))), (18, .int (nI (cW (stn (rk σ a) (ak σ a)) (nI (1 + b_1)) (qp σ a - 1) + 1))), (17, .int (nI (1 + b_1))), (15, .long (dig σ)), (14, .int (nI (tN σ (qp σ) (qn σ)))), (13, .int (nI (tN σ (c4 σ) (qn σ)))), (12, .int (nI β)), (11, .int (nI (tN σ (c2 σ) (qn σ)))), (10, .int (nI (thr σ (qn σ)))), (9, .int (nI ig)), (8, .ref wa), (7, .int (nI g)), (6, .int (nI b)), (5, .int (nI a)), (4, .int (nI (qn σ))), (3, .int X), (2, .int (nI t)), (1, .ref bs), (0, .ref sb)]) hx hb dL_law_218 hl (by decide) rfl (fun ls hl => ?_)
      refine lv_iload hx hb dL_law_220 (lv_at hl 1 rfl) ?_
      refine lv_iconst (v := nI 1) hx hb dL_law_222 (by decide +kernel) ?_
      refine x_icne hx hb (by omega) (by omega) (tgt := 232) dL_law_223 (by decide) (fun c_2 => ?_) (fun c_2 => ?_)
      · skip
        exact False.elim (by omega)
      · skip
        refine lv_iload hx hb dL_law_226 (lv_at hl 0 rfl) ?_
        refine lv_iconst (v := (-1)) hx hb dL_law_228 (by decide +kernel) ?_
        refine lv_icmp_ne (tgt := 280) hx hb dL_law_229 (by decide) (fun c_3 => ?_) (fun c_3 => ?_)
        · skip
          exact absurd rfl c_3
        · skip
          refine lv_iload hx hb dL_law_232 (lv_at hl 1 rfl) ?_
          refine lv_iconst (v := nI 1) hx hb dL_law_234 (by decide +kernel) ?_
          refine x_icle hx hb (by omega) (by omega) (tgt := 244) dL_law_235 (by decide) (fun c_4 => ?_) (fun c_4 => ?_)
          · skip
            refine lv_iload hx hb dL_law_244 (lv_at hl 0 rfl) ?_
            refine lv_bipush (v := (-2)) hx hb dL_law_246 (by decide +kernel) ?_
            refine lv_icmp_ne (tgt := 265) hx hb dL_law_248 (by decide) (fun c_5 => ?_) (fun c_5 => ?_)
            · skip
              refine lv_iload hx hb dL_law_265 (lv_at hl 0 rfl) ?_
              refine lv_if_ge (tgt := 282) hx hb dL_law_267 (by decide) (fun c_6 => ?_) (fun c_6 => ?_)
              · skip
                exact absurd c_6 (by decide +kernel)
              · skip
                refine lv_aload_n hx hb dL_law_270 rfl (lv_at hl 17 rfl) ?_
                refine ro_V (rest := []) S hX.1 (c_X1_digest l Γ bs σ ad2 hI1 (bs + 2) hy1) (cwlaw_digest hts) (Ob.recv hX.1 hC1.1 rfl) hC1 rfl hl.1 rfl (Nat.le_of_ble_eq_true rfl) dL_law_271 ⟨by show _ ≤ 600104; omega, by show _ ≤ 7301314; omega⟩ ?_
                refine W.eq (g2 := F0 m 274 ls [.long (dig σ)]) rfl ?_
                refine lv_lload hx hb dL_law_274 (lv_at hl 3 rfl) ?_
                refine x_lcmp (v := nI 0) hx hb dL_law_276 (lcmp_eq _) ?_
                refine x_ifeq hx hb (by omega) (tgt := 282) dL_law_277 (by decide) (fun c_7 => ?_) (fun c_7 => absurd c_7 (by decide))
                refine lv_iload hx hb dL_law_282 (lv_at hl 0 rfl) ?_
                refine lv_if_ge (tgt := 290) hx hb dL_law_284 (by decide) (fun c_8 => ?_) (fun c_8 => ?_)
                · skip
                  exact absurd c_8 (by decide +kernel)
                · skip
                  refine lv_goto (tgt := 1006) hx hb dL_law_287 (by decide) ?_
                  refine W.widen (k := C0 + 12) (n := S0 + 156) (by omega) (by omega) ?_
                  exact k σ ad2 H3 lc3 hLI1 hg hwA1 (fun _ => Keep.rf) ls (lv_sub hl [9, 10, 11, 15, 16, 17, 18] rfl)
            · skip
              exact absurd c_5 (by decide +kernel)
          · skip
            exact False.elim (by omega)
    | some j =>
      have eV : bdV σ a (nI (1 + b_1)) = nI (qn σ) := by unfold bdV; rw [eJ]
      have eS : bdS σ a (nI (1 + b_1)) = sBend σ a j := by unfold bdS; rw [eJ]
      rw [eS] at hC3 hy3
      refine W.eq (g2 := F0 m 218 ls [.int (bdV σ a (nI (1 + b_1)))]) rfl ?_
      refine x_e eV ?_
      have hcn : thr σ (qn σ) < 12 ∧ qn σ ≤ 38 := by
        rcases hc with h9 | h9
        · rw [eJ] at h9
          cases h9
        · exact h9
      have hj : j < qp σ a - 1 := bJ_lt eJ
      obtain ⟨σ1, e1⟩ : ∃ z : St, z = sBend σ a j := ⟨_, rfl⟩
      rw [← e1] at hC3 hy3
      have hn1 : qn σ1 = qn σ + 1 + 1 := by rw [e1]; rfl
      have hth1 : thr σ1 (qn σ1) = thr σ (qn σ) + 1 := by rw [hn1, e1]; exact thr_bend hI ha hga
      have hqb1 : qb σ1 = nI (β + 1) := by rw [e1]; show qb σ + nI 1 = nI (β + 1); rw [hβ, nI_add]
      have hgd1 : qg σ1 a = 1 := by rw [e1]; exact va_up_self _ _ _
      have hfit : nI (bP (fitP σ1 (qn σ) ((qn σ) + 1))) = nI 1 := by rw [e1, bP_t (bd_fit hI hJ.2.2 ha hcn.2)]
      have hp1 : qp σ1 (qn σ) = j + 1 := by rw [e1]; exact bd_p1
      have hp2 : qp σ1 ((qn σ) + 1) = qp σ a - (j + 1) := by rw [e1]; exact bd_p2
      have hp3 : qp σ1 a = qp σ a := by rw [e1]; exact bd_p0 ha
      have hE1 : qE σ1 (qn σ) = nI β := by rw [e1, ← hβ]; show upd (upd (qE σ) (qn σ) (qb σ)) (qn σ + 1) (qE σ a) (qn σ) = qb σ; rw [upd_n (by omega), upd_s]
      have hB1 : qB σ1 ((qn σ) + 1) = nI β := by rw [e1, ← hβ]; show upd (upd (qB σ) (qn σ) (qB σ a)) (qn σ + 1) (qb σ) (qn σ + 1) = qb σ; rw [upd_s]
      have hpc : cW (stn (rk σ1 (qn σ)) (ak σ1 (qn σ))) (nI (1 + b_1)) (qp σ1 (qn σ) - 1) + 1 + cW (stn (rk σ1 ((qn σ) + 1)) (ak σ1 ((qn σ) + 1))) (nI (1 + b_1)) (qp σ1 ((qn σ) + 1) - 1) = cW (stn (rk σ a) (ak σ a)) (nI (1 + b_1)) (qp σ a - 1) := by rw [hp1, hp2, e1]; exact bd_pc hI ha hj (bJ_yes eJ)
      have hn2 : tN σ1 (c2 σ1) (qn σ1) = tN σ (c2 σ) (qn σ) := by rw [hn1, e1]; exact n2_bend hI ha hga hj
      have hn5 : tN σ1 (qp σ1) (qn σ1) = tN σ (qp σ) (qn σ) := by rw [hn1, e1]; exact n5_bend hI ha hga hj
      have hn4 : tN σ1 (c4 σ1) (qn σ1) ≤ tN σ (c4 σ) (qn σ) ∧ tN σ (c4 σ) (qn σ) ≤ tN σ1 (c4 σ1) (qn σ1) + 1 := by rw [hn1, e1]; exact n4_bend hI ha hga hj
      have hLI1 : LI Γ bs s σ1 ad2 H3 lc3 := hLI.step (by rw [e1]; exact Iv_bend hI ha hga hj hcn.2 hcn.1) (by rw [e1]; exact Jv_bend hI hJ ha hcn.2) hC3 hy3 hF3 hlo3
      have hkp : qg σ g = 1 → Keep σ σ1 g := fun h9 => by rw [e1]; exact keep_bend hI ha hj hg (fun h8 => by rw [h8] at h9; omega)
      obtain ⟨hI1, hJ1, hy1, hC1, hlo1, hb1, hlow1⟩ := id hLI1
      refine lv_istore (lv' := [(19, .int (nI (qn σ))), (18, .int (nI (cW (stn (rk σ a) (ak σ a)) (nI (1 + b_1)) (qp σ a - 1) + 1))), (17, .int (nI (1 + b_1))), (15, .long (dig σ)), (14, .int (nI (tN σ (qp σ) (qn σ)))), (13, .int (nI (tN σ (c4 σ) (qn σ)))), (12, .int (nI β)), (11, .int (nI (tN σ (c2 σ) (qn σ)))), (10, .int (nI (thr σ (qn σ)))), (9, .int (nI ig)), (8, .ref wa), (7, .int (nI g)), (6, .int (nI b)), (5, .int (nI a)), (4, .int (nI (qn σ))), (3, .int X), (2, .int (nI t)), (1, .ref bs), (0, .ref sb)]) hx hb dL_law_218 hl (by decide) rfl (fun ls hl => ?_)
      refine lv_iload hx hb dL_law_220 (lv_at hl 1 rfl) ?_
      refine lv_iconst (v := nI 1) hx hb dL_law_222 (by decide +kernel) ?_
      refine x_icne hx hb (by omega) (by omega) (tgt := 232) dL_law_223 (by decide) (fun c_9 => ?_) (fun c_9 => ?_)
      · skip
        refine lv_iload hx hb dL_law_232 (lv_at hl 1 rfl) ?_
        refine lv_iconst (v := nI 1) hx hb dL_law_234 (by decide +kernel) ?_
        refine x_icle hx hb (by omega) (by omega) (tgt := 244) dL_law_235 (by decide) (fun c_10 => ?_) (fun c_10 => ?_)
        · skip
          exact False.elim (by omega)
        · skip
          refine lv_iload hx hb dL_law_238 (lv_at hl 0 rfl) ?_
          refine lv_iconst (v := (-1)) hx hb dL_law_240 (by decide +kernel) ?_
          refine lv_icmp_eq (tgt := 280) hx hb dL_law_241 (by decide) (fun c_11 => ?_) (fun c_11 => ?_)
          · skip
            exact absurd c_11 (nI_m1 (by omega))
          · skip
            refine lv_iload hx hb dL_law_244 (lv_at hl 0 rfl) ?_
            refine lv_bipush (v := (-2)) hx hb dL_law_246 (by decide +kernel) ?_
            refine lv_icmp_ne (tgt := 265) hx hb dL_law_248 (by decide) (fun c_12 => ?_) (fun c_12 => ?_)
            · skip
              refine lv_iload hx hb dL_law_265 (lv_at hl 0 rfl) ?_
              refine x_ifge hx hb (by omega) (tgt := 282) dL_law_267 (by decide) ?_
              refine lv_iload hx hb dL_law_282 (lv_at hl 0 rfl) ?_
              refine x_ifge hx hb (by omega) (tgt := 290) dL_law_284 (by decide) ?_
              refine lv_iload hx hb dL_law_290 (lv_at hl 0 rfl) ?_
              refine lv_iload hx hb dL_law_292 (lv_at hl 14 rfl) ?_
              refine x_icne hx hb (by omega) (by omega) (tgt := 477) dL_law_294 (by decide) (fun c_15 => ?_) (fun c_15 => ?_)
              · skip
                exact False.elim (by omega)
              · skip
                refine lv_aload_n hx hb dL_law_297 rfl (lv_at hl 17 rfl) ?_
                refine lv_iconst (v := nI 1) hx hb dL_law_298 (by decide +kernel) ?_
                refine q_count (v := .int (nI (qn σ1))) hfl S hX hlow1 hI1 hy1 hC1 (by omega) (cwlaw_count hts) hl.1 (Nat.le_of_ble_eq_true rfl) dL_law_299 ⟨by show _ ≤ 600104; omega, by show _ ≤ 7301314; omega⟩ (congrArg Value.int (tot_1 σ1)) ?_
                refine W.eq (g2 := F0 m 302 ls [.int (nI (qn σ1))]) rfl ?_
                refine lv_iload hx hb dL_law_302 (lv_at hl 14 rfl) ?_
                refine lv_iconst (v := nI 2) hx hb dL_law_304 (by decide +kernel) ?_
                refine x_add hx hb dL_law_305 ?_
                refine x_icne hx hb (by omega) (by omega) (tgt := 477) dL_law_306 (by decide) (fun c_16 => ?_) (fun c_16 => ?_)
                · skip
                  exact False.elim (by omega)
                · skip
                  refine lv_aload_n hx hb dL_law_309 rfl (lv_at hl 17 rfl) ?_
                  refine lv_iconst (v := nI 0) hx hb dL_law_310 (by decide +kernel) ?_
                  refine q_count (v := .int (nI (thr σ1 (qn σ1)))) hfl S hX hlow1 hI1 hy1 hC1 (by omega) (cwlaw_count hts) hl.1 (Nat.le_of_ble_eq_true rfl) dL_law_311 ⟨by show _ ≤ 600104; omega, by show _ ≤ 7301314; omega⟩ (congrArg Value.int (tot_0 σ1)) ?_
                  refine W.eq (g2 := F0 m 314 ls [.int (nI (thr σ1 (qn σ1)))]) rfl ?_
                  refine lv_iload hx hb dL_law_314 (lv_at hl 8 rfl) ?_
                  refine lv_iconst (v := nI 1) hx hb dL_law_316 (by decide +kernel) ?_
                  refine x_add hx hb dL_law_317 ?_
                  refine x_icne hx hb (by omega) (by omega) (tgt := 477) dL_law_318 (by decide) (fun c_17 => ?_) (fun c_17 => ?_)
                  · skip
                    exact False.elim (by omega)
                  · skip
                    refine lv_aload_n hx hb dL_law_321 rfl (lv_at hl 17 rfl) ?_
                    refine lv_iconst (v := nI 3) hx hb dL_law_322 (by decide +kernel) ?_
                    refine q_count (v := .int (nI (β + 1))) hfl S hX hlow1 hI1 hy1 hC1 (by omega) (cwlaw_count hts) hl.1 (Nat.le_of_ble_eq_true rfl) dL_law_323 ⟨by show _ ≤ 600104; omega, by show _ ≤ 7301314; omega⟩ (congrArg Value.int (hqb1)) ?_
                    refine W.eq (g2 := F0 m 326 ls [.int (nI (β + 1))]) rfl ?_
                    refine lv_iload hx hb dL_law_326 (lv_at hl 6 rfl) ?_
                    refine lv_iconst (v := nI 1) hx hb dL_law_328 (by decide +kernel) ?_
                    refine x_add hx hb dL_law_329 ?_
                    refine x_icne hx hb (by omega) (by omega) (tgt := 477) dL_law_330 (by decide) (fun c_18 => ?_) (fun c_18 => ?_)
                    · skip
                      exact False.elim (by omega)
                    · skip
                      refine lv_aload_n hx hb dL_law_333 rfl (lv_at hl 17 rfl) ?_
                      refine lv_iload hx hb dL_law_334 (lv_at hl 13 rfl) ?_
                      refine lv_bipush (v := nI 6) hx hb dL_law_336 (by decide +kernel) ?_
                      refine q_stick (v := .int (nI (qg σ1 a))) hfl S hX hlow1 hI1 hy1 hC1 (by omega) (by omega) (cwlaw_stick hts) hl.1 (Nat.le_of_ble_eq_true rfl) dL_law_338 ⟨by show _ ≤ 600104; omega, by show _ ≤ 7301314; omega⟩ (rfl) ?_
                      refine W.eq (g2 := F0 m 341 ls [.int (nI (qg σ1 a))]) rfl ?_
                      refine lv_iconst (v := nI 1) hx hb dL_law_341 (by decide +kernel) ?_
                      refine x_icne hx hb (by omega) (by omega) (tgt := 477) dL_law_342 (by decide) (fun c_19 => ?_) (fun c_19 => ?_)
                      · skip
                        exact False.elim (by omega)
                      · skip
                        refine lv_aload_n hx hb dL_law_345 rfl (lv_at hl 17 rfl) ?_
                        refine lv_iload hx hb dL_law_346 (lv_at hl 0 rfl) ?_
                        refine lv_iload hx hb dL_law_348 (lv_at hl 0 rfl) ?_
                        refine lv_iconst (v := nI 1) hx hb dL_law_350 (by decide +kernel) ?_
                        refine x_add hx hb dL_law_351 ?_
                        refine q_fits (v := .int (nI 1)) hfl S hX hlow1 hI1 hy1 hC1 (by omega) (by omega) (cwlaw_fits hts) hl.1 (Nat.le_of_ble_eq_true rfl) dL_law_352 ⟨by show _ ≤ 600104; omega, by show _ ≤ 7301314; omega⟩ (congrArg Value.int (hfit)) ?_
                        refine W.eq (g2 := F0 m 355 ls [.int (nI 1)]) rfl ?_
                        refine x_ifeq hx hb (by omega) (tgt := 477) dL_law_355 (by decide) (fun c_20 => absurd c_20 (by decide)) (fun c_20 => ?_)
                        refine lv_aload_n hx hb dL_law_358 rfl (lv_at hl 17 rfl) ?_
                        refine lv_iload hx hb dL_law_359 (lv_at hl 0 rfl) ?_
                        refine lv_iconst (v := nI 0) hx hb dL_law_361 (by decide +kernel) ?_
                        refine q_stick (v := .int (nI (qp σ1 (qn σ)))) hfl S hX hlow1 hI1 hy1 hC1 (by omega) (by omega) (cwlaw_stick hts) hl.1 (Nat.le_of_ble_eq_true rfl) dL_law_362 ⟨by show _ ≤ 600104; omega, by show _ ≤ 7301314; omega⟩ (rfl) ?_
                        refine W.eq (g2 := F0 m 365 ls [.int (nI (qp σ1 (qn σ)))]) rfl ?_
                        refine lv_aload_n hx hb dL_law_365 rfl (lv_at hl 17 rfl) ?_
                        refine lv_iload hx hb dL_law_366 (lv_at hl 0 rfl) ?_
                        refine lv_iconst (v := nI 1) hx hb dL_law_368 (by decide +kernel) ?_
                        refine x_add hx hb dL_law_369 ?_
                        refine lv_iconst (v := nI 0) hx hb dL_law_370 (by decide +kernel) ?_
                        refine q_stick (v := .int (nI (qp σ1 ((qn σ) + 1)))) hfl S hX hlow1 hI1 hy1 hC1 (by omega) (by omega) (cwlaw_stick hts) hl.1 (Nat.le_of_ble_eq_true rfl) dL_law_371 ⟨by show _ ≤ 600104; omega, by show _ ≤ 7301314; omega⟩ (rfl) ?_
                        refine W.eq (g2 := F0 m 374 ls [.int (nI (qp σ1 ((qn σ) + 1))), .int (nI (qp σ1 (qn σ)))]) rfl ?_
                        refine x_add hx hb dL_law_374 ?_
                        refine lv_aload_n hx hb dL_law_375 rfl (lv_at hl 17 rfl) ?_
                        refine lv_iload hx hb dL_law_376 (lv_at hl 13 rfl) ?_
                        refine lv_iconst (v := nI 0) hx hb dL_law_378 (by decide +kernel) ?_
                        refine q_stick (v := .int (nI (qp σ1 a))) hfl S hX hlow1 hI1 hy1 hC1 (by omega) (by omega) (cwlaw_stick hts) hl.1 (Nat.le_of_ble_eq_true rfl) dL_law_379 ⟨by show _ ≤ 600104; omega, by show _ ≤ 7301314; omega⟩ (rfl) ?_
                        refine W.eq (g2 := F0 m 382 ls [.int (nI (qp σ1 a)), .int (nI ((qp σ1 (qn σ)) + (qp σ1 ((qn σ) + 1))))]) rfl ?_
                        refine x_icne hx hb (by omega) (by omega) (tgt := 477) dL_law_382 (by decide) (fun c_21 => ?_) (fun c_21 => ?_)
                        · skip
                          exact False.elim (by omega)
                        · skip
                          refine lv_aload_n hx hb dL_law_385 rfl (lv_at hl 17 rfl) ?_
                          refine lv_iload hx hb dL_law_386 (lv_at hl 0 rfl) ?_
                          refine lv_iconst (v := nI 5) hx hb dL_law_388 (by decide +kernel) ?_
                          refine q_stick (v := .int (nI β)) hfl S hX hlow1 hI1 hy1 hC1 (by omega) (by omega) (cwlaw_stick hts) hl.1 (Nat.le_of_ble_eq_true rfl) dL_law_389 ⟨by show _ ≤ 600104; omega, by show _ ≤ 7301314; omega⟩ (congrArg Value.int (hE1)) ?_
                          refine W.eq (g2 := F0 m 392 ls [.int (nI β)]) rfl ?_
                          refine lv_iload hx hb dL_law_392 (lv_at hl 6 rfl) ?_
                          refine x_icne hx hb (by omega) (by omega) (tgt := 477) dL_law_394 (by decide) (fun c_22 => ?_) (fun c_22 => ?_)
                          · skip
                            exact False.elim (by omega)
                          · skip
                            refine lv_aload_n hx hb dL_law_397 rfl (lv_at hl 17 rfl) ?_
                            refine lv_iload hx hb dL_law_398 (lv_at hl 0 rfl) ?_
                            refine lv_iconst (v := nI 1) hx hb dL_law_400 (by decide +kernel) ?_
                            refine x_add hx hb dL_law_401 ?_
                            refine lv_iconst (v := nI 4) hx hb dL_law_402 (by decide +kernel) ?_
                            refine q_stick (v := .int (nI β)) hfl S hX hlow1 hI1 hy1 hC1 (by omega) (by omega) (cwlaw_stick hts) hl.1 (Nat.le_of_ble_eq_true rfl) dL_law_403 ⟨by show _ ≤ 600104; omega, by show _ ≤ 7301314; omega⟩ (congrArg Value.int (hB1)) ?_
                            refine W.eq (g2 := F0 m 406 ls [.int (nI β)]) rfl ?_
                            refine lv_iload hx hb dL_law_406 (lv_at hl 6 rfl) ?_
                            refine x_icne hx hb (by omega) (by omega) (tgt := 477) dL_law_408 (by decide) (fun c_23 => ?_) (fun c_23 => ?_)
                            · skip
                              exact False.elim (by omega)
                            · skip
                              refine lv_aload_n hx hb dL_law_411 rfl (lv_at hl 17 rfl) ?_
                              refine lv_iload hx hb dL_law_412 (lv_at hl 0 rfl) ?_
                              refine lv_iload hx hb dL_law_414 (lv_at hl 2 rfl) ?_
                              refine q_pieces (v := .int (nI (cW (stn (rk σ1 (qn σ)) (ak σ1 (qn σ))) (nI (1 + b_1)) (qp σ1 (qn σ) - 1) + 1))) hfl S hX hlow1 hI1 hy1 hC1 (by omega) (by omega) (by omega) (cwlaw_pieces hts) hl.1 (Nat.le_of_ble_eq_true rfl) dL_law_416 ⟨by show _ ≤ 600104; omega, by show _ ≤ 7301314; omega⟩ (rfl) ?_
                              refine W.eq (g2 := F0 m 419 ls [.int (nI (cW (stn (rk σ1 (qn σ)) (ak σ1 (qn σ))) (nI (1 + b_1)) (qp σ1 (qn σ) - 1) + 1))]) rfl ?_
                              refine lv_aload_n hx hb dL_law_419 rfl (lv_at hl 17 rfl) ?_
                              refine lv_iload hx hb dL_law_420 (lv_at hl 0 rfl) ?_
                              refine lv_iconst (v := nI 1) hx hb dL_law_422 (by decide +kernel) ?_
                              refine x_add hx hb dL_law_423 ?_
                              refine lv_iload hx hb dL_law_424 (lv_at hl 2 rfl) ?_
                              refine q_pieces (v := .int (nI (cW (stn (rk σ1 ((qn σ) + 1)) (ak σ1 ((qn σ) + 1))) (nI (1 + b_1)) (qp σ1 ((qn σ) + 1) - 1) + 1))) hfl S hX hlow1 hI1 hy1 hC1 (by omega) (by omega) (by omega) (cwlaw_pieces hts) hl.1 (Nat.le_of_ble_eq_true rfl) dL_law_426 ⟨by show _ ≤ 600104; omega, by show _ ≤ 7301314; omega⟩ (rfl) ?_
                              refine W.eq (g2 := F0 m 429 ls [.int (nI (cW (stn (rk σ1 ((qn σ) + 1)) (ak σ1 ((qn σ) + 1))) (nI (1 + b_1)) (qp σ1 ((qn σ) + 1) - 1) + 1)), .int (nI (cW (stn (rk σ1 (qn σ)) (ak σ1 (qn σ))) (nI (1 + b_1)) (qp σ1 (qn σ) - 1) + 1))]) rfl ?_
                              refine x_add hx hb dL_law_429 ?_
                              refine lv_iload hx hb dL_law_430 (lv_at hl 1 rfl) ?_
                              refine x_icne hx hb (by omega) (by omega) (tgt := 477) dL_law_432 (by decide) (fun c_24 => ?_) (fun c_24 => ?_)
                              · skip
                                exact False.elim (by omega)
                              · skip
                                refine lv_aload_n hx hb dL_law_435 rfl (lv_at hl 17 rfl) ?_
                                refine lv_iconst (v := nI 2) hx hb dL_law_436 (by decide +kernel) ?_
                                refine q_count (v := .int (nI (tN σ1 (c2 σ1) (qn σ1)))) hfl S hX hlow1 hI1 hy1 hC1 (by omega) (cwlaw_count hts) hl.1 (Nat.le_of_ble_eq_true rfl) dL_law_437 ⟨by show _ ≤ 600104; omega, by show _ ≤ 7301314; omega⟩ (congrArg Value.int (tot_2 σ1)) ?_
                                refine W.eq (g2 := F0 m 440 ls [.int (nI (tN σ1 (c2 σ1) (qn σ1)))]) rfl ?_
                                refine lv_iload hx hb dL_law_440 (lv_at hl 7 rfl) ?_
                                refine x_icne hx hb (by omega) (by omega) (tgt := 477) dL_law_442 (by decide) (fun c_25 => ?_) (fun c_25 => ?_)
                                · skip
                                  exact False.elim (by omega)
                                · skip
                                  refine lv_aload_n hx hb dL_law_445 rfl (lv_at hl 17 rfl) ?_
                                  refine lv_iconst (v := nI 5) hx hb dL_law_446 (by decide +kernel) ?_
                                  refine q_count (v := .int (nI (tN σ1 (qp σ1) (qn σ1)))) hfl S hX hlow1 hI1 hy1 hC1 (by omega) (cwlaw_count hts) hl.1 (Nat.le_of_ble_eq_true rfl) dL_law_447 ⟨by show _ ≤ 600104; omega, by show _ ≤ 7301314; omega⟩ (congrArg Value.int (tot_5 σ1)) ?_
                                  refine W.eq (g2 := F0 m 450 ls [.int (nI (tN σ1 (qp σ1) (qn σ1)))]) rfl ?_
                                  refine lv_iload hx hb dL_law_450 (lv_at hl 4 rfl) ?_
                                  refine x_icne hx hb (by omega) (by omega) (tgt := 477) dL_law_452 (by decide) (fun c_26 => ?_) (fun c_26 => ?_)
                                  · skip
                                    exact False.elim (by omega)
                                  · skip
                                    refine lv_aload_n hx hb dL_law_455 rfl (lv_at hl 17 rfl) ?_
                                    refine lv_iconst (v := nI 4) hx hb dL_law_456 (by decide +kernel) ?_
                                    refine q_count (v := .int (nI (tN σ1 (c4 σ1) (qn σ1)))) hfl S hX hlow1 hI1 hy1 hC1 (by omega) (cwlaw_count hts) hl.1 (Nat.le_of_ble_eq_true rfl) dL_law_457 ⟨by show _ ≤ 600104; omega, by show _ ≤ 7301314; omega⟩ (congrArg Value.int (tot_4 σ1)) ?_
                                    refine W.eq (g2 := F0 m 460 ls [.int (nI (tN σ1 (c4 σ1) (qn σ1)))]) rfl ?_
                                    refine lv_iload hx hb dL_law_460 (lv_at hl 5 rfl) ?_
                                    refine x_icgt hx hb (by omega) (by omega) (tgt := 477) dL_law_462 (by decide) (fun c_27 => ?_) (fun c_27 => ?_)
                                    · skip
                                      exact False.elim (by omega)
                                    · skip
                                      refine lv_aload_n hx hb dL_law_465 rfl (lv_at hl 17 rfl) ?_
                                      refine lv_iconst (v := nI 4) hx hb dL_law_466 (by decide +kernel) ?_
                                      refine q_count (v := .int (nI (tN σ1 (c4 σ1) (qn σ1)))) hfl S hX hlow1 hI1 hy1 hC1 (by omega) (cwlaw_count hts) hl.1 (Nat.le_of_ble_eq_true rfl) dL_law_467 ⟨by show _ ≤ 600104; omega, by show _ ≤ 7301314; omega⟩ (congrArg Value.int (tot_4 σ1)) ?_
                                      refine W.eq (g2 := F0 m 470 ls [.int (nI (tN σ1 (c4 σ1) (qn σ1)))]) rfl ?_
                                      refine lv_iload hx hb dL_law_470 (lv_at hl 5 rfl) ?_
                                      refine lv_iconst (v := nI 1) hx hb dL_law_472 (by decide +kernel) ?_
                                      by_cases hz9 : tN σ (c4 σ) (qn σ) = 0
                                      · skip
                                        refine lv_isub hx hb dL_law_473 ?_
                                        refine x_e (show nI (tN σ (c4 σ) (qn σ)) - nI 1 = -1 by rw [hz9]; decide +kernel) ?_
                                        refine lv_icmp_ge (tgt := 1006) hx hb dL_law_474 (by decide) (fun c_9 => ?_) (fun c_9 => absurd (m1_le (by omega)) c_9)
                                        refine W.widen (k := C0 + 12) (n := S0 + 156) (by omega) (by omega) ?_
                                        exact k σ1 ad2 H3 lc3 hLI1 (by omega) hwA1 hkp ls (lv_sub hl [9, 10, 11, 15, 16, 17, 18] rfl)
                                      refine x_sub hx hb (by omega) dL_law_473 ?_
                                      refine x_icge hx hb (by omega) (by omega) (tgt := 1006) dL_law_474 (by decide) (fun c_28 => ?_) (fun c_28 => ?_)
                                      · skip
                                        refine W.widen (k := C0 + 12) (n := S0 + 156) (by omega) (by omega) ?_
                                        exact k σ1 ad2 H3 lc3 hLI1 (by omega) hwA1 hkp ls (lv_sub hl [9, 10, 11, 15, 16, 17, 18] rfl)
                                      · skip
                                        exact False.elim (by omega)
            · skip
              exact absurd c_12 (nI_m2 (by omega))
      · skip
        exact False.elim (by omega)
  · skip
    have hwA1 := hwA.kept (ho3 _ hwA.lt)
    refine W.eq (g2 := F0 m 218 ls [.int ((-2))]) rfl ?_
    have hcn : ¬ (thr σ (qn σ) < 12 ∧ qn σ ≤ 38) := fun h9 => hc (Or.inr h9)
    have hpc : 1 ≤ cW (stn (rk σ a) (ak σ a)) (nI (1 + b_1)) (qp σ a - 1) := by
      cases eJ : bJ σ a (nI (1 + b_1)) with
      | none => exact absurd (Or.inl eJ) hc
      | some j =>
        have h9 := bd_pc hI ha (bJ_lt eJ) (bJ_yes eJ)
        omega
    have hLI1 : LI Γ bs s σ ad H3 lc3 := hLI.same hz3 ho3 hlo3
    obtain ⟨hI1, hJ1, hy1, hC1, hlo1, hb1, hlow1⟩ := id hLI1
    refine lv_istore (lv' := [(19, .int ((-2))), (18, .int (nI (cW (stn (rk σ a) (ak σ a)) (nI (1 + b_1)) (qp σ a - 1) + 1))), (17, .int (nI (1 + b_1))), (15, .long (dig σ)), (14, .int (nI (tN σ (qp σ) (qn σ)))), (13, .int (nI (tN σ (c4 σ) (qn σ)))), (12, .int (nI β)), (11, .int (nI (tN σ (c2 σ) (qn σ)))), (10, .int (nI (thr σ (qn σ)))), (9, .int (nI ig)), (8, .ref wa), (7, .int (nI g)), (6, .int (nI b)), (5, .int (nI a)), (4, .int (nI (qn σ))), (3, .int X), (2, .int (nI t)), (1, .ref bs), (0, .ref sb)]) hx hb dL_law_218 hl (by decide) rfl (fun ls hl => ?_)
    refine lv_iload hx hb dL_law_220 (lv_at hl 1 rfl) ?_
    refine lv_iconst (v := nI 1) hx hb dL_law_222 (by decide +kernel) ?_
    refine x_icne hx hb (by omega) (by omega) (tgt := 232) dL_law_223 (by decide) (fun c_29 => ?_) (fun c_29 => ?_)
    · skip
      refine lv_iload hx hb dL_law_232 (lv_at hl 1 rfl) ?_
      refine lv_iconst (v := nI 1) hx hb dL_law_234 (by decide +kernel) ?_
      refine x_icle hx hb (by omega) (by omega) (tgt := 244) dL_law_235 (by decide) (fun c_30 => ?_) (fun c_30 => ?_)
      · skip
        exact False.elim (by omega)
      · skip
        refine lv_iload hx hb dL_law_238 (lv_at hl 0 rfl) ?_
        refine lv_iconst (v := (-1)) hx hb dL_law_240 (by decide +kernel) ?_
        refine lv_icmp_eq (tgt := 280) hx hb dL_law_241 (by decide) (fun c_31 => ?_) (fun c_31 => ?_)
        · skip
          exact absurd c_31 (by decide +kernel)
        · skip
          refine lv_iload hx hb dL_law_244 (lv_at hl 0 rfl) ?_
          refine lv_bipush (v := (-2)) hx hb dL_law_246 (by decide +kernel) ?_
          refine lv_icmp_ne (tgt := 265) hx hb dL_law_248 (by decide) (fun c_32 => ?_) (fun c_32 => ?_)
          · skip
            exact absurd rfl c_32
          · skip
            refine lv_iload hx hb dL_law_251 (lv_at hl 8 rfl) ?_
            refine lv_bipush (v := nI 12) hx hb dL_law_253 (by decide +kernel) ?_
            refine x_icge hx hb (by omega) (by omega) (tgt := 265) dL_law_255 (by decide) (fun c_33 => ?_) (fun c_33 => ?_)
            · skip
              refine lv_iload hx hb dL_law_265 (lv_at hl 0 rfl) ?_
              refine lv_if_ge (tgt := 282) hx hb dL_law_267 (by decide) (fun c_34 => ?_) (fun c_34 => ?_)
              · skip
                exact absurd c_34 (by decide +kernel)
              · skip
                refine lv_aload_n hx hb dL_law_270 rfl (lv_at hl 17 rfl) ?_
                refine ro_V (rest := []) S hX.1 (c_X1_digest l Γ bs σ ad hI1 (bs + 2) hy1) (cwlaw_digest hts) (Ob.recv hX.1 hC1.1 rfl) hC1 rfl hl.1 rfl (Nat.le_of_ble_eq_true rfl) dL_law_271 ⟨by show _ ≤ 600104; omega, by show _ ≤ 7301314; omega⟩ ?_
                refine W.eq (g2 := F0 m 274 ls [.long (dig σ)]) rfl ?_
                refine lv_lload hx hb dL_law_274 (lv_at hl 3 rfl) ?_
                refine x_lcmp (v := nI 0) hx hb dL_law_276 (lcmp_eq _) ?_
                refine x_ifeq hx hb (by omega) (tgt := 282) dL_law_277 (by decide) (fun c_35 => ?_) (fun c_35 => absurd c_35 (by decide))
                refine lv_iload hx hb dL_law_282 (lv_at hl 0 rfl) ?_
                refine lv_if_ge (tgt := 290) hx hb dL_law_284 (by decide) (fun c_36 => ?_) (fun c_36 => ?_)
                · skip
                  exact absurd c_36 (by decide +kernel)
                · skip
                  refine lv_goto (tgt := 1006) hx hb dL_law_287 (by decide) ?_
                  refine W.widen (k := C0 + 12) (n := S0 + 156) (by omega) (by omega) ?_
                  exact k σ ad H3 lc3 hLI1 hg hwA1 (fun _ => Keep.rf) ls (lv_sub hl [9, 10, 11, 15, 16, 17, 18] rfl)
            · skip
              refine lv_iload hx hb dL_law_258 (lv_at hl 14 rfl) ?_
              refine lv_bipush (v := nI 39) hx hb dL_law_260 (by decide +kernel) ?_
              refine x_iclt hx hb (by omega) (by omega) (tgt := 280) dL_law_262 (by decide) (fun c_37 => ?_) (fun c_37 => ?_)
              · skip
                exact False.elim (by omega)
              · skip
                refine lv_iload hx hb dL_law_265 (lv_at hl 0 rfl) ?_
                refine lv_if_ge (tgt := 282) hx hb dL_law_267 (by decide) (fun c_38 => ?_) (fun c_38 => ?_)
                · skip
                  exact absurd c_38 (by decide +kernel)
                · skip
                  refine lv_aload_n hx hb dL_law_270 rfl (lv_at hl 17 rfl) ?_
                  refine ro_V (rest := []) S hX.1 (c_X1_digest l Γ bs σ ad hI1 (bs + 2) hy1) (cwlaw_digest hts) (Ob.recv hX.1 hC1.1 rfl) hC1 rfl hl.1 rfl (Nat.le_of_ble_eq_true rfl) dL_law_271 ⟨by show _ ≤ 600104; omega, by show _ ≤ 7301314; omega⟩ ?_
                  refine W.eq (g2 := F0 m 274 ls [.long (dig σ)]) rfl ?_
                  refine lv_lload hx hb dL_law_274 (lv_at hl 3 rfl) ?_
                  refine x_lcmp (v := nI 0) hx hb dL_law_276 (lcmp_eq _) ?_
                  refine x_ifeq hx hb (by omega) (tgt := 282) dL_law_277 (by decide) (fun c_39 => ?_) (fun c_39 => absurd c_39 (by decide))
                  refine lv_iload hx hb dL_law_282 (lv_at hl 0 rfl) ?_
                  refine lv_if_ge (tgt := 290) hx hb dL_law_284 (by decide) (fun c_40 => ?_) (fun c_40 => ?_)
                  · skip
                    exact absurd c_40 (by decide +kernel)
                  · skip
                    refine lv_goto (tgt := 1006) hx hb dL_law_287 (by decide) ?_
                    refine W.widen (k := C0 + 12) (n := S0 + 156) (by omega) (by omega) ?_
                    exact k σ ad H3 lc3 hLI1 hg hwA1 (fun _ => Keep.rf) ls (lv_sub hl [9, 10, 11, 15, 16, 17, 18] rfl)
    · skip
      exact False.elim (by omega)
set_option maxHeartbeats 8000000 in
set_option maxRecDepth 100000 in
theorem lawc_1 {p : Program} {l : Launch} {e : Env} {s : State} {m : MethodId} {args : Array Value} {below : List Frame} {meth : Method} {c : Code} {H : Heap} {locs : List Loc} {Q : State → Prop} {Γ : GG} {bs sb L C0 S0 : Nat} {xs : Nat → Int32} {σ : St} {ad : Nat → Nat} {t a b g ig wa β : Nat} {X : Int32}
    (hfl : l.stackTraces = false) (S : CallFix p m c cL_law 26 s args wsL_law RL) (hX : xW Γ bs sb L xs s) (hC0 : C0 + 100 ≤ 600104) (hS0 : S0 + 1500 ≤ 7301314) (hLI : LI Γ bs s σ ad H locs) (ha : a < qn σ) (hga : qg σ a = 0) (hb_ : b < qn σ) (hg : g < qn σ) (hβ : qb σ = nI β) (hβ2 : 2 * β ≤ qn σ) (hwa : ∀ i, i < qn σ → ad i + 4 ≤ wa) (hwb : bs + 2 ≤ wa) (hwA : Ai Γ wa 60 (tv σ g) H)
    (k : ∀ (σ1 : St) (ad1 : Nat → Nat) (H1 : Heap) (lc1 : List Loc), LI Γ bs s σ1 ad1 H1 lc1 → g < qn σ1 → Ai Γ wa 60 (tv σ g) H1 → (qg σ g = 1 → Keep σ σ1 g) → ∀ ls : Array Slot, lv_has ls 26 [(9, .int (nI ig)), (8, .ref wa), (7, .int (nI g)), (3, .int X), (2, .int (nI t)), (1, .ref bs), (0, .ref sb)] → W p l e room_1 s m args below meth c H1 lc1 (C0 + 12) (S0 + 156) Q (F0 m 1006 ls []))
    (ls : Array Slot) (hl : lv_has ls 26 [(15, .long (dig σ)), (14, .int (nI (tN σ (qp σ) (qn σ)))), (13, .int (nI (tN σ (c4 σ) (qn σ)))), (12, .int (nI β)), (11, .int (nI (tN σ (c2 σ) (qn σ)))), (10, .int (nI (thr σ (qn σ)))), (9, .int (nI ig)), (8, .ref wa), (7, .int (nI g)), (6, .int (nI b)), (5, .int (nI a)), (4, .int (nI (qn σ))), (3, .int X), (2, .int (nI t)), (1, .ref bs), (0, .ref sb)]) : W p l e room_1 s m args below meth c H locs C0 S0 Q (F0 m 479 ls []) := by
  obtain ⟨hx, hb, hml, hown, hts⟩ := id S
  obtain ⟨hI, hJ, hy, hC, hlo, hb9, hlow⟩ := id hLI
  have h40 := hI.1
  have h1n := hJ.1
  have hth12 : thr σ (qn σ) ≤ 12 := hI.2.2.2.2.2.2
  have hpa := hI.2.1 a ha
  have hpb := hI.2.1 b hb_
  have hc2s := tN_small (g := c2 σ) hI (fun k hk => c2_le hI hk)
  have hc4s := tN_small (g := c4 σ) hI (fun k hk => Nat.le_trans (c4_le hI hk) (by decide))
  have hc5s := tN_small (g := qp σ) hI (fun k hk => Nat.le_trans (hI.2.1 k hk).2.1 (by decide))
  refine lv_iload_n hx hb dL_law_479 rfl (lv_at hl 12 rfl) ?_
  refine lv_iconst (v := nI 4) hx hb dL_law_480 (by decide +kernel) ?_
  refine lv_ishr hx hb dL_law_481 ?_
  refine lv_iconst (v := nI 3) hx hb dL_law_482 (by decide +kernel) ?_
  refine ro_S (rest := []) S hX.1 (c_L_below l Γ (X >>> ((nI 4) &&& 31)) 3 (by omega) (by omega)) (cwlaw_L_below hts) trivial rfl hl.1 rfl (Nat.le_of_ble_eq_true rfl) dL_law_483 ⟨by show _ ≤ 600104; omega, by show _ ≤ 7301314; omega⟩ ?_
  refine W.eq (g2 := F0 m 486 ls [.int (nI (bl (X >>> ((nI 4) &&& 31)) 3))]) rfl ?_
  obtain ⟨b_1, hb_1, eb_1⟩ : ∃ z : Nat, z < 3 ∧ bl (X >>> ((nI 4) &&& 31)) 3 = z := ⟨_, bl_lt _ (by omega), rfl⟩
  refine x_e (show nI (bl (X >>> ((nI 4) &&& 31)) 3) = nI b_1 by rw [eb_1]) ?_
  clear eb_1
  refine lv_istore (lv' := [(17, .int (nI b_1)), (15, .long (dig σ)), (14, .int (nI (tN σ (qp σ) (qn σ)))), (13, .int (nI (tN σ (c4 σ) (qn σ)))), (12, .int (nI β)), (11, .int (nI (tN σ (c2 σ) (qn σ)))), (10, .int (nI (thr σ (qn σ)))), (9, .int (nI ig)), (8, .ref wa), (7, .int (nI g)), (6, .int (nI b)), (5, .int (nI a)), (4, .int (nI (qn σ))), (3, .int X), (2, .int (nI t)), (1, .ref bs), (0, .ref sb)]) hx hb dL_law_486 hl (by decide) rfl (fun ls hl => ?_)
  refine lv_iconst (v := nI 1) hx hb dL_law_488 (by decide +kernel) ?_
  refine lv_iload_n hx hb dL_law_489 rfl (lv_at hl 13 rfl) ?_
  refine lv_bipush (v := nI 6) hx hb dL_law_490 (by decide +kernel) ?_
  refine lv_ishr hx hb dL_law_492 ?_
  refine lv_bipush (v := nI 9) hx hb dL_law_493 (by decide +kernel) ?_
  refine ro_S (rest := [.int (nI 1)]) S hX.1 (c_L_below l Γ (X >>> ((nI 6) &&& 31)) 9 (by omega) (by omega)) (cwlaw_L_below hts) trivial rfl hl.1 rfl (Nat.le_of_ble_eq_true rfl) dL_law_495 ⟨by show _ ≤ 600104; omega, by show _ ≤ 7301314; omega⟩ ?_
  refine W.eq (g2 := F0 m 498 ls [.int (nI (bl (X >>> ((nI 6) &&& 31)) 9)), .int (nI 1)]) rfl ?_
  obtain ⟨b_2, hb_2, eb_2⟩ : ∃ z : Nat, z < 9 ∧ bl (X >>> ((nI 6) &&& 31)) 9 = z := ⟨_, bl_lt _ (by omega), rfl⟩
  refine x_e (show nI (bl (X >>> ((nI 6) &&& 31)) 9) = nI b_2 by rw [eb_2]) ?_
  clear eb_2
  refine x_add hx hb dL_law_498 ?_
  refine lv_istore (lv' := [(18, .int (nI (1 + b_2))), (17, .int (nI b_1)), (15, .long (dig σ)), (14, .int (nI (tN σ (qp σ) (qn σ)))), (13, .int (nI (tN σ (c4 σ) (qn σ)))), (12, .int (nI β)), (11, .int (nI (tN σ (c2 σ) (qn σ)))), (10, .int (nI (thr σ (qn σ)))), (9, .int (nI ig)), (8, .ref wa), (7, .int (nI g)), (6, .int (nI b)), (5, .int (nI a)), (4, .int (nI (qn σ))), (3, .int X), (2, .int (nI t)), (1, .ref bs), (0, .ref sb)]) hx hb dL_law_499 hl (by decide) rfl (fun ls hl => ?_)
  have key : ∀ cn : Nat, cn ≤ 1 → (cn = 1 ↔ gC σ a b) → ∀ ls : Array Slot, lv_has ls 26 [(18, .int (nI (1 + b_2))), (17, .int (nI b_1)), (15, .long (dig σ)), (14, .int (nI (tN σ (qp σ) (qn σ)))), (13, .int (nI (tN σ (c4 σ) (qn σ)))), (12, .int (nI β)), (11, .int (nI (tN σ (c2 σ) (qn σ)))), (10, .int (nI (thr σ (qn σ)))), (9, .int (nI ig)), (8, .ref wa), (7, .int (nI g)), (6, .int (nI b)), (5, .int (nI a)), (4, .int (nI (qn σ))), (3, .int X), (2, .int (nI t)), (1, .ref bs), (0, .ref sb)] → W p l e room_1 s m args below meth c H locs C0 S0 Q (F0 m 551 ls [.int (nI cn)]) := by
    clear hl ls
    intro cn hcn1 hcn ls hl
    have hbf : bP (fitP σ a b) ≤ 1 := bP_le _
    refine lv_istore (lv' := [(19, .int (nI cn)), (18, .int (nI (1 + b_2))), (17, .int (nI b_1)), (15, .long (dig σ)), (14, .int (nI (tN σ (qp σ) (qn σ)))), (13, .int (nI (tN σ (c4 σ) (qn σ)))), (12, .int (nI β)), (11, .int (nI (tN σ (c2 σ) (qn σ)))), (10, .int (nI (thr σ (qn σ)))), (9, .int (nI ig)), (8, .ref wa), (7, .int (nI g)), (6, .int (nI b)), (5, .int (nI a)), (4, .int (nI (qn σ))), (3, .int X), (2, .int (nI t)), (1, .ref bs), (0, .ref sb)]) hx hb dL_law_551 hl (by decide) rfl (fun ls hl => ?_)
    refine lv_aload_n hx hb dL_law_553 rfl (lv_at hl 17 rfl) ?_
    refine lv_iload hx hb dL_law_554 (lv_at hl 13 rfl) ?_
    refine lv_iload hx hb dL_law_556 (lv_at hl 12 rfl) ?_
    refine q_fits (v := .int (nI (bP (fitP σ a b)))) hfl S hX hlow hI hy hC ha hb_ (cwlaw_fits hts) hl.1 (Nat.le_of_ble_eq_true rfl) dL_law_558 ⟨by show _ ≤ 600104; omega, by show _ ≤ 7301314; omega⟩ (rfl) ?_
    refine W.eq (g2 := F0 m 561 ls [.int (nI (bP (fitP σ a b)))]) rfl ?_
    refine lv_istore (lv' := [(20, .int (nI (bP (fitP σ a b)))), (19, .int (nI cn)), (18, .int (nI (1 + b_2))), (17, .int (nI b_1)), (15, .long (dig σ)), (14, .int (nI (tN σ (qp σ) (qn σ)))), (13, .int (nI (tN σ (c4 σ) (qn σ)))), (12, .int (nI β)), (11, .int (nI (tN σ (c2 σ) (qn σ)))), (10, .int (nI (thr σ (qn σ)))), (9, .int (nI ig)), (8, .ref wa), (7, .int (nI g)), (6, .int (nI b)), (5, .int (nI a)), (4, .int (nI (qn σ))), (3, .int X), (2, .int (nI t)), (1, .ref bs), (0, .ref sb)]) hx hb dL_law_561 hl (by decide) rfl (fun ls hl => ?_)
    refine lv_aload_n hx hb dL_law_563 rfl (lv_at hl 18 rfl) ?_
    refine lv_iload hx hb dL_law_564 (lv_at hl 14 rfl) ?_
    refine lv_iconst (v := nI 0) hx hb dL_law_566 (by decide +kernel) ?_
    refine q_stick (v := .int (nI (qp σ a))) hfl S hX hlow hI hy hC ha (by omega) (cwlaw_stick hts) hl.1 (Nat.le_of_ble_eq_true rfl) dL_law_567 ⟨by show _ ≤ 600104; omega, by show _ ≤ 7301314; omega⟩ (rfl) ?_
    refine W.eq (g2 := F0 m 570 ls [.int (nI (qp σ a))]) rfl ?_
    refine lv_istore (lv' := [(21, .int (nI (qp σ a))), (20, .int (nI (bP (fitP σ a b)))), (19, .int (nI cn)), (18, .int (nI (1 + b_2))), (17, .int (nI b_1)), (15, .long (dig σ)), (14, .int (nI (tN σ (qp σ) (qn σ)))), (13, .int (nI (tN σ (c4 σ) (qn σ)))), (12, .int (nI β)), (11, .int (nI (tN σ (c2 σ) (qn σ)))), (10, .int (nI (thr σ (qn σ)))), (9, .int (nI ig)), (8, .ref wa), (7, .int (nI g)), (6, .int (nI b)), (5, .int (nI a)), (4, .int (nI (qn σ))), (3, .int X), (2, .int (nI t)), (1, .ref bs), (0, .ref sb)]) hx hb dL_law_570 hl (by decide) rfl (fun ls hl => ?_)
    refine lv_aload_n hx hb dL_law_572 rfl (lv_at hl 19 rfl) ?_
    refine lv_iload hx hb dL_law_573 (lv_at hl 15 rfl) ?_
    refine lv_iload hx hb dL_law_575 (lv_at hl 14 rfl) ?_
    refine lv_iload hx hb dL_law_577 (lv_at hl 4 rfl) ?_
    refine lv_iload hx hb dL_law_579 (lv_at hl 3 rfl) ?_
    refine l_SW (rest := []) S hX hlow (c_L_glue l hfl Γ bs sb L xs bs σ ad hI (bs + 2) a b b_1 (1 + b_2) ha hb_ hga (by omega) (by omega) (by omega) hy (Nat.le_refl _) (Nat.le_refl _)) (vx_cwSW 5 hts gL_law_L_glue rfl rfl rfl (by decide +kernel) ⟨Nat.le_of_ble_eq_true rfl, Nat.le_of_ble_eq_true rfl⟩) ⟨hC, hb9⟩ rfl hl.1 rfl (Nat.le_of_ble_eq_true rfl) dL_law_581 ⟨by show _ ≤ 600104; omega, by show _ ≤ 7301314; omega⟩ hlo (fun v H3 lc3 hp hlo3 => ?_)
    rcases hp with ⟨hc, rfl, ⟨ad2, hC3, hy3⟩, hF3⟩ | ⟨hc, rfl, hz3, ho3⟩
    · skip
      have hwA1 := hwA.kept (hF3.2 wa hwA.lt (by omega) (by omega) (fun i hi => Or.inr (hwa i hi)))
      obtain rfl : cn = 1 := hcn.mpr hc
      obtain ⟨hc1, hc2, hc3, hc4⟩ := id hc
      refine W.eq (g2 := F0 m 584 ls [.int (nI (qn σ))]) rfl ?_
      obtain ⟨σ1, e1⟩ : ∃ z : St, z = sGlue σ a b b_1 (1 + b_2) := ⟨_, rfl⟩
      rw [← e1] at hC3 hy3
      have hn1 : qn σ1 = qn σ + 1 := by rw [e1]; rfl
      have hth1 : thr σ1 (qn σ1) + 1 = thr σ (qn σ) := by rw [hn1, e1]; exact thr_glue hI ha hb_ hc2 hga hc1
      have hgd1 : qg σ1 a = 1 := by rw [e1]; show va_up (va_up (qg σ) a 1) b 1 a = 1; rw [va_up_ne _ _ hc2, va_up_self]
      have hgd2 : qg σ1 b = 1 := by rw [e1]; exact va_up_self _ _ _
      have hp1 : qp σ1 (qn σ) = qp σ a + qp σ b := by rw [e1]; exact gl_p1
      have hp2 : qp σ1 b = qp σ b := by rw [e1]; exact gl_p0 hb_
      have hB1 : qB σ1 (qn σ) = qB σ a := by rw [e1]; show upd (qB σ) (qn σ) (qB σ a) (qn σ) = qB σ a; rw [upd_s]
      have hB2 : qB σ1 a = qB σ a := by rw [e1]; show upd (qB σ) (qn σ) (qB σ a) a = qB σ a; rw [upd_n (by omega)]
      have hE1 : qE σ1 (qn σ) = qE σ b := by rw [e1]; show upd (qE σ) (qn σ) (qE σ b) (qn σ) = qE σ b; rw [upd_s]
      have hE2 : qE σ1 b = qE σ b := by rw [e1]; show upd (qE σ) (qn σ) (qE σ b) b = qE σ b; rw [upd_n (by omega)]
      have hn2 : tN σ1 (c2 σ1) (qn σ1) = tN σ (c2 σ) (qn σ) := by rw [hn1, e1]; exact n2_glue hI ha hb_ hc2 hga hc1 hc3 (by omega)
      have hn5 : tN σ1 (qp σ1) (qn σ1) = tN σ (qp σ) (qn σ) := by rw [hn1, e1]; exact n5_glue hI ha hb_ hc2 hga hc1
      have hn4 : tN σ1 (c4 σ1) (qn σ1) = tN σ (c4 σ) (qn σ) + 1 := by rw [hn1, e1]; exact n4_glue hI ha hb_ hc2 hga hc1 hc3
      obtain ⟨sv, hsv, esv⟩ : ∃ v : Nat, v ≤ 1 + b_2 + more σ a b b_1 ∧ stn (rk σ1 (qn σ)) (ak σ1 (qn σ)) (qp σ a - 1) = nI v := by rw [e1]; exact gl_st (by omega)
      have hm3 := more_le σ a b b_1
      have hLI1 : LI Γ bs s σ1 ad2 H3 lc3 := hLI.step (by rw [e1]; exact Iv_glue hI ha hb_ hc2 hga hc1 hc4 hc3) (by rw [e1]; exact Jv_glue hI hJ ha hb_ (by omega)) hC3 hy3 hF3 hlo3
      have hkp : qg σ g = 1 → Keep σ σ1 g := fun h9 => by rw [e1]; exact keep_glue ha hb_ hc3 hg (fun h8 => by rw [h8] at h9; omega) (fun h8 => by rw [h8] at h9; omega)
      obtain ⟨hI1, hJ1, hy1, hC1, hlo1, hb1, hlow1⟩ := id hLI1
      refine lv_istore (lv' := [(22, .int (nI (qn σ))), (21, .int (nI (qp σ a))), (20, .int (nI (bP (fitP σ a b)))), (19, .int (nI 1)), (18, .int (nI (1 + b_2))), (17, .int (nI b_1)), (15, .long (dig σ)), (14, .int (nI (tN σ (qp σ) (qn σ)))), (13, .int (nI (tN σ (c4 σ) (qn σ)))), (12, .int (nI β)), (11, .int (nI (tN σ (c2 σ) (qn σ)))), (10, .int (nI (thr σ (qn σ)))), (9, .int (nI ig)), (8, .ref wa), (7, .int (nI g)), (6, .int (nI b)), (5, .int (nI a)), (4, .int (nI (qn σ))), (3, .int X), (2, .int (nI t)), (1, .ref bs), (0, .ref sb)]) hx hb dL_law_584 hl (by decide) rfl (fun ls hl => ?_)
      refine lv_iload hx hb dL_law_586 (lv_at hl 0 rfl) ?_
      refine lv_iload hx hb dL_law_588 (lv_at hl 3 rfl) ?_
      refine x_ifeq hx hb (by omega) (tgt := 598) dL_law_590 (by decide) (fun c_51 => absurd c_51 (by decide)) (fun c_51 => ?_)
      refine lv_iload hx hb dL_law_593 (lv_at hl 17 rfl) ?_
      refine lv_goto (tgt := 599) hx hb dL_law_595 (by decide) ?_
      refine x_icne hx hb (by omega) (by omega) (tgt := 617) dL_law_599 (by decide) (fun c_52 => ?_) (fun c_52 => ?_)
      · skip
        exact False.elim (by omega)
      · skip
        refine lv_iload hx hb dL_law_602 (lv_at hl 3 rfl) ?_
        refine x_ifne hx hb (by omega) (tgt := 619) dL_law_604 (by decide) (fun c_53 => ?_) (fun c_53 => absurd c_53 (by decide))
        refine lv_iload hx hb dL_law_619 (lv_at hl 3 rfl) ?_
        refine x_ifne hx hb (by omega) (tgt := 627) dL_law_621 (by decide) (fun c_54 => ?_) (fun c_54 => absurd c_54 (by decide))
        refine lv_aload_n hx hb dL_law_627 rfl (lv_at hl 20 rfl) ?_
        refine lv_iconst (v := nI 0) hx hb dL_law_628 (by decide +kernel) ?_
        refine q_count (v := .int (nI (thr σ1 (qn σ1)))) hfl S hX hlow1 hI1 hy1 hC1 (by omega) (cwlaw_count hts) hl.1 (Nat.le_of_ble_eq_true rfl) dL_law_629 ⟨by show _ ≤ 600104; omega, by show _ ≤ 7301314; omega⟩ (congrArg Value.int (tot_0 σ1)) ?_
        refine W.eq (g2 := F0 m 632 ls [.int (nI (thr σ1 (qn σ1)))]) rfl ?_
        refine lv_iload hx hb dL_law_632 (lv_at hl 11 rfl) ?_
        refine lv_iconst (v := nI 1) hx hb dL_law_634 (by decide +kernel) ?_
        refine x_sub hx hb (by omega) dL_law_635 ?_
        refine x_icne hx hb (by omega) (by omega) (tgt := 777) dL_law_636 (by decide) (fun c_55 => ?_) (fun c_55 => ?_)
        · skip
          exact False.elim (by omega)
        · skip
          refine lv_aload_n hx hb dL_law_639 rfl (lv_at hl 20 rfl) ?_
          refine lv_iload hx hb dL_law_640 (lv_at hl 16 rfl) ?_
          refine lv_bipush (v := nI 6) hx hb dL_law_642 (by decide +kernel) ?_
          refine q_stick (v := .int (nI (qg σ1 a))) hfl S hX hlow1 hI1 hy1 hC1 (by omega) (by omega) (cwlaw_stick hts) hl.1 (Nat.le_of_ble_eq_true rfl) dL_law_644 ⟨by show _ ≤ 600104; omega, by show _ ≤ 7301314; omega⟩ (rfl) ?_
          refine W.eq (g2 := F0 m 647 ls [.int (nI (qg σ1 a))]) rfl ?_
          refine lv_aload_n hx hb dL_law_647 rfl (lv_at hl 20 rfl) ?_
          refine lv_iload hx hb dL_law_648 (lv_at hl 15 rfl) ?_
          refine lv_bipush (v := nI 6) hx hb dL_law_650 (by decide +kernel) ?_
          refine q_stick (v := .int (nI (qg σ1 b))) hfl S hX hlow1 hI1 hy1 hC1 (by omega) (by omega) (cwlaw_stick hts) hl.1 (Nat.le_of_ble_eq_true rfl) dL_law_652 ⟨by show _ ≤ 600104; omega, by show _ ≤ 7301314; omega⟩ (rfl) ?_
          refine W.eq (g2 := F0 m 655 ls [.int (nI (qg σ1 b)), .int (nI (qg σ1 a))]) rfl ?_
          refine x_add hx hb dL_law_655 ?_
          refine lv_iconst (v := nI 2) hx hb dL_law_656 (by decide +kernel) ?_
          refine x_icne hx hb (by omega) (by omega) (tgt := 777) dL_law_657 (by decide) (fun c_56 => ?_) (fun c_56 => ?_)
          · skip
            exact False.elim (by omega)
          · skip
            refine lv_aload_n hx hb dL_law_660 rfl (lv_at hl 20 rfl) ?_
            refine lv_iload hx hb dL_law_661 (lv_at hl 0 rfl) ?_
            refine lv_iconst (v := nI 0) hx hb dL_law_663 (by decide +kernel) ?_
            refine q_stick (v := .int (nI (qp σ1 (qn σ)))) hfl S hX hlow1 hI1 hy1 hC1 (by omega) (by omega) (cwlaw_stick hts) hl.1 (Nat.le_of_ble_eq_true rfl) dL_law_664 ⟨by show _ ≤ 600104; omega, by show _ ≤ 7301314; omega⟩ (rfl) ?_
            refine W.eq (g2 := F0 m 667 ls [.int (nI (qp σ1 (qn σ)))]) rfl ?_
            refine lv_iload hx hb dL_law_667 (lv_at hl 1 rfl) ?_
            refine lv_aload_n hx hb dL_law_669 rfl (lv_at hl 20 rfl) ?_
            refine lv_iload hx hb dL_law_670 (lv_at hl 15 rfl) ?_
            refine lv_iconst (v := nI 0) hx hb dL_law_672 (by decide +kernel) ?_
            refine q_stick (v := .int (nI (qp σ1 b))) hfl S hX hlow1 hI1 hy1 hC1 (by omega) (by omega) (cwlaw_stick hts) hl.1 (Nat.le_of_ble_eq_true rfl) dL_law_673 ⟨by show _ ≤ 600104; omega, by show _ ≤ 7301314; omega⟩ (rfl) ?_
            refine W.eq (g2 := F0 m 676 ls [.int (nI (qp σ1 b)), .int (nI (qp σ a)), .int (nI (qp σ1 (qn σ)))]) rfl ?_
            refine x_add hx hb dL_law_676 ?_
            refine x_icne hx hb (by omega) (by omega) (tgt := 777) dL_law_677 (by decide) (fun c_57 => ?_) (fun c_57 => ?_)
            · skip
              exact False.elim (by omega)
            · skip
              refine lv_aload_n hx hb dL_law_680 rfl (lv_at hl 20 rfl) ?_
              refine lv_iload hx hb dL_law_681 (lv_at hl 0 rfl) ?_
              refine lv_iconst (v := nI 4) hx hb dL_law_683 (by decide +kernel) ?_
              refine q_stick (v := .int (qB σ a)) hfl S hX hlow1 hI1 hy1 hC1 (by omega) (by omega) (cwlaw_stick hts) hl.1 (Nat.le_of_ble_eq_true rfl) dL_law_684 ⟨by show _ ≤ 600104; omega, by show _ ≤ 7301314; omega⟩ (congrArg Value.int (hB1)) ?_
              refine W.eq (g2 := F0 m 687 ls [.int (qB σ a)]) rfl ?_
              refine lv_aload_n hx hb dL_law_687 rfl (lv_at hl 20 rfl) ?_
              refine lv_iload hx hb dL_law_688 (lv_at hl 16 rfl) ?_
              refine lv_iconst (v := nI 4) hx hb dL_law_690 (by decide +kernel) ?_
              refine q_stick (v := .int (qB σ a)) hfl S hX hlow1 hI1 hy1 hC1 (by omega) (by omega) (cwlaw_stick hts) hl.1 (Nat.le_of_ble_eq_true rfl) dL_law_691 ⟨by show _ ≤ 600104; omega, by show _ ≤ 7301314; omega⟩ (congrArg Value.int (hB2)) ?_
              refine W.eq (g2 := F0 m 694 ls [.int (qB σ a), .int (qB σ a)]) rfl ?_
              refine lv_icmp_ne (tgt := 777) hx hb dL_law_694 (by decide) (fun c_58 => ?_) (fun c_58 => ?_)
              · skip
                exact absurd rfl c_58
              · skip
                refine lv_aload_n hx hb dL_law_697 rfl (lv_at hl 20 rfl) ?_
                refine lv_iload hx hb dL_law_698 (lv_at hl 0 rfl) ?_
                refine lv_iconst (v := nI 5) hx hb dL_law_700 (by decide +kernel) ?_
                refine q_stick (v := .int (qE σ b)) hfl S hX hlow1 hI1 hy1 hC1 (by omega) (by omega) (cwlaw_stick hts) hl.1 (Nat.le_of_ble_eq_true rfl) dL_law_701 ⟨by show _ ≤ 600104; omega, by show _ ≤ 7301314; omega⟩ (congrArg Value.int (hE1)) ?_
                refine W.eq (g2 := F0 m 704 ls [.int (qE σ b)]) rfl ?_
                refine lv_aload_n hx hb dL_law_704 rfl (lv_at hl 20 rfl) ?_
                refine lv_iload hx hb dL_law_705 (lv_at hl 15 rfl) ?_
                refine lv_iconst (v := nI 5) hx hb dL_law_707 (by decide +kernel) ?_
                refine q_stick (v := .int (qE σ b)) hfl S hX hlow1 hI1 hy1 hC1 (by omega) (by omega) (cwlaw_stick hts) hl.1 (Nat.le_of_ble_eq_true rfl) dL_law_708 ⟨by show _ ≤ 600104; omega, by show _ ≤ 7301314; omega⟩ (congrArg Value.int (hE2)) ?_
                refine W.eq (g2 := F0 m 711 ls [.int (qE σ b), .int (qE σ b)]) rfl ?_
                refine lv_icmp_ne (tgt := 777) hx hb dL_law_711 (by decide) (fun c_59 => ?_) (fun c_59 => ?_)
                · skip
                  exact absurd rfl c_59
                · skip
                  refine lv_aload_n hx hb dL_law_714 rfl (lv_at hl 20 rfl) ?_
                  refine lv_iconst (v := nI 4) hx hb dL_law_715 (by decide +kernel) ?_
                  refine q_count (v := .int (nI (tN σ1 (c4 σ1) (qn σ1)))) hfl S hX hlow1 hI1 hy1 hC1 (by omega) (cwlaw_count hts) hl.1 (Nat.le_of_ble_eq_true rfl) dL_law_716 ⟨by show _ ≤ 600104; omega, by show _ ≤ 7301314; omega⟩ (congrArg Value.int (tot_4 σ1)) ?_
                  refine W.eq (g2 := F0 m 719 ls [.int (nI (tN σ1 (c4 σ1) (qn σ1)))]) rfl ?_
                  refine lv_iload hx hb dL_law_719 (lv_at hl 8 rfl) ?_
                  refine lv_iconst (v := nI 1) hx hb dL_law_721 (by decide +kernel) ?_
                  refine x_add hx hb dL_law_722 ?_
                  refine x_icne hx hb (by omega) (by omega) (tgt := 777) dL_law_723 (by decide) (fun c_60 => ?_) (fun c_60 => ?_)
                  · skip
                    exact False.elim (by omega)
                  · skip
                    refine lv_aload_n hx hb dL_law_726 rfl (lv_at hl 20 rfl) ?_
                    refine lv_iconst (v := nI 2) hx hb dL_law_727 (by decide +kernel) ?_
                    refine q_count (v := .int (nI (tN σ1 (c2 σ1) (qn σ1)))) hfl S hX hlow1 hI1 hy1 hC1 (by omega) (cwlaw_count hts) hl.1 (Nat.le_of_ble_eq_true rfl) dL_law_728 ⟨by show _ ≤ 600104; omega, by show _ ≤ 7301314; omega⟩ (congrArg Value.int (tot_2 σ1)) ?_
                    refine W.eq (g2 := F0 m 731 ls [.int (nI (tN σ1 (c2 σ1) (qn σ1)))]) rfl ?_
                    refine lv_iload hx hb dL_law_731 (lv_at hl 10 rfl) ?_
                    refine x_icne hx hb (by omega) (by omega) (tgt := 777) dL_law_733 (by decide) (fun c_61 => ?_) (fun c_61 => ?_)
                    · skip
                      exact False.elim (by omega)
                    · skip
                      refine lv_aload_n hx hb dL_law_736 rfl (lv_at hl 20 rfl) ?_
                      refine lv_iconst (v := nI 5) hx hb dL_law_737 (by decide +kernel) ?_
                      refine q_count (v := .int (nI (tN σ1 (qp σ1) (qn σ1)))) hfl S hX hlow1 hI1 hy1 hC1 (by omega) (cwlaw_count hts) hl.1 (Nat.le_of_ble_eq_true rfl) dL_law_738 ⟨by show _ ≤ 600104; omega, by show _ ≤ 7301314; omega⟩ (congrArg Value.int (tot_5 σ1)) ?_
                      refine W.eq (g2 := F0 m 741 ls [.int (nI (tN σ1 (qp σ1) (qn σ1)))]) rfl ?_
                      refine lv_iload hx hb dL_law_741 (lv_at hl 7 rfl) ?_
                      refine x_icne hx hb (by omega) (by omega) (tgt := 777) dL_law_743 (by decide) (fun c_62 => ?_) (fun c_62 => ?_)
                      · skip
                        exact False.elim (by omega)
                      · skip
                        refine lv_aload_n hx hb dL_law_746 rfl (lv_at hl 20 rfl) ?_
                        refine lv_iload hx hb dL_law_747 (lv_at hl 0 rfl) ?_
                        refine lv_iload hx hb dL_law_749 (lv_at hl 1 rfl) ?_
                        refine lv_iconst (v := nI 1) hx hb dL_law_751 (by decide +kernel) ?_
                        refine x_sub hx hb (by omega) dL_law_752 ?_
                        refine q_strength (v := .int (nI sv)) hfl S hX hlow1 hI1 hy1 hC1 (by omega) (by omega) (cwlaw_strength hts) hl.1 (Nat.le_of_ble_eq_true rfl) dL_law_753 ⟨by show _ ≤ 600104; omega, by show _ ≤ 7301314; omega⟩ (congrArg Value.int (esv)) ?_
                        refine W.eq (g2 := F0 m 756 ls [.int (nI sv)]) rfl ?_
                        refine lv_iload hx hb dL_law_756 (lv_at hl 4 rfl) ?_
                        refine lv_iload hx hb dL_law_758 (lv_at hl 2 rfl) ?_
                        refine x_ifeq hx hb (by omega) (tgt := 772) dL_law_760 (by decide) (fun c_63 => ?_) (fun c_63 => ?_)
                        · skip
                          have hm0 : more σ a b b_1 = 0 := more_0 (fun q9 => bP_0 c_63 q9.2)
                          refine lv_iconst (v := nI 0) hx hb dL_law_772 (by decide +kernel) ?_
                          refine x_add hx hb dL_law_773 ?_
                          refine x_icle hx hb (by omega) (by omega) (tgt := 1006) dL_law_774 (by decide) (fun c_64 => ?_) (fun c_64 => ?_)
                          · skip
                            refine W.widen (k := C0 + 12) (n := S0 + 156) (by omega) (by omega) ?_
                            exact k σ1 ad2 H3 lc3 hLI1 (by omega) hwA1 hkp ls (lv_sub hl [12, 13, 14, 18, 19, 20, 21] rfl)
                          · skip
                            exact False.elim (by omega)
                        · skip
                          refine lv_iload hx hb dL_law_763 (lv_at hl 5 rfl) ?_
                          refine x_ifne hx hb (by omega) (tgt := 772) dL_law_765 (by decide) (fun c_65 => ?_) (fun c_65 => ?_)
                          · skip
                            have hm0 : more σ a b b_1 = 0 := more_0 (fun q9 => by have := q9.1; omega)
                            refine lv_iconst (v := nI 0) hx hb dL_law_772 (by decide +kernel) ?_
                            refine x_add hx hb dL_law_773 ?_
                            refine x_icle hx hb (by omega) (by omega) (tgt := 1006) dL_law_774 (by decide) (fun c_66 => ?_) (fun c_66 => ?_)
                            · skip
                              refine W.widen (k := C0 + 12) (n := S0 + 156) (by omega) (by omega) ?_
                              exact k σ1 ad2 H3 lc3 hLI1 (by omega) hwA1 hkp ls (lv_sub hl [12, 13, 14, 18, 19, 20, 21] rfl)
                            · skip
                              exact False.elim (by omega)
                          · skip
                            refine lv_iconst (v := nI 3) hx hb dL_law_768 (by decide +kernel) ?_
                            refine lv_goto (tgt := 773) hx hb dL_law_769 (by decide) ?_
                            refine x_add hx hb dL_law_773 ?_
                            refine x_icle hx hb (by omega) (by omega) (tgt := 1006) dL_law_774 (by decide) (fun c_67 => ?_) (fun c_67 => ?_)
                            · skip
                              refine W.widen (k := C0 + 12) (n := S0 + 156) (by omega) (by omega) ?_
                              exact k σ1 ad2 H3 lc3 hLI1 (by omega) hwA1 hkp ls (lv_sub hl [12, 13, 14, 18, 19, 20, 21] rfl)
                            · skip
                              exact False.elim (by omega)
    · skip
      have hwA1 := hwA.kept (ho3 _ hwA.lt)
      have hcn0 : cn = 0 := by
        have h9 : ¬ cn = 1 := fun h8 => hc (hcn.mp h8)
        omega
      subst hcn0
      refine W.eq (g2 := F0 m 584 ls [.int ((-1))]) rfl ?_
      have hLI1 : LI Γ bs s σ ad H3 lc3 := hLI.same hz3 ho3 hlo3
      obtain ⟨hI1, hJ1, hy1, hC1, hlo1, hb1, hlow1⟩ := id hLI1
      refine lv_istore (lv' := [(22, .int ((-1))), (21, .int (nI (qp σ a))), (20, .int (nI (bP (fitP σ a b)))), (19, .int (nI 0)), (18, .int (nI (1 + b_2))), (17, .int (nI b_1)), (15, .long (dig σ)), (14, .int (nI (tN σ (qp σ) (qn σ)))), (13, .int (nI (tN σ (c4 σ) (qn σ)))), (12, .int (nI β)), (11, .int (nI (tN σ (c2 σ) (qn σ)))), (10, .int (nI (thr σ (qn σ)))), (9, .int (nI ig)), (8, .ref wa), (7, .int (nI g)), (6, .int (nI b)), (5, .int (nI a)), (4, .int (nI (qn σ))), (3, .int X), (2, .int (nI t)), (1, .ref bs), (0, .ref sb)]) hx hb dL_law_584 hl (by decide) rfl (fun ls hl => ?_)
      refine lv_iload hx hb dL_law_586 (lv_at hl 0 rfl) ?_
      refine lv_iload hx hb dL_law_588 (lv_at hl 3 rfl) ?_
      refine x_ifeq hx hb (by omega) (tgt := 598) dL_law_590 (by decide) (fun c_68 => ?_) (fun c_68 => absurd c_68 (by decide))
      refine lv_iconst (v := (-1)) hx hb dL_law_598 (by decide +kernel) ?_
      refine lv_icmp_ne (tgt := 617) hx hb dL_law_599 (by decide) (fun c_69 => ?_) (fun c_69 => ?_)
      · skip
        exact absurd rfl c_69
      · skip
        refine lv_iload hx hb dL_law_602 (lv_at hl 3 rfl) ?_
        refine x_ifne hx hb (by omega) (tgt := 619) dL_law_604 (by decide) (fun c_70 => absurd c_70 (by decide)) (fun c_70 => ?_)
        refine lv_aload_n hx hb dL_law_607 rfl (lv_at hl 20 rfl) ?_
        refine ro_V (rest := []) S hX.1 (c_X1_digest l Γ bs σ ad hI1 (bs + 2) hy1) (cwlaw_digest hts) (Ob.recv hX.1 hC1.1 rfl) hC1 rfl hl.1 rfl (Nat.le_of_ble_eq_true rfl) dL_law_608 ⟨by show _ ≤ 600104; omega, by show _ ≤ 7301314; omega⟩ ?_
        refine W.eq (g2 := F0 m 611 ls [.long (dig σ)]) rfl ?_
        refine lv_lload hx hb dL_law_611 (lv_at hl 6 rfl) ?_
        refine x_lcmp (v := nI 0) hx hb dL_law_613 (lcmp_eq _) ?_
        refine x_ifeq hx hb (by omega) (tgt := 619) dL_law_614 (by decide) (fun c_71 => ?_) (fun c_71 => absurd c_71 (by decide))
        refine lv_iload hx hb dL_law_619 (lv_at hl 3 rfl) ?_
        refine x_ifne hx hb (by omega) (tgt := 627) dL_law_621 (by decide) (fun c_72 => absurd c_72 (by decide)) (fun c_72 => ?_)
        refine lv_goto (tgt := 1006) hx hb dL_law_624 (by decide) ?_
        refine W.widen (k := C0 + 12) (n := S0 + 156) (by omega) (by omega) ?_
        exact k σ ad H3 lc3 hLI1 hg hwA1 (fun _ => Keep.rf) ls (lv_sub hl [12, 13, 14, 18, 19, 20, 21] rfl)
  refine lv_aload_n hx hb dL_law_501 rfl (lv_at hl 16 rfl) ?_
  refine lv_iload hx hb dL_law_502 (lv_at hl 11 rfl) ?_
  refine lv_bipush (v := nI 6) hx hb dL_law_504 (by decide +kernel) ?_
  refine q_stick (v := .int (nI (qg σ b))) hfl S hX hlow hI hy hC hb_ (by omega) (cwlaw_stick hts) hl.1 (Nat.le_of_ble_eq_true rfl) dL_law_506 ⟨by show _ ≤ 600104; omega, by show _ ≤ 7301314; omega⟩ (rfl) ?_
  refine W.eq (g2 := F0 m 509 ls [.int (nI (qg σ b))]) rfl ?_
  refine x_ifne hx hb (by omega) (tgt := 550) dL_law_509 (by decide) (fun c_3 => ?_) (fun c_3 => ?_)
  · skip
    refine lv_iconst (v := nI 0) hx hb dL_law_550 (by decide +kernel) ?_
    exact key 0 (by omega) (iff_of_false (by decide) (fun h9 => by obtain ⟨z1, z2, z3, z4⟩ := h9; omega)) ls (lv_sub hl [0, 1, 2, 3, 4, 5, 6, 7, 8, 9, 10, 11, 12, 13, 14, 15, 16, 17] rfl)
  · skip
    refine lv_iload hx hb dL_law_512 (lv_at hl 12 rfl) ?_
    refine lv_iload hx hb dL_law_514 (lv_at hl 11 rfl) ?_
    refine x_iceq hx hb (by omega) (by omega) (tgt := 550) dL_law_516 (by decide) (fun c_4 => ?_) (fun c_4 => ?_)
    · skip
      refine lv_iconst (v := nI 0) hx hb dL_law_550 (by decide +kernel) ?_
      exact key 0 (by omega) (iff_of_false (by decide) (fun h9 => by obtain ⟨z1, z2, z3, z4⟩ := h9; omega)) ls (lv_sub hl [0, 1, 2, 3, 4, 5, 6, 7, 8, 9, 10, 11, 12, 13, 14, 15, 16, 17] rfl)
    · skip
      refine lv_aload_n hx hb dL_law_519 rfl (lv_at hl 16 rfl) ?_
      refine lv_iload hx hb dL_law_520 (lv_at hl 12 rfl) ?_
      refine lv_iconst (v := nI 0) hx hb dL_law_522 (by decide +kernel) ?_
      refine q_stick (v := .int (nI (qp σ a))) hfl S hX hlow hI hy hC ha (by omega) (cwlaw_stick hts) hl.1 (Nat.le_of_ble_eq_true rfl) dL_law_523 ⟨by show _ ≤ 600104; omega, by show _ ≤ 7301314; omega⟩ (rfl) ?_
      refine W.eq (g2 := F0 m 526 ls [.int (nI (qp σ a))]) rfl ?_
      refine lv_aload_n hx hb dL_law_526 rfl (lv_at hl 16 rfl) ?_
      refine lv_iload hx hb dL_law_527 (lv_at hl 11 rfl) ?_
      refine lv_iconst (v := nI 0) hx hb dL_law_529 (by decide +kernel) ?_
      refine q_stick (v := .int (nI (qp σ b))) hfl S hX hlow hI hy hC hb_ (by omega) (cwlaw_stick hts) hl.1 (Nat.le_of_ble_eq_true rfl) dL_law_530 ⟨by show _ ≤ 600104; omega, by show _ ≤ 7301314; omega⟩ (rfl) ?_
      refine W.eq (g2 := F0 m 533 ls [.int (nI (qp σ b)), .int (nI (qp σ a))]) rfl ?_
      refine x_add hx hb dL_law_533 ?_
      refine lv_bipush (v := nI 13) hx hb dL_law_534 (by decide +kernel) ?_
      refine x_icge hx hb (by omega) (by omega) (tgt := 550) dL_law_536 (by decide) (fun c_5 => ?_) (fun c_5 => ?_)
      · skip
        refine lv_iconst (v := nI 0) hx hb dL_law_550 (by decide +kernel) ?_
        exact key 0 (by omega) (iff_of_false (by decide) (fun h9 => by obtain ⟨z1, z2, z3, z4⟩ := h9; omega)) ls (lv_sub hl [0, 1, 2, 3, 4, 5, 6, 7, 8, 9, 10, 11, 12, 13, 14, 15, 16, 17] rfl)
      · skip
        refine lv_iload hx hb dL_law_539 (lv_at hl 13 rfl) ?_
        refine lv_bipush (v := nI 40) hx hb dL_law_541 (by decide +kernel) ?_
        refine x_icge hx hb (by omega) (by omega) (tgt := 550) dL_law_543 (by decide) (fun c_6 => ?_) (fun c_6 => ?_)
        · skip
          refine lv_iconst (v := nI 0) hx hb dL_law_550 (by decide +kernel) ?_
          exact key 0 (by omega) (iff_of_false (by decide) (fun h9 => by obtain ⟨z1, z2, z3, z4⟩ := h9; omega)) ls (lv_sub hl [0, 1, 2, 3, 4, 5, 6, 7, 8, 9, 10, 11, 12, 13, 14, 15, 16, 17] rfl)
        · skip
          refine lv_iconst (v := nI 1) hx hb dL_law_546 (by decide +kernel) ?_
          refine lv_goto (tgt := 551) hx hb dL_law_547 (by decide) ?_
          exact key 1 (by omega) (iff_of_true rfl ⟨by omega, by omega, by omega, by omega⟩) ls (lv_sub hl [0, 1, 2, 3, 4, 5, 6, 7, 8, 9, 10, 11, 12, 13, 14, 15, 16, 17] rfl)
