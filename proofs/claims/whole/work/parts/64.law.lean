theorem and31 (x : Int32) : ∃ k : Nat, k < 32 ∧ x &&& nI 31 = nI k := by
  have h1 : (x.toBitVec &&& (31#32)).toNat < 32 := by
    rw [BitVec.toNat_and]
    exact Nat.lt_of_le_of_lt Nat.and_le_right (by decide)
  refine ⟨(x.toBitVec &&& (31#32)).toNat, h1, ?_⟩
  apply Int32.toBitVec_inj.mp
  show x.toBitVec &&& 31#32 = BitVec.ofNat 32 (x.toBitVec &&& (31#32)).toNat
  rw [BitVec.ofNat_toNat, BitVec.setWidth_eq]
theorem lend {a L : Nat} (hL : L ≤ 2560) (ha : a ≤ L) (h5 : a % 5 = 0) (h : ¬ nI L - nI 5 < nI a) : a + 5 ≤ L := by
  rcases Nat.lt_or_ge L 5 with q | q
  · have h0 : a = 0 := by omega
    subst h0
    exfalso
    apply h
    have h1 : (List.range 5).all (fun L => decide (nI L - nI 5 < nI 0)) = true := by decide +kernel
    exact of_decide_eq_true (List.all_eq_true.mp h1 L (List.mem_range.mpr q))
  · rw [pk_sub q, nI_ltI (by omega) (by omega)] at h
    omega
set_option maxHeartbeats 4000000 in
set_option maxRecDepth 100000 in
theorem lawc_mean {p : Program} {l : Launch} {e : Env} {s : State} {m : MethodId} {args : Array Value} {below : List Frame} {meth : Method} {c : Code} {H : Heap} {locs : List Loc} {Q : State → Prop} {Γ : GG} {cJ : ClassId} {bs sb L i C0 S0 : Nat} {xs : Nat → Int32} {σ : St} {ad : Nat → Nat} {th : Int32} {v0 : Int64}
    (hfl : l.stackTraces = false) (S : CallFix p m c cL_law 9 s args wsL_law RL) (hK : xK Γ s) (hT : xT bs s) (hE0 : xE s) (hJ : xJ cJ s) (hX : va_X sb L xs s s.heap) (hsb : sb < s.heap.size) (hbs : s.heap.size = bs) (hL : L ≤ 2560) (hi : i + 5 ≤ L) (hC0 : C0 + 300 ≤ 601024) (hS0 : S0 + 2100 ≤ 7293034) (hLI : LI Γ cJ bs s σ ad th v0 H locs)
    (k : ∀ (σ' : St) (ad' : Nat → Nat) (th' : Int32) (v' : Int64) (H' : Heap) (locs' : List Loc), LI Γ cJ bs s σ' ad' th' v' H' locs' → ∀ ls : Array Slot, lv_has ls 9 [(0, .ref sb), (1, .ref bs), (2, .ref (bs + 2)), (3, .ref (bs + 13)), (4, .int (nI i))] → W p l e room_1 s m args below meth c H' locs' (C0 + 300) (S0 + 2100) Q (F0 m 1514 ls []))
    (ls : Array Slot) (hl : lv_has ls 9 [(0, .ref sb), (1, .ref bs), (2, .ref (bs + 2)), (3, .ref (bs + 13)), (4, .int (nI i))]) : W p l e room_1 s m args below meth c H locs C0 S0 Q (F0 m 1459 ls []) := by
  obtain ⟨hx, hb, hml, hown, hts⟩ := id S
  obtain ⟨hI, hy, hC, hM, hA, hlo, hsz, hlow⟩ := hLI
  refine lv_aload_n hx hb dL_law_1459 rfl (lv_at hl 1 rfl) ?_
  refine ro_V (rest := []) S hK (c_X1_mean l Γ bs σ ad hI) (cwV 0 hts gL_law_X1_mean rfl rfl rfl (by decide +kernel) ⟨Nat.le_of_ble_eq_true rfl, Nat.le_of_ble_eq_true rfl⟩) (Ob.recv hK hC.1 rfl) hC rfl hl.1 rfl (Nat.le_of_ble_eq_true rfl) dL_law_1460 ⟨by show _ ≤ 601024; omega, by show _ ≤ 7293034; omega⟩ ?_
  refine W.eq (g2 := F0 m 1463 ls [.double (mnv σ)]) rfl ?_
  refine lv_dstore (lv' := [(5, .double (mnv σ)), (0, .ref sb), (1, .ref bs), (2, .ref (bs + 2)), (3, .ref (bs + 13)), (4, .int (nI i))]) hx hb dL_law_1463 hl (by decide) rfl (fun ls hl => ?_)
  refine lv_aload_n hx hb dL_law_1465 rfl (lv_at hl 3 rfl) ?_
  obtain ⟨g1, g2, hW1⟩ := hM
  refine m_V (rest := []) S hK (c_X2_mean l Γ bs (bs + 2) th σ hI (by omega)) (cwV 0 hts gL_law_X2_mean rfl rfl rfl (by decide +kernel) ⟨Nat.le_of_ble_eq_true rfl, Nat.le_of_ble_eq_true rfl⟩) (Ob.recv hK hW1.1 rfl) ⟨g1, g2, hW1⟩ rfl hl.1 rfl (Nat.le_of_ble_eq_true rfl) dL_law_1466 ⟨by show _ ≤ 601024; omega, by show _ ≤ 7293034; omega⟩ hlo (fun v H2 lc2 hp2 hlo => ?_)
  obtain ⟨rfl, ⟨g3, g4, hW⟩, hF2⟩ := hp2
  have hC3 := hC.fr hy hF2 (by omega) (by omega)
  have hA3 := hA.kept (hF2.2 _ hA.lt (Or.inr (by omega)))
  have hlow2 : ∀ q : Nat, q < bs → H2[q]? = s.heap[q]? := fun q q1 => (hF2.2 q (by omega) (Or.inl (by omega))).trans (hlow q q1)
  refine W.eq (g2 := F0 m 1469 ls [.double (mnv σ)]) rfl ?_
  refine lv_dstore (lv' := [(7, .double (mnv σ)), (5, .double (mnv σ)), (0, .ref sb), (1, .ref bs), (2, .ref (bs + 2)), (3, .ref (bs + 13)), (4, .int (nI i))]) hx hb dL_law_1469 hl (by decide) rfl (fun ls hl => ?_)
  refine lv_dload hx hb dL_law_1471 (lv_at hl 1 rfl) ?_
  refine lv_dload hx hb dL_law_1473 (lv_at hl 0 rfl) ?_
  refine lv_dcmp hx hb dL_law_1475 ?_
  refine x_e (show _ = nI 0 from mnv_eq hI) ?_
  refine x_ifeq hx hb (by omega) (tgt := 1497) dL_law_1476 (by decide) (fun c_1 => ?_) (fun c_1 => absurd c_1 (by decide))
  refine lv_goto (tgt := 1514) hx hb dL_law_1497 (by decide) ?_
  refine W.widen (k := C0 + 300) (n := S0 + 2100) (by omega) (by omega) ?_
  exact k σ ad _ _ _ _ ⟨hI, hy, hC3, ⟨_, _, hW⟩, hA3, hlo, by have := hF2.1; omega, hlow2⟩ ls (lv_sub hl [2, 3, 4, 5, 6] rfl)
set_option maxHeartbeats 4000000 in
set_option maxRecDepth 100000 in
theorem lawc_digest {p : Program} {l : Launch} {e : Env} {s : State} {m : MethodId} {args : Array Value} {below : List Frame} {meth : Method} {c : Code} {H : Heap} {locs : List Loc} {Q : State → Prop} {Γ : GG} {cJ : ClassId} {bs sb L i C0 S0 : Nat} {xs : Nat → Int32} {σ : St} {ad : Nat → Nat} {th : Int32} {v0 : Int64}
    (hfl : l.stackTraces = false) (S : CallFix p m c cL_law 9 s args wsL_law RL) (hK : xK Γ s) (hT : xT bs s) (hE0 : xE s) (hJ : xJ cJ s) (hX : va_X sb L xs s s.heap) (hsb : sb < s.heap.size) (hbs : s.heap.size = bs) (hL : L ≤ 2560) (hi : i + 5 ≤ L) (hC0 : C0 + 300 ≤ 601024) (hS0 : S0 + 2100 ≤ 7293034) (hLI : LI Γ cJ bs s σ ad th v0 H locs)
    (k : ∀ (σ' : St) (ad' : Nat → Nat) (th' : Int32) (v' : Int64) (H' : Heap) (locs' : List Loc), LI Γ cJ bs s σ' ad' th' v' H' locs' → ∀ ls : Array Slot, lv_has ls 9 [(0, .ref sb), (1, .ref bs), (2, .ref (bs + 2)), (3, .ref (bs + 13)), (4, .int (nI i))] → W p l e room_1 s m args below meth c H' locs' (C0 + 300) (S0 + 2100) Q (F0 m 1514 ls []))
    (ls : Array Slot) (hl : lv_has ls 9 [(0, .ref sb), (1, .ref bs), (2, .ref (bs + 2)), (3, .ref (bs + 13)), (4, .int (nI i))]) : W p l e room_1 s m args below meth c H locs C0 S0 Q (F0 m 1500 ls []) := by
  obtain ⟨hx, hb, hml, hown, hts⟩ := id S
  obtain ⟨hI, hy, hC, hM, hA, hlo, hsz, hlow⟩ := hLI
  refine lv_aload_n hx hb dL_law_1500 rfl (lv_at hl 1 rfl) ?_
  refine ro_V (rest := []) S hK (c_X1_digest l Γ bs σ ad hI (bs + 14) hy) (cwV 0 hts gL_law_X1_digest rfl rfl rfl (by decide +kernel) ⟨Nat.le_of_ble_eq_true rfl, Nat.le_of_ble_eq_true rfl⟩) (Ob.recv hK hC.1 rfl) hC rfl hl.1 rfl (Nat.le_of_ble_eq_true rfl) dL_law_1501 ⟨by show _ ≤ 601024; omega, by show _ ≤ 7293034; omega⟩ ?_
  refine W.eq (g2 := F0 m 1504 ls [.long (dig σ)]) rfl ?_
  refine lv_aload_n hx hb dL_law_1504 rfl (lv_at hl 2 rfl) ?_
  obtain ⟨g1, g2, hW1⟩ := hM
  refine m_V (rest := [.long (dig σ)]) S hK (c_X2_digest l Γ bs (bs + 2) th σ hI (by omega)) (cwV 0 hts gL_law_X2_digest rfl rfl rfl (by decide +kernel) ⟨Nat.le_of_ble_eq_true rfl, Nat.le_of_ble_eq_true rfl⟩) (Ob.recv hK hW1.1 rfl) ⟨g1, g2, hW1⟩ rfl hl.1 rfl (Nat.le_of_ble_eq_true rfl) dL_law_1505 ⟨by show _ ≤ 601024; omega, by show _ ≤ 7293034; omega⟩ hlo (fun v H2 lc2 hp2 hlo => ?_)
  obtain ⟨rfl, ⟨g3, g4, hW⟩, hF2⟩ := hp2
  have hC3 := hC.fr hy hF2 (by omega) (by omega)
  have hA3 := hA.kept (hF2.2 _ hA.lt (Or.inr (by omega)))
  have hlow2 : ∀ q : Nat, q < bs → H2[q]? = s.heap[q]? := fun q q1 => (hF2.2 q (by omega) (Or.inl (by omega))).trans (hlow q q1)
  refine W.eq (g2 := F0 m 1508 ls [.long (dig σ), .long (dig σ)]) rfl ?_
  refine x_lcmp (v := nI 0) hx hb dL_law_1508 (lcmp_eq _) ?_
  refine x_ifeq hx hb (by omega) (tgt := 1514) dL_law_1509 (by decide) (fun c_1 => ?_) (fun c_1 => absurd c_1 (by decide))
  refine W.widen (k := C0 + 300) (n := S0 + 2100) (by omega) (by omega) ?_
  exact k σ ad _ _ _ _ ⟨hI, hy, hC3, ⟨_, _, hW⟩, hA3, hlo, by have := hF2.1; omega, hlow2⟩ ls (lv_sub hl [0, 1, 2, 3, 4] rfl)
set_option maxHeartbeats 4000000 in
set_option maxRecDepth 100000 in
theorem law_loop {p : Program} {l : Launch} {e : Env} {s : State} {m : MethodId} {args : Array Value} {below : List Frame} {meth : Method} {c : Code} {Q : State → Prop} {Γ : GG} {cJ : ClassId} {bs sb L : Nat} {xs : Nat → Int32}
    (hfl : l.stackTraces = false) (S : CallFix p m c cL_law 9 s args wsL_law RL) (hK : xK Γ s) (hT : xT bs s) (hE0 : xE s) (hJ : xJ cJ s) (hX : va_X sb L xs s s.heap) (hsb : sb < s.heap.size) (hbs : s.heap.size = bs) (hL : L ≤ 2560)
    (hend : ∀ (H : Heap) (locs : List Loc) (ls : Array Slot), lo bs locs → W p l e room_1 s m args below meth c H locs 601024 7293034 Q (F0 m 1520 ls [])) :
    ∀ (r n : Nat), n + r = 513 → 5 * n ≤ L → ∀ (σ : St) (ad : Nat → Nat) (th : Int32) (v0 : Int64) (H : Heap) (locs : List Loc), LI Γ cJ bs s σ ad th v0 H locs → ∀ ls : Array Slot, lv_has ls 9 [(0, .ref sb), (1, .ref bs), (2, .ref (bs + 2)), (3, .ref (bs + 13)), (4, .int (nI (5 * n)))] → W p l e room_1 s m args below meth c H locs (100 + 300 * n) (3000 + 2100 * n) Q (F0 m 23 ls []) := by
  obtain ⟨hx, hb, hml, hown, hts⟩ := id S
  intro r
  induction r with
  | zero => intro n h1 h2; omega
  | succ r ih =>
    intro n h1 h2 σ ad th v0 H locs hLI ls hl
    have hcont : ∀ (σ1 : St) (ad1 : Nat → Nat) (th1 : Int32) (v1 : Int64) (H1 : Heap) (locs1 : List Loc), 5 * n + 5 ≤ L → LI Γ cJ bs s σ1 ad1 th1 v1 H1 locs1 → ∀ ls : Array Slot, lv_has ls 9 [(0, .ref sb), (1, .ref bs), (2, .ref (bs + 2)), (3, .ref (bs + 13)), (4, .int (nI (5 * n)))] → W p l e room_1 s m args below meth c H1 locs1 (100 + 300 * n + 300) (3000 + 2100 * n + 2100) Q (F0 m 1514 ls []) := by
      intro σ1 ad1 th1 v1 H1 locs1 h5 hL1 ls hl
      refine x_iinc (n := 5) (lv' := [(4, .int (nI (5 * n + 5))), (0, .ref sb), (1, .ref bs), (2, .ref (bs + 2)), (3, .ref (bs + 13))]) hx hb dL_law_1514 hl (k := 4) rfl (by decide) rfl (fun ls hl => ?_)
      refine lv_goto (tgt := 23) hx hb dL_law_1517 (by decide) ?_
      refine W.widen (k := 100 + 300 * (n + 1)) (n := 3000 + 2100 * (n + 1)) (by omega) (by omega) ?_
      exact ih (n + 1) (by omega) (by omega) σ1 ad1 th1 v1 H1 locs1 hL1 ls (lv_sub hl [1, 2, 3, 4, 0] rfl)
    have hLI2 := hLI
    obtain ⟨hI, hy, hC, hM, hA, hlo, hsz, hlow⟩ := hLI2
    have hS9 := LI.S hbs hlo hsz hlow
    refine lv_iload hx hb dL_law_23 (lv_at hl 4 rfl) ?_
    refine lv_aload_n hx hb dL_law_25 rfl (lv_at hl 0 rfl) ?_
    refine va_slen hx hb hX hsb (fun q => by have q2 : bs ≤ sb := q; omega) hS9 dL_law_26 ?_
    refine lv_iconst (v := nI 5) hx hb dL_law_27 (by decide +kernel) ?_
    refine lv_isub hx hb dL_law_28 ?_
    refine lv_icmp_gt (tgt := 1520) hx hb dL_law_29 (by decide) (fun c1 => ?_) (fun c1 => ?_)
    · refine W.widen (k := 601024) (n := 7293034) (by omega) (by omega) ?_
      exact hend H locs ls hlo
    · have hi : 5 * n + 5 ≤ L := lend hL h2 (by omega) c1
      refine lv_aload_n hx hb dL_law_32 rfl (lv_at hl 0 rfl) ?_
      refine lv_iload hx hb dL_law_33 (lv_at hl 4 rfl) ?_
      refine l_sld hx hb hX hsb (by omega) hS9 (by omega) hL dL_law_35 ?_
      refine lv_bipush (v := nI 31) hx hb dL_law_36 (by decide +kernel) ?_
      refine lv_iand hx hb dL_law_38 ?_
      obtain ⟨k, hk, ek⟩ := and31 (xs (5 * n))
      refine x_e ek ?_
      by_cases h_0 : k = 0
      · subst h_0
        refine lv_tableIn (off := 93) (tgt := 132) hx hb dL_law_39 (by decide +kernel) (by decide +kernel) rfl (by decide) ?_
        exact lawc_make hfl S hK hT hE0 hJ hX hsb hbs hL hi (by omega) (by omega) hLI (fun σ1 ad1 th1 v1 H1 locs1 h7 ls hl => hcont σ1 ad1 th1 v1 H1 locs1 hi h7 ls hl) ls hl
      by_cases h_1 : k = 1
      · subst h_1
        refine lv_tableIn (off := 149) (tgt := 188) hx hb dL_law_39 (by decide +kernel) (by decide +kernel) rfl (by decide) ?_
        exact lawc_carve hfl S hK hT hE0 hJ hX hsb hbs hL hi (by omega) (by omega) hLI (fun σ1 ad1 th1 v1 H1 locs1 h7 ls hl => hcont σ1 ad1 th1 v1 H1 locs1 hi h7 ls hl) ls hl
      by_cases h_2 : k = 2
      · subst h_2
        refine lv_tableIn (off := 241) (tgt := 280) hx hb dL_law_39 (by decide +kernel) (by decide +kernel) rfl (by decide) ?_
        exact lawc_scrape hfl S hK hT hE0 hJ hX hsb hbs hL hi (by omega) (by omega) hLI (fun σ1 ad1 th1 v1 H1 locs1 h7 ls hl => hcont σ1 ad1 th1 v1 H1 locs1 hi h7 ls hl) ls hl
      by_cases h_3 : k = 3
      · subst h_3
        refine lv_tableIn (off := 321) (tgt := 360) hx hb dL_law_39 (by decide +kernel) (by decide +kernel) rfl (by decide) ?_
        exact lawc_roll hfl S hK hT hE0 hJ hX hsb hbs hL hi (by omega) (by omega) hLI (fun σ1 ad1 th1 v1 H1 locs1 h7 ls hl => hcont σ1 ad1 th1 v1 H1 locs1 hi h7 ls hl) ls hl
      by_cases h_4 : k = 4
      · subst h_4
        refine lv_tableIn (off := 389) (tgt := 428) hx hb dL_law_39 (by decide +kernel) (by decide +kernel) rfl (by decide) ?_
        exact lawc_bend hfl S hK hT hE0 hJ hX hsb hbs hL hi (by omega) (by omega) hLI (fun σ1 ad1 th1 v1 H1 locs1 h7 ls hl => hcont σ1 ad1 th1 v1 H1 locs1 hi h7 ls hl) ls hl
      by_cases h_5 : k = 5
      · subst h_5
        refine lv_tableIn (off := 457) (tgt := 496) hx hb dL_law_39 (by decide +kernel) (by decide +kernel) rfl (by decide) ?_
        exact lawc_glue hfl S hK hT hE0 hJ hX hsb hbs hL hi (by omega) (by omega) hLI (fun σ1 ad1 th1 v1 H1 locs1 h7 ls hl => hcont σ1 ad1 th1 v1 H1 locs1 hi h7 ls hl) ls hl
      by_cases h_6 : k = 6
      · subst h_6
        refine lv_tableIn (off := 549) (tgt := 588) hx hb dL_law_39 (by decide +kernel) (by decide +kernel) rfl (by decide) ?_
        exact lawc_stick hfl S hK hT hE0 hJ hX hsb hbs hL hi (by omega) (by omega) hLI (fun σ1 ad1 th1 v1 H1 locs1 h7 ls hl => hcont σ1 ad1 th1 v1 H1 locs1 hi h7 ls hl) ls hl
      by_cases h_7 : k = 7
      · subst h_7
        refine lv_tableIn (off := 617) (tgt := 656) hx hb dL_law_39 (by decide +kernel) (by decide +kernel) rfl (by decide) ?_
        exact lawc_rune hfl S hK hT hE0 hJ hX hsb hbs hL hi (by omega) (by omega) hLI (fun σ1 ad1 th1 v1 H1 locs1 h7 ls hl => hcont σ1 ad1 th1 v1 H1 locs1 hi h7 ls hl) ls hl
      by_cases h_8 : k = 8
      · subst h_8
        refine lv_tableIn (off := 697) (tgt := 736) hx hb dL_law_39 (by decide +kernel) (by decide +kernel) rfl (by decide) ?_
        exact lawc_strength hfl S hK hT hE0 hJ hX hsb hbs hL hi (by omega) (by omega) hLI (fun σ1 ad1 th1 v1 H1 locs1 h7 ls hl => hcont σ1 ad1 th1 v1 H1 locs1 hi h7 ls hl) ls hl
      by_cases h_9 : k = 9
      · subst h_9
        refine lv_tableIn (off := 765) (tgt := 804) hx hb dL_law_39 (by decide +kernel) (by decide +kernel) rfl (by decide) ?_
        exact lawc_count hfl S hK hT hE0 hJ hX hsb hbs hL hi (by omega) (by omega) hLI (fun σ1 ad1 th1 v1 H1 locs1 h7 ls hl => hcont σ1 ad1 th1 v1 H1 locs1 hi h7 ls hl) ls hl
      by_cases h_10 : k = 10
      · subst h_10
        refine lv_tableIn (off := 821) (tgt := 860) hx hb dL_law_39 (by decide +kernel) (by decide +kernel) rfl (by decide) ?_
        exact lawc_fits hfl S hK hT hE0 hJ hX hsb hbs hL hi (by omega) (by omega) hLI (fun σ1 ad1 th1 v1 H1 locs1 h7 ls hl => hcont σ1 ad1 th1 v1 H1 locs1 hi h7 ls hl) ls hl
      by_cases h_11 : k = 11
      · subst h_11
        refine lv_tableIn (off := 896) (tgt := 935) hx hb dL_law_39 (by decide +kernel) (by decide +kernel) rfl (by decide) ?_
        exact lawc_size hfl S hK hT hE0 hJ hX hsb hbs hL hi (by omega) (by omega) hLI (fun σ1 ad1 th1 v1 H1 locs1 h7 ls hl => hcont σ1 ad1 th1 v1 H1 locs1 hi h7 ls hl) ls hl
      by_cases h_12 : k = 12
      · subst h_12
        refine lv_tableIn (off := 964) (tgt := 1003) hx hb dL_law_39 (by decide +kernel) (by decide +kernel) rfl (by decide) ?_
        exact lawc_reads hfl S hK hT hE0 hJ hX hsb hbs hL hi (by omega) (by omega) hLI (fun σ1 ad1 th1 v1 H1 locs1 h7 ls hl => hcont σ1 ad1 th1 v1 H1 locs1 hi h7 ls hl) ls hl
      by_cases h_13 : k = 13
      · subst h_13
        refine lv_tableIn (off := 1044) (tgt := 1083) hx hb dL_law_39 (by decide +kernel) (by decide +kernel) rfl (by decide) ?_
        exact lawc_has hfl S hK hT hE0 hJ hX hsb hbs hL hi (by omega) (by omega) hLI (fun σ1 ad1 th1 v1 H1 locs1 h7 ls hl => hcont σ1 ad1 th1 v1 H1 locs1 hi h7 ls hl) ls hl
      by_cases h_14 : k = 14
      · subst h_14
        refine lv_tableIn (off := 1124) (tgt := 1163) hx hb dL_law_39 (by decide +kernel) (by decide +kernel) rfl (by decide) ?_
        exact lawc_rhyme hfl S hK hT hE0 hJ hX hsb hbs hL hi (by omega) (by omega) hLI (fun σ1 ad1 th1 v1 H1 locs1 h7 ls hl => hcont σ1 ad1 th1 v1 H1 locs1 hi h7 ls hl) ls hl
      by_cases h_15 : k = 15
      · subst h_15
        refine lv_tableIn (off := 1204) (tgt := 1243) hx hb dL_law_39 (by decide +kernel) (by decide +kernel) rfl (by decide) ?_
        exact lawc_best hfl S hK hT hE0 hJ hX hsb hbs hL hi (by omega) (by omega) hLI (fun σ1 ad1 th1 v1 H1 locs1 h7 ls hl => hcont σ1 ad1 th1 v1 H1 locs1 hi h7 ls hl) ls hl
      by_cases h_16 : k = 16
      · subst h_16
        refine lv_tableIn (off := 1284) (tgt := 1323) hx hb dL_law_39 (by decide +kernel) (by decide +kernel) rfl (by decide) ?_
        exact lawc_pieces hfl S hK hT hE0 hJ hX hsb hbs hL hi (by omega) (by omega) hLI (fun σ1 ad1 th1 v1 H1 locs1 h7 ls hl => hcont σ1 ad1 th1 v1 H1 locs1 hi h7 ls hl) ls hl
      by_cases h_17 : k = 17
      · subst h_17
        refine lv_tableIn (off := 1352) (tgt := 1391) hx hb dL_law_39 (by decide +kernel) (by decide +kernel) rfl (by decide) ?_
        exact lawc_row hfl S hK hT hE0 hJ hX hsb hbs hL hi (by omega) (by omega) hLI (fun σ1 ad1 th1 v1 H1 locs1 h7 ls hl => hcont σ1 ad1 th1 v1 H1 locs1 hi h7 ls hl) ls hl
      by_cases h_18 : k = 18
      · subst h_18
        refine lv_tableIn (off := 1420) (tgt := 1459) hx hb dL_law_39 (by decide +kernel) (by decide +kernel) rfl (by decide) ?_
        exact lawc_mean hfl S hK hT hE0 hJ hX hsb hbs hL hi (by omega) (by omega) hLI (fun σ1 ad1 th1 v1 H1 locs1 h7 ls hl => hcont σ1 ad1 th1 v1 H1 locs1 hi h7 ls hl) ls hl
      by_cases h_19 : k = 19
      · subst h_19
        refine lv_tableIn (off := 1461) (tgt := 1500) hx hb dL_law_39 (by decide +kernel) (by decide +kernel) rfl (by decide) ?_
        exact lawc_digest hfl S hK hT hE0 hJ hX hsb hbs hL hi (by omega) (by omega) hLI (fun σ1 ad1 th1 v1 H1 locs1 h7 ls hl => hcont σ1 ad1 th1 v1 H1 locs1 hi h7 ls hl) ls hl
      refine lv_tableOut (tgt := 1514) hx hb dL_law_39 (Or.inr (by rw [nI_toInt (by omega)]; omega)) (by decide) ?_
      refine W.widen (k := 100 + 300 * n + 300) (n := 3000 + 2100 * n + 2100) (by omega) (by omega) ?_
      exact hcont σ ad th v0 H locs hi hLI ls hl
