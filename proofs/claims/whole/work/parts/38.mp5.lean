theorem bS_2 (f : Nat → Nat) : bS f 2 = if f 0 < f 1 then 1 else 0 := by
  show (if f (if f 0 < f 0 then 0 else 0) < f 1 then 1 else (if f 0 < f 0 then 0 else 0)) = _
  rw [if_neg (Nat.lt_irrefl (f 0))]
theorem bS_3 (f : Nat → Nat) : bS f 3 = if f (bS f 2) < f 2 then 2 else bS f 2 := rfl
theorem rb_00 {f : Nat → Nat} (h1 : f 1 ≤ f 0) (h2 : f 2 ≤ f 0) : bS f 3 = 0 := by
  rw [bS_3, bS_2, if_neg (Nat.not_lt.mpr h1), if_neg (Nat.not_lt.mpr h2)]
theorem rb_01 {f : Nat → Nat} (h1 : f 1 ≤ f 0) (h2 : f 0 < f 2) : bS f 3 = 2 := by
  rw [bS_3, bS_2, if_neg (Nat.not_lt.mpr h1), if_pos h2]
theorem rb_10 {f : Nat → Nat} (h1 : f 0 < f 1) (h2 : f 2 ≤ f 1) : bS f 3 = 1 := by
  rw [bS_3, bS_2, if_pos h1, if_neg (Nat.not_lt.mpr h2)]
theorem rb_11 {f : Nat → Nat} (h1 : f 0 < f 1) (h2 : f 1 < f 2) : bS f 3 = 2 := by
  rw [bS_3, bS_2, if_pos h1, if_pos h2]
theorem in_X2_rhyme_X2 : ∀ w ∈ wsX20, w ∈ wsX2_rhyme := by decide +kernel
set_option maxHeartbeats 4000000 in
set_option maxRecDepth 100000 in
theorem c_X2_rhyme (l : Launch) (Γ : GG) (bs : Nat) (mo : Nat) (th : Int32) (σ : St) (hI : Iv σ) (hbm : bs ≤ mo) (y z w : Int32)  : Mt l yX2_rhyme wsX2_rhyme ({ frames := 3, cells := 0, slots := 0, locals := 76 }) Γ bs [.ref mo, .int y, .int z, .int w] (MX Γ mo th σ) (fun H v H2 => PM Γ mo (cd2 (inb y (qn σ) ∧ inb z (qn σ)) (inb w 3)) σ (σ) (nI (rhy σ (y.toInt.toNat) (qu σ (y.toInt.toNat)) (z.toInt.toNat) w.toInt.toNat)) H v H2) 0 0 := by
  refine Mt.of (cc := cX2_rhyme) (maxL := 4) (ret := (some .int)) (by decide) rfl (Nat.le_of_ble_eq_true rfl) ?_
  intro p e s m below meth c S hr hlk hin hK hW ls hl
  obtain ⟨hx, hb, hml, hown, hts⟩ := id S
  obtain ⟨lc, elc⟩ : ∃ z : List Loc, z = [] := ⟨_, rfl⟩
  rw [← elc]
  have hlo : lo bs lc := by rw [elc]; exact lo.nil
  clear elc
  have hl : lv_has ls 4 [(0, .ref mo), (1, .int y), (2, .int z), (3, .int w)] := hl
  have hn40 := hI.1
  have hFr : Fr mo (mo + 11) s.heap s.heap := Fr.rf
  obtain ⟨g1, g2, hW⟩ := hW
  refine lv_aload_n hx hb dX2_rhyme_0 rfl (lv_at hl 0 rfl) ?_
  refine lv_iconst (v := nI 0) hx hb dX2_rhyme_1 (by decide +kernel) ?_
  refine x_putX S in_X2_rhyme_X2 tyX2 tyX2_ok nmX2 hK hW.1 rfl 0 (by decide) (by decide +kernel) rfl (Or.inl rfl) (tyX2_ok 0 (by decide)) rfl rfl (Nat.le_of_ble_eq_true rfl) hlo (by omega) dX2_rhyme_2 (fun H1 lc1 hO1 hz1 ho1 hlo => ?_)
  have hO1 : Ob Γ 2 mo [.int (nI 0), .int (nI (qn σ)), .int (qb σ), .ref (mo + 1), .ref (mo + 2), .ref (mo + 3), .ref (mo + 4), .ref (mo + 5), .ref (mo + 6), .ref (mo + 7), .ref (mo + 8), .ref (mo + 9), .ref (mo + 10)] H1 := hO1
  have hFr := hFr.put hz1 ho1 (by omega) (by omega)
  have hW := MW.put (σ' := σ) hW hO1 ho1 rfl
  have hW : MW Γ mo (nI 0) σ g1 g2 H1 := hW
  refine lv_aload_n hx hb dX2_rhyme_5 rfl (lv_at hl 0 rfl) ?_
  refine lv_iload_n hx hb dX2_rhyme_6 rfl (lv_at hl 1 rfl) ?_
  refine ro_V (rest := []) S hK (c_X2_isStick l Γ mo (nI 0) σ g1 g2 hI y) (cwV 1 hts gX2_rhyme_X2_isStick rfl rfl rfl (by decide +kernel) ⟨Nat.le_of_ble_eq_true rfl, Nat.le_of_ble_eq_true rfl⟩) (Ob.recv hK hW.1 rfl) hW rfl hl.1 rfl (Nat.le_of_ble_eq_true rfl) dX2_rhyme_7 ⟨Nat.le_of_ble_eq_true rfl, Nat.le_of_ble_eq_true rfl⟩ ?_
  refine W.eq (g2 := F0 m 10 ls [.int (nI (bP (inb y (qn σ))))]) rfl ?_
  have hbb7 := bP_le (inb y (qn σ))
  refine x_ifeq hx hb (by omega) (tgt := 21) dX2_rhyme_10 (by decide) (fun c_1 => ?_) (fun c_1 => ?_)
  · skip
    refine lv_aload_n hx hb dX2_rhyme_21 rfl (lv_at hl 0 rfl) ?_
    refine lv_iconst (v := nI 1) hx hb dX2_rhyme_22 (by decide +kernel) ?_
    refine m_V (rest := []) S hK (c_X2_no l Γ bs mo (nI 0) σ g1 g2 hI hbm 1) (cwV 1 hts gX2_rhyme_X2_no rfl rfl rfl (by decide +kernel) ⟨Nat.le_of_ble_eq_true rfl, Nat.le_of_ble_eq_true rfl⟩) (Ob.recv hK hW.1 rfl) hW rfl hl.1 rfl (Nat.le_of_ble_eq_true rfl) dX2_rhyme_23 ⟨Nat.le_of_ble_eq_true rfl, Nat.le_of_ble_eq_true rfl⟩ hlo (fun v H1 lc1 hp hlo => ?_)
    obtain ⟨rfl, hW, hFq, hzq⟩ := hp
    refine W.eq (g2 := F0 m 26 ls [.int (nI 0)]) rfl ?_
    have hFr := hFr.trans hFq
    refine W.widen (k := 0) (n := 0) (Nat.le_of_ble_eq_true rfl) (Nat.le_of_ble_eq_true rfl) ?_
    exact m_iret (Post := fun H v H2 => PM Γ mo (cd2 (inb y (qn σ) ∧ inb z (qn σ)) (inb w 3)) σ (σ) (nI (rhy σ (y.toInt.toNat) (qu σ (y.toInt.toNat)) (z.toInt.toNat) w.toInt.toNat)) H v H2) hx hb hr hlk hlo dX2_rhyme_26 (PM.no (i := 0) (cd2_1 (fun q => bP_0 c_1 q.1)) rfl ⟨_, _, hW⟩ hFr)
  · skip
    obtain ⟨k, hk, rfl⟩ := inb_ex (bP_1 c_1)
    obtain ⟨hp0k, hp12k, hu3k, hg1k⟩ := hI.2.1 k hk
    refine lv_aload_n hx hb dX2_rhyme_13 rfl (lv_at hl 0 rfl) ?_
    refine lv_iload_n hx hb dX2_rhyme_14 rfl (lv_at hl 2 rfl) ?_
    refine ro_V (rest := []) S hK (c_X2_isStick l Γ mo (nI 0) σ g1 g2 hI z) (cwV 1 hts gX2_rhyme_X2_isStick rfl rfl rfl (by decide +kernel) ⟨Nat.le_of_ble_eq_true rfl, Nat.le_of_ble_eq_true rfl⟩) (Ob.recv hK hW.1 rfl) hW rfl hl.1 rfl (Nat.le_of_ble_eq_true rfl) dX2_rhyme_15 ⟨Nat.le_of_ble_eq_true rfl, Nat.le_of_ble_eq_true rfl⟩ ?_
    refine W.eq (g2 := F0 m 18 ls [.int (nI (bP (inb z (qn σ))))]) rfl ?_
    have hbb15 := bP_le (inb z (qn σ))
    refine x_ifne hx hb (by omega) (tgt := 27) dX2_rhyme_18 (by decide) (fun c_2 => ?_) (fun c_2 => ?_)
    · skip
      obtain ⟨j, hj, rfl⟩ := inb_ex (bP_1 c_2)
      obtain ⟨hp0j, hp12j, hu3j, hg1j⟩ := hI.2.1 j hj
      refine lv_iload_n hx hb dX2_rhyme_27 rfl (lv_at hl 3 rfl) ?_
      refine lv_iconst (v := nI 0) hx hb dX2_rhyme_28 (by decide +kernel) ?_
      refine lv_iconst (v := nI 2) hx hb dX2_rhyme_29 (by decide +kernel) ?_
      refine ro_S (rest := []) S hK (c_X2_isIn l Γ w (nI 0) (nI 2)) (cwS 3 hts gX2_rhyme_X2_isIn rfl rfl rfl (by decide +kernel) ⟨Nat.le_of_ble_eq_true rfl, Nat.le_of_ble_eq_true rfl⟩) trivial rfl hl.1 rfl (Nat.le_of_ble_eq_true rfl) dX2_rhyme_30 ⟨Nat.le_of_ble_eq_true rfl, Nat.le_of_ble_eq_true rfl⟩ ?_
      refine W.eq (g2 := F0 m 33 ls [.int (nI (bP (nI 0 ≤ w ∧ w ≤ nI 2)))]) rfl ?_
      refine x_e (show nI (bP (nI 0 ≤ w ∧ w ≤ nI 2)) = nI (bP (inb w 3)) by rw [bP_iff isin_3]) ?_
      have hbb30 := bP_le (inb w 3)
      refine x_ifeq hx hb (by omega) (tgt := 52) dX2_rhyme_33 (by decide) (fun c_3 => ?_) (fun c_3 => ?_)
      · skip
        refine lv_aload_n hx hb dX2_rhyme_52 rfl (lv_at hl 0 rfl) ?_
        refine lv_iconst (v := nI 2) hx hb dX2_rhyme_53 (by decide +kernel) ?_
        refine m_V (rest := []) S hK (c_X2_no l Γ bs mo (nI 0) σ g1 g2 hI hbm 2) (cwV 1 hts gX2_rhyme_X2_no rfl rfl rfl (by decide +kernel) ⟨Nat.le_of_ble_eq_true rfl, Nat.le_of_ble_eq_true rfl⟩) (Ob.recv hK hW.1 rfl) hW rfl hl.1 rfl (Nat.le_of_ble_eq_true rfl) dX2_rhyme_54 ⟨Nat.le_of_ble_eq_true rfl, Nat.le_of_ble_eq_true rfl⟩ hlo (fun v H1 lc1 hp hlo => ?_)
        obtain ⟨rfl, hW, hFq, hzq⟩ := hp
        refine W.eq (g2 := F0 m 57 ls [.int (nI 0)]) rfl ?_
        have hFr := hFr.trans hFq
        refine W.widen (k := 0) (n := 0) (Nat.le_of_ble_eq_true rfl) (Nat.le_of_ble_eq_true rfl) ?_
        exact m_iret (Post := fun H v H2 => PM Γ mo (cd2 (inb (nI k) (qn σ) ∧ inb (nI j) (qn σ)) (inb w 3)) σ (σ) (nI (rhy σ ((nI k).toInt.toNat) (qu σ ((nI k).toInt.toNat)) ((nI j).toInt.toNat) w.toInt.toNat)) H v H2) hx hb hr hlk hlo dX2_rhyme_57 (PM.no (i := 1) (cd2_2 ⟨((inb_nI (by omega)).mpr hk), ((inb_nI (by omega)).mpr hj)⟩ (bP_0 c_3)) rfl ⟨_, _, hW⟩ hFr)
      · skip
        obtain ⟨i2, hi2, rfl⟩ := inb_ex (bP_1 c_3)
        refine lv_aload_n hx hb dX2_rhyme_36 rfl (lv_at hl 0 rfl) ?_
        refine lv_iload_n hx hb dX2_rhyme_37 rfl (lv_at hl 1 rfl) ?_
        refine lv_aload_n hx hb dX2_rhyme_38 rfl (lv_at hl 0 rfl) ?_
        refine x_get S in_X2_rhyme_X2 hK hW.1 rfl 4 (by decide) (by decide +kernel) rfl rfl dX2_rhyme_39 ?_
        refine lv_iload_n hx hb dX2_rhyme_42 rfl (lv_at hl 1 rfl) ?_
        refine x_iald hx hb hK hW.2.2.1 (by omega) (by omega) dX2_rhyme_43 ?_
        refine lv_iload_n hx hb dX2_rhyme_44 rfl (lv_at hl 2 rfl) ?_
        refine lv_iload_n hx hb dX2_rhyme_45 rfl (lv_at hl 3 rfl) ?_
        refine m_V (rest := []) S hK (c_X2_rhymeOf l Γ bs mo (nI 0) σ g1 g2 hI hbm k (qu σ k) j i2 (by omega) (by omega) (by first | omega | exact (hI.2.1 _ (by omega)).2.2.1) (by omega)) (cwV 4 hts gX2_rhyme_X2_rhymeOf rfl rfl rfl (by decide +kernel) ⟨Nat.le_of_ble_eq_true rfl, Nat.le_of_ble_eq_true rfl⟩) (Ob.recv hK hW.1 rfl) hW rfl hl.1 rfl (Nat.le_of_ble_eq_true rfl) dX2_rhyme_46 ⟨Nat.le_of_ble_eq_true rfl, Nat.le_of_ble_eq_true rfl⟩ hlo (fun v H1 lc1 hp hlo => ?_)
        obtain ⟨rfl, ⟨g1, g2, hW⟩, hFq, hzq⟩ := hp
        refine W.eq (g2 := F0 m 49 ls [.int (nI (rhy σ k (qu σ k) j i2))]) rfl ?_
        have hFr := hFr.trans hFq
        have hrl := rhy_le hI (a := k) (su := qu σ k) (b := j) (t := i2) (by omega)
        refine lv_goto (tgt := 57) hx hb dX2_rhyme_49 (by decide) ?_
        refine W.widen (k := 0) (n := 0) (Nat.le_of_ble_eq_true rfl) (Nat.le_of_ble_eq_true rfl) ?_
        exact m_iret (Post := fun H v H2 => PM Γ mo (cd2 (inb (nI k) (qn σ) ∧ inb (nI j) (qn σ)) (inb (nI i2) 3)) σ (σ) (nI (rhy σ ((nI k).toInt.toNat) (qu σ ((nI k).toInt.toNat)) ((nI j).toInt.toNat) (nI i2).toInt.toNat)) H v H2) hx hb hr hlk hlo dX2_rhyme_57 (PM.ok (cd2_0 ⟨((inb_nI (by omega)).mpr hk), ((inb_nI (by omega)).mpr hj)⟩ ((inb_nI (by omega)).mpr hi2)) (by rw [toN (by omega), toN (by omega), toN (by omega)]) ⟨_, _, hW⟩ hFr)
    · skip
      refine lv_aload_n hx hb dX2_rhyme_21 rfl (lv_at hl 0 rfl) ?_
      refine lv_iconst (v := nI 1) hx hb dX2_rhyme_22 (by decide +kernel) ?_
      refine m_V (rest := []) S hK (c_X2_no l Γ bs mo (nI 0) σ g1 g2 hI hbm 1) (cwV 1 hts gX2_rhyme_X2_no rfl rfl rfl (by decide +kernel) ⟨Nat.le_of_ble_eq_true rfl, Nat.le_of_ble_eq_true rfl⟩) (Ob.recv hK hW.1 rfl) hW rfl hl.1 rfl (Nat.le_of_ble_eq_true rfl) dX2_rhyme_23 ⟨Nat.le_of_ble_eq_true rfl, Nat.le_of_ble_eq_true rfl⟩ hlo (fun v H1 lc1 hp hlo => ?_)
      obtain ⟨rfl, hW, hFq, hzq⟩ := hp
      refine W.eq (g2 := F0 m 26 ls [.int (nI 0)]) rfl ?_
      have hFr := hFr.trans hFq
      refine W.widen (k := 0) (n := 0) (Nat.le_of_ble_eq_true rfl) (Nat.le_of_ble_eq_true rfl) ?_
      exact m_iret (Post := fun H v H2 => PM Γ mo (cd2 (inb (nI k) (qn σ) ∧ inb z (qn σ)) (inb w 3)) σ (σ) (nI (rhy σ ((nI k).toInt.toNat) (qu σ ((nI k).toInt.toNat)) (z.toInt.toNat) w.toInt.toNat)) H v H2) hx hb hr hlk hlo dX2_rhyme_26 (PM.no (i := 0) (cd2_1 (fun q => bP_0 c_2 q.2)) rfl ⟨_, _, hW⟩ hFr)
theorem in_X2_best_X2 : ∀ w ∈ wsX20, w ∈ wsX2_best := by decide +kernel
set_option maxHeartbeats 4000000 in
set_option maxRecDepth 100000 in
theorem c_X2_best (l : Launch) (Γ : GG) (bs : Nat) (mo : Nat) (th : Int32) (σ : St) (hI : Iv σ) (hbm : bs ≤ mo) (y z w : Int32)  : Mt l yX2_best wsX2_best ({ frames := 3, cells := 0, slots := 0, locals := 76 }) Γ bs [.ref mo, .int y, .int z, .int w] (MX Γ mo th σ) (fun H v H2 => PM Γ mo (cd2 (inb y (qn σ) ∧ inb z (qn σ)) (inb w 3)) σ (σ) (nI (rbest σ (y.toInt.toNat) (z.toInt.toNat) w.toInt.toNat)) H v H2) 0 0 := by
  refine Mt.of (cc := cX2_best) (maxL := 6) (ret := (some .int)) (by decide) rfl (Nat.le_of_ble_eq_true rfl) ?_
  intro p e s m below meth c S hr hlk hin hK hW ls hl
  obtain ⟨hx, hb, hml, hown, hts⟩ := id S
  obtain ⟨lc, elc⟩ : ∃ z : List Loc, z = [] := ⟨_, rfl⟩
  rw [← elc]
  have hlo : lo bs lc := by rw [elc]; exact lo.nil
  clear elc
  have hl : lv_has ls 6 [(0, .ref mo), (1, .int y), (2, .int z), (3, .int w)] := hl
  have hn40 := hI.1
  have hFr : Fr mo (mo + 11) s.heap s.heap := Fr.rf
  obtain ⟨g1, g2, hW⟩ := hW
  refine lv_aload_n hx hb dX2_best_0 rfl (lv_at hl 0 rfl) ?_
  refine lv_iconst (v := nI 0) hx hb dX2_best_1 (by decide +kernel) ?_
  refine x_putX S in_X2_best_X2 tyX2 tyX2_ok nmX2 hK hW.1 rfl 0 (by decide) (by decide +kernel) rfl (Or.inl rfl) (tyX2_ok 0 (by decide)) rfl rfl (Nat.le_of_ble_eq_true rfl) hlo (by omega) dX2_best_2 (fun H1 lc1 hO1 hz1 ho1 hlo => ?_)
  have hO1 : Ob Γ 2 mo [.int (nI 0), .int (nI (qn σ)), .int (qb σ), .ref (mo + 1), .ref (mo + 2), .ref (mo + 3), .ref (mo + 4), .ref (mo + 5), .ref (mo + 6), .ref (mo + 7), .ref (mo + 8), .ref (mo + 9), .ref (mo + 10)] H1 := hO1
  have hFr := hFr.put hz1 ho1 (by omega) (by omega)
  have hW := MW.put (σ' := σ) hW hO1 ho1 rfl
  have hW : MW Γ mo (nI 0) σ g1 g2 H1 := hW
  refine lv_aload_n hx hb dX2_best_5 rfl (lv_at hl 0 rfl) ?_
  refine lv_iload_n hx hb dX2_best_6 rfl (lv_at hl 1 rfl) ?_
  refine ro_V (rest := []) S hK (c_X2_isStick l Γ mo (nI 0) σ g1 g2 hI y) (cwV 1 hts gX2_best_X2_isStick rfl rfl rfl (by decide +kernel) ⟨Nat.le_of_ble_eq_true rfl, Nat.le_of_ble_eq_true rfl⟩) (Ob.recv hK hW.1 rfl) hW rfl hl.1 rfl (Nat.le_of_ble_eq_true rfl) dX2_best_7 ⟨Nat.le_of_ble_eq_true rfl, Nat.le_of_ble_eq_true rfl⟩ ?_
  refine W.eq (g2 := F0 m 10 ls [.int (nI (bP (inb y (qn σ))))]) rfl ?_
  have hbb7 := bP_le (inb y (qn σ))
  refine x_ifeq hx hb (by omega) (tgt := 21) dX2_best_10 (by decide) (fun c_1 => ?_) (fun c_1 => ?_)
  · skip
    refine lv_aload_n hx hb dX2_best_21 rfl (lv_at hl 0 rfl) ?_
    refine lv_iconst (v := nI 1) hx hb dX2_best_22 (by decide +kernel) ?_
    refine m_V (rest := []) S hK (c_X2_no l Γ bs mo (nI 0) σ g1 g2 hI hbm 1) (cwV 1 hts gX2_best_X2_no rfl rfl rfl (by decide +kernel) ⟨Nat.le_of_ble_eq_true rfl, Nat.le_of_ble_eq_true rfl⟩) (Ob.recv hK hW.1 rfl) hW rfl hl.1 rfl (Nat.le_of_ble_eq_true rfl) dX2_best_23 ⟨Nat.le_of_ble_eq_true rfl, Nat.le_of_ble_eq_true rfl⟩ hlo (fun v H1 lc1 hp hlo => ?_)
    obtain ⟨rfl, hW, hFq, hzq⟩ := hp
    refine W.eq (g2 := F0 m 26 ls [.int (nI 0)]) rfl ?_
    have hFr := hFr.trans hFq
    refine W.widen (k := 0) (n := 0) (Nat.le_of_ble_eq_true rfl) (Nat.le_of_ble_eq_true rfl) ?_
    exact m_iret (Post := fun H v H2 => PM Γ mo (cd2 (inb y (qn σ) ∧ inb z (qn σ)) (inb w 3)) σ (σ) (nI (rbest σ (y.toInt.toNat) (z.toInt.toNat) w.toInt.toNat)) H v H2) hx hb hr hlk hlo dX2_best_26 (PM.no (i := 0) (cd2_1 (fun q => bP_0 c_1 q.1)) rfl ⟨_, _, hW⟩ hFr)
  · skip
    obtain ⟨k, hk, rfl⟩ := inb_ex (bP_1 c_1)
    obtain ⟨hp0k, hp12k, hu3k, hg1k⟩ := hI.2.1 k hk
    refine lv_aload_n hx hb dX2_best_13 rfl (lv_at hl 0 rfl) ?_
    refine lv_iload_n hx hb dX2_best_14 rfl (lv_at hl 2 rfl) ?_
    refine ro_V (rest := []) S hK (c_X2_isStick l Γ mo (nI 0) σ g1 g2 hI z) (cwV 1 hts gX2_best_X2_isStick rfl rfl rfl (by decide +kernel) ⟨Nat.le_of_ble_eq_true rfl, Nat.le_of_ble_eq_true rfl⟩) (Ob.recv hK hW.1 rfl) hW rfl hl.1 rfl (Nat.le_of_ble_eq_true rfl) dX2_best_15 ⟨Nat.le_of_ble_eq_true rfl, Nat.le_of_ble_eq_true rfl⟩ ?_
    refine W.eq (g2 := F0 m 18 ls [.int (nI (bP (inb z (qn σ))))]) rfl ?_
    have hbb15 := bP_le (inb z (qn σ))
    refine x_ifne hx hb (by omega) (tgt := 27) dX2_best_18 (by decide) (fun c_2 => ?_) (fun c_2 => ?_)
    · skip
      obtain ⟨j, hj, rfl⟩ := inb_ex (bP_1 c_2)
      obtain ⟨hp0j, hp12j, hu3j, hg1j⟩ := hI.2.1 j hj
      refine lv_iload_n hx hb dX2_best_27 rfl (lv_at hl 3 rfl) ?_
      refine lv_iconst (v := nI 0) hx hb dX2_best_28 (by decide +kernel) ?_
      refine lv_iconst (v := nI 2) hx hb dX2_best_29 (by decide +kernel) ?_
      refine ro_S (rest := []) S hK (c_X2_isIn l Γ w (nI 0) (nI 2)) (cwS 3 hts gX2_best_X2_isIn rfl rfl rfl (by decide +kernel) ⟨Nat.le_of_ble_eq_true rfl, Nat.le_of_ble_eq_true rfl⟩) trivial rfl hl.1 rfl (Nat.le_of_ble_eq_true rfl) dX2_best_30 ⟨Nat.le_of_ble_eq_true rfl, Nat.le_of_ble_eq_true rfl⟩ ?_
      refine W.eq (g2 := F0 m 33 ls [.int (nI (bP (nI 0 ≤ w ∧ w ≤ nI 2)))]) rfl ?_
      refine x_e (show nI (bP (nI 0 ≤ w ∧ w ≤ nI 2)) = nI (bP (inb w 3)) by rw [bP_iff isin_3]) ?_
      have hbb30 := bP_le (inb w 3)
      refine x_ifne hx hb (by omega) (tgt := 42) dX2_best_33 (by decide) (fun c_3 => ?_) (fun c_3 => ?_)
      · skip
        obtain ⟨i2, hi2, rfl⟩ := inb_ex (bP_1 c_3)
        refine lv_iconst (v := nI 0) hx hb dX2_best_42 (by decide +kernel) ?_
        refine lv_istore (lv' := [(4, .int (nI 0)), (0, .ref mo), (1, .int (nI k)), (2, .int (nI j)), (3, .int (nI i2))]) hx hb dX2_best_43 hl (by decide) rfl (fun ls hl => ?_)
        refine lv_iconst (v := nI 1) hx hb dX2_best_45 (by decide +kernel) ?_
        refine lv_istore (lv' := [(5, .int (nI 1)), (4, .int (nI 0)), (0, .ref mo), (1, .int (nI k)), (2, .int (nI j)), (3, .int (nI i2))]) hx hb dX2_best_46 hl (by decide) rfl (fun ls hl => ?_)
        refine lv_iload hx hb dX2_best_48 (lv_at hl 0 rfl) ?_
        refine lv_iconst (v := nI 3) hx hb dX2_best_50 (by decide +kernel) ?_
        refine x_icge hx hb (by omega) (by omega) (tgt := 85) dX2_best_51 (by decide) (fun c_4 => absurd c_4 (by decide)) (fun c_4 => ?_)
        refine lv_aload_n hx hb dX2_best_54 rfl (lv_at hl 2 rfl) ?_
        refine lv_iload_n hx hb dX2_best_55 rfl (lv_at hl 3 rfl) ?_
        refine lv_iload hx hb dX2_best_56 (lv_at hl 0 rfl) ?_
        refine lv_iload_n hx hb dX2_best_58 rfl (lv_at hl 4 rfl) ?_
        refine lv_iload_n hx hb dX2_best_59 rfl (lv_at hl 5 rfl) ?_
        refine m_V (rest := []) S hK (c_X2_rhymeOf l Γ bs mo (nI 0) σ g1 g2 hI hbm k 1 j i2 (by omega) (by omega) (by first | omega | exact (hI.2.1 _ (by omega)).2.2.1) (by omega)) (cwV 4 hts gX2_best_X2_rhymeOf rfl rfl rfl (by decide +kernel) ⟨Nat.le_of_ble_eq_true rfl, Nat.le_of_ble_eq_true rfl⟩) (Ob.recv hK hW.1 rfl) hW rfl hl.1 rfl (Nat.le_of_ble_eq_true rfl) dX2_best_60 ⟨Nat.le_of_ble_eq_true rfl, Nat.le_of_ble_eq_true rfl⟩ hlo (fun v H1 lc1 hp hlo => ?_)
        obtain ⟨rfl, ⟨g1, g2, hW⟩, hFq, hzq⟩ := hp
        refine W.eq (g2 := F0 m 63 ls [.int (nI (rhy σ k 1 j i2))]) rfl ?_
        have hFr := hFr.trans hFq
        have hrl := rhy_le hI (a := k) (su := 1) (b := j) (t := i2) (by omega)
        refine lv_aload_n hx hb dX2_best_63 rfl (lv_at hl 2 rfl) ?_
        refine lv_iload_n hx hb dX2_best_64 rfl (lv_at hl 3 rfl) ?_
        refine lv_iload hx hb dX2_best_65 (lv_at hl 1 rfl) ?_
        refine lv_iload_n hx hb dX2_best_67 rfl (lv_at hl 4 rfl) ?_
        refine lv_iload_n hx hb dX2_best_68 rfl (lv_at hl 5 rfl) ?_
        refine m_V (rest := [.int (nI (rhy σ k 1 j i2))]) S hK (c_X2_rhymeOf l Γ bs mo (nI 0) σ g1 g2 hI hbm k 0 j i2 (by omega) (by omega) (by first | omega | exact (hI.2.1 _ (by omega)).2.2.1) (by omega)) (cwV 4 hts gX2_best_X2_rhymeOf rfl rfl rfl (by decide +kernel) ⟨Nat.le_of_ble_eq_true rfl, Nat.le_of_ble_eq_true rfl⟩) (Ob.recv hK hW.1 rfl) hW rfl hl.1 rfl (Nat.le_of_ble_eq_true rfl) dX2_best_69 ⟨Nat.le_of_ble_eq_true rfl, Nat.le_of_ble_eq_true rfl⟩ hlo (fun v H1 lc1 hp hlo => ?_)
        obtain ⟨rfl, ⟨g1, g2, hW⟩, hFq, hzq⟩ := hp
        refine W.eq (g2 := F0 m 72 ls [.int (nI (rhy σ k 0 j i2)), .int (nI (rhy σ k 1 j i2))]) rfl ?_
        have hFr := hFr.trans hFq
        have hrl := rhy_le hI (a := k) (su := 0) (b := j) (t := i2) (by omega)
        refine x_icle hx hb (by omega) (by omega) (tgt := 79) dX2_best_72 (by decide) (fun c_5 => ?_) (fun c_5 => ?_)
        · skip
          refine x_iinc (n := 1) (lv' := [(5, .int (nI 2)), (4, .int (nI 0)), (0, .ref mo), (1, .int (nI k)), (2, .int (nI j)), (3, .int (nI i2))]) hx hb dX2_best_79 hl (k := 0) rfl (by decide) rfl (fun ls hl => ?_)
          refine lv_goto (tgt := 48) hx hb dX2_best_82 (by decide) ?_
          refine lv_iload hx hb dX2_best_48 (lv_at hl 0 rfl) ?_
          refine lv_iconst (v := nI 3) hx hb dX2_best_50 (by decide +kernel) ?_
          refine x_icge hx hb (by omega) (by omega) (tgt := 85) dX2_best_51 (by decide) (fun c_6 => absurd c_6 (by decide)) (fun c_6 => ?_)
          refine lv_aload_n hx hb dX2_best_54 rfl (lv_at hl 2 rfl) ?_
          refine lv_iload_n hx hb dX2_best_55 rfl (lv_at hl 3 rfl) ?_
          refine lv_iload hx hb dX2_best_56 (lv_at hl 0 rfl) ?_
          refine lv_iload_n hx hb dX2_best_58 rfl (lv_at hl 4 rfl) ?_
          refine lv_iload_n hx hb dX2_best_59 rfl (lv_at hl 5 rfl) ?_
          refine m_V (rest := []) S hK (c_X2_rhymeOf l Γ bs mo (nI 0) σ g1 g2 hI hbm k 2 j i2 (by omega) (by omega) (by first | omega | exact (hI.2.1 _ (by omega)).2.2.1) (by omega)) (cwV 4 hts gX2_best_X2_rhymeOf rfl rfl rfl (by decide +kernel) ⟨Nat.le_of_ble_eq_true rfl, Nat.le_of_ble_eq_true rfl⟩) (Ob.recv hK hW.1 rfl) hW rfl hl.1 rfl (Nat.le_of_ble_eq_true rfl) dX2_best_60 ⟨Nat.le_of_ble_eq_true rfl, Nat.le_of_ble_eq_true rfl⟩ hlo (fun v H1 lc1 hp hlo => ?_)
          obtain ⟨rfl, ⟨g1, g2, hW⟩, hFq, hzq⟩ := hp
          refine W.eq (g2 := F0 m 63 ls [.int (nI (rhy σ k 2 j i2))]) rfl ?_
          have hFr := hFr.trans hFq
          have hrl := rhy_le hI (a := k) (su := 2) (b := j) (t := i2) (by omega)
          refine lv_aload_n hx hb dX2_best_63 rfl (lv_at hl 2 rfl) ?_
          refine lv_iload_n hx hb dX2_best_64 rfl (lv_at hl 3 rfl) ?_
          refine lv_iload hx hb dX2_best_65 (lv_at hl 1 rfl) ?_
          refine lv_iload_n hx hb dX2_best_67 rfl (lv_at hl 4 rfl) ?_
          refine lv_iload_n hx hb dX2_best_68 rfl (lv_at hl 5 rfl) ?_
          refine m_V (rest := [.int (nI (rhy σ k 2 j i2))]) S hK (c_X2_rhymeOf l Γ bs mo (nI 0) σ g1 g2 hI hbm k 0 j i2 (by omega) (by omega) (by first | omega | exact (hI.2.1 _ (by omega)).2.2.1) (by omega)) (cwV 4 hts gX2_best_X2_rhymeOf rfl rfl rfl (by decide +kernel) ⟨Nat.le_of_ble_eq_true rfl, Nat.le_of_ble_eq_true rfl⟩) (Ob.recv hK hW.1 rfl) hW rfl hl.1 rfl (Nat.le_of_ble_eq_true rfl) dX2_best_69 ⟨Nat.le_of_ble_eq_true rfl, Nat.le_of_ble_eq_true rfl⟩ hlo (fun v H1 lc1 hp hlo => ?_)
          obtain ⟨rfl, ⟨g1, g2, hW⟩, hFq, hzq⟩ := hp
          refine W.eq (g2 := F0 m 72 ls [.int (nI (rhy σ k 0 j i2)), .int (nI (rhy σ k 2 j i2))]) rfl ?_
          have hFr := hFr.trans hFq
          have hrl := rhy_le hI (a := k) (su := 0) (b := j) (t := i2) (by omega)
          refine x_icle hx hb (by omega) (by omega) (tgt := 79) dX2_best_72 (by decide) (fun c_7 => ?_) (fun c_7 => ?_)
          · skip
            refine x_iinc (n := 1) (lv' := [(5, .int (nI 3)), (4, .int (nI 0)), (0, .ref mo), (1, .int (nI k)), (2, .int (nI j)), (3, .int (nI i2))]) hx hb dX2_best_79 hl (k := 0) rfl (by decide) rfl (fun ls hl => ?_)
            refine lv_goto (tgt := 48) hx hb dX2_best_82 (by decide) ?_
            refine lv_iload hx hb dX2_best_48 (lv_at hl 0 rfl) ?_
            refine lv_iconst (v := nI 3) hx hb dX2_best_50 (by decide +kernel) ?_
            refine x_icge hx hb (by omega) (by omega) (tgt := 85) dX2_best_51 (by decide) (fun c_8 => ?_) (fun c_8 => absurd c_8 (by decide))
            refine lv_iload hx hb dX2_best_85 (lv_at hl 1 rfl) ?_
            refine W.widen (k := 0) (n := 0) (Nat.le_of_ble_eq_true rfl) (Nat.le_of_ble_eq_true rfl) ?_
            exact m_iret (Post := fun H v H2 => PM Γ mo (cd2 (inb (nI k) (qn σ) ∧ inb (nI j) (qn σ)) (inb (nI i2) 3)) σ (σ) (nI (rbest σ ((nI k).toInt.toNat) ((nI j).toInt.toNat) (nI i2).toInt.toNat)) H v H2) hx hb hr hlk hlo dX2_best_87 (PM.ok (cd2_0 ⟨((inb_nI (by omega)).mpr hk), ((inb_nI (by omega)).mpr hj)⟩ ((inb_nI (by omega)).mpr hi2)) (by rw [toN (by omega), toN (by omega), toN (by omega)]; exact congrArg (fun n => some (Value.int (nI n))) (rb_00 (f := fun u => rhy σ k u j i2) c_5 c_7).symm) ⟨_, _, hW⟩ hFr)
          · skip
            refine lv_iload hx hb dX2_best_75 (lv_at hl 0 rfl) ?_
            refine lv_istore (lv' := [(4, .int (nI 2)), (5, .int (nI 2)), (0, .ref mo), (1, .int (nI k)), (2, .int (nI j)), (3, .int (nI i2))]) hx hb dX2_best_77 hl (by decide) rfl (fun ls hl => ?_)
            refine x_iinc (n := 1) (lv' := [(5, .int (nI 3)), (4, .int (nI 2)), (0, .ref mo), (1, .int (nI k)), (2, .int (nI j)), (3, .int (nI i2))]) hx hb dX2_best_79 hl (k := 1) rfl (by decide) rfl (fun ls hl => ?_)
            refine lv_goto (tgt := 48) hx hb dX2_best_82 (by decide) ?_
            refine lv_iload hx hb dX2_best_48 (lv_at hl 0 rfl) ?_
            refine lv_iconst (v := nI 3) hx hb dX2_best_50 (by decide +kernel) ?_
            refine x_icge hx hb (by omega) (by omega) (tgt := 85) dX2_best_51 (by decide) (fun c_9 => ?_) (fun c_9 => absurd c_9 (by decide))
            refine lv_iload hx hb dX2_best_85 (lv_at hl 1 rfl) ?_
            refine W.widen (k := 0) (n := 0) (Nat.le_of_ble_eq_true rfl) (Nat.le_of_ble_eq_true rfl) ?_
            exact m_iret (Post := fun H v H2 => PM Γ mo (cd2 (inb (nI k) (qn σ) ∧ inb (nI j) (qn σ)) (inb (nI i2) 3)) σ (σ) (nI (rbest σ ((nI k).toInt.toNat) ((nI j).toInt.toNat) (nI i2).toInt.toNat)) H v H2) hx hb hr hlk hlo dX2_best_87 (PM.ok (cd2_0 ⟨((inb_nI (by omega)).mpr hk), ((inb_nI (by omega)).mpr hj)⟩ ((inb_nI (by omega)).mpr hi2)) (by rw [toN (by omega), toN (by omega), toN (by omega)]; exact congrArg (fun n => some (Value.int (nI n))) (rb_01 (f := fun u => rhy σ k u j i2) c_5 c_7).symm) ⟨_, _, hW⟩ hFr)
        · skip
          refine lv_iload hx hb dX2_best_75 (lv_at hl 0 rfl) ?_
          refine lv_istore (lv' := [(4, .int (nI 1)), (5, .int (nI 1)), (0, .ref mo), (1, .int (nI k)), (2, .int (nI j)), (3, .int (nI i2))]) hx hb dX2_best_77 hl (by decide) rfl (fun ls hl => ?_)
          refine x_iinc (n := 1) (lv' := [(5, .int (nI 2)), (4, .int (nI 1)), (0, .ref mo), (1, .int (nI k)), (2, .int (nI j)), (3, .int (nI i2))]) hx hb dX2_best_79 hl (k := 1) rfl (by decide) rfl (fun ls hl => ?_)
          refine lv_goto (tgt := 48) hx hb dX2_best_82 (by decide) ?_
          refine lv_iload hx hb dX2_best_48 (lv_at hl 0 rfl) ?_
          refine lv_iconst (v := nI 3) hx hb dX2_best_50 (by decide +kernel) ?_
          refine x_icge hx hb (by omega) (by omega) (tgt := 85) dX2_best_51 (by decide) (fun c_10 => absurd c_10 (by decide)) (fun c_10 => ?_)
          refine lv_aload_n hx hb dX2_best_54 rfl (lv_at hl 2 rfl) ?_
          refine lv_iload_n hx hb dX2_best_55 rfl (lv_at hl 3 rfl) ?_
          refine lv_iload hx hb dX2_best_56 (lv_at hl 0 rfl) ?_
          refine lv_iload_n hx hb dX2_best_58 rfl (lv_at hl 4 rfl) ?_
          refine lv_iload_n hx hb dX2_best_59 rfl (lv_at hl 5 rfl) ?_
          refine m_V (rest := []) S hK (c_X2_rhymeOf l Γ bs mo (nI 0) σ g1 g2 hI hbm k 2 j i2 (by omega) (by omega) (by first | omega | exact (hI.2.1 _ (by omega)).2.2.1) (by omega)) (cwV 4 hts gX2_best_X2_rhymeOf rfl rfl rfl (by decide +kernel) ⟨Nat.le_of_ble_eq_true rfl, Nat.le_of_ble_eq_true rfl⟩) (Ob.recv hK hW.1 rfl) hW rfl hl.1 rfl (Nat.le_of_ble_eq_true rfl) dX2_best_60 ⟨Nat.le_of_ble_eq_true rfl, Nat.le_of_ble_eq_true rfl⟩ hlo (fun v H1 lc1 hp hlo => ?_)
          obtain ⟨rfl, ⟨g1, g2, hW⟩, hFq, hzq⟩ := hp
          refine W.eq (g2 := F0 m 63 ls [.int (nI (rhy σ k 2 j i2))]) rfl ?_
          have hFr := hFr.trans hFq
          have hrl := rhy_le hI (a := k) (su := 2) (b := j) (t := i2) (by omega)
          refine lv_aload_n hx hb dX2_best_63 rfl (lv_at hl 2 rfl) ?_
          refine lv_iload_n hx hb dX2_best_64 rfl (lv_at hl 3 rfl) ?_
          refine lv_iload hx hb dX2_best_65 (lv_at hl 1 rfl) ?_
          refine lv_iload_n hx hb dX2_best_67 rfl (lv_at hl 4 rfl) ?_
          refine lv_iload_n hx hb dX2_best_68 rfl (lv_at hl 5 rfl) ?_
          refine m_V (rest := [.int (nI (rhy σ k 2 j i2))]) S hK (c_X2_rhymeOf l Γ bs mo (nI 0) σ g1 g2 hI hbm k 1 j i2 (by omega) (by omega) (by first | omega | exact (hI.2.1 _ (by omega)).2.2.1) (by omega)) (cwV 4 hts gX2_best_X2_rhymeOf rfl rfl rfl (by decide +kernel) ⟨Nat.le_of_ble_eq_true rfl, Nat.le_of_ble_eq_true rfl⟩) (Ob.recv hK hW.1 rfl) hW rfl hl.1 rfl (Nat.le_of_ble_eq_true rfl) dX2_best_69 ⟨Nat.le_of_ble_eq_true rfl, Nat.le_of_ble_eq_true rfl⟩ hlo (fun v H1 lc1 hp hlo => ?_)
          obtain ⟨rfl, ⟨g1, g2, hW⟩, hFq, hzq⟩ := hp
          refine W.eq (g2 := F0 m 72 ls [.int (nI (rhy σ k 1 j i2)), .int (nI (rhy σ k 2 j i2))]) rfl ?_
          have hFr := hFr.trans hFq
          have hrl := rhy_le hI (a := k) (su := 1) (b := j) (t := i2) (by omega)
          refine x_icle hx hb (by omega) (by omega) (tgt := 79) dX2_best_72 (by decide) (fun c_11 => ?_) (fun c_11 => ?_)
          · skip
            refine x_iinc (n := 1) (lv' := [(5, .int (nI 3)), (4, .int (nI 1)), (0, .ref mo), (1, .int (nI k)), (2, .int (nI j)), (3, .int (nI i2))]) hx hb dX2_best_79 hl (k := 0) rfl (by decide) rfl (fun ls hl => ?_)
            refine lv_goto (tgt := 48) hx hb dX2_best_82 (by decide) ?_
            refine lv_iload hx hb dX2_best_48 (lv_at hl 0 rfl) ?_
            refine lv_iconst (v := nI 3) hx hb dX2_best_50 (by decide +kernel) ?_
            refine x_icge hx hb (by omega) (by omega) (tgt := 85) dX2_best_51 (by decide) (fun c_12 => ?_) (fun c_12 => absurd c_12 (by decide))
            refine lv_iload hx hb dX2_best_85 (lv_at hl 1 rfl) ?_
            refine W.widen (k := 0) (n := 0) (Nat.le_of_ble_eq_true rfl) (Nat.le_of_ble_eq_true rfl) ?_
            exact m_iret (Post := fun H v H2 => PM Γ mo (cd2 (inb (nI k) (qn σ) ∧ inb (nI j) (qn σ)) (inb (nI i2) 3)) σ (σ) (nI (rbest σ ((nI k).toInt.toNat) ((nI j).toInt.toNat) (nI i2).toInt.toNat)) H v H2) hx hb hr hlk hlo dX2_best_87 (PM.ok (cd2_0 ⟨((inb_nI (by omega)).mpr hk), ((inb_nI (by omega)).mpr hj)⟩ ((inb_nI (by omega)).mpr hi2)) (by rw [toN (by omega), toN (by omega), toN (by omega)]; exact congrArg (fun n => some (Value.int (nI n))) (rb_10 (f := fun u => rhy σ k u j i2) c_5 c_11).symm) ⟨_, _, hW⟩ hFr)
          · skip
            refine lv_iload hx hb dX2_best_75 (lv_at hl 0 rfl) ?_
            refine lv_istore (lv' := [(4, .int (nI 2)), (5, .int (nI 2)), (0, .ref mo), (1, .int (nI k)), (2, .int (nI j)), (3, .int (nI i2))]) hx hb dX2_best_77 hl (by decide) rfl (fun ls hl => ?_)
            refine x_iinc (n := 1) (lv' := [(5, .int (nI 3)), (4, .int (nI 2)), (0, .ref mo), (1, .int (nI k)), (2, .int (nI j)), (3, .int (nI i2))]) hx hb dX2_best_79 hl (k := 1) rfl (by decide) rfl (fun ls hl => ?_)
            refine lv_goto (tgt := 48) hx hb dX2_best_82 (by decide) ?_
            refine lv_iload hx hb dX2_best_48 (lv_at hl 0 rfl) ?_
            refine lv_iconst (v := nI 3) hx hb dX2_best_50 (by decide +kernel) ?_
            refine x_icge hx hb (by omega) (by omega) (tgt := 85) dX2_best_51 (by decide) (fun c_13 => ?_) (fun c_13 => absurd c_13 (by decide))
            refine lv_iload hx hb dX2_best_85 (lv_at hl 1 rfl) ?_
            refine W.widen (k := 0) (n := 0) (Nat.le_of_ble_eq_true rfl) (Nat.le_of_ble_eq_true rfl) ?_
            exact m_iret (Post := fun H v H2 => PM Γ mo (cd2 (inb (nI k) (qn σ) ∧ inb (nI j) (qn σ)) (inb (nI i2) 3)) σ (σ) (nI (rbest σ ((nI k).toInt.toNat) ((nI j).toInt.toNat) (nI i2).toInt.toNat)) H v H2) hx hb hr hlk hlo dX2_best_87 (PM.ok (cd2_0 ⟨((inb_nI (by omega)).mpr hk), ((inb_nI (by omega)).mpr hj)⟩ ((inb_nI (by omega)).mpr hi2)) (by rw [toN (by omega), toN (by omega), toN (by omega)]; exact congrArg (fun n => some (Value.int (nI n))) (rb_11 (f := fun u => rhy σ k u j i2) c_5 c_11).symm) ⟨_, _, hW⟩ hFr)
      · skip
        refine lv_aload_n hx hb dX2_best_36 rfl (lv_at hl 0 rfl) ?_
        refine lv_iconst (v := nI 2) hx hb dX2_best_37 (by decide +kernel) ?_
        refine m_V (rest := []) S hK (c_X2_no l Γ bs mo (nI 0) σ g1 g2 hI hbm 2) (cwV 1 hts gX2_best_X2_no rfl rfl rfl (by decide +kernel) ⟨Nat.le_of_ble_eq_true rfl, Nat.le_of_ble_eq_true rfl⟩) (Ob.recv hK hW.1 rfl) hW rfl hl.1 rfl (Nat.le_of_ble_eq_true rfl) dX2_best_38 ⟨Nat.le_of_ble_eq_true rfl, Nat.le_of_ble_eq_true rfl⟩ hlo (fun v H1 lc1 hp hlo => ?_)
        obtain ⟨rfl, hW, hFq, hzq⟩ := hp
        refine W.eq (g2 := F0 m 41 ls [.int (nI 0)]) rfl ?_
        have hFr := hFr.trans hFq
        refine W.widen (k := 0) (n := 0) (Nat.le_of_ble_eq_true rfl) (Nat.le_of_ble_eq_true rfl) ?_
        exact m_iret (Post := fun H v H2 => PM Γ mo (cd2 (inb (nI k) (qn σ) ∧ inb (nI j) (qn σ)) (inb w 3)) σ (σ) (nI (rbest σ ((nI k).toInt.toNat) ((nI j).toInt.toNat) w.toInt.toNat)) H v H2) hx hb hr hlk hlo dX2_best_41 (PM.no (i := 1) (cd2_2 ⟨((inb_nI (by omega)).mpr hk), ((inb_nI (by omega)).mpr hj)⟩ (bP_0 c_3)) rfl ⟨_, _, hW⟩ hFr)
    · skip
      refine lv_aload_n hx hb dX2_best_21 rfl (lv_at hl 0 rfl) ?_
      refine lv_iconst (v := nI 1) hx hb dX2_best_22 (by decide +kernel) ?_
      refine m_V (rest := []) S hK (c_X2_no l Γ bs mo (nI 0) σ g1 g2 hI hbm 1) (cwV 1 hts gX2_best_X2_no rfl rfl rfl (by decide +kernel) ⟨Nat.le_of_ble_eq_true rfl, Nat.le_of_ble_eq_true rfl⟩) (Ob.recv hK hW.1 rfl) hW rfl hl.1 rfl (Nat.le_of_ble_eq_true rfl) dX2_best_23 ⟨Nat.le_of_ble_eq_true rfl, Nat.le_of_ble_eq_true rfl⟩ hlo (fun v H1 lc1 hp hlo => ?_)
      obtain ⟨rfl, hW, hFq, hzq⟩ := hp
      refine W.eq (g2 := F0 m 26 ls [.int (nI 0)]) rfl ?_
      have hFr := hFr.trans hFq
      refine W.widen (k := 0) (n := 0) (Nat.le_of_ble_eq_true rfl) (Nat.le_of_ble_eq_true rfl) ?_
      exact m_iret (Post := fun H v H2 => PM Γ mo (cd2 (inb (nI k) (qn σ) ∧ inb z (qn σ)) (inb w 3)) σ (σ) (nI (rbest σ ((nI k).toInt.toNat) (z.toInt.toNat) w.toInt.toNat)) H v H2) hx hb hr hlk hlo dX2_best_26 (PM.no (i := 0) (cd2_1 (fun q => bP_0 c_2 q.2)) rfl ⟨_, _, hW⟩ hFr)
theorem in_X2_pieces_X2 : ∀ w ∈ wsX20, w ∈ wsX2_pieces := by decide +kernel
set_option maxHeartbeats 4000000 in
set_option maxRecDepth 100000 in
theorem c_X2_pieces (l : Launch) (Γ : GG) (bs : Nat) (mo : Nat) (th : Int32) (σ : St) (hI : Iv σ) (hbm : bs ≤ mo) (y z : Int32)  : Mt l yX2_pieces wsX2_pieces ({ frames := 3, cells := 0, slots := 0, locals := 68 }) Γ bs [.ref mo, .int y, .int z] (MX Γ mo th σ) (fun H v H2 => PM Γ mo (cd2 (inb y (qn σ)) (inR z (1 : Nat) (20 : Nat))) σ (σ) (nI (cW (stn (rk σ (y.toInt.toNat)) (ak σ (y.toInt.toNat))) z (qp σ (y.toInt.toNat) - 1) + 1)) H v H2) 0 0 := by
  refine Mt.of (cc := cX2_pieces) (maxL := 5) (ret := (some .int)) (by decide) rfl (Nat.le_of_ble_eq_true rfl) ?_
  intro p e s m below meth c S hr hlk hin hK hW ls hl
  obtain ⟨hx, hb, hml, hown, hts⟩ := id S
  obtain ⟨lc, elc⟩ : ∃ z : List Loc, z = [] := ⟨_, rfl⟩
  rw [← elc]
  have hlo : lo bs lc := by rw [elc]; exact lo.nil
  clear elc
  have hl : lv_has ls 5 [(0, .ref mo), (1, .int y), (2, .int z)] := hl
  have hn40 := hI.1
  have hFr : Fr mo (mo + 11) s.heap s.heap := Fr.rf
  obtain ⟨g1, g2, hW⟩ := hW
  refine lv_aload_n hx hb dX2_pieces_0 rfl (lv_at hl 0 rfl) ?_
  refine lv_iconst (v := nI 0) hx hb dX2_pieces_1 (by decide +kernel) ?_
  refine x_putX S in_X2_pieces_X2 tyX2 tyX2_ok nmX2 hK hW.1 rfl 0 (by decide) (by decide +kernel) rfl (Or.inl rfl) (tyX2_ok 0 (by decide)) rfl rfl (Nat.le_of_ble_eq_true rfl) hlo (by omega) dX2_pieces_2 (fun H1 lc1 hO1 hz1 ho1 hlo => ?_)
  have hO1 : Ob Γ 2 mo [.int (nI 0), .int (nI (qn σ)), .int (qb σ), .ref (mo + 1), .ref (mo + 2), .ref (mo + 3), .ref (mo + 4), .ref (mo + 5), .ref (mo + 6), .ref (mo + 7), .ref (mo + 8), .ref (mo + 9), .ref (mo + 10)] H1 := hO1
  have hFr := hFr.put hz1 ho1 (by omega) (by omega)
  have hW := MW.put (σ' := σ) hW hO1 ho1 rfl
  have hW : MW Γ mo (nI 0) σ g1 g2 H1 := hW
  refine lv_aload_n hx hb dX2_pieces_5 rfl (lv_at hl 0 rfl) ?_
  refine lv_iload_n hx hb dX2_pieces_6 rfl (lv_at hl 1 rfl) ?_
  refine ro_V (rest := []) S hK (c_X2_isStick l Γ mo (nI 0) σ g1 g2 hI y) (cwV 1 hts gX2_pieces_X2_isStick rfl rfl rfl (by decide +kernel) ⟨Nat.le_of_ble_eq_true rfl, Nat.le_of_ble_eq_true rfl⟩) (Ob.recv hK hW.1 rfl) hW rfl hl.1 rfl (Nat.le_of_ble_eq_true rfl) dX2_pieces_7 ⟨Nat.le_of_ble_eq_true rfl, Nat.le_of_ble_eq_true rfl⟩ ?_
  refine W.eq (g2 := F0 m 10 ls [.int (nI (bP (inb y (qn σ))))]) rfl ?_
  have hbb7 := bP_le (inb y (qn σ))
  refine x_ifne hx hb (by omega) (tgt := 19) dX2_pieces_10 (by decide) (fun c_1 => ?_) (fun c_1 => ?_)
  · skip
    obtain ⟨k, hk, rfl⟩ := inb_ex (bP_1 c_1)
    obtain ⟨hp0k, hp12k, hu3k, hg1k⟩ := hI.2.1 k hk
    refine lv_iload_n hx hb dX2_pieces_19 rfl (lv_at hl 2 rfl) ?_
    refine lv_iconst (v := nI 1) hx hb dX2_pieces_20 (by decide +kernel) ?_
    refine lv_bipush (v := nI 20) hx hb dX2_pieces_21 (by decide +kernel) ?_
    refine ro_S (rest := []) S hK (c_X2_isIn l Γ z (nI 1) (nI 20)) (cwS 3 hts gX2_pieces_X2_isIn rfl rfl rfl (by decide +kernel) ⟨Nat.le_of_ble_eq_true rfl, Nat.le_of_ble_eq_true rfl⟩) trivial rfl hl.1 rfl (Nat.le_of_ble_eq_true rfl) dX2_pieces_23 ⟨Nat.le_of_ble_eq_true rfl, Nat.le_of_ble_eq_true rfl⟩ ?_
    refine W.eq (g2 := F0 m 26 ls [.int (nI (bP (nI 1 ≤ z ∧ z ≤ nI 20)))]) rfl ?_
    refine x_e (show nI (bP (nI 1 ≤ z ∧ z ≤ nI 20)) = nI (bP (inR z (1 : Nat) (20 : Nat))) by rw [bP_iff (inR_iff (by decide) (by decide))]) ?_
    have hbb23 := bP_le (inR z (1 : Nat) (20 : Nat))
    refine x_ifne hx hb (by omega) (tgt := 35) dX2_pieces_26 (by decide) (fun c_2 => ?_) (fun c_2 => ?_)
    · skip
      have hfc := bP_1 c_2
      refine lv_iconst (v := nI 1) hx hb dX2_pieces_35 (by decide +kernel) ?_
      refine lv_istore_n (lv' := [(3, .int (nI 1)), (0, .ref mo), (1, .int (nI k)), (2, .int z)]) hx hb dX2_pieces_36 rfl hl (by decide) rfl (fun ls hl => ?_)
      refine lv_iconst (v := nI 0) hx hb dX2_pieces_37 (by decide +kernel) ?_
      refine lv_istore (lv' := [(4, .int (nI 0)), (3, .int (nI 1)), (0, .ref mo), (1, .int (nI k)), (2, .int z)]) hx hb dX2_pieces_38 hl (by decide) rfl (fun ls hl => ?_)
      refine x_loop (σ := Nat) (fun u => [(0, .ref mo), (1, .int (nI k)), (2, .int z), (3, .int (nI (cW (stn (rk σ k) (ak σ k)) z u + 1))), (4, .int (nI u))]) (fun u => u ≤ qp σ k - 1) (fun u => qp σ k - 1 - u) (fun u hu ih ls hl => ?_) 0 (by omega) ls (x_hl (lv_sub (l' := [(0, .ref mo), (1, .int (nI k)), (2, .int z), (3, .int (nI 1)), (4, .int (nI 0))]) hl [2, 3, 4, 1, 0] rfl) rfl)
      obtain ⟨i, rfl⟩ : ∃ z, z = u := ⟨_, rfl⟩
      have hu : i ≤ qp σ k - 1 := hu
      have hl : lv_has ls 5 [(0, .ref mo), (1, .int (nI k)), (2, .int z), (3, .int (nI (cW (stn (rk σ k) (ak σ k)) z i + 1))), (4, .int (nI i))] := hl
      refine lv_iload hx hb dX2_pieces_40 (lv_at hl 4 rfl) ?_
      refine lv_aload_n hx hb dX2_pieces_42 rfl (lv_at hl 0 rfl) ?_
      refine x_get S in_X2_pieces_X2 hK hW.1 rfl 3 (by decide) (by decide +kernel) rfl rfl dX2_pieces_43 ?_
      refine lv_iload_n hx hb dX2_pieces_46 rfl (lv_at hl 1 rfl) ?_
      refine x_iald hx hb hK hW.2.1 (by omega) (by omega) dX2_pieces_47 ?_
      refine lv_iconst (v := nI 1) hx hb dX2_pieces_48 (by decide +kernel) ?_
      refine x_sub hx hb (by omega) dX2_pieces_49 ?_
      refine x_icge hx hb (by omega) (by omega) (tgt := 78) dX2_pieces_50 (by decide) (fun c_3 => ?_) (fun c_3 => ?_)
      · skip
        refine lv_iload_n hx hb dX2_pieces_78 rfl (lv_at hl 3 rfl) ?_
        refine W.widen (k := 0) (n := 0) (Nat.le_of_ble_eq_true rfl) (Nat.le_of_ble_eq_true rfl) ?_
        exact m_iret (Post := fun H v H2 => PM Γ mo (cd2 (inb (nI k) (qn σ)) (inR z (1 : Nat) (20 : Nat))) σ (σ) (nI (cW (stn (rk σ ((nI k).toInt.toNat)) (ak σ ((nI k).toInt.toNat))) z (qp σ ((nI k).toInt.toNat) - 1) + 1)) H v H2) hx hb hr hlk hlo dX2_pieces_79 (PM.ok (cd2_0 ((inb_nI (by omega)).mpr hk) hfc) (by rw [toN (by omega), show qp σ k - 1 = i by omega]) ⟨_, _, hW⟩ hFr)
      · skip
        refine lv_iload_n hx hb dX2_pieces_53 rfl (lv_at hl 3 rfl) ?_
        refine lv_aload_n hx hb dX2_pieces_54 rfl (lv_at hl 0 rfl) ?_
        refine lv_iload_n hx hb dX2_pieces_55 rfl (lv_at hl 1 rfl) ?_
        refine lv_iload hx hb dX2_pieces_56 (lv_at hl 4 rfl) ?_
        refine ro_V (rest := [.int (nI (cW (stn (rk σ k) (ak σ k)) z i + 1))]) S hK (c_X2_strong l Γ mo (nI 0) σ g1 g2 hI k i (by omega) (by omega)) (cwV 2 hts gX2_pieces_X2_strong rfl rfl rfl (by decide +kernel) ⟨Nat.le_of_ble_eq_true rfl, Nat.le_of_ble_eq_true rfl⟩) (Ob.recv hK hW.1 rfl) hW rfl hl.1 rfl (Nat.le_of_ble_eq_true rfl) dX2_pieces_58 ⟨Nat.le_of_ble_eq_true rfl, Nat.le_of_ble_eq_true rfl⟩ ?_
        refine W.eq (g2 := F0 m 61 ls [.int (stn (rk σ k) (ak σ k) i), .int (nI (cW (stn (rk σ k) (ak σ k)) z i + 1))]) rfl ?_
        refine lv_iload_n hx hb dX2_pieces_61 rfl (lv_at hl 2 rfl) ?_
        refine lv_icmp_ge (tgt := 69) hx hb dX2_pieces_62 (by decide) (fun c_4 => ?_) (fun c_4 => ?_)
        · skip
          refine lv_iconst (v := nI 0) hx hb dX2_pieces_69 (by decide +kernel) ?_
          refine x_add hx hb dX2_pieces_70 ?_
          refine lv_istore_n (lv' := [(3, .int (nI ((cW (stn (rk σ k) (ak σ k)) z i + 1) + 0))), (0, .ref mo), (1, .int (nI k)), (2, .int z), (4, .int (nI i))]) hx hb dX2_pieces_71 rfl hl (by decide) rfl (fun ls hl => ?_)
          refine x_iinc (n := 1) (lv' := [(4, .int (nI (i + 1))), (3, .int (nI ((cW (stn (rk σ k) (ak σ k)) z i + 1) + 0))), (0, .ref mo), (1, .int (nI k)), (2, .int z)]) hx hb dX2_pieces_72 hl (k := 4) rfl (by decide) rfl (fun ls hl => ?_)
          refine lv_goto (tgt := 40) hx hb dX2_pieces_75 (by decide) ?_
          have hl : lv_has ls 5 [(4, .int (nI (i + 1))), (3, .int (nI (cW (stn (rk σ k) (ak σ k)) z (i + 1) + 1))), (0, .ref mo), (1, .int (nI k)), (2, .int z)] := x_hl hl (by rw [show cW (stn (rk σ k) (ak σ k)) z i + 1 + 0 = cW (stn (rk σ k) (ak σ k)) z (i + 1) + 1 by rw [cW_n (Int32.not_lt.mpr c_4)]])
          exact ih (i + 1) (by omega) (by omega) ls (lv_sub hl [2, 3, 4, 1, 0] rfl)
        · skip
          refine lv_iconst (v := nI 1) hx hb dX2_pieces_65 (by decide +kernel) ?_
          refine lv_goto (tgt := 70) hx hb dX2_pieces_66 (by decide) ?_
          refine x_add hx hb dX2_pieces_70 ?_
          refine lv_istore_n (lv' := [(3, .int (nI ((cW (stn (rk σ k) (ak σ k)) z i + 1) + 1))), (0, .ref mo), (1, .int (nI k)), (2, .int z), (4, .int (nI i))]) hx hb dX2_pieces_71 rfl hl (by decide) rfl (fun ls hl => ?_)
          refine x_iinc (n := 1) (lv' := [(4, .int (nI (i + 1))), (3, .int (nI ((cW (stn (rk σ k) (ak σ k)) z i + 1) + 1))), (0, .ref mo), (1, .int (nI k)), (2, .int z)]) hx hb dX2_pieces_72 hl (k := 4) rfl (by decide) rfl (fun ls hl => ?_)
          refine lv_goto (tgt := 40) hx hb dX2_pieces_75 (by decide) ?_
          have hl : lv_has ls 5 [(4, .int (nI (i + 1))), (3, .int (nI (cW (stn (rk σ k) (ak σ k)) z (i + 1) + 1))), (0, .ref mo), (1, .int (nI k)), (2, .int z)] := x_hl hl (by rw [show cW (stn (rk σ k) (ak σ k)) z i + 1 + 1 = cW (stn (rk σ k) (ak σ k)) z (i + 1) + 1 by rw [cW_y (Int32.not_le.mp c_4)]])
          exact ih (i + 1) (by omega) (by omega) ls (lv_sub hl [2, 3, 4, 1, 0] rfl)
    · skip
      refine lv_aload_n hx hb dX2_pieces_29 rfl (lv_at hl 0 rfl) ?_
      refine lv_iconst (v := nI 2) hx hb dX2_pieces_30 (by decide +kernel) ?_
      refine m_V (rest := []) S hK (c_X2_no l Γ bs mo (nI 0) σ g1 g2 hI hbm 2) (cwV 1 hts gX2_pieces_X2_no rfl rfl rfl (by decide +kernel) ⟨Nat.le_of_ble_eq_true rfl, Nat.le_of_ble_eq_true rfl⟩) (Ob.recv hK hW.1 rfl) hW rfl hl.1 rfl (Nat.le_of_ble_eq_true rfl) dX2_pieces_31 ⟨Nat.le_of_ble_eq_true rfl, Nat.le_of_ble_eq_true rfl⟩ hlo (fun v H1 lc1 hp hlo => ?_)
      obtain ⟨rfl, hW, hFq, hzq⟩ := hp
      refine W.eq (g2 := F0 m 34 ls [.int (nI 0)]) rfl ?_
      have hFr := hFr.trans hFq
      refine W.widen (k := 0) (n := 0) (Nat.le_of_ble_eq_true rfl) (Nat.le_of_ble_eq_true rfl) ?_
      exact m_iret (Post := fun H v H2 => PM Γ mo (cd2 (inb (nI k) (qn σ)) (inR z (1 : Nat) (20 : Nat))) σ (σ) (nI (cW (stn (rk σ ((nI k).toInt.toNat)) (ak σ ((nI k).toInt.toNat))) z (qp σ ((nI k).toInt.toNat) - 1) + 1)) H v H2) hx hb hr hlk hlo dX2_pieces_34 (PM.no (i := 1) (cd2_2 ((inb_nI (by omega)).mpr hk) (bP_0 c_2)) rfl ⟨_, _, hW⟩ hFr)
  · skip
    refine lv_aload_n hx hb dX2_pieces_13 rfl (lv_at hl 0 rfl) ?_
    refine lv_iconst (v := nI 1) hx hb dX2_pieces_14 (by decide +kernel) ?_
    refine m_V (rest := []) S hK (c_X2_no l Γ bs mo (nI 0) σ g1 g2 hI hbm 1) (cwV 1 hts gX2_pieces_X2_no rfl rfl rfl (by decide +kernel) ⟨Nat.le_of_ble_eq_true rfl, Nat.le_of_ble_eq_true rfl⟩) (Ob.recv hK hW.1 rfl) hW rfl hl.1 rfl (Nat.le_of_ble_eq_true rfl) dX2_pieces_15 ⟨Nat.le_of_ble_eq_true rfl, Nat.le_of_ble_eq_true rfl⟩ hlo (fun v H1 lc1 hp hlo => ?_)
    obtain ⟨rfl, hW, hFq, hzq⟩ := hp
    refine W.eq (g2 := F0 m 18 ls [.int (nI 0)]) rfl ?_
    have hFr := hFr.trans hFq
    refine W.widen (k := 0) (n := 0) (Nat.le_of_ble_eq_true rfl) (Nat.le_of_ble_eq_true rfl) ?_
    exact m_iret (Post := fun H v H2 => PM Γ mo (cd2 (inb y (qn σ)) (inR z (1 : Nat) (20 : Nat))) σ (σ) (nI (cW (stn (rk σ (y.toInt.toNat)) (ak σ (y.toInt.toNat))) z (qp σ (y.toInt.toNat) - 1) + 1)) H v H2) hx hb hr hlk hlo dX2_pieces_18 (PM.no (i := 0) (cd2_1 (bP_0 c_1)) rfl ⟨_, _, hW⟩ hFr)
