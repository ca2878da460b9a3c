def MX (Γ : GG) (mo : Nat) (th : Int32) (σ : St) (H : Heap) : Prop := ∃ g1 g2, MW Γ mo th σ g1 g2 H
/-- how a public method of the reference ends: cd tells whether it refuses -/
def PM (Γ : GG) (mo cd : Nat) (σ σ' : St) (val : Int32) (H : Heap) (v : Option Value) (H2 : Heap) : Prop :=
  (cd = 0 ∧ v = some (.int val) ∧ MX Γ mo (nI 0) σ' H2 ∨ 0 < cd ∧ v = some (.int (nI 0)) ∧ MX Γ mo (nI cd) σ H2) ∧ Fr mo (mo + 11) H H2
theorem PM.ok {Γ : GG} {mo cd : Nat} {σ σ' : St} {val : Int32} {H H2 : Heap} {v : Option Value} (h : cd = 0) (hv : v = some (.int val)) (hM : MX Γ mo (nI 0) σ' H2) (hF : Fr mo (mo + 11) H H2) : PM Γ mo cd σ σ' val H v H2 := ⟨Or.inl ⟨h, hv, hM⟩, hF⟩
theorem PM.no {Γ : GG} {mo cd i : Nat} {σ σ' : St} {val : Int32} {H H2 : Heap} {v : Option Value} (h : cd = i + 1) (hv : v = some (.int (nI 0))) (hM : MX Γ mo (nI (i + 1)) σ H2) (hF : Fr mo (mo + 11) H H2) : PM Γ mo cd σ σ' val H v H2 := by
  subst h
  exact ⟨Or.inr ⟨Nat.succ_pos i, hv, hM⟩, hF⟩
theorem pn_sub2 {P : Nat} (h : 1 ≤ P) : nI P - nI 2 = pn (P - 1) := by
  obtain ⟨k, rfl⟩ : ∃ k, P = k + 1 := ⟨P - 1, by omega⟩
  rw [Nat.add_sub_cancel, ← nI_add k 1, Int32.sub_eq_add_neg, Int32.add_assoc]
  unfold pn
  exact congrArg (nI k + ·) (by decide +kernel)
theorem nth_rdA {f g : Nat → Int32} {P j : Nat} (h : j < cU f P) (hP : P ≤ 12) : nth f P (nI j) = rdA f g P j := by
  have h1 := cU_le f P
  unfold nth
  rw [if_pos (by rw [nI_toInt (by omega)]; omega), nI_toInt (by omega), Int.toNat_natCast, rdA_at (g := g) h]
  rfl
theorem in_X2_stick_X2 : ∀ w ∈ wsX20, w ∈ wsX2_stick := by decide +kernel
set_option maxHeartbeats 4000000 in
set_option maxRecDepth 100000 in
theorem c_X2_stick (l : Launch) (Γ : GG) (bs : Nat) (mo : Nat) (th : Int32) (σ : St) (hI : Iv σ) (hbm : bs ≤ mo) (y z : Int32)  : Mt l yX2_stick wsX2_stick ({ frames := 4, cells := 1, slots := 7, locals := 92 }) Γ bs [.ref mo, .int y, .int z] (MX Γ mo th σ) (fun H v H2 => PM Γ mo (cd1 (inb y (qn σ) ∧ inb z 7)) σ (σ) (fk σ (y.toInt.toNat) (z.toInt.toNat)) H v H2) 1 7 := by
  refine Mt.of (cc := cX2_stick) (maxL := 3) (ret := (some .int)) (by decide) rfl (Nat.le_of_ble_eq_true rfl) ?_
  intro p e s m below meth c S hr hlk hin hK hW ls hl
  obtain ⟨hx, hb, hml, hown, hts⟩ := id S
  obtain ⟨lc, elc⟩ : ∃ z : List Loc, z = [] := ⟨_, rfl⟩
  rw [← elc]
  have hlo : lo bs lc := by rw [elc]; exact lo.nil
  clear elc
  have hl : lv_has ls 3 [(0, .ref mo), (1, .int y), (2, .int z)] := hl
  have hn40 := hI.1
  have hFr : Fr mo (mo + 11) s.heap s.heap := Fr.rf
  obtain ⟨g1, g2, hW⟩ := hW
  refine lv_aload_n hx hb dX2_stick_0 rfl (lv_at hl 0 rfl) ?_
  refine lv_iconst (v := nI 0) hx hb dX2_stick_1 (by decide +kernel) ?_
  refine x_putX S in_X2_stick_X2 tyX2 tyX2_ok nmX2 hK hW.1 rfl 0 (by decide) (by decide +kernel) rfl (Or.inl rfl) (tyX2_ok 0 (by decide)) rfl rfl (Nat.le_of_ble_eq_true rfl) hlo (by omega) dX2_stick_2 (fun H1 lc1 hO1 hz1 ho1 hlo => ?_)
  have hO1 : Ob Γ 2 mo [.int (nI 0), .int (nI (qn σ)), .int (qb σ), .ref (mo + 1), .ref (mo + 2), .ref (mo + 3), .ref (mo + 4), .ref (mo + 5), .ref (mo + 6), .ref (mo + 7), .ref (mo + 8), .ref (mo + 9), .ref (mo + 10)] H1 := hO1
  have hFr := hFr.put hz1 ho1 (by omega) (by omega)
  have hW := MW.put (σ' := σ) hW hO1 ho1 rfl
  have hW : MW Γ mo (nI 0) σ g1 g2 H1 := hW
  refine lv_aload_n hx hb dX2_stick_5 rfl (lv_at hl 0 rfl) ?_
  refine lv_iload_n hx hb dX2_stick_6 rfl (lv_at hl 1 rfl) ?_
  refine ro_V (rest := []) S hK (c_X2_isStick l Γ mo (nI 0) σ g1 g2 hI y) (cwV 1 hts gX2_stick_X2_isStick rfl rfl rfl (by decide +kernel) ⟨Nat.le_of_ble_eq_true rfl, Nat.le_of_ble_eq_true rfl⟩) (Ob.recv hK hW.1 rfl) hW rfl hl.1 rfl (Nat.le_of_ble_eq_true rfl) dX2_stick_7 ⟨Nat.le_of_ble_eq_true rfl, Nat.le_of_ble_eq_true rfl⟩ ?_
  refine W.eq (g2 := F0 m 10 ls [.int (nI (bP (inb y (qn σ))))]) rfl ?_
  have hbb7 := bP_le (inb y (qn σ))
  refine x_ifeq hx hb (by omega) (tgt := 32) dX2_stick_10 (by decide) (fun c_1 => ?_) (fun c_1 => ?_)
  · skip
    refine lv_aload_n hx hb dX2_stick_32 rfl (lv_at hl 0 rfl) ?_
    refine lv_iconst (v := nI 1) hx hb dX2_stick_33 (by decide +kernel) ?_
    refine m_V (rest := []) S hK (c_X2_no l Γ bs mo (nI 0) σ g1 g2 hI hbm 1) (cwV 1 hts gX2_stick_X2_no rfl rfl rfl (by decide +kernel) ⟨Nat.le_of_ble_eq_true rfl, Nat.le_of_ble_eq_true rfl⟩) (Ob.recv hK hW.1 rfl) hW rfl hl.1 rfl (Nat.le_of_ble_eq_true rfl) dX2_stick_34 ⟨Nat.le_of_ble_eq_true rfl, Nat.le_of_ble_eq_true rfl⟩ hlo (fun v H1 lc1 hp hlo => ?_)
    obtain ⟨rfl, hW, hFq, hzq⟩ := hp
    refine W.eq (g2 := F0 m 37 ls [.int (nI 0)]) rfl ?_
    have hFr := hFr.trans hFq
    refine W.widen (k := 1) (n := 7) (Nat.le_of_ble_eq_true rfl) (Nat.le_of_ble_eq_true rfl) ?_
    exact m_iret (Post := fun H v H2 => PM Γ mo (cd1 (inb y (qn σ) ∧ inb z 7)) σ (σ) (fk σ (y.toInt.toNat) (z.toInt.toNat)) H v H2) hx hb hr hlk hlo dX2_stick_37 (PM.no (i := 0) (cd1_1 (fun q => bP_0 c_1 q.1)) rfl ⟨_, _, hW⟩ hFr)
  · skip
    obtain ⟨k, hk, rfl⟩ := inb_ex (bP_1 c_1)
    obtain ⟨hp0k, hp12k, hu3k, hg1k⟩ := hI.2.1 k hk
    refine lv_iload_n hx hb dX2_stick_13 rfl (lv_at hl 2 rfl) ?_
    refine lv_iconst (v := nI 0) hx hb dX2_stick_14 (by decide +kernel) ?_
    refine lv_bipush (v := nI 6) hx hb dX2_stick_15 (by decide +kernel) ?_
    refine ro_S (rest := []) S hK (c_X2_isIn l Γ z (nI 0) (nI 6)) (cwS 3 hts gX2_stick_X2_isIn rfl rfl rfl (by decide +kernel) ⟨Nat.le_of_ble_eq_true rfl, Nat.le_of_ble_eq_true rfl⟩) trivial rfl hl.1 rfl (Nat.le_of_ble_eq_true rfl) dX2_stick_17 ⟨Nat.le_of_ble_eq_true rfl, Nat.le_of_ble_eq_true rfl⟩ ?_
    refine W.eq (g2 := F0 m 20 ls [.int (nI (bP (nI 0 ≤ z ∧ z ≤ nI 6)))]) rfl ?_
    refine x_e (show nI (bP (nI 0 ≤ z ∧ z ≤ nI 6)) = nI (bP (inb z 7)) by rw [bP_iff isin_7]) ?_
    have hbb17 := bP_le (inb z 7)
    refine x_ifeq hx hb (by omega) (tgt := 32) dX2_stick_20 (by decide) (fun c_2 => ?_) (fun c_2 => ?_)
    · skip
      refine lv_aload_n hx hb dX2_stick_32 rfl (lv_at hl 0 rfl) ?_
      refine lv_iconst (v := nI 1) hx hb dX2_stick_33 (by decide +kernel) ?_
      refine m_V (rest := []) S hK (c_X2_no l Γ bs mo (nI 0) σ g1 g2 hI hbm 1) (cwV 1 hts gX2_stick_X2_no rfl rfl rfl (by decide +kernel) ⟨Nat.le_of_ble_eq_true rfl, Nat.le_of_ble_eq_true rfl⟩) (Ob.recv hK hW.1 rfl) hW rfl hl.1 rfl (Nat.le_of_ble_eq_true rfl) dX2_stick_34 ⟨Nat.le_of_ble_eq_true rfl, Nat.le_of_ble_eq_true rfl⟩ hlo (fun v H1 lc1 hp hlo => ?_)
      obtain ⟨rfl, hW, hFq, hzq⟩ := hp
      refine W.eq (g2 := F0 m 37 ls [.int (nI 0)]) rfl ?_
      have hFr := hFr.trans hFq
      refine W.widen (k := 1) (n := 7) (Nat.le_of_ble_eq_true rfl) (Nat.le_of_ble_eq_true rfl) ?_
      exact m_iret (Post := fun H v H2 => PM Γ mo (cd1 (inb (nI k) (qn σ) ∧ inb z 7)) σ (σ) (fk σ ((nI k).toInt.toNat) (z.toInt.toNat)) H v H2) hx hb hr hlk hlo dX2_stick_37 (PM.no (i := 0) (cd1_1 (fun q => bP_0 c_2 q.2)) rfl ⟨_, _, hW⟩ hFr)
    · skip
      obtain ⟨j, hj, rfl⟩ := inb_ex (bP_1 c_2)
      refine lv_aload_n hx hb dX2_stick_23 rfl (lv_at hl 0 rfl) ?_
      refine lv_iload_n hx hb dX2_stick_24 rfl (lv_at hl 1 rfl) ?_
      refine lv_iload_n hx hb dX2_stick_25 rfl (lv_at hl 2 rfl) ?_
      refine m_V (rest := []) S hK (c_X2_stickTold l Γ bs mo (nI 0) σ g1 g2 hI hbm k j (by omega) (by omega)) (cwV 2 hts gX2_stick_X2_stickTold rfl rfl rfl (by decide +kernel) ⟨Nat.le_of_ble_eq_true rfl, Nat.le_of_ble_eq_true rfl⟩) (Ob.recv hK hW.1 rfl) hW rfl hl.1 rfl (Nat.le_of_ble_eq_true rfl) dX2_stick_26 ⟨Nat.le_of_ble_eq_true rfl, Nat.le_of_ble_eq_true rfl⟩ hlo (fun v H1 lc1 hp hlo => ?_)
      obtain ⟨rfl, hW, hFq⟩ := hp
      refine W.eq (g2 := F0 m 29 ls [.int (fk σ k j)]) rfl ?_
      have hFr := hFr.trans hFq
      refine lv_goto (tgt := 37) hx hb dX2_stick_29 (by decide) ?_
      refine W.widen (k := 1) (n := 7) (Nat.le_of_ble_eq_true rfl) (Nat.le_of_ble_eq_true rfl) ?_
      exact m_iret (Post := fun H v H2 => PM Γ mo (cd1 (inb (nI k) (qn σ) ∧ inb (nI j) 7)) σ (σ) (fk σ ((nI k).toInt.toNat) ((nI j).toInt.toNat)) H v H2) hx hb hr hlk hlo dX2_stick_37 (PM.ok (cd1_0 ⟨((inb_nI (by omega)).mpr hk), ((inb_nI (by omega)).mpr hj)⟩) (by rw [toN (by omega), toN (by omega)]) ⟨_, _, hW⟩ hFr)
theorem in_X2_rune_X2 : ∀ w ∈ wsX20, w ∈ wsX2_rune := by decide +kernel
set_option maxHeartbeats 4000000 in
set_option maxRecDepth 100000 in
theorem c_X2_rune (l : Launch) (Γ : GG) (bs : Nat) (mo : Nat) (th : Int32) (σ : St) (hI : Iv σ) (hbm : bs ≤ mo) (y z w : Int32)  : Mt l yX2_rune wsX2_rune ({ frames := 3, cells := 0, slots := 0, locals := 66 }) Γ bs [.ref mo, .int y, .int z, .int w] (MX Γ mo th σ) (fun H v H2 => PM Γ mo (cd1 (spotP σ y z w)) σ (σ) (rk σ (y.toInt.toNat) (3 * w.toInt.toNat + z.toInt.toNat)) H v H2) 0 0 := by
  refine Mt.of (cc := cX2_rune) (maxL := 4) (ret := (some .int)) (by decide) rfl (Nat.le_of_ble_eq_true rfl) ?_
  intro p e s m below meth c S hr hlk hin hK hW ls hl
  obtain ⟨hx, hb, hml, hown, hts⟩ := id S
  obtain ⟨lc, elc⟩ : ∃ z : List Loc, z = [] := ⟨_, rfl⟩
  rw [← elc]
  have hlo : lo bs lc := by rw [elc]; exact lo.nil
  clear elc
  have hl : lv_has ls 4 [(0, .ref mo), (1, .int y), (2, .int z), (3, .int w)] := hl
  have hn40 := hI.1
  have hFr : Fr mo (mo + 11) s.heap s.heap := Fr.rf
  obtain ⟨g1, g2, hW⟩ := hW
  refine lv_aload_n hx hb dX2_rune_0 rfl (lv_at hl 0 rfl) ?_
  refine lv_iconst (v := nI 0) hx hb dX2_rune_1 (by decide +kernel) ?_
  refine x_putX S in_X2_rune_X2 tyX2 tyX2_ok nmX2 hK hW.1 rfl 0 (by decide) (by decide +kernel) rfl (Or.inl rfl) (tyX2_ok 0 (by decide)) rfl rfl (Nat.le_of_ble_eq_true rfl) hlo (by omega) dX2_rune_2 (fun H1 lc1 hO1 hz1 ho1 hlo => ?_)
  have hO1 : Ob Γ 2 mo [.int (nI 0), .int (nI (qn σ)), .int (qb σ), .ref (mo + 1), .ref (mo + 2), .ref (mo + 3), .ref (mo + 4), .ref (mo + 5), .ref (mo + 6), .ref (mo + 7), .ref (mo + 8), .ref (mo + 9), .ref (mo + 10)] H1 := hO1
  have hFr := hFr.put hz1 ho1 (by omega) (by omega)
  have hW := MW.put (σ' := σ) hW hO1 ho1 rfl
  have hW : MW Γ mo (nI 0) σ g1 g2 H1 := hW
  refine lv_aload_n hx hb dX2_rune_5 rfl (lv_at hl 0 rfl) ?_
  refine lv_iload_n hx hb dX2_rune_6 rfl (lv_at hl 1 rfl) ?_
  refine lv_iload_n hx hb dX2_rune_7 rfl (lv_at hl 2 rfl) ?_
  refine lv_iload_n hx hb dX2_rune_8 rfl (lv_at hl 3 rfl) ?_
  refine ro_V (rest := []) S hK (c_X2_isSpot l Γ mo (nI 0) σ g1 g2 hI y z w) (cwV 3 hts gX2_rune_X2_isSpot rfl rfl rfl (by decide +kernel) ⟨Nat.le_of_ble_eq_true rfl, Nat.le_of_ble_eq_true rfl⟩) (Ob.recv hK hW.1 rfl) hW rfl hl.1 rfl (Nat.le_of_ble_eq_true rfl) dX2_rune_9 ⟨Nat.le_of_ble_eq_true rfl, Nat.le_of_ble_eq_true rfl⟩ ?_
  refine W.eq (g2 := F0 m 12 ls [.int (nI (bP (spotP σ y z w)))]) rfl ?_
  have hbb9 := bP_le (spotP σ y z w)
  refine x_ifeq hx hb (by omega) (tgt := 31) dX2_rune_12 (by decide) (fun c_1 => ?_) (fun c_1 => ?_)
  · skip
    refine lv_aload_n hx hb dX2_rune_31 rfl (lv_at hl 0 rfl) ?_
    refine lv_iconst (v := nI 1) hx hb dX2_rune_32 (by decide +kernel) ?_
    refine m_V (rest := []) S hK (c_X2_no l Γ bs mo (nI 0) σ g1 g2 hI hbm 1) (cwV 1 hts gX2_rune_X2_no rfl rfl rfl (by decide +kernel) ⟨Nat.le_of_ble_eq_true rfl, Nat.le_of_ble_eq_true rfl⟩) (Ob.recv hK hW.1 rfl) hW rfl hl.1 rfl (Nat.le_of_ble_eq_true rfl) dX2_rune_33 ⟨Nat.le_of_ble_eq_true rfl, Nat.le_of_ble_eq_true rfl⟩ hlo (fun v H1 lc1 hp hlo => ?_)
    obtain ⟨rfl, hW, hFq, hzq⟩ := hp
    refine W.eq (g2 := F0 m 36 ls [.int (nI 0)]) rfl ?_
    have hFr := hFr.trans hFq
    refine W.widen (k := 0) (n := 0) (Nat.le_of_ble_eq_true rfl) (Nat.le_of_ble_eq_true rfl) ?_
    exact m_iret (Post := fun H v H2 => PM Γ mo (cd1 (spotP σ y z w)) σ (σ) (rk σ (y.toInt.toNat) (3 * w.toInt.toNat + z.toInt.toNat)) H v H2) hx hb hr hlk hlo dX2_rune_36 (PM.no (i := 0) (cd1_1 (bP_0 c_1)) rfl ⟨_, _, hW⟩ hFr)
  · skip
    obtain ⟨hqy, hqs, hqp⟩ := bP_1 c_1
    obtain ⟨k, hk, rfl⟩ := inb_ex hqy
    obtain ⟨hp0k, hp12k, hu3k, hg1k⟩ := hI.2.1 k hk
    rw [toN (by omega)] at hqp
    obtain ⟨j, hj, rfl⟩ := inb_ex hqs
    obtain ⟨i2, hi2, rfl⟩ := inb_ex hqp
    refine lv_aload_n hx hb dX2_rune_15 rfl (lv_at hl 0 rfl) ?_
    refine x_get S in_X2_rune_X2 hK hW.1 rfl 8 (by decide) (by decide +kernel) rfl rfl dX2_rune_16 ?_
    refine lv_iload_n hx hb dX2_rune_19 rfl (lv_at hl 1 rfl) ?_
    refine lv_iload_n hx hb dX2_rune_20 rfl (lv_at hl 3 rfl) ?_
    refine lv_iload_n hx hb dX2_rune_21 rfl (lv_at hl 2 rfl) ?_
    refine ro_S (rest := [.ref (mo + 6)]) S hK (c_X2_spot l Γ k i2 j) (cwS 3 hts gX2_rune_X2_spot rfl rfl rfl (by decide +kernel) ⟨Nat.le_of_ble_eq_true rfl, Nat.le_of_ble_eq_true rfl⟩) trivial rfl hl.1 rfl (Nat.le_of_ble_eq_true rfl) dX2_rune_22 ⟨Nat.le_of_ble_eq_true rfl, Nat.le_of_ble_eq_true rfl⟩ ?_
    refine W.eq (g2 := F0 m 25 ls [.int (nI (3 * (12 * k + i2) + j)), .ref (mo + 6)]) rfl ?_
    refine x_iald hx hb hK hW.2.2.2.2.2.2.1 (by omega) (by omega) dX2_rune_25 ?_
    refine lv_iconst (v := nI 1) hx hb dX2_rune_26 (by decide +kernel) ?_
    refine lv_isub hx hb dX2_rune_27 ?_
    refine x_e (add1_sub1 _) ?_
    refine lv_goto (tgt := 36) hx hb dX2_rune_28 (by decide) ?_
    refine W.widen (k := 0) (n := 0) (Nat.le_of_ble_eq_true rfl) (Nat.le_of_ble_eq_true rfl) ?_
    exact m_iret (Post := fun H v H2 => PM Γ mo (cd1 (spotP σ (nI k) (nI j) (nI i2))) σ (σ) (rk σ ((nI k).toInt.toNat) (3 * (nI i2).toInt.toNat + (nI j).toInt.toNat)) H v H2) hx hb hr hlk hlo dX2_rune_36 (PM.ok (cd1_0 ⟨((inb_nI (by omega)).mpr hk), (inb_nI (by omega)).mpr hj, by rw [toN (by omega)]; exact (inb_nI (by omega)).mpr hi2⟩) (by rw [toN (by omega), toN (by omega), toN (by omega), rk_at]) ⟨_, _, hW⟩ hFr)
theorem in_X2_strength_X2 : ∀ w ∈ wsX20, w ∈ wsX2_strength := by decide +kernel
set_option maxHeartbeats 4000000 in
set_option maxRecDepth 100000 in
theorem c_X2_strength (l : Launch) (Γ : GG) (bs : Nat) (mo : Nat) (th : Int32) (σ : St) (hI : Iv σ) (hbm : bs ≤ mo) (y z : Int32)  : Mt l yX2_strength wsX2_strength ({ frames := 3, cells := 0, slots := 0, locals := 68 }) Γ bs [.ref mo, .int y, .int z] (MX Γ mo th σ) (fun H v H2 => PM Γ mo (cd1 (inb y (qn σ) ∧ inb z (qp σ (y.toInt.toNat) - 1))) σ (σ) (stn (rk σ (y.toInt.toNat)) (ak σ (y.toInt.toNat)) (z.toInt.toNat)) H v H2) 0 0 := by
  refine Mt.of (cc := cX2_strength) (maxL := 3) (ret := (some .int)) (by decide) rfl (Nat.le_of_ble_eq_true rfl) ?_
  intro p e s m below meth c S hr hlk hin hK hW ls hl
  obtain ⟨hx, hb, hml, hown, hts⟩ := id S
  obtain ⟨lc, elc⟩ : ∃ z : List Loc, z = [] := ⟨_, rfl⟩
  rw [← elc]
  have hlo : lo bs lc := by rw [elc]; exact lo.nil
  clear elc
  have hl : lv_has ls 3 [(0, .ref mo), (1, .int y), (2, .int z)] := hl
  have hn40 := hI.1
  have hFr : Fr mo (mo + 11) s.heap s.heap := Fr.rf
  obtain ⟨g1, g2, hW⟩ := hW
  refine lv_aload_n hx hb dX2_strength_0 rfl (lv_at hl 0 rfl) ?_
  refine lv_iconst (v := nI 0) hx hb dX2_strength_1 (by decide +kernel) ?_
  refine x_putX S in_X2_strength_X2 tyX2 tyX2_ok nmX2 hK hW.1 rfl 0 (by decide) (by decide +kernel) rfl (Or.inl rfl) (tyX2_ok 0 (by decide)) rfl rfl (Nat.le_of_ble_eq_true rfl) hlo (by omega) dX2_strength_2 (fun H1 lc1 hO1 hz1 ho1 hlo => ?_)
  have hO1 : Ob Γ 2 mo [.int (nI 0), .int (nI (qn σ)), .int (qb σ), .ref (mo + 1), .ref (mo + 2), .ref (mo + 3), .ref (mo + 4), .ref (mo + 5), .ref (mo + 6), .ref (mo + 7), .ref (mo + 8), .ref (mo + 9), .ref (mo + 10)] H1 := hO1
  have hFr := hFr.put hz1 ho1 (by omega) (by omega)
  have hW := MW.put (σ' := σ) hW hO1 ho1 rfl
  have hW : MW Γ mo (nI 0) σ g1 g2 H1 := hW
  refine lv_aload_n hx hb dX2_strength_5 rfl (lv_at hl 0 rfl) ?_
  refine lv_iload_n hx hb dX2_strength_6 rfl (lv_at hl 1 rfl) ?_
  refine ro_V (rest := []) S hK (c_X2_isStick l Γ mo (nI 0) σ g1 g2 hI y) (cwV 1 hts gX2_strength_X2_isStick rfl rfl rfl (by decide +kernel) ⟨Nat.le_of_ble_eq_true rfl, Nat.le_of_ble_eq_true rfl⟩) (Ob.recv hK hW.1 rfl) hW rfl hl.1 rfl (Nat.le_of_ble_eq_true rfl) dX2_strength_7 ⟨Nat.le_of_ble_eq_true rfl, Nat.le_of_ble_eq_true rfl⟩ ?_
  refine W.eq (g2 := F0 m 10 ls [.int (nI (bP (inb y (qn σ))))]) rfl ?_
  have hbb7 := bP_le (inb y (qn σ))
  refine x_ifeq hx hb (by omega) (tgt := 38) dX2_strength_10 (by decide) (fun c_1 => ?_) (fun c_1 => ?_)
  · skip
    refine lv_aload_n hx hb dX2_strength_38 rfl (lv_at hl 0 rfl) ?_
    refine lv_iconst (v := nI 1) hx hb dX2_strength_39 (by decide +kernel) ?_
    refine m_V (rest := []) S hK (c_X2_no l Γ bs mo (nI 0) σ g1 g2 hI hbm 1) (cwV 1 hts gX2_strength_X2_no rfl rfl rfl (by decide +kernel) ⟨Nat.le_of_ble_eq_true rfl, Nat.le_of_ble_eq_true rfl⟩) (Ob.recv hK hW.1 rfl) hW rfl hl.1 rfl (Nat.le_of_ble_eq_true rfl) dX2_strength_40 ⟨Nat.le_of_ble_eq_true rfl, Nat.le_of_ble_eq_true rfl⟩ hlo (fun v H1 lc1 hp hlo => ?_)
    obtain ⟨rfl, hW, hFq, hzq⟩ := hp
    refine W.eq (g2 := F0 m 43 ls [.int (nI 0)]) rfl ?_
    have hFr := hFr.trans hFq
    refine W.widen (k := 0) (n := 0) (Nat.le_of_ble_eq_true rfl) (Nat.le_of_ble_eq_true rfl) ?_
    exact m_iret (Post := fun H v H2 => PM Γ mo (cd1 (inb y (qn σ) ∧ inb z (qp σ (y.toInt.toNat) - 1))) σ (σ) (stn (rk σ (y.toInt.toNat)) (ak σ (y.toInt.toNat)) (z.toInt.toNat)) H v H2) hx hb hr hlk hlo dX2_strength_43 (PM.no (i := 0) (cd1_1 (fun q => bP_0 c_1 q.1)) rfl ⟨_, _, hW⟩ hFr)
  · skip
    obtain ⟨k, hk, rfl⟩ := inb_ex (bP_1 c_1)
    obtain ⟨hp0k, hp12k, hu3k, hg1k⟩ := hI.2.1 k hk
    refine lv_iload_n hx hb dX2_strength_13 rfl (lv_at hl 2 rfl) ?_
    refine lv_iconst (v := nI 0) hx hb dX2_strength_14 (by decide +kernel) ?_
    refine lv_aload_n hx hb dX2_strength_15 rfl (lv_at hl 0 rfl) ?_
    refine x_get S in_X2_strength_X2 hK hW.1 rfl 3 (by decide) (by decide +kernel) rfl rfl dX2_strength_16 ?_
    refine lv_iload_n hx hb dX2_strength_19 rfl (lv_at hl 1 rfl) ?_
    refine x_iald hx hb hK hW.2.1 (by omega) (by omega) dX2_strength_20 ?_
    refine lv_iconst (v := nI 2) hx hb dX2_strength_21 (by decide +kernel) ?_
    refine lv_isub hx hb dX2_strength_22 ?_
    refine x_e (pn_sub2 hp0k) ?_
    refine ro_S (rest := []) S hK (c_X2_isIn l Γ z (nI 0) (pn (qp σ k - 1))) (cwS 3 hts gX2_strength_X2_isIn rfl rfl rfl (by decide +kernel) ⟨Nat.le_of_ble_eq_true rfl, Nat.le_of_ble_eq_true rfl⟩) trivial rfl hl.1 rfl (Nat.le_of_ble_eq_true rfl) dX2_strength_23 ⟨Nat.le_of_ble_eq_true rfl, Nat.le_of_ble_eq_true rfl⟩ ?_
    refine W.eq (g2 := F0 m 26 ls [.int (nI (bP (nI 0 ≤ z ∧ z ≤ pn (qp σ k - 1))))]) rfl ?_
    refine x_e (show nI (bP (nI 0 ≤ z ∧ z ≤ pn (qp σ k - 1))) = nI (bP (inb z (qp σ k - 1))) by rw [bP_iff (isin_pn (by omega))]) ?_
    have hbb23 := bP_le (inb z (qp σ k - 1))
    refine x_ifeq hx hb (by omega) (tgt := 38) dX2_strength_26 (by decide) (fun c_2 => ?_) (fun c_2 => ?_)
    · skip
      refine lv_aload_n hx hb dX2_strength_38 rfl (lv_at hl 0 rfl) ?_
      refine lv_iconst (v := nI 1) hx hb dX2_strength_39 (by decide +kernel) ?_
      refine m_V (rest := []) S hK (c_X2_no l Γ bs mo (nI 0) σ g1 g2 hI hbm 1) (cwV 1 hts gX2_strength_X2_no rfl rfl rfl (by decide +kernel) ⟨Nat.le_of_ble_eq_true rfl, Nat.le_of_ble_eq_true rfl⟩) (Ob.recv hK hW.1 rfl) hW rfl hl.1 rfl (Nat.le_of_ble_eq_true rfl) dX2_strength_40 ⟨Nat.le_of_ble_eq_true rfl, Nat.le_of_ble_eq_true rfl⟩ hlo (fun v H1 lc1 hp hlo => ?_)
      obtain ⟨rfl, hW, hFq, hzq⟩ := hp
      refine W.eq (g2 := F0 m 43 ls [.int (nI 0)]) rfl ?_
      have hFr := hFr.trans hFq
      refine W.widen (k := 0) (n := 0) (Nat.le_of_ble_eq_true rfl) (Nat.le_of_ble_eq_true rfl) ?_
      exact m_iret (Post := fun H v H2 => PM Γ mo (cd1 (inb (nI k) (qn σ) ∧ inb z (qp σ ((nI k).toInt.toNat) - 1))) σ (σ) (stn (rk σ ((nI k).toInt.toNat)) (ak σ ((nI k).toInt.toNat)) (z.toInt.toNat)) H v H2) hx hb hr hlk hlo dX2_strength_43 (PM.no (i := 0) (cd1_1 (fun q => bP_0 c_2 (by have h9 := q.2; rw [toN (by omega)] at h9; exact h9))) rfl ⟨_, _, hW⟩ hFr)
    · skip
      obtain ⟨j, hj, rfl⟩ := inb_ex (bP_1 c_2)
      refine lv_aload_n hx hb dX2_strength_29 rfl (lv_at hl 0 rfl) ?_
      refine lv_iload_n hx hb dX2_strength_30 rfl (lv_at hl 1 rfl) ?_
      refine lv_iload_n hx hb dX2_strength_31 rfl (lv_at hl 2 rfl) ?_
      refine ro_V (rest := []) S hK (c_X2_strong l Γ mo (nI 0) σ g1 g2 hI k j (by omega) (by omega)) (cwV 2 hts gX2_strength_X2_strong rfl rfl rfl (by decide +kernel) ⟨Nat.le_of_ble_eq_true rfl, Nat.le_of_ble_eq_true rfl⟩) (Ob.recv hK hW.1 rfl) hW rfl hl.1 rfl (Nat.le_of_ble_eq_true rfl) dX2_strength_32 ⟨Nat.le_of_ble_eq_true rfl, Nat.le_of_ble_eq_true rfl⟩ ?_
      refine W.eq (g2 := F0 m 35 ls [.int (stn (rk σ k) (ak σ k) j)]) rfl ?_
      refine lv_goto (tgt := 43) hx hb dX2_strength_35 (by decide) ?_
      refine W.widen (k := 0) (n := 0) (Nat.le_of_ble_eq_true rfl) (Nat.le_of_ble_eq_true rfl) ?_
      exact m_iret (Post := fun H v H2 => PM Γ mo (cd1 (inb (nI k) (qn σ) ∧ inb (nI j) (qp σ ((nI k).toInt.toNat) - 1))) σ (σ) (stn (rk σ ((nI k).toInt.toNat)) (ak σ ((nI k).toInt.toNat)) ((nI j).toInt.toNat)) H v H2) hx hb hr hlk hlo dX2_strength_43 (PM.ok (cd1_0 ⟨((inb_nI (by omega)).mpr hk), by rw [toN (by omega)]; exact (inb_nI (by omega)).mpr hj⟩) (by rw [toN (by omega), toN (by omega)]) ⟨_, _, hW⟩ hFr)
theorem in_X2_count_X2 : ∀ w ∈ wsX20, w ∈ wsX2_count := by decide +kernel
set_option maxHeartbeats 4000000 in
set_option maxRecDepth 100000 in
theorem c_X2_count (l : Launch) (Γ : GG) (bs : Nat) (mo : Nat) (th : Int32) (σ : St) (hI : Iv σ) (hbm : bs ≤ mo) (y : Int32)  : Mt l yX2_count wsX2_count ({ frames := 4, cells := 1, slots := 7, locals := 96 }) Γ bs [.ref mo, .int y] (MX Γ mo th σ) (fun H v H2 => PM Γ mo (cd1 (inb y 7)) σ (σ) (tot σ (y.toInt.toNat)) H v H2) 1 7 := by
  refine Mt.of (cc := cX2_count) (maxL := 2) (ret := (some .int)) (by decide) rfl (Nat.le_of_ble_eq_true rfl) ?_
  intro p e s m below meth c S hr hlk hin hK hW ls hl
  obtain ⟨hx, hb, hml, hown, hts⟩ := id S
  obtain ⟨lc, elc⟩ : ∃ z : List Loc, z = [] := ⟨_, rfl⟩
  rw [← elc]
  have hlo : lo bs lc := by rw [elc]; exact lo.nil
  clear elc
  have hl : lv_has ls 2 [(0, .ref mo), (1, .int y)] := hl
  have hn40 := hI.1
  have hFr : Fr mo (mo + 11) s.heap s.heap := Fr.rf
  obtain ⟨g1, g2, hW⟩ := hW
  refine lv_aload_n hx hb dX2_count_0 rfl (lv_at hl 0 rfl) ?_
  refine lv_iconst (v := nI 0) hx hb dX2_count_1 (by decide +kernel) ?_
  refine x_putX S in_X2_count_X2 tyX2 tyX2_ok nmX2 hK hW.1 rfl 0 (by decide) (by decide +kernel) rfl (Or.inl rfl) (tyX2_ok 0 (by decide)) rfl rfl (Nat.le_of_ble_eq_true rfl) hlo (by omega) dX2_count_2 (fun H1 lc1 hO1 hz1 ho1 hlo => ?_)
  have hO1 : Ob Γ 2 mo [.int (nI 0), .int (nI (qn σ)), .int (qb σ), .ref (mo + 1), .ref (mo + 2), .ref (mo + 3), .ref (mo + 4), .ref (mo + 5), .ref (mo + 6), .ref (mo + 7), .ref (mo + 8), .ref (mo + 9), .ref (mo + 10)] H1 := hO1
  have hFr := hFr.put hz1 ho1 (by omega) (by omega)
  have hW := MW.put (σ' := σ) hW hO1 ho1 rfl
  have hW : MW Γ mo (nI 0) σ g1 g2 H1 := hW
  refine lv_iload_n hx hb dX2_count_5 rfl (lv_at hl 1 rfl) ?_
  refine lv_iconst (v := nI 0) hx hb dX2_count_6 (by decide +kernel) ?_
  refine lv_bipush (v := nI 6) hx hb dX2_count_7 (by decide +kernel) ?_
  refine ro_S (rest := []) S hK (c_X2_isIn l Γ y (nI 0) (nI 6)) (cwS 3 hts gX2_count_X2_isIn rfl rfl rfl (by decide +kernel) ⟨Nat.le_of_ble_eq_true rfl, Nat.le_of_ble_eq_true rfl⟩) trivial rfl hl.1 rfl (Nat.le_of_ble_eq_true rfl) dX2_count_9 ⟨Nat.le_of_ble_eq_true rfl, Nat.le_of_ble_eq_true rfl⟩ ?_
  refine W.eq (g2 := F0 m 12 ls [.int (nI (bP (nI 0 ≤ y ∧ y ≤ nI 6)))]) rfl ?_
  refine x_e (show nI (bP (nI 0 ≤ y ∧ y ≤ nI 6)) = nI (bP (inb y 7)) by rw [bP_iff isin_7]) ?_
  have hbb9 := bP_le (inb y 7)
  refine x_ifeq hx hb (by omega) (tgt := 23) dX2_count_12 (by decide) (fun c_1 => ?_) (fun c_1 => ?_)
  · skip
    refine lv_aload_n hx hb dX2_count_23 rfl (lv_at hl 0 rfl) ?_
    refine lv_iconst (v := nI 1) hx hb dX2_count_24 (by decide +kernel) ?_
    refine m_V (rest := []) S hK (c_X2_no l Γ bs mo (nI 0) σ g1 g2 hI hbm 1) (cwV 1 hts gX2_count_X2_no rfl rfl rfl (by decide +kernel) ⟨Nat.le_of_ble_eq_true rfl, Nat.le_of_ble_eq_true rfl⟩) (Ob.recv hK hW.1 rfl) hW rfl hl.1 rfl (Nat.le_of_ble_eq_true rfl) dX2_count_25 ⟨Nat.le_of_ble_eq_true rfl, Nat.le_of_ble_eq_true rfl⟩ hlo (fun v H1 lc1 hp hlo => ?_)
    obtain ⟨rfl, hW, hFq, hzq⟩ := hp
    refine W.eq (g2 := F0 m 28 ls [.int (nI 0)]) rfl ?_
    have hFr := hFr.trans hFq
    refine W.widen (k := 1) (n := 7) (Nat.le_of_ble_eq_true rfl) (Nat.le_of_ble_eq_true rfl) ?_
    exact m_iret (Post := fun H v H2 => PM Γ mo (cd1 (inb y 7)) σ (σ) (tot σ (y.toInt.toNat)) H v H2) hx hb hr hlk hlo dX2_count_28 (PM.no (i := 0) (cd1_1 (bP_0 c_1)) rfl ⟨_, _, hW⟩ hFr)
  · skip
    obtain ⟨k, hk, rfl⟩ := inb_ex (bP_1 c_1)
    refine lv_aload_n hx hb dX2_count_15 rfl (lv_at hl 0 rfl) ?_
    refine lv_iload_n hx hb dX2_count_16 rfl (lv_at hl 1 rfl) ?_
    refine m_V (rest := []) S hK (c_X2_counted l Γ bs mo (nI 0) σ g1 g2 hI hbm k (by omega)) (cwV 1 hts gX2_count_X2_counted rfl rfl rfl (by decide +kernel) ⟨Nat.le_of_ble_eq_true rfl, Nat.le_of_ble_eq_true rfl⟩) (Ob.recv hK hW.1 rfl) hW rfl hl.1 rfl (Nat.le_of_ble_eq_true rfl) dX2_count_17 ⟨Nat.le_of_ble_eq_true rfl, Nat.le_of_ble_eq_true rfl⟩ hlo (fun v H1 lc1 hp hlo => ?_)
    obtain ⟨rfl, hW, hFq⟩ := hp
    refine W.eq (g2 := F0 m 20 ls [.int (tot σ k)]) rfl ?_
    have hFr := hFr.trans hFq
    refine lv_goto (tgt := 28) hx hb dX2_count_20 (by decide) ?_
    refine W.widen (k := 1) (n := 7) (Nat.le_of_ble_eq_true rfl) (Nat.le_of_ble_eq_true rfl) ?_
    exact m_iret (Post := fun H v H2 => PM Γ mo (cd1 (inb (nI k) 7)) σ (σ) (tot σ ((nI k).toInt.toNat)) H v H2) hx hb hr hlk hlo dX2_count_28 (PM.ok (cd1_0 ((inb_nI (by omega)).mpr hk)) (by rw [toN (by omega)]) ⟨_, _, hW⟩ hFr)
theorem in_X2_fits_X2 : ∀ w ∈ wsX20, w ∈ wsX2_fits := by decide +kernel
set_option maxHeartbeats 4000000 in
set_option maxRecDepth 100000 in
theorem c_X2_fits (l : Launch) (Γ : GG) (bs : Nat) (mo : Nat) (th : Int32) (σ : St) (hI : Iv σ) (hbm : bs ≤ mo) (y z : Int32)  : Mt l yX2_fits wsX2_fits ({ frames := 2, cells := 0, slots := 0, locals := 43 }) Γ bs [.ref mo, .int y, .int z] (MX Γ mo th σ) (fun H v H2 => PM Γ mo (cd1 (inb y (qn σ) ∧ inb z (qn σ))) σ (σ) (nI (bP (fitP σ (y.toInt.toNat) (z.toInt.toNat)))) H v H2) 0 0 := by
  refine Mt.of (cc := cX2_fits) (maxL := 3) (ret := (some .boolean)) (by decide) rfl (Nat.le_of_ble_eq_true rfl) ?_
  intro p e s m below meth c S hr hlk hin hK hW ls hl
  obtain ⟨hx, hb, hml, hown, hts⟩ := id S
  obtain ⟨lc, elc⟩ : ∃ z : List Loc, z = [] := ⟨_, rfl⟩
  rw [← elc]
  have hlo : lo bs lc := by rw [elc]; exact lo.nil
  clear elc
  have hl : lv_has ls 3 [(0, .ref mo), (1, .int y), (2, .int z)] := hl
  have hn40 := hI.1
  have hFr : Fr mo (mo + 11) s.heap s.heap := Fr.rf
  obtain ⟨g1, g2, hW⟩ := hW
  refine lv_aload_n hx hb dX2_fits_0 rfl (lv_at hl 0 rfl) ?_
  refine lv_iconst (v := nI 0) hx hb dX2_fits_1 (by decide +kernel) ?_
  refine x_putX S in_X2_fits_X2 tyX2 tyX2_ok nmX2 hK hW.1 rfl 0 (by decide) (by decide +kernel) rfl (Or.inl rfl) (tyX2_ok 0 (by decide)) rfl rfl (Nat.le_of_ble_eq_true rfl) hlo (by omega) dX2_fits_2 (fun H1 lc1 hO1 hz1 ho1 hlo => ?_)
  have hO1 : Ob Γ 2 mo [.int (nI 0), .int (nI (qn σ)), .int (qb σ), .ref (mo + 1), .ref (mo + 2), .ref (mo + 3), .ref (mo + 4), .ref (mo + 5), .ref (mo + 6), .ref (mo + 7), .ref (mo + 8), .ref (mo + 9), .ref (mo + 10)] H1 := hO1
  have hFr := hFr.put hz1 ho1 (by omega) (by omega)
  have hW := MW.put (σ' := σ) hW hO1 ho1 rfl
  have hW : MW Γ mo (nI 0) σ g1 g2 H1 := hW
  refine lv_aload_n hx hb dX2_fits_5 rfl (lv_at hl 0 rfl) ?_
  refine lv_iload_n hx hb dX2_fits_6 rfl (lv_at hl 1 rfl) ?_
  refine ro_V (rest := []) S hK (c_X2_isStick l Γ mo (nI 0) σ g1 g2 hI y) (cwV 1 hts gX2_fits_X2_isStick rfl rfl rfl (by decide +kernel) ⟨Nat.le_of_ble_eq_true rfl, Nat.le_of_ble_eq_true rfl⟩) (Ob.recv hK hW.1 rfl) hW rfl hl.1 rfl (Nat.le_of_ble_eq_true rfl) dX2_fits_7 ⟨Nat.le_of_ble_eq_true rfl, Nat.le_of_ble_eq_true rfl⟩ ?_
  refine W.eq (g2 := F0 m 10 ls [.int (nI (bP (inb y (qn σ))))]) rfl ?_
  have hbb7 := bP_le (inb y (qn σ))
  refine x_ifeq hx hb (by omega) (tgt := 30) dX2_fits_10 (by decide) (fun c_1 => ?_) (fun c_1 => ?_)
  · skip
    refine lv_aload_n hx hb dX2_fits_30 rfl (lv_at hl 0 rfl) ?_
    refine lv_iconst (v := nI 1) hx hb dX2_fits_31 (by decide +kernel) ?_
    refine m_V (rest := []) S hK (c_X2_no l Γ bs mo (nI 0) σ g1 g2 hI hbm 1) (cwV 1 hts gX2_fits_X2_no rfl rfl rfl (by decide +kernel) ⟨Nat.le_of_ble_eq_true rfl, Nat.le_of_ble_eq_true rfl⟩) (Ob.recv hK hW.1 rfl) hW rfl hl.1 rfl (Nat.le_of_ble_eq_true rfl) dX2_fits_32 ⟨Nat.le_of_ble_eq_true rfl, Nat.le_of_ble_eq_true rfl⟩ hlo (fun v H1 lc1 hp hlo => ?_)
    obtain ⟨rfl, hW, hFq, hzq⟩ := hp
    refine W.eq (g2 := F0 m 35 ls [.int (nI 0)]) rfl ?_
    have hFr := hFr.trans hFq
    refine x_ifeq hx hb (by omega) (tgt := 42) dX2_fits_35 (by decide) (fun c_2 => ?_) (fun c_2 => absurd c_2 (by decide))
    refine lv_iconst (v := nI 0) hx hb dX2_fits_42 (by decide +kernel) ?_
    refine W.widen (k := 0) (n := 0) (Nat.le_of_ble_eq_true rfl) (Nat.le_of_ble_eq_true rfl) ?_
    exact m_zret (Nat.zero_le 1) (Post := fun H v H2 => PM Γ mo (cd1 (inb y (qn σ) ∧ inb z (qn σ))) σ (σ) (nI (bP (fitP σ (y.toInt.toNat) (z.toInt.toNat)))) H v H2) hx hb hr hlk hlo dX2_fits_43 (PM.no (i := 0) (cd1_1 (fun q => bP_0 c_1 q.1)) rfl ⟨_, _, hW⟩ hFr)
  · skip
    obtain ⟨k, hk, rfl⟩ := inb_ex (bP_1 c_1)
    obtain ⟨hp0k, hp12k, hu3k, hg1k⟩ := hI.2.1 k hk
    refine lv_aload_n hx hb dX2_fits_13 rfl (lv_at hl 0 rfl) ?_
    refine lv_iload_n hx hb dX2_fits_14 rfl (lv_at hl 2 rfl) ?_
    refine ro_V (rest := []) S hK (c_X2_isStick l Γ mo (nI 0) σ g1 g2 hI z) (cwV 1 hts gX2_fits_X2_isStick rfl rfl rfl (by decide +kernel) ⟨Nat.le_of_ble_eq_true rfl, Nat.le_of_ble_eq_true rfl⟩) (Ob.recv hK hW.1 rfl) hW rfl hl.1 rfl (Nat.le_of_ble_eq_true rfl) dX2_fits_15 ⟨Nat.le_of_ble_eq_true rfl, Nat.le_of_ble_eq_true rfl⟩ ?_
    refine W.eq (g2 := F0 m 18 ls [.int (nI (bP (inb z (qn σ))))]) rfl ?_
    have hbb15 := bP_le (inb z (qn σ))
    refine x_ifeq hx hb (by omega) (tgt := 30) dX2_fits_18 (by decide) (fun c_3 => ?_) (fun c_3 => ?_)
    · skip
      refine lv_aload_n hx hb dX2_fits_30 rfl (lv_at hl 0 rfl) ?_
      refine lv_iconst (v := nI 1) hx hb dX2_fits_31 (by decide +kernel) ?_
      refine m_V (rest := []) S hK (c_X2_no l Γ bs mo (nI 0) σ g1 g2 hI hbm 1) (cwV 1 hts gX2_fits_X2_no rfl rfl rfl (by decide +kernel) ⟨Nat.le_of_ble_eq_true rfl, Nat.le_of_ble_eq_true rfl⟩) (Ob.recv hK hW.1 rfl) hW rfl hl.1 rfl (Nat.le_of_ble_eq_true rfl) dX2_fits_32 ⟨Nat.le_of_ble_eq_true rfl, Nat.le_of_ble_eq_true rfl⟩ hlo (fun v H1 lc1 hp hlo => ?_)
      obtain ⟨rfl, hW, hFq, hzq⟩ := hp
      refine W.eq (g2 := F0 m 35 ls [.int (nI 0)]) rfl ?_
      have hFr := hFr.trans hFq
      refine x_ifeq hx hb (by omega) (tgt := 42) dX2_fits_35 (by decide) (fun c_4 => ?_) (fun c_4 => absurd c_4 (by decide))
      refine lv_iconst (v := nI 0) hx hb dX2_fits_42 (by decide +kernel) ?_
      refine W.widen (k := 0) (n := 0) (Nat.le_of_ble_eq_true rfl) (Nat.le_of_ble_eq_true rfl) ?_
      exact m_zret (Nat.zero_le 1) (Post := fun H v H2 => PM Γ mo (cd1 (inb (nI k) (qn σ) ∧ inb z (qn σ))) σ (σ) (nI (bP (fitP σ ((nI k).toInt.toNat) (z.toInt.toNat)))) H v H2) hx hb hr hlk hlo dX2_fits_43 (PM.no (i := 0) (cd1_1 (fun q => bP_0 c_3 q.2)) rfl ⟨_, _, hW⟩ hFr)
    · skip
      obtain ⟨j, hj, rfl⟩ := inb_ex (bP_1 c_3)
      obtain ⟨hp0j, hp12j, hu3j, hg1j⟩ := hI.2.1 j hj
      refine lv_aload_n hx hb dX2_fits_21 rfl (lv_at hl 0 rfl) ?_
      refine lv_iload_n hx hb dX2_fits_22 rfl (lv_at hl 1 rfl) ?_
      refine lv_iload_n hx hb dX2_fits_23 rfl (lv_at hl 2 rfl) ?_
      refine ro_V (rest := []) S hK (c_X2_fit l Γ mo (nI 0) σ g1 g2 hI k j (by omega) (by omega)) (cwV 2 hts gX2_fits_X2_fit rfl rfl rfl (by decide +kernel) ⟨Nat.le_of_ble_eq_true rfl, Nat.le_of_ble_eq_true rfl⟩) (Ob.recv hK hW.1 rfl) hW rfl hl.1 rfl (Nat.le_of_ble_eq_true rfl) dX2_fits_24 ⟨Nat.le_of_ble_eq_true rfl, Nat.le_of_ble_eq_true rfl⟩ ?_
      refine W.eq (g2 := F0 m 27 ls [.int (nI (bP (fitP σ k j)))]) rfl ?_
      have hbb24 := bP_le (fitP σ k j)
      refine lv_goto (tgt := 43) hx hb dX2_fits_27 (by decide) ?_
      refine W.widen (k := 0) (n := 0) (Nat.le_of_ble_eq_true rfl) (Nat.le_of_ble_eq_true rfl) ?_
      exact m_zret (bP_le _) (Post := fun H v H2 => PM Γ mo (cd1 (inb (nI k) (qn σ) ∧ inb (nI j) (qn σ))) σ (σ) (nI (bP (fitP σ ((nI k).toInt.toNat) ((nI j).toInt.toNat)))) H v H2) hx hb hr hlk hlo dX2_fits_43 (PM.ok (cd1_0 ⟨((inb_nI (by omega)).mpr hk), ((inb_nI (by omega)).mpr hj)⟩) (by rw [toN (by omega), toN (by omega)]) ⟨_, _, hW⟩ hFr)
theorem in_X2_size_X2 : ∀ w ∈ wsX20, w ∈ wsX2_size := by decide +kernel
set_option maxHeartbeats 4000000 in
set_option maxRecDepth 100000 in
theorem c_X2_size (l : Launch) (Γ : GG) (bs : Nat) (mo : Nat) (th : Int32) (σ : St) (hI : Iv σ) (hbm : bs ≤ mo) (y z : Int32)  : Mt l yX2_size wsX2_size ({ frames := 2, cells := 0, slots := 0, locals := 49 }) Γ bs [.ref mo, .int y, .int z] (MX Γ mo th σ) (fun H v H2 => PM Γ mo (cd2 (inb y (qn σ)) (inb z 3)) σ (σ) (nI (cU (rd (rk σ (y.toInt.toNat)) (qu σ (y.toInt.toNat)) (z.toInt.toNat)) (qp σ (y.toInt.toNat)))) H v H2) 0 0 := by
  refine Mt.of (cc := cX2_size) (maxL := 3) (ret := (some .int)) (by decide) rfl (Nat.le_of_ble_eq_true rfl) ?_
  intro p e s m below meth c S hr hlk hin hK hW ls hl
  obtain ⟨hx, hb, hml, hown, hts⟩ := id S
  obtain ⟨lc, elc⟩ : ∃ z : List Loc, z = [] := ⟨_, rfl⟩
  rw [← elc]
  have hlo : lo bs lc := by rw [elc]; exact lo.nil
  clear elc
  have hl : lv_has ls 3 [(0, .ref mo), (1, .int y), (2, .int z)] := hl
  have hn40 := hI.1
  have hFr : Fr mo (mo + 11) s.heap s.heap := Fr.rf
  obtain ⟨g1, g2, hW⟩ := hW
  refine lv_aload_n hx hb dX2_size_0 rfl (lv_at hl 0 rfl) ?_
  refine lv_iconst (v := nI 0) hx hb dX2_size_1 (by decide +kernel) ?_
  refine x_putX S in_X2_size_X2 tyX2 tyX2_ok nmX2 hK hW.1 rfl 0 (by decide) (by decide +kernel) rfl (Or.inl rfl) (tyX2_ok 0 (by decide)) rfl rfl (Nat.le_of_ble_eq_true rfl) hlo (by omega) dX2_size_2 (fun H1 lc1 hO1 hz1 ho1 hlo => ?_)
  have hO1 : Ob Γ 2 mo [.int (nI 0), .int (nI (qn σ)), .int (qb σ), .ref (mo + 1), .ref (mo + 2), .ref (mo + 3), .ref (mo + 4), .ref (mo + 5), .ref (mo + 6), .ref (mo + 7), .ref (mo + 8), .ref (mo + 9), .ref (mo + 10)] H1 := hO1
  have hFr := hFr.put hz1 ho1 (by omega) (by omega)
  have hW := MW.put (σ' := σ) hW hO1 ho1 rfl
  have hW : MW Γ mo (nI 0) σ g1 g2 H1 := hW
  refine lv_aload_n hx hb dX2_size_5 rfl (lv_at hl 0 rfl) ?_
  refine lv_iload_n hx hb dX2_size_6 rfl (lv_at hl 1 rfl) ?_
  refine ro_V (rest := []) S hK (c_X2_isStick l Γ mo (nI 0) σ g1 g2 hI y) (cwV 1 hts gX2_size_X2_isStick rfl rfl rfl (by decide +kernel) ⟨Nat.le_of_ble_eq_true rfl, Nat.le_of_ble_eq_true rfl⟩) (Ob.recv hK hW.1 rfl) hW rfl hl.1 rfl (Nat.le_of_ble_eq_true rfl) dX2_size_7 ⟨Nat.le_of_ble_eq_true rfl, Nat.le_of_ble_eq_true rfl⟩ ?_
  refine W.eq (g2 := F0 m 10 ls [.int (nI (bP (inb y (qn σ))))]) rfl ?_
  have hbb7 := bP_le (inb y (qn σ))
  refine x_ifne hx hb (by omega) (tgt := 19) dX2_size_10 (by decide) (fun c_1 => ?_) (fun c_1 => ?_)
  · skip
    obtain ⟨k, hk, rfl⟩ := inb_ex (bP_1 c_1)
    obtain ⟨hp0k, hp12k, hu3k, hg1k⟩ := hI.2.1 k hk
    refine lv_iload_n hx hb dX2_size_19 rfl (lv_at hl 2 rfl) ?_
    refine lv_iconst (v := nI 0) hx hb dX2_size_20 (by decide +kernel) ?_
    refine lv_iconst (v := nI 2) hx hb dX2_size_21 (by decide +kernel) ?_
    refine ro_S (rest := []) S hK (c_X2_isIn l Γ z (nI 0) (nI 2)) (cwS 3 hts gX2_size_X2_isIn rfl rfl rfl (by decide +kernel) ⟨Nat.le_of_ble_eq_true rfl, Nat.le_of_ble_eq_true rfl⟩) trivial rfl hl.1 rfl (Nat.le_of_ble_eq_true rfl) dX2_size_22 ⟨Nat.le_of_ble_eq_true rfl, Nat.le_of_ble_eq_true rfl⟩ ?_
    refine W.eq (g2 := F0 m 25 ls [.int (nI (bP (nI 0 ≤ z ∧ z ≤ nI 2)))]) rfl ?_
    refine x_e (show nI (bP (nI 0 ≤ z ∧ z ≤ nI 2)) = nI (bP (inb z 3)) by rw [bP_iff isin_3]) ?_
    have hbb22 := bP_le (inb z 3)
    refine x_ifeq hx hb (by omega) (tgt := 47) dX2_size_25 (by decide) (fun c_2 => ?_) (fun c_2 => ?_)
    · skip
      refine lv_aload_n hx hb dX2_size_47 rfl (lv_at hl 0 rfl) ?_
      refine lv_iconst (v := nI 2) hx hb dX2_size_48 (by decide +kernel) ?_
      refine m_V (rest := []) S hK (c_X2_no l Γ bs mo (nI 0) σ g1 g2 hI hbm 2) (cwV 1 hts gX2_size_X2_no rfl rfl rfl (by decide +kernel) ⟨Nat.le_of_ble_eq_true rfl, Nat.le_of_ble_eq_true rfl⟩) (Ob.recv hK hW.1 rfl) hW rfl hl.1 rfl (Nat.le_of_ble_eq_true rfl) dX2_size_49 ⟨Nat.le_of_ble_eq_true rfl, Nat.le_of_ble_eq_true rfl⟩ hlo (fun v H1 lc1 hp hlo => ?_)
      obtain ⟨rfl, hW, hFq, hzq⟩ := hp
      refine W.eq (g2 := F0 m 52 ls [.int (nI 0)]) rfl ?_
      have hFr := hFr.trans hFq
      refine W.widen (k := 0) (n := 0) (Nat.le_of_ble_eq_true rfl) (Nat.le_of_ble_eq_true rfl) ?_
      exact m_iret (Post := fun H v H2 => PM Γ mo (cd2 (inb (nI k) (qn σ)) (inb z 3)) σ (σ) (nI (cU (rd (rk σ ((nI k).toInt.toNat)) (qu σ ((nI k).toInt.toNat)) (z.toInt.toNat)) (qp σ ((nI k).toInt.toNat)))) H v H2) hx hb hr hlk hlo dX2_size_52 (PM.no (i := 1) (cd2_2 ((inb_nI (by omega)).mpr hk) (bP_0 c_2)) rfl ⟨_, _, hW⟩ hFr)
    · skip
      obtain ⟨j, hj, rfl⟩ := inb_ex (bP_1 c_2)
      refine lv_aload_n hx hb dX2_size_28 rfl (lv_at hl 0 rfl) ?_
      refine lv_iload_n hx hb dX2_size_29 rfl (lv_at hl 1 rfl) ?_
      refine lv_aload_n hx hb dX2_size_30 rfl (lv_at hl 0 rfl) ?_
      refine x_get S in_X2_size_X2 hK hW.1 rfl 4 (by decide) (by decide +kernel) rfl rfl dX2_size_31 ?_
      refine lv_iload_n hx hb dX2_size_34 rfl (lv_at hl 1 rfl) ?_
      refine x_iald hx hb hK hW.2.2.1 (by omega) (by omega) dX2_size_35 ?_
      refine lv_iload_n hx hb dX2_size_36 rfl (lv_at hl 2 rfl) ?_
      refine lv_aload_n hx hb dX2_size_37 rfl (lv_at hl 0 rfl) ?_
      refine x_get S in_X2_size_X2 hK hW.1 rfl 11 (by decide) (by decide +kernel) rfl rfl dX2_size_38 ?_
      refine m_V (rest := []) S hK (c_X2_read1 l Γ bs mo (nI 0) σ g1 g2 hI hbm k (qu σ k) j (by omega) (by first | omega | exact (hI.2.1 _ (by omega)).2.2.1) (by omega)) (cwV 4 hts gX2_size_X2_read rfl rfl rfl (by decide +kernel) ⟨Nat.le_of_ble_eq_true rfl, Nat.le_of_ble_eq_true rfl⟩) (Ob.recv hK hW.1 rfl) hW rfl hl.1 rfl (Nat.le_of_ble_eq_true rfl) dX2_size_41 ⟨Nat.le_of_ble_eq_true rfl, Nat.le_of_ble_eq_true rfl⟩ hlo (fun v H1 lc1 hp hlo => ?_)
      obtain ⟨rfl, hW, hFq, hzq⟩ := hp
      refine W.eq (g2 := F0 m 44 ls [.int (nI (cU (rd (rk σ k) (qu σ k) j) (qp σ k)))]) rfl ?_
      have hFr := hFr.trans hFq
      have hcu1 := cU_le (rd (rk σ k) (qu σ k) j) (qp σ k)
      refine lv_goto (tgt := 52) hx hb dX2_size_44 (by decide) ?_
      refine W.widen (k := 0) (n := 0) (Nat.le_of_ble_eq_true rfl) (Nat.le_of_ble_eq_true rfl) ?_
      exact m_iret (Post := fun H v H2 => PM Γ mo (cd2 (inb (nI k) (qn σ)) (inb (nI j) 3)) σ (σ) (nI (cU (rd (rk σ ((nI k).toInt.toNat)) (qu σ ((nI k).toInt.toNat)) ((nI j).toInt.toNat)) (qp σ ((nI k).toInt.toNat)))) H v H2) hx hb hr hlk hlo dX2_size_52 (PM.ok (cd2_0 ((inb_nI (by omega)).mpr hk) ((inb_nI (by omega)).mpr hj)) (by rw [toN (by omega), toN (by omega)]) ⟨_, _, hW⟩ hFr)
  · skip
    refine lv_aload_n hx hb dX2_size_13 rfl (lv_at hl 0 rfl) ?_
    refine lv_iconst (v := nI 1) hx hb dX2_size_14 (by decide +kernel) ?_
    refine m_V (rest := []) S hK (c_X2_no l Γ bs mo (nI 0) σ g1 g2 hI hbm 1) (cwV 1 hts gX2_size_X2_no rfl rfl rfl (by decide +kernel) ⟨Nat.le_of_ble_eq_true rfl, Nat.le_of_ble_eq_true rfl⟩) (Ob.recv hK hW.1 rfl) hW rfl hl.1 rfl (Nat.le_of_ble_eq_true rfl) dX2_size_15 ⟨Nat.le_of_ble_eq_true rfl, Nat.le_of_ble_eq_true rfl⟩ hlo (fun v H1 lc1 hp hlo => ?_)
    obtain ⟨rfl, hW, hFq, hzq⟩ := hp
    refine W.eq (g2 := F0 m 18 ls [.int (nI 0)]) rfl ?_
    have hFr := hFr.trans hFq
    refine W.widen (k := 0) (n := 0) (Nat.le_of_ble_eq_true rfl) (Nat.le_of_ble_eq_true rfl) ?_
    exact m_iret (Post := fun H v H2 => PM Γ mo (cd2 (inb y (qn σ)) (inb z 3)) σ (σ) (nI (cU (rd (rk σ (y.toInt.toNat)) (qu σ (y.toInt.toNat)) (z.toInt.toNat)) (qp σ (y.toInt.toNat)))) H v H2) hx hb hr hlk hlo dX2_size_18 (PM.no (i := 0) (cd2_1 (bP_0 c_1)) rfl ⟨_, _, hW⟩ hFr)
theorem in_X2_reads_X2 : ∀ w ∈ wsX20, w ∈ wsX2_reads := by decide +kernel
set_option maxHeartbeats 4000000 in
set_option maxRecDepth 100000 in
theorem c_X2_reads (l : Launch) (Γ : GG) (bs : Nat) (mo : Nat) (th : Int32) (σ : St) (hI : Iv σ) (hbm : bs ≤ mo) (y z w : Int32)  : Mt l yX2_reads wsX2_reads ({ frames := 2, cells := 0, slots := 0, locals := 49 }) Γ bs [.ref mo, .int y, .int z, .int w] (MX Γ mo th σ) (fun H v H2 => PM Γ mo (cd2 (inb y (qn σ)) (inb z 3 ∧ inb w (cU (rd (rk σ (y.toInt.toNat)) (qu σ (y.toInt.toNat)) (z.toInt.toNat)) (qp σ (y.toInt.toNat))))) σ (σ) (nth (rd (rk σ (y.toInt.toNat)) (qu σ (y.toInt.toNat)) (z.toInt.toNat)) (qp σ (y.toInt.toNat)) w) H v H2) 0 0 := by
  refine Mt.of (cc := cX2_reads) (maxL := 4) (ret := (some .int)) (by decide) rfl (Nat.le_of_ble_eq_true rfl) ?_
  intro p e s m below meth c S hr hlk hin hK hW ls hl
  obtain ⟨hx, hb, hml, hown, hts⟩ := id S
  obtain ⟨lc, elc⟩ : ∃ z : List Loc, z = [] := ⟨_, rfl⟩
  rw [← elc]
  have hlo : lo bs lc := by rw [elc]; exact lo.nil
  clear elc
  have hl : lv_has ls 4 [(0, .ref mo), (1, .int y), (2, .int z), (3, .int w)] := hl
  have hn40 := hI.1
  have hFr : Fr mo (mo + 11) s.heap s.heap := Fr.rf
  obtain ⟨g1, g2, hW⟩ := hW
  refine lv_aload_n hx hb dX2_reads_0 rfl (lv_at hl 0 rfl) ?_
  refine lv_iconst (v := nI 0) hx hb dX2_reads_1 (by decide +kernel) ?_
  refine x_putX S in_X2_reads_X2 tyX2 tyX2_ok nmX2 hK hW.1 rfl 0 (by decide) (by decide +kernel) rfl (Or.inl rfl) (tyX2_ok 0 (by decide)) rfl rfl (Nat.le_of_ble_eq_true rfl) hlo (by omega) dX2_reads_2 (fun H1 lc1 hO1 hz1 ho1 hlo => ?_)
  have hO1 : Ob Γ 2 mo [.int (nI 0), .int (nI (qn σ)), .int (qb σ), .ref (mo + 1), .ref (mo + 2), .ref (mo + 3), .ref (mo + 4), .ref (mo + 5), .ref (mo + 6), .ref (mo + 7), .ref (mo + 8), .ref (mo + 9), .ref (mo + 10)] H1 := hO1
  have hFr := hFr.put hz1 ho1 (by omega) (by omega)
  have hW := MW.put (σ' := σ) hW hO1 ho1 rfl
  have hW : MW Γ mo (nI 0) σ g1 g2 H1 := hW
  refine lv_aload_n hx hb dX2_reads_5 rfl (lv_at hl 0 rfl) ?_
  refine lv_iload_n hx hb dX2_reads_6 rfl (lv_at hl 1 rfl) ?_
  refine ro_V (rest := []) S hK (c_X2_isStick l Γ mo (nI 0) σ g1 g2 hI y) (cwV 1 hts gX2_reads_X2_isStick rfl rfl rfl (by decide +kernel) ⟨Nat.le_of_ble_eq_true rfl, Nat.le_of_ble_eq_true rfl⟩) (Ob.recv hK hW.1 rfl) hW rfl hl.1 rfl (Nat.le_of_ble_eq_true rfl) dX2_reads_7 ⟨Nat.le_of_ble_eq_true rfl, Nat.le_of_ble_eq_true rfl⟩ ?_
  refine W.eq (g2 := F0 m 10 ls [.int (nI (bP (inb y (qn σ))))]) rfl ?_
  have hbb7 := bP_le (inb y (qn σ))
  refine x_ifne hx hb (by omega) (tgt := 19) dX2_reads_10 (by decide) (fun c_1 => ?_) (fun c_1 => ?_)
  · skip
    obtain ⟨k, hk, rfl⟩ := inb_ex (bP_1 c_1)
    obtain ⟨hp0k, hp12k, hu3k, hg1k⟩ := hI.2.1 k hk
    refine lv_iload_n hx hb dX2_reads_19 rfl (lv_at hl 2 rfl) ?_
    refine lv_iconst (v := nI 0) hx hb dX2_reads_20 (by decide +kernel) ?_
    refine lv_iconst (v := nI 2) hx hb dX2_reads_21 (by decide +kernel) ?_
    refine ro_S (rest := []) S hK (c_X2_isIn l Γ z (nI 0) (nI 2)) (cwS 3 hts gX2_reads_X2_isIn rfl rfl rfl (by decide +kernel) ⟨Nat.le_of_ble_eq_true rfl, Nat.le_of_ble_eq_true rfl⟩) trivial rfl hl.1 rfl (Nat.le_of_ble_eq_true rfl) dX2_reads_22 ⟨Nat.le_of_ble_eq_true rfl, Nat.le_of_ble_eq_true rfl⟩ ?_
    refine W.eq (g2 := F0 m 25 ls [.int (nI (bP (nI 0 ≤ z ∧ z ≤ nI 2)))]) rfl ?_
    refine x_e (show nI (bP (nI 0 ≤ z ∧ z ≤ nI 2)) = nI (bP (inb z 3)) by rw [bP_iff isin_3]) ?_
    have hbb22 := bP_le (inb z 3)
    refine x_ifeq hx hb (by omega) (tgt := 54) dX2_reads_25 (by decide) (fun c_2 => ?_) (fun c_2 => ?_)
    · skip
      refine lv_aload_n hx hb dX2_reads_54 rfl (lv_at hl 0 rfl) ?_
      refine lv_iconst (v := nI 2) hx hb dX2_reads_55 (by decide +kernel) ?_
      refine m_V (rest := []) S hK (c_X2_no l Γ bs mo (nI 0) σ g1 g2 hI hbm 2) (cwV 1 hts gX2_reads_X2_no rfl rfl rfl (by decide +kernel) ⟨Nat.le_of_ble_eq_true rfl, Nat.le_of_ble_eq_true rfl⟩) (Ob.recv hK hW.1 rfl) hW rfl hl.1 rfl (Nat.le_of_ble_eq_true rfl) dX2_reads_56 ⟨Nat.le_of_ble_eq_true rfl, Nat.le_of_ble_eq_true rfl⟩ hlo (fun v H1 lc1 hp hlo => ?_)
      obtain ⟨rfl, hW, hFq, hzq⟩ := hp
      refine W.eq (g2 := F0 m 59 ls [.int (nI 0)]) rfl ?_
      have hFr := hFr.trans hFq
      refine W.widen (k := 0) (n := 0) (Nat.le_of_ble_eq_true rfl) (Nat.le_of_ble_eq_true rfl) ?_
      exact m_iret (Post := fun H v H2 => PM Γ mo (cd2 (inb (nI k) (qn σ)) (inb z 3 ∧ inb w (cU (rd (rk σ ((nI k).toInt.toNat)) (qu σ ((nI k).toInt.toNat)) (z.toInt.toNat)) (qp σ ((nI k).toInt.toNat))))) σ (σ) (nth (rd (rk σ ((nI k).toInt.toNat)) (qu σ ((nI k).toInt.toNat)) (z.toInt.toNat)) (qp σ ((nI k).toInt.toNat)) w) H v H2) hx hb hr hlk hlo dX2_reads_59 (PM.no (i := 1) (cd2_2 ((inb_nI (by omega)).mpr hk) (fun q => bP_0 c_2 q.1)) rfl ⟨_, _, hW⟩ hFr)
    · skip
      obtain ⟨j, hj, rfl⟩ := inb_ex (bP_1 c_2)
      refine lv_iload_n hx hb dX2_reads_28 rfl (lv_at hl 3 rfl) ?_
      refine lv_iconst (v := nI 0) hx hb dX2_reads_29 (by decide +kernel) ?_
      refine lv_aload_n hx hb dX2_reads_30 rfl (lv_at hl 0 rfl) ?_
      refine lv_iload_n hx hb dX2_reads_31 rfl (lv_at hl 1 rfl) ?_
      refine lv_aload_n hx hb dX2_reads_32 rfl (lv_at hl 0 rfl) ?_
      refine x_get S in_X2_reads_X2 hK hW.1 rfl 4 (by decide) (by decide +kernel) rfl rfl dX2_reads_33 ?_
      refine lv_iload_n hx hb dX2_reads_36 rfl (lv_at hl 1 rfl) ?_
      refine x_iald hx hb hK hW.2.2.1 (by omega) (by omega) dX2_reads_37 ?_
      refine lv_iload_n hx hb dX2_reads_38 rfl (lv_at hl 2 rfl) ?_
      refine lv_aload_n hx hb dX2_reads_39 rfl (lv_at hl 0 rfl) ?_
      refine x_get S in_X2_reads_X2 hK hW.1 rfl 11 (by decide) (by decide +kernel) rfl rfl dX2_reads_40 ?_
      refine m_V (rest := [.int (nI 0), .int w]) S hK (c_X2_read1 l Γ bs mo (nI 0) σ g1 g2 hI hbm k (qu σ k) j (by omega) (by first | omega | exact (hI.2.1 _ (by omega)).2.2.1) (by omega)) (cwV 4 hts gX2_reads_X2_read rfl rfl rfl (by decide +kernel) ⟨Nat.le_of_ble_eq_true rfl, Nat.le_of_ble_eq_true rfl⟩) (Ob.recv hK hW.1 rfl) hW rfl hl.1 rfl (Nat.le_of_ble_eq_true rfl) dX2_reads_43 ⟨Nat.le_of_ble_eq_true rfl, Nat.le_of_ble_eq_true rfl⟩ hlo (fun v H1 lc1 hp hlo => ?_)
      obtain ⟨rfl, hW, hFq, hzq⟩ := hp
      refine W.eq (g2 := F0 m 46 ls [.int (nI (cU (rd (rk σ k) (qu σ k) j) (qp σ k))), .int (nI 0), .int w]) rfl ?_
      have hFr := hFr.trans hFq
      have hcu1 := cU_le (rd (rk σ k) (qu σ k) j) (qp σ k)
      refine lv_iconst (v := nI 1) hx hb dX2_reads_46 (by decide +kernel) ?_
      refine lv_isub hx hb dX2_reads_47 ?_
      refine x_e (pn_sub (cU (rd (rk σ k) (qu σ k) j) (qp σ k))) ?_
      refine ro_S (rest := []) S hK (c_X2_isIn l Γ w (nI 0) (pn (cU (rd (rk σ k) (qu σ k) j) (qp σ k)))) (cwS 3 hts gX2_reads_X2_isIn rfl rfl rfl (by decide +kernel) ⟨Nat.le_of_ble_eq_true rfl, Nat.le_of_ble_eq_true rfl⟩) trivial rfl hl.1 rfl (Nat.le_of_ble_eq_true rfl) dX2_reads_48 ⟨Nat.le_of_ble_eq_true rfl, Nat.le_of_ble_eq_true rfl⟩ ?_
      refine W.eq (g2 := F0 m 51 ls [.int (nI (bP (nI 0 ≤ w ∧ w ≤ pn (cU (rd (rk σ k) (qu σ k) j) (qp σ k)))))]) rfl ?_
      refine x_e (show nI (bP (nI 0 ≤ w ∧ w ≤ pn (cU (rd (rk σ k) (qu σ k) j) (qp σ k)))) = nI (bP (inb w (cU (rd (rk σ k) (qu σ k) j) (qp σ k)))) by rw [bP_iff (isin_pn (by omega))]) ?_
      have hbb48 := bP_le (inb w (cU (rd (rk σ k) (qu σ k) j) (qp σ k)))
      refine x_ifne hx hb (by omega) (tgt := 60) dX2_reads_51 (by decide) (fun c_3 => ?_) (fun c_3 => ?_)
      · skip
        obtain ⟨i2, hi2, rfl⟩ := inb_ex (bP_1 c_3)
        refine lv_aload_n hx hb dX2_reads_60 rfl (lv_at hl 0 rfl) ?_
        refine x_get S in_X2_reads_X2 hK hW.1 rfl 11 (by decide) (by decide +kernel) rfl rfl dX2_reads_61 ?_
        refine lv_iload_n hx hb dX2_reads_64 rfl (lv_at hl 3 rfl) ?_
        refine x_iald hx hb hK hW.2.2.2.2.2.2.2.2.2.1 (by omega) (by omega) dX2_reads_65 ?_
        refine W.widen (k := 0) (n := 0) (Nat.le_of_ble_eq_true rfl) (Nat.le_of_ble_eq_true rfl) ?_
        exact m_iret (Post := fun H v H2 => PM Γ mo (cd2 (inb (nI k) (qn σ)) (inb (nI j) 3 ∧ inb (nI i2) (cU (rd (rk σ ((nI k).toInt.toNat)) (qu σ ((nI k).toInt.toNat)) ((nI j).toInt.toNat)) (qp σ ((nI k).toInt.toNat))))) σ (σ) (nth (rd (rk σ ((nI k).toInt.toNat)) (qu σ ((nI k).toInt.toNat)) ((nI j).toInt.toNat)) (qp σ ((nI k).toInt.toNat)) (nI i2)) H v H2) hx hb hr hlk hlo dX2_reads_66 (PM.ok (cd2_0 ((inb_nI (by omega)).mpr hk) ⟨((inb_nI (by omega)).mpr hj), by rw [toN (by omega), toN (by omega)]; exact (inb_nI (by omega)).mpr hi2⟩) (by rw [toN (by omega), toN (by omega), nth_rdA hi2 (by omega)]) ⟨_, _, hW⟩ hFr)
      · skip
        refine lv_aload_n hx hb dX2_reads_54 rfl (lv_at hl 0 rfl) ?_
        refine lv_iconst (v := nI 2) hx hb dX2_reads_55 (by decide +kernel) ?_
        refine m_V (rest := []) S hK (c_X2_no l Γ bs mo (nI 0) σ (rdA (rd (rk σ k) (qu σ k) j) g1 (qp σ k)) g2 hI hbm 2) (cwV 1 hts gX2_reads_X2_no rfl rfl rfl (by decide +kernel) ⟨Nat.le_of_ble_eq_true rfl, Nat.le_of_ble_eq_true rfl⟩) (Ob.recv hK hW.1 rfl) hW rfl hl.1 rfl (Nat.le_of_ble_eq_true rfl) dX2_reads_56 ⟨Nat.le_of_ble_eq_true rfl, Nat.le_of_ble_eq_true rfl⟩ hlo (fun v H1 lc1 hp hlo => ?_)
        obtain ⟨rfl, hW, hFq, hzq⟩ := hp
        refine W.eq (g2 := F0 m 59 ls [.int (nI 0)]) rfl ?_
        have hFr := hFr.trans hFq
        refine W.widen (k := 0) (n := 0) (Nat.le_of_ble_eq_true rfl) (Nat.le_of_ble_eq_true rfl) ?_
        exact m_iret (Post := fun H v H2 => PM Γ mo (cd2 (inb (nI k) (qn σ)) (inb (nI j) 3 ∧ inb w (cU (rd (rk σ ((nI k).toInt.toNat)) (qu σ ((nI k).toInt.toNat)) ((nI j).toInt.toNat)) (qp σ ((nI k).toInt.toNat))))) σ (σ) (nth (rd (rk σ ((nI k).toInt.toNat)) (qu σ ((nI k).toInt.toNat)) ((nI j).toInt.toNat)) (qp σ ((nI k).toInt.toNat)) w) H v H2) hx hb hr hlk hlo dX2_reads_59 (PM.no (i := 1) (cd2_2 ((inb_nI (by omega)).mpr hk) (fun q => bP_0 c_3 (by have h9 := q.2; rw [toN (by omega), toN (by omega)] at h9; exact h9))) rfl ⟨_, _, hW⟩ hFr)
  · skip
    refine lv_aload_n hx hb dX2_reads_13 rfl (lv_at hl 0 rfl) ?_
    refine lv_iconst (v := nI 1) hx hb dX2_reads_14 (by decide +kernel) ?_
    refine m_V (rest := []) S hK (c_X2_no l Γ bs mo (nI 0) σ g1 g2 hI hbm 1) (cwV 1 hts gX2_reads_X2_no rfl rfl rfl (by decide +kernel) ⟨Nat.le_of_ble_eq_true rfl, Nat.le_of_ble_eq_true rfl⟩) (Ob.recv hK hW.1 rfl) hW rfl hl.1 rfl (Nat.le_of_ble_eq_true rfl) dX2_reads_15 ⟨Nat.le_of_ble_eq_true rfl, Nat.le_of_ble_eq_true rfl⟩ hlo (fun v H1 lc1 hp hlo => ?_)
    obtain ⟨rfl, hW, hFq, hzq⟩ := hp
    refine W.eq (g2 := F0 m 18 ls [.int (nI 0)]) rfl ?_
    have hFr := hFr.trans hFq
    refine W.widen (k := 0) (n := 0) (Nat.le_of_ble_eq_true rfl) (Nat.le_of_ble_eq_true rfl) ?_
    exact m_iret (Post := fun H v H2 => PM Γ mo (cd2 (inb y (qn σ)) (inb z 3 ∧ inb w (cU (rd (rk σ (y.toInt.toNat)) (qu σ (y.toInt.toNat)) (z.toInt.toNat)) (qp σ (y.toInt.toNat))))) σ (σ) (nth (rd (rk σ (y.toInt.toNat)) (qu σ (y.toInt.toNat)) (z.toInt.toNat)) (qp σ (y.toInt.toNat)) w) H v H2) hx hb hr hlk hlo dX2_reads_18 (PM.no (i := 0) (cd2_1 (bP_0 c_1)) rfl ⟨_, _, hW⟩ hFr)
