theorem nI_nle1 (n : Nat) (hn : n < 2 ^ 31 := by omega) : ¬ nI n ≤ -1 := by
  intro h
  have h1 := Int32.le_iff_toInt_le.mp h
  rw [nI_toInt hn] at h1
  have h2 : (-1 : Int32).toInt = -1 := by decide +kernel
  omega
theorem nI_pos0 {n : Nat} (h : ¬ nI n ≤ 0) : 0 < n := by
  rcases Nat.eq_zero_or_pos n with q | q
  · rw [q] at h
    exact absurd (by decide +kernel) h
  · exact q
theorem rhy_le {σ : St} (hI : Iv σ) {a su b t : Nat} (ha : a < qn σ) : rhy σ a su b t ≤ 24 := by
  have h := rhR_le (lr (rd (rk σ a) su t) (qp σ a)) (lr (rd (rk σ b) (qu σ b) t) (qp σ b))
  rw [lr_len] at h
  have h2 := cU_le (rd (rk σ a) su t) (qp σ a)
  have h3 := (hI.2.1 a ha).2.1
  unfold rhy
  omega
theorem rbest_eq {σ : St} {a b t b2 b3 : Nat} (h1 : (rhy σ a 1 b t ≤ rhy σ a 0 b t ∧ b2 = 0) ∨ (rhy σ a 0 b t < rhy σ a 1 b t ∧ b2 = 1)) (h2 : (rhy σ a 2 b t ≤ rhy σ a b2 b t ∧ b3 = b2) ∨ (rhy σ a b2 b t < rhy σ a 2 b t ∧ b3 = 2)) : rbest σ a b t = b3 := by
  have e1 : bS (fun u => rhy σ a u b t) 1 = 0 := by
    show (if rhy σ a 0 b t < rhy σ a 0 b t then 0 else 0) = 0
    split <;> rfl
  have e2 : bS (fun u => rhy σ a u b t) 2 = b2 := by
    show (if rhy σ a (bS (fun u => rhy σ a u b t) 1) b t < rhy σ a 1 b t then 1 else bS (fun u => rhy σ a u b t) 1) = b2
    rw [e1]
    rcases h1 with ⟨h, rfl⟩ | ⟨h, rfl⟩
    · rw [if_neg (Nat.not_lt.mpr h)]
    · rw [if_pos h]
  show (if rhy σ a (bS (fun u => rhy σ a u b t) 2) b t < rhy σ a 2 b t then 2 else bS (fun u => rhy σ a u b t) 2) = b3
  rw [e2]
  rcases h2 with ⟨h, rfl⟩ | ⟨h, rfl⟩
  · rw [if_neg (Nat.not_lt.mpr h)]
  · rw [if_pos h]
set_option maxRecDepth 100000 in
theorem ix_X1_stick_IO : ∀ w ∈ (vx_atS RX1 111 eIO nmT).filter goodWord, w ∈ wsX1_stick := by decide +kernel
set_option maxHeartbeats 4000000 in
set_option maxRecDepth 100000 in
theorem c_X1_stick (l : Launch) (hfl : l.stackTraces = false) (Γ : GG) (bs : Nat) (x : Nat) (σ : St) (ad : Nat → Nat) (hI : Iv σ) (y z : Int32)  : Tx l yX1_stick wsX1_stick ({ frames := 7, cells := 2, slots := 12, locals := 110 }) Γ bs [.ref x, .int y, .int z] (CW Γ x σ ad) (fun H v H2 => cd1 (inb y (qn σ) ∧ inb z 7) = 0 ∧ v = some (.int (fk σ (y.toInt.toNat) (z.toInt.toNat))) ∧ H2 = H) (px (cd1 (inb y (qn σ) ∧ inb z 7)) [eIO]) 2 12 := by
  refine Tx.of (cc := cX1_stick) (maxL := 4) (ret := (some .int)) (by decide) rfl (Nat.le_of_ble_eq_true rfl) ?_
  intro p e s m below meth c S hr hlk hno hK hT hW ls hl
  obtain ⟨hx, hb, hml, hown, hts⟩ := id S
  obtain ⟨lc, elc⟩ : ∃ z : List Loc, z = [] := ⟨_, rfl⟩
  rw [← elc]
  have hlo : lo bs lc := by rw [elc]; exact lo.nil
  clear elc
  have hl : lv_has ls 4 [(0, .ref x), (1, .int y), (2, .int z)] := hl
  have hn40 := hI.1
  refine lv_aload_n hx hb dX1_stick_0 rfl (lv_at hl 0 rfl) ?_
  refine lv_iload_n hx hb dX1_stick_1 rfl (lv_at hl 1 rfl) ?_
  refine t_V (rest := []) S hK hT (c_X1_known l hfl Γ bs x σ ad hI y) (cwV 1 hts gX1_stick_X1_known rfl rfl rfl (by decide +kernel) ⟨Nat.le_of_ble_eq_true rfl, Nat.le_of_ble_eq_true rfl⟩) (Ob.recv hK hW.1 rfl) hW rfl hl.1 rfl (Nat.le_of_ble_eq_true rfl) dX1_stick_2 ⟨Nat.le_of_ble_eq_true rfl, Nat.le_of_ble_eq_true rfl⟩ hlo hno hlk (fun E h => ⟨0, by rw [h.2]; rfl, cd1_1 (fun q => h.1 q.1)⟩) (Nat.le_of_ble_eq_true rfl) (Nat.le_of_ble_eq_true rfl) (fun v H1 locs1 hp hlo => ?_)
  obtain ⟨hin, rfl, rfl⟩ := hp
  obtain ⟨k, hk, rfl⟩ := inb_ex hin
  obtain ⟨hp0k, hp12k, hu3k, hg1k⟩ := hI.2.1 k hk
  refine W.eq (g2 := F0 m 5 ls [.ref (ad (nI k).toInt.toNat)]) rfl ?_
  refine x_v (show Value.ref (ad (nI k).toInt.toNat) = .ref (ad k) by rw [toN (by omega)]) ?_
  refine lv_astore_n (lv' := [(3, .ref (ad k)), (0, .ref x), (1, .int (nI k)), (2, .int z)]) hx hb dX1_stick_5 rfl hl (by decide) rfl (fun ls hl => ?_)
  refine lv_iload_n hx hb dX1_stick_6 rfl (lv_at hl 3 rfl) ?_
  refine lv_if_lt (tgt := 16) hx hb dX1_stick_7 (by decide) (fun c_1 => ?_) (fun c_1 => ?_)
  · skip
    exact t_throw (is := 109) (text := "of a stick is asked 0 to 6") S hfl (by decide +kernel) (by decide +kernel) (by decide +kernel) ix_X1_stick_IO xb_IO og_IO (by decide +kernel) hT hlo hl.1 dX1_stick_16 dX1_stick_19 dX1_stick_20 dX1_stick_22 dX1_stick_25 hno hlk (Nat.le_of_ble_eq_true rfl) (Nat.le_of_ble_eq_true rfl) (Nat.le_of_ble_eq_true rfl) (Nat.le_of_ble_eq_true rfl) (Nat.le_of_ble_eq_true rfl) (Nat.le_of_ble_eq_true rfl) ⟨0, rfl, cd1_1 (fun q => inb_lt0 c_1 q.2)⟩
  · skip
    refine lv_iload_n hx hb dX1_stick_10 rfl (lv_at hl 3 rfl) ?_
    refine lv_bipush (v := nI 7) hx hb dX1_stick_11 (by decide +kernel) ?_
    refine lv_icmp_lt (tgt := 26) hx hb dX1_stick_13 (by decide) (fun c_2 => ?_) (fun c_2 => ?_)
    · skip
      obtain ⟨j, hj, rfl⟩ := inb_ex (inb_of2 c_1 c_2 (by decide))
      refine lv_aload_n hx hb dX1_stick_26 rfl (lv_at hl 0 rfl) ?_
      refine lv_iload_n hx hb dX1_stick_27 rfl (lv_at hl 3 rfl) ?_
      refine ro_V (rest := []) S hK (c_X0_factAt l Γ (ad k) (qp σ k) (qu σ k) (qB σ k) (qE σ k) (qg σ k) (rk σ k) (ak σ k) (lk σ k) (hI.2.1 k (by omega)).1 (hI.2.1 k (by omega)).2.1 j (by omega) (hI.2.1 k (by omega)).2.2.2) (cwV 1 hts gX1_stick_X0_factAt rfl rfl rfl (by decide +kernel) ⟨Nat.le_of_ble_eq_true rfl, Nat.le_of_ble_eq_true rfl⟩) (Ob.recv hK (hW.2.2 k (by omega)).1 rfl) (hW.2.2 k (by omega)) rfl hl.1 rfl (Nat.le_of_ble_eq_true rfl) dX1_stick_28 ⟨Nat.le_of_ble_eq_true rfl, Nat.le_of_ble_eq_true rfl⟩ ?_
      refine W.eq (g2 := F0 m 31 ls [.int (fk σ k j)]) rfl ?_
      refine W.widen (k := 2) (n := 12) (Nat.le_of_ble_eq_true rfl) (Nat.le_of_ble_eq_true rfl) (vx_ret ?_)
      exact m_iret (Post := fun H v H2 => cd1 (inb (nI k) (qn σ) ∧ inb (nI j) 7) = 0 ∧ v = some (.int (fk σ ((nI k).toInt.toNat) ((nI j).toInt.toNat))) ∧ H2 = H) hx hb hr hlk hlo dX1_stick_31 ⟨cd1_0 ⟨((inb_nI (by omega)).mpr hk), (inb_nI (by omega)).mpr hj⟩, by rw [toN (by omega), toN (by omega)], rfl⟩
    · skip
      exact t_throw (is := 109) (text := "of a stick is asked 0 to 6") S hfl (by decide +kernel) (by decide +kernel) (by decide +kernel) ix_X1_stick_IO xb_IO og_IO (by decide +kernel) hT hlo hl.1 dX1_stick_16 dX1_stick_19 dX1_stick_20 dX1_stick_22 dX1_stick_25 hno hlk (Nat.le_of_ble_eq_true rfl) (Nat.le_of_ble_eq_true rfl) (Nat.le_of_ble_eq_true rfl) (Nat.le_of_ble_eq_true rfl) (Nat.le_of_ble_eq_true rfl) (Nat.le_of_ble_eq_true rfl) ⟨0, rfl, cd1_1 (fun q => c_2 (inb_lt q.2 (Nat.le_refl _) (by decide)))⟩
set_option maxHeartbeats 4000000 in
set_option maxRecDepth 100000 in
theorem c_X1_rune (l : Launch) (hfl : l.stackTraces = false) (Γ : GG) (bs : Nat) (x : Nat) (σ : St) (ad : Nat → Nat) (hI : Iv σ) (y z w : Int32)  : Tx l yX1_rune wsX1_rune ({ frames := 7, cells := 2, slots := 12, locals := 104 }) Γ bs [.ref x, .int y, .int z, .int w] (CW Γ x σ ad) (fun H v H2 => cd1 (spotP σ y z w) = 0 ∧ v = some (.int (rk σ (y.toInt.toNat) (3 * w.toInt.toNat + z.toInt.toNat))) ∧ H2 = H) (px (cd1 (spotP σ y z w)) [eIO]) 2 12 := by
  refine Tx.of (cc := cX1_rune) (maxL := 5) (ret := (some .int)) (by decide) rfl (Nat.le_of_ble_eq_true rfl) ?_
  intro p e s m below meth c S hr hlk hno hK hT hW ls hl
  obtain ⟨hx, hb, hml, hown, hts⟩ := id S
  obtain ⟨lc, elc⟩ : ∃ z : List Loc, z = [] := ⟨_, rfl⟩
  rw [← elc]
  have hlo : lo bs lc := by rw [elc]; exact lo.nil
  clear elc
  have hl : lv_has ls 5 [(0, .ref x), (1, .int y), (2, .int z), (3, .int w)] := hl
  have hn40 := hI.1
  refine lv_aload_n hx hb dX1_rune_0 rfl (lv_at hl 0 rfl) ?_
  refine lv_iload_n hx hb dX1_rune_1 rfl (lv_at hl 1 rfl) ?_
  refine t_V (rest := []) S hK hT (c_X1_known l hfl Γ bs x σ ad hI y) (cwV 1 hts gX1_rune_X1_known rfl rfl rfl (by decide +kernel) ⟨Nat.le_of_ble_eq_true rfl, Nat.le_of_ble_eq_true rfl⟩) (Ob.recv hK hW.1 rfl) hW rfl hl.1 rfl (Nat.le_of_ble_eq_true rfl) dX1_rune_2 ⟨Nat.le_of_ble_eq_true rfl, Nat.le_of_ble_eq_true rfl⟩ hlo hno hlk (fun E h => ⟨0, by rw [h.2]; rfl, cd1_1 (fun q => h.1 q.1)⟩) (Nat.le_of_ble_eq_true rfl) (Nat.le_of_ble_eq_true rfl) (fun v H1 locs1 hp hlo => ?_)
  obtain ⟨hin, rfl, rfl⟩ := hp
  obtain ⟨k, hk, rfl⟩ := inb_ex hin
  obtain ⟨hp0k, hp12k, hu3k, hg1k⟩ := hI.2.1 k hk
  refine W.eq (g2 := F0 m 5 ls [.ref (ad (nI k).toInt.toNat)]) rfl ?_
  refine x_v (show Value.ref (ad (nI k).toInt.toNat) = .ref (ad k) by rw [toN (by omega)]) ?_
  refine lv_astore (lv' := [(4, .ref (ad k)), (0, .ref x), (1, .int (nI k)), (2, .int z), (3, .int w)]) hx hb dX1_rune_5 hl (by decide) rfl (fun ls hl => ?_)
  refine lv_aload hx hb dX1_rune_7 (lv_at hl 0 rfl) ?_
  refine lv_iload_n hx hb dX1_rune_9 rfl (lv_at hl 3 rfl) ?_
  refine lv_iload_n hx hb dX1_rune_10 rfl (lv_at hl 4 rfl) ?_
  refine t_S (rest := []) S hK hT (c_X1_needPlace l hfl Γ bs (ad k) (qp σ k) (qu σ k) (qB σ k) (qE σ k) (qg σ k) (rk σ k) (ak σ k) (lk σ k) (hI.2.1 k (by omega)).1 (hI.2.1 k (by omega)).2.1 z w) (cwS 3 hts gX1_rune_X1_needPlace rfl rfl rfl (by decide +kernel) ⟨Nat.le_of_ble_eq_true rfl, Nat.le_of_ble_eq_true rfl⟩) (hW.2.2 k (by omega)) rfl hl.1 rfl (Nat.le_of_ble_eq_true rfl) dX1_rune_11 ⟨Nat.le_of_ble_eq_true rfl, Nat.le_of_ble_eq_true rfl⟩ hlo hno hlk (fun E h => ⟨0, by rw [h.2]; rfl, cd1_1 (fun q => h.1 ⟨q.2.1, by have h9 := q.2.2; rw [toN (by omega)] at h9; exact h9⟩)⟩) (Nat.le_of_ble_eq_true rfl) (Nat.le_of_ble_eq_true rfl) (fun v H1 locs1 hp hlo => ?_)
  obtain ⟨⟨hqs, hqp⟩, rfl, rfl⟩ := hp
  refine W.eq (g2 := F0 m 14 ls []) rfl ?_
  obtain ⟨j, hj, rfl⟩ := inb_ex hqs
  obtain ⟨i2, hi2, rfl⟩ := inb_ex hqp
  refine lv_aload hx hb dX1_rune_14 (lv_at hl 0 rfl) ?_
  refine lv_iload_n hx hb dX1_rune_16 rfl (lv_at hl 3 rfl) ?_
  refine lv_iload_n hx hb dX1_rune_17 rfl (lv_at hl 4 rfl) ?_
  refine ro_V (rest := []) S hK (c_X0_runeAt l Γ (ad k) (qp σ k) (qu σ k) (qB σ k) (qE σ k) (qg σ k) (rk σ k) (ak σ k) (lk σ k) (hI.2.1 k (by omega)).1 (hI.2.1 k (by omega)).2.1 j i2 (by omega) (by omega)) (cwV 2 hts gX1_rune_X0_runeAt rfl rfl rfl (by decide +kernel) ⟨Nat.le_of_ble_eq_true rfl, Nat.le_of_ble_eq_true rfl⟩) (Ob.recv hK (hW.2.2 k (by omega)).1 rfl) (hW.2.2 k (by omega)) rfl hl.1 rfl (Nat.le_of_ble_eq_true rfl) dX1_rune_18 ⟨Nat.le_of_ble_eq_true rfl, Nat.le_of_ble_eq_true rfl⟩ ?_
  refine W.eq (g2 := F0 m 21 ls [.int (rk σ k (3 * i2 + j))]) rfl ?_
  refine W.widen (k := 2) (n := 12) (Nat.le_of_ble_eq_true rfl) (Nat.le_of_ble_eq_true rfl) (vx_ret ?_)
  exact m_iret (Post := fun H v H2 => cd1 (spotP σ (nI k) (nI j) (nI i2)) = 0 ∧ v = some (.int (rk σ ((nI k).toInt.toNat) (3 * (nI i2).toInt.toNat + (nI j).toInt.toNat))) ∧ H2 = H) hx hb hr hlk hlo dX1_rune_21 ⟨cd1_0 ⟨((inb_nI (by omega)).mpr hk), (inb_nI (by omega)).mpr hj, by rw [toN (by omega)]; exact (inb_nI (by omega)).mpr hi2⟩, by rw [toN (by omega), toN (by omega), toN (by omega)], rfl⟩
set_option maxRecDepth 100000 in
theorem ix_X1_strength_IO : ∀ w ∈ (vx_atS RX1 111 eIO nmT).filter goodWord, w ∈ wsX1_strength := by decide +kernel
set_option maxHeartbeats 4000000 in
set_option maxRecDepth 100000 in
theorem c_X1_strength (l : Launch) (hfl : l.stackTraces = false) (Γ : GG) (bs : Nat) (x : Nat) (σ : St) (ad : Nat → Nat) (hI : Iv σ) (y z : Int32)  : Tx l yX1_strength wsX1_strength ({ frames := 7, cells := 2, slots := 12, locals := 104 }) Γ bs [.ref x, .int y, .int z] (CW Γ x σ ad) (fun H v H2 => cd1 (inb y (qn σ) ∧ inb z (qp σ (y.toInt.toNat) - 1)) = 0 ∧ v = some (.int (stn (rk σ (y.toInt.toNat)) (ak σ (y.toInt.toNat)) (z.toInt.toNat))) ∧ H2 = H) (px (cd1 (inb y (qn σ) ∧ inb z (qp σ (y.toInt.toNat) - 1))) [eIO]) 2 12 := by
  refine Tx.of (cc := cX1_strength) (maxL := 4) (ret := (some .int)) (by decide) rfl (Nat.le_of_ble_eq_true rfl) ?_
  intro p e s m below meth c S hr hlk hno hK hT hW ls hl
  obtain ⟨hx, hb, hml, hown, hts⟩ := id S
  obtain ⟨lc, elc⟩ : ∃ z : List Loc, z = [] := ⟨_, rfl⟩
  rw [← elc]
  have hlo : lo bs lc := by rw [elc]; exact lo.nil
  clear elc
  have hl : lv_has ls 4 [(0, .ref x), (1, .int y), (2, .int z)] := hl
  have hn40 := hI.1
  refine lv_aload_n hx hb dX1_strength_0 rfl (lv_at hl 0 rfl) ?_
  refine lv_iload_n hx hb dX1_strength_1 rfl (lv_at hl 1 rfl) ?_
  refine t_V (rest := []) S hK hT (c_X1_known l hfl Γ bs x σ ad hI y) (cwV 1 hts gX1_strength_X1_known rfl rfl rfl (by decide +kernel) ⟨Nat.le_of_ble_eq_true rfl, Nat.le_of_ble_eq_true rfl⟩) (Ob.recv hK hW.1 rfl) hW rfl hl.1 rfl (Nat.le_of_ble_eq_true rfl) dX1_strength_2 ⟨Nat.le_of_ble_eq_true rfl, Nat.le_of_ble_eq_true rfl⟩ hlo hno hlk (fun E h => ⟨0, by rw [h.2]; rfl, cd1_1 (fun q => h.1 q.1)⟩) (Nat.le_of_ble_eq_true rfl) (Nat.le_of_ble_eq_true rfl) (fun v H1 locs1 hp hlo => ?_)
  obtain ⟨hin, rfl, rfl⟩ := hp
  obtain ⟨k, hk, rfl⟩ := inb_ex hin
  obtain ⟨hp0k, hp12k, hu3k, hg1k⟩ := hI.2.1 k hk
  refine W.eq (g2 := F0 m 5 ls [.ref (ad (nI k).toInt.toNat)]) rfl ?_
  refine x_v (show Value.ref (ad (nI k).toInt.toNat) = .ref (ad k) by rw [toN (by omega)]) ?_
  refine lv_astore_n (lv' := [(3, .ref (ad k)), (0, .ref x), (1, .int (nI k)), (2, .int z)]) hx hb dX1_strength_5 rfl hl (by decide) rfl (fun ls hl => ?_)
  refine lv_aload_n hx hb dX1_strength_6 rfl (lv_at hl 0 rfl) ?_
  refine lv_iload_n hx hb dX1_strength_7 rfl (lv_at hl 3 rfl) ?_
  refine ro_V (rest := []) S hK (c_X0_hasJoint l Γ (ad k) (qp σ k) (qu σ k) (qB σ k) (qE σ k) (qg σ k) (rk σ k) (ak σ k) (lk σ k) (hI.2.1 k (by omega)).1 (hI.2.1 k (by omega)).2.1 z) (cwV 1 hts gX1_strength_X0_hasJoint rfl rfl rfl (by decide +kernel) ⟨Nat.le_of_ble_eq_true rfl, Nat.le_of_ble_eq_true rfl⟩) (Ob.recv hK (hW.2.2 k (by omega)).1 rfl) (hW.2.2 k (by omega)) rfl hl.1 rfl (Nat.le_of_ble_eq_true rfl) dX1_strength_8 ⟨Nat.le_of_ble_eq_true rfl, Nat.le_of_ble_eq_true rfl⟩ ?_
  refine W.eq (g2 := F0 m 11 ls [.int (nI (bP (inb z (qp σ k - 1))))]) rfl ?_
  have hbb := bP_le (inb z (qp σ k - 1))
  refine x_ifne hx hb (by omega) (tgt := 24) dX1_strength_11 (by decide) (fun c_1 => ?_) (fun c_1 => ?_)
  · skip
    obtain ⟨j, hj, rfl⟩ := inb_ex (bP_1 c_1)
    refine lv_aload_n hx hb dX1_strength_24 rfl (lv_at hl 0 rfl) ?_
    refine lv_iload_n hx hb dX1_strength_25 rfl (lv_at hl 3 rfl) ?_
    refine ro_V (rest := []) S hK (c_X0_strengthAt l Γ (ad k) (qp σ k) (qu σ k) (qB σ k) (qE σ k) (qg σ k) (rk σ k) (ak σ k) (lk σ k) (hI.2.1 k (by omega)).1 (hI.2.1 k (by omega)).2.1 j (by omega)) (cwV 1 hts gX1_strength_X0_strengthAt rfl rfl rfl (by decide +kernel) ⟨Nat.le_of_ble_eq_true rfl, Nat.le_of_ble_eq_true rfl⟩) (Ob.recv hK (hW.2.2 k (by omega)).1 rfl) (hW.2.2 k (by omega)) rfl hl.1 rfl (Nat.le_of_ble_eq_true rfl) dX1_strength_26 ⟨Nat.le_of_ble_eq_true rfl, Nat.le_of_ble_eq_true rfl⟩ ?_
    refine W.eq (g2 := F0 m 29 ls [.int (stn (rk σ k) (ak σ k) j)]) rfl ?_
    refine W.widen (k := 2) (n := 12) (Nat.le_of_ble_eq_true rfl) (Nat.le_of_ble_eq_true rfl) (vx_ret ?_)
    exact m_iret (Post := fun H v H2 => cd1 (inb (nI k) (qn σ) ∧ inb (nI j) (qp σ ((nI k).toInt.toNat) - 1)) = 0 ∧ v = some (.int (stn (rk σ ((nI k).toInt.toNat)) (ak σ ((nI k).toInt.toNat)) ((nI j).toInt.toNat))) ∧ H2 = H) hx hb hr hlk hlo dX1_strength_29 ⟨cd1_0 ⟨((inb_nI (by omega)).mpr hk), by rw [toN (by omega)]; exact (inb_nI (by omega)).mpr hj⟩, by rw [toN (by omega), toN (by omega)], rfl⟩
  · skip
    exact t_throw (is := 119) (text := "there is no such joint") S hfl (by decide +kernel) (by decide +kernel) (by decide +kernel) ix_X1_strength_IO xb_IO og_IO (by decide +kernel) hT hlo hl.1 dX1_strength_14 dX1_strength_17 dX1_strength_18 dX1_strength_20 dX1_strength_23 hno hlk (Nat.le_of_ble_eq_true rfl) (Nat.le_of_ble_eq_true rfl) (Nat.le_of_ble_eq_true rfl) (Nat.le_of_ble_eq_true rfl) (Nat.le_of_ble_eq_true rfl) (Nat.le_of_ble_eq_true rfl) ⟨0, rfl, cd1_1 (fun q => bP_0 c_1 (by have h9 := q.2; rw [toN (by omega)] at h9; exact h9))⟩
set_option maxRecDepth 100000 in
theorem ix_X1_count_IO : ∀ w ∈ (vx_atS RX1 111 eIO nmT).filter goodWord, w ∈ wsX1_count := by decide +kernel
set_option maxHeartbeats 4000000 in
set_option maxRecDepth 100000 in
theorem c_X1_count (l : Launch) (hfl : l.stackTraces = false) (Γ : GG) (bs : Nat) (x : Nat) (σ : St) (ad : Nat → Nat) (hI : Iv σ) (b0 : Nat) (y : Int32) (hy : Ly b0 σ ad) : Tx l yX1_count wsX1_count ({ frames := 7, cells := 1, slots := 6, locals := 155 }) Γ bs [.ref x, .int y] (CW Γ x σ ad) (fun H v H2 => cd1 (inb y 7) = 0 ∧ v = some (.int (tot σ (y.toInt.toNat))) ∧ H2 = H) (px (cd1 (inb y 7)) [eIO]) 1 6 := by
  refine Tx.of (cc := cX1_count) (maxL := 2) (ret := (some .int)) (by decide) rfl (Nat.le_of_ble_eq_true rfl) ?_
  intro p e s m below meth c S hr hlk hno hK hT hW ls hl
  obtain ⟨hx, hb, hml, hown, hts⟩ := id S
  obtain ⟨lc, elc⟩ : ∃ z : List Loc, z = [] := ⟨_, rfl⟩
  rw [← elc]
  have hlo : lo bs lc := by rw [elc]; exact lo.nil
  clear elc
  have hl : lv_has ls 2 [(0, .ref x), (1, .int y)] := hl
  have hn40 := hI.1
  refine lv_iload_n hx hb dX1_count_0 rfl (lv_at hl 1 rfl) ?_
  refine lv_if_lt (tgt := 10) hx hb dX1_count_1 (by decide) (fun c_1 => ?_) (fun c_1 => ?_)
  · skip
    exact t_throw (is := 121) (text := "counted is 0 to 6") S hfl (by decide +kernel) (by decide +kernel) (by decide +kernel) ix_X1_count_IO xb_IO og_IO (by decide +kernel) hT hlo hl.1 dX1_count_10 dX1_count_13 dX1_count_14 dX1_count_16 dX1_count_19 hno hlk (Nat.le_of_ble_eq_true rfl) (Nat.le_of_ble_eq_true rfl) (Nat.le_of_ble_eq_true rfl) (Nat.le_of_ble_eq_true rfl) (Nat.le_of_ble_eq_true rfl) (Nat.le_of_ble_eq_true rfl) ⟨0, rfl, cd1_1 (fun q => inb_lt0 c_1 q)⟩
  · skip
    refine lv_iload_n hx hb dX1_count_4 rfl (lv_at hl 1 rfl) ?_
    refine lv_bipush (v := nI 7) hx hb dX1_count_5 (by decide +kernel) ?_
    refine lv_icmp_lt (tgt := 20) hx hb dX1_count_7 (by decide) (fun c_2 => ?_) (fun c_2 => ?_)
    · skip
      obtain ⟨k, hk, rfl⟩ := inb_ex (inb_of2 c_1 c_2 (by decide))
      refine lv_aload_n hx hb dX1_count_20 rfl (lv_at hl 0 rfl) ?_
      refine lv_iload_n hx hb dX1_count_21 rfl (lv_at hl 1 rfl) ?_
      refine ro_V (rest := []) S hK (c_X1_total l Γ x σ ad hI b0 k hy (by omega)) (cwV 1 hts gX1_count_X1_total rfl rfl rfl (by decide +kernel) ⟨Nat.le_of_ble_eq_true rfl, Nat.le_of_ble_eq_true rfl⟩) (Ob.recv hK hW.1 rfl) hW rfl hl.1 rfl (Nat.le_of_ble_eq_true rfl) dX1_count_22 ⟨Nat.le_of_ble_eq_true rfl, Nat.le_of_ble_eq_true rfl⟩ ?_
      refine W.eq (g2 := F0 m 25 ls [.int (tot σ k)]) rfl ?_
      refine W.widen (k := 1) (n := 6) (Nat.le_of_ble_eq_true rfl) (Nat.le_of_ble_eq_true rfl) (vx_ret ?_)
      exact m_iret (Post := fun H v H2 => cd1 (inb (nI k) 7) = 0 ∧ v = some (.int (tot σ ((nI k).toInt.toNat))) ∧ H2 = H) hx hb hr hlk hlo dX1_count_25 ⟨cd1_0 ((inb_nI (by omega)).mpr hk), by rw [toN (by omega)], rfl⟩
    · skip
      exact t_throw (is := 121) (text := "counted is 0 to 6") S hfl (by decide +kernel) (by decide +kernel) (by decide +kernel) ix_X1_count_IO xb_IO og_IO (by decide +kernel) hT hlo hl.1 dX1_count_10 dX1_count_13 dX1_count_14 dX1_count_16 dX1_count_19 hno hlk (Nat.le_of_ble_eq_true rfl) (Nat.le_of_ble_eq_true rfl) (Nat.le_of_ble_eq_true rfl) (Nat.le_of_ble_eq_true rfl) (Nat.le_of_ble_eq_true rfl) (Nat.le_of_ble_eq_true rfl) ⟨0, rfl, cd1_1 (fun q => c_2 (inb_lt q (Nat.le_refl _) (by decide)))⟩
theorem in_X1_fits_X0 : ∀ w ∈ wsX00, w ∈ wsX1_fits := by decide +kernel
set_option maxHeartbeats 4000000 in
set_option maxRecDepth 100000 in
theorem c_X1_fits (l : Launch) (hfl : l.stackTraces = false) (Γ : GG) (bs : Nat) (x : Nat) (σ : St) (ad : Nat → Nat) (hI : Iv σ) (b0 : Nat) (y z : Int32) (hy : Ly b0 σ ad) : Tx l yX1_fits wsX1_fits ({ frames := 7, cells := 2, slots := 12, locals := 104 }) Γ bs [.ref x, .int y, .int z] (CW Γ x σ ad) (fun H v H2 => cd1 (inb y (qn σ) ∧ inb z (qn σ)) = 0 ∧ v = some (.int (nI (bP (fitP σ (y.toInt.toNat) (z.toInt.toNat))))) ∧ H2 = H) (px (cd1 (inb y (qn σ) ∧ inb z (qn σ))) [eIO]) 2 12 := by
  refine Tx.of (cc := cX1_fits) (maxL := 5) (ret := (some .boolean)) (by decide) rfl (Nat.le_of_ble_eq_true rfl) ?_
  intro p e s m below meth c S hr hlk hno hK hT hW ls hl
  obtain ⟨hx, hb, hml, hown, hts⟩ := id S
  obtain ⟨lc, elc⟩ : ∃ z : List Loc, z = [] := ⟨_, rfl⟩
  rw [← elc]
  have hlo : lo bs lc := by rw [elc]; exact lo.nil
  clear elc
  have hl : lv_has ls 5 [(0, .ref x), (1, .int y), (2, .int z)] := hl
  have hn40 := hI.1
  refine lv_aload_n hx hb dX1_fits_0 rfl (lv_at hl 0 rfl) ?_
  refine lv_iload_n hx hb dX1_fits_1 rfl (lv_at hl 1 rfl) ?_
  refine t_V (rest := []) S hK hT (c_X1_known l hfl Γ bs x σ ad hI y) (cwV 1 hts gX1_fits_X1_known rfl rfl rfl (by decide +kernel) ⟨Nat.le_of_ble_eq_true rfl, Nat.le_of_ble_eq_true rfl⟩) (Ob.recv hK hW.1 rfl) hW rfl hl.1 rfl (Nat.le_of_ble_eq_true rfl) dX1_fits_2 ⟨Nat.le_of_ble_eq_true rfl, Nat.le_of_ble_eq_true rfl⟩ hlo hno hlk (fun E h => ⟨0, by rw [h.2]; rfl, cd1_1 (fun q => h.1 q.1)⟩) (Nat.le_of_ble_eq_true rfl) (Nat.le_of_ble_eq_true rfl) (fun v H1 locs1 hp hlo => ?_)
  obtain ⟨hin, rfl, rfl⟩ := hp
  obtain ⟨k, hk, rfl⟩ := inb_ex hin
  obtain ⟨hp0k, hp12k, hu3k, hg1k⟩ := hI.2.1 k hk
  refine W.eq (g2 := F0 m 5 ls [.ref (ad (nI k).toInt.toNat)]) rfl ?_
  refine x_v (show Value.ref (ad (nI k).toInt.toNat) = .ref (ad k) by rw [toN (by omega)]) ?_
  refine lv_astore_n (lv' := [(3, .ref (ad k)), (0, .ref x), (1, .int (nI k)), (2, .int z)]) hx hb dX1_fits_5 rfl hl (by decide) rfl (fun ls hl => ?_)
  refine lv_aload_n hx hb dX1_fits_6 rfl (lv_at hl 1 rfl) ?_
  refine lv_iload_n hx hb dX1_fits_7 rfl (lv_at hl 3 rfl) ?_
  refine t_V (rest := []) S hK hT (c_X1_known l hfl Γ bs x σ ad hI z) (cwV 1 hts gX1_fits_X1_known rfl rfl rfl (by decide +kernel) ⟨Nat.le_of_ble_eq_true rfl, Nat.le_of_ble_eq_true rfl⟩) (Ob.recv hK hW.1 rfl) hW rfl hl.1 rfl (Nat.le_of_ble_eq_true rfl) dX1_fits_8 ⟨Nat.le_of_ble_eq_true rfl, Nat.le_of_ble_eq_true rfl⟩ hlo hno hlk (fun E h => ⟨0, by rw [h.2]; rfl, cd1_1 (fun q => h.1 q.2)⟩) (Nat.le_of_ble_eq_true rfl) (Nat.le_of_ble_eq_true rfl) (fun v H1 locs1 hp hlo => ?_)
  obtain ⟨hin, rfl, rfl⟩ := hp
  obtain ⟨j, hj, rfl⟩ := inb_ex hin
  obtain ⟨hp0j, hp12j, hu3j, hg1j⟩ := hI.2.1 j hj
  refine W.eq (g2 := F0 m 11 ls [.ref (ad (nI j).toInt.toNat)]) rfl ?_
  refine x_v (show Value.ref (ad (nI j).toInt.toNat) = .ref (ad j) by rw [toN (by omega)]) ?_
  refine lv_astore (lv' := [(4, .ref (ad j)), (3, .ref (ad k)), (0, .ref x), (1, .int (nI k)), (2, .int (nI j))]) hx hb dX1_fits_11 hl (by decide) rfl (fun ls hl => ?_)
  refine lv_aload_n hx hb dX1_fits_13 rfl (lv_at hl 1 rfl) ?_
  refine x_get S in_X1_fits_X0 hK (hW.2.2 k (by omega)).1 rfl 4 (by decide) (by decide +kernel) rfl rfl dX1_fits_14 ?_
  refine x_ifne hx hb (by omega) (tgt := 41) dX1_fits_17 (by decide) (fun c_1 => ?_) (fun c_1 => ?_)
  · skip
    refine lv_iconst (v := nI 0) hx hb dX1_fits_41 (by decide +kernel) ?_
    refine x_e (show nI 0 = nI (bP (fitP σ k j)) by rw [bP_f (fun q => by have := q.2.1; omega)]) ?_
    refine W.widen (k := 2) (n := 12) (Nat.le_of_ble_eq_true rfl) (Nat.le_of_ble_eq_true rfl) (vx_ret ?_)
    exact m_zret (bP_le _) (Post := fun H v H2 => cd1 (inb (nI k) (qn σ) ∧ inb (nI j) (qn σ)) = 0 ∧ v = some (.int (nI (bP (fitP σ ((nI k).toInt.toNat) ((nI j).toInt.toNat))))) ∧ H2 = H) hx hb hr hlk hlo dX1_fits_42 ⟨cd1_0 ⟨((inb_nI (by omega)).mpr hk), ((inb_nI (by omega)).mpr hj)⟩, by rw [toN (by omega), toN (by omega)], rfl⟩
  · skip
    refine lv_aload hx hb dX1_fits_20 (lv_at hl 0 rfl) ?_
    refine x_get S in_X1_fits_X0 hK (hW.2.2 j (by omega)).1 rfl 4 (by decide) (by decide +kernel) rfl rfl dX1_fits_22 ?_
    refine x_ifne hx hb (by omega) (tgt := 41) dX1_fits_25 (by decide) (fun c_2 => ?_) (fun c_2 => ?_)
    · skip
      refine lv_iconst (v := nI 0) hx hb dX1_fits_41 (by decide +kernel) ?_
      refine x_e (show nI 0 = nI (bP (fitP σ k j)) by rw [bP_f (fun q => by have := q.2.2.1; omega)]) ?_
      refine W.widen (k := 2) (n := 12) (Nat.le_of_ble_eq_true rfl) (Nat.le_of_ble_eq_true rfl) (vx_ret ?_)
      exact m_zret (bP_le _) (Post := fun H v H2 => cd1 (inb (nI k) (qn σ) ∧ inb (nI j) (qn σ)) = 0 ∧ v = some (.int (nI (bP (fitP σ ((nI k).toInt.toNat) ((nI j).toInt.toNat))))) ∧ H2 = H) hx hb hr hlk hlo dX1_fits_42 ⟨cd1_0 ⟨((inb_nI (by omega)).mpr hk), ((inb_nI (by omega)).mpr hj)⟩, by rw [toN (by omega), toN (by omega)], rfl⟩
    · skip
      refine lv_aload_n hx hb dX1_fits_28 rfl (lv_at hl 1 rfl) ?_
      refine lv_aload hx hb dX1_fits_29 (lv_at hl 0 rfl) ?_
      refine ro_V (rest := []) S hK (c_X0_fitsAheadOf l Γ (ad k) (qp σ k) (qu σ k) (qB σ k) (qE σ k) (qg σ k) (rk σ k) (ak σ k) (lk σ k) (hI.2.1 k (by omega)).1 (hI.2.1 k (by omega)).2.1 (ad j) (qp σ j) (qu σ j) (qB σ j) (qE σ j) (qg σ j) (ad j + 1) (ad j + 2) (ad j + 3)) (cwV 1 hts gX1_fits_X0_fitsAheadOf rfl rfl rfl (by decide +kernel) ⟨Nat.le_of_ble_eq_true rfl, Nat.le_of_ble_eq_true rfl⟩) (Ob.recv hK (hW.2.2 k (by omega)).1 rfl) ⟨hW.2.2 k (by omega), (hW.2.2 j (by omega)).1⟩ rfl hl.1 rfl (Nat.le_of_ble_eq_true rfl) dX1_fits_31 ⟨Nat.le_of_ble_eq_true rfl, Nat.le_of_ble_eq_true rfl⟩ ?_
      refine W.eq (g2 := F0 m 34 ls [.int (nI (bP (¬ ad k = ad j ∧ ¬ qE σ k = -1 ∧ qE σ k = qB σ j)))]) rfl ?_
      have hbb := bP_le ((¬ ad k = ad j ∧ ¬ qE σ k = -1 ∧ qE σ k = qB σ j))
      refine x_ifeq hx hb (by omega) (tgt := 41) dX1_fits_34 (by decide) (fun c_3 => ?_) (fun c_3 => ?_)
      · skip
        refine lv_iconst (v := nI 0) hx hb dX1_fits_41 (by decide +kernel) ?_
        refine x_e (show nI 0 = nI (bP (fitP σ k j)) by rw [bP_f (fun q => bP_0 c_3 ⟨fun z => q.1 (hy.ne (by omega) (by omega) z), q.2.2.2⟩)]) ?_
        refine W.widen (k := 2) (n := 12) (Nat.le_of_ble_eq_true rfl) (Nat.le_of_ble_eq_true rfl) (vx_ret ?_)
        exact m_zret (bP_le _) (Post := fun H v H2 => cd1 (inb (nI k) (qn σ) ∧ inb (nI j) (qn σ)) = 0 ∧ v = some (.int (nI (bP (fitP σ ((nI k).toInt.toNat) ((nI j).toInt.toNat))))) ∧ H2 = H) hx hb hr hlk hlo dX1_fits_42 ⟨cd1_0 ⟨((inb_nI (by omega)).mpr hk), ((inb_nI (by omega)).mpr hj)⟩, by rw [toN (by omega), toN (by omega)], rfl⟩
      · skip
        refine lv_iconst (v := nI 1) hx hb dX1_fits_37 (by decide +kernel) ?_
        refine lv_goto (tgt := 42) hx hb dX1_fits_38 (by decide) ?_
        refine x_e (show nI 1 = nI (bP (fitP σ k j)) by rw [bP_t ⟨fun z => (bP_1 c_3).1 (by rw [z]), c_1, c_2, (bP_1 c_3).2⟩]) ?_
        refine W.widen (k := 2) (n := 12) (Nat.le_of_ble_eq_true rfl) (Nat.le_of_ble_eq_true rfl) (vx_ret ?_)
        exact m_zret (bP_le _) (Post := fun H v H2 => cd1 (inb (nI k) (qn σ) ∧ inb (nI j) (qn σ)) = 0 ∧ v = some (.int (nI (bP (fitP σ ((nI k).toInt.toNat) ((nI j).toInt.toNat))))) ∧ H2 = H) hx hb hr hlk hlo dX1_fits_42 ⟨cd1_0 ⟨((inb_nI (by omega)).mpr hk), ((inb_nI (by omega)).mpr hj)⟩, by rw [toN (by omega), toN (by omega)], rfl⟩
theorem in_X1_size_X0 : ∀ w ∈ wsX00, w ∈ wsX1_size := by decide +kernel
set_option maxHeartbeats 4000000 in
set_option maxRecDepth 100000 in
theorem c_X1_size (l : Launch) (hfl : l.stackTraces = false) (Γ : GG) (bs : Nat) (x : Nat) (σ : St) (ad : Nat → Nat) (hI : Iv σ) (y z : Int32)  : Tx l yX1_size wsX1_size ({ frames := 7, cells := 2, slots := 12, locals := 104 }) Γ bs [.ref x, .int y, .int z] (CW Γ x σ ad) (fun H v H2 => cd2 (inb y (qn σ)) (inb z 3) = 0 ∧ v = some (.int (nI (cU (rd (rk σ (y.toInt.toNat)) (qu σ (y.toInt.toNat)) (z.toInt.toNat)) (qp σ (y.toInt.toNat))))) ∧ H2 = H) (px (cd2 (inb y (qn σ)) (inb z 3)) [eIO, eIA]) 2 12 := by
  refine Tx.of (cc := cX1_size) (maxL := 4) (ret := (some .int)) (by decide) rfl (Nat.le_of_ble_eq_true rfl) ?_
  intro p e s m below meth c S hr hlk hno hK hT hW ls hl
  obtain ⟨hx, hb, hml, hown, hts⟩ := id S
  obtain ⟨lc, elc⟩ : ∃ z : List Loc, z = [] := ⟨_, rfl⟩
  rw [← elc]
  have hlo : lo bs lc := by rw [elc]; exact lo.nil
  clear elc
  have hl : lv_has ls 4 [(0, .ref x), (1, .int y), (2, .int z)] := hl
  have hn40 := hI.1
  refine lv_aload_n hx hb dX1_size_0 rfl (lv_at hl 0 rfl) ?_
  refine lv_iload_n hx hb dX1_size_1 rfl (lv_at hl 1 rfl) ?_
  refine t_V (rest := []) S hK hT (c_X1_known l hfl Γ bs x σ ad hI y) (cwV 1 hts gX1_size_X1_known rfl rfl rfl (by decide +kernel) ⟨Nat.le_of_ble_eq_true rfl, Nat.le_of_ble_eq_true rfl⟩) (Ob.recv hK hW.1 rfl) hW rfl hl.1 rfl (Nat.le_of_ble_eq_true rfl) dX1_size_2 ⟨Nat.le_of_ble_eq_true rfl, Nat.le_of_ble_eq_true rfl⟩ hlo hno hlk (fun E h => ⟨0, by rw [h.2]; rfl, cd2_1 (fun q => h.1 q)⟩) (Nat.le_of_ble_eq_true rfl) (Nat.le_of_ble_eq_true rfl) (fun v H1 locs1 hp hlo => ?_)
  obtain ⟨hin, rfl, rfl⟩ := hp
  obtain ⟨k, hk, rfl⟩ := inb_ex hin
  obtain ⟨hp0k, hp12k, hu3k, hg1k⟩ := hI.2.1 k hk
  refine W.eq (g2 := F0 m 5 ls [.ref (ad (nI k).toInt.toNat)]) rfl ?_
  refine x_v (show Value.ref (ad (nI k).toInt.toNat) = .ref (ad k) by rw [toN (by omega)]) ?_
  refine lv_astore_n (lv' := [(3, .ref (ad k)), (0, .ref x), (1, .int (nI k)), (2, .int z)]) hx hb dX1_size_5 rfl hl (by decide) rfl (fun ls hl => ?_)
  refine lv_iload_n hx hb dX1_size_6 rfl (lv_at hl 3 rfl) ?_
  refine t_S (rest := []) S hK hT (c_X1_needTurn l hfl Γ bs z) (cwS 1 hts gX1_size_X1_needTurn rfl rfl rfl (by decide +kernel) ⟨Nat.le_of_ble_eq_true rfl, Nat.le_of_ble_eq_true rfl⟩) trivial rfl hl.1 rfl (Nat.le_of_ble_eq_true rfl) dX1_size_7 ⟨Nat.le_of_ble_eq_true rfl, Nat.le_of_ble_eq_true rfl⟩ hlo hno hlk (fun E h => ⟨1, by rw [h.2]; rfl, cd2_2 ((inb_nI (by omega)).mpr hk) (fun q => h.1 q)⟩) (Nat.le_of_ble_eq_true rfl) (Nat.le_of_ble_eq_true rfl) (fun v H1 locs1 hp hlo => ?_)
  obtain ⟨hqj, rfl, rfl⟩ := hp
  refine W.eq (g2 := F0 m 10 ls []) rfl ?_
  obtain ⟨j, hj, rfl⟩ := inb_ex hqj
  refine lv_aload_n hx hb dX1_size_10 rfl (lv_at hl 0 rfl) ?_
  refine lv_aload_n hx hb dX1_size_11 rfl (lv_at hl 0 rfl) ?_
  refine x_get S in_X1_size_X0 hK (hW.2.2 k (by omega)).1 rfl 1 (by decide) (by decide +kernel) rfl rfl dX1_size_12 ?_
  refine lv_iload_n hx hb dX1_size_15 rfl (lv_at hl 3 rfl) ?_
  refine ro_V (rest := []) S hK (c_X0_readingLength l Γ (ad k) (qp σ k) (qu σ k) (qB σ k) (qE σ k) (qg σ k) (rk σ k) (ak σ k) (lk σ k) (hI.2.1 k (by omega)).1 (hI.2.1 k (by omega)).2.1 (qu σ k) j (by omega) (by omega)) (cwV 2 hts gX1_size_X0_readingLength rfl rfl rfl (by decide +kernel) ⟨Nat.le_of_ble_eq_true rfl, Nat.le_of_ble_eq_true rfl⟩) (Ob.recv hK (hW.2.2 k (by omega)).1 rfl) (hW.2.2 k (by omega)) rfl hl.1 rfl (Nat.le_of_ble_eq_true rfl) dX1_size_16 ⟨Nat.le_of_ble_eq_true rfl, Nat.le_of_ble_eq_true rfl⟩ ?_
  refine W.eq (g2 := F0 m 19 ls [.int (nI (cU (rd (rk σ k) (qu σ k) j) (qp σ k)))]) rfl ?_
  refine W.widen (k := 2) (n := 12) (Nat.le_of_ble_eq_true rfl) (Nat.le_of_ble_eq_true rfl) (vx_ret ?_)
  exact m_iret (Post := fun H v H2 => cd2 (inb (nI k) (qn σ)) (inb (nI j) 3) = 0 ∧ v = some (.int (nI (cU (rd (rk σ ((nI k).toInt.toNat)) (qu σ ((nI k).toInt.toNat)) ((nI j).toInt.toNat)) (qp σ ((nI k).toInt.toNat))))) ∧ H2 = H) hx hb hr hlk hlo dX1_size_19 ⟨cd2_0 ((inb_nI (by omega)).mpr hk) ((inb_nI (by omega)).mpr hj), by rw [toN (by omega), toN (by omega)], rfl⟩
set_option maxHeartbeats 4000000 in
set_option maxRecDepth 100000 in
theorem c_X1_has (l : Launch) (hfl : l.stackTraces = false) (Γ : GG) (bs : Nat) (x : Nat) (σ : St) (ad : Nat → Nat) (hI : Iv σ) (y z w : Int32)  : Tx l yX1_has wsX1_has ({ frames := 7, cells := 3, slots := 18, locals := 104 }) Γ bs [.ref x, .int y, .int z, .int w] (CW Γ x σ ad) (fun H v H2 => cd2 (inb y (qn σ)) (inb z 24 ∧ inb w 24) = 0 ∧ v = some (.int (nI (hs σ (y.toInt.toNat) z w))) ∧ H2 = H) (px (cd2 (inb y (qn σ)) (inb z 24 ∧ inb w 24)) [eIO, eIA]) 3 18 := by
  refine Tx.of (cc := cX1_has) (maxL := 8) (ret := (some .int)) (by decide) rfl (Nat.le_of_ble_eq_true rfl) ?_
  intro p e s m below meth c S hr hlk hno hK hT hW ls hl
  obtain ⟨hx, hb, hml, hown, hts⟩ := id S
  obtain ⟨lc, elc⟩ : ∃ z : List Loc, z = [] := ⟨_, rfl⟩
  rw [← elc]
  have hlo : lo bs lc := by rw [elc]; exact lo.nil
  clear elc
  have hl : lv_has ls 8 [(0, .ref x), (1, .int y), (2, .int z), (3, .int w)] := hl
  have hn40 := hI.1
  refine lv_aload_n hx hb dX1_has_0 rfl (lv_at hl 0 rfl) ?_
  refine lv_iload_n hx hb dX1_has_1 rfl (lv_at hl 1 rfl) ?_
  refine t_V (rest := []) S hK hT (c_X1_known l hfl Γ bs x σ ad hI y) (cwV 1 hts gX1_has_X1_known rfl rfl rfl (by decide +kernel) ⟨Nat.le_of_ble_eq_true rfl, Nat.le_of_ble_eq_true rfl⟩) (Ob.recv hK hW.1 rfl) hW rfl hl.1 rfl (Nat.le_of_ble_eq_true rfl) dX1_has_2 ⟨Nat.le_of_ble_eq_true rfl, Nat.le_of_ble_eq_true rfl⟩ hlo hno hlk (fun E h => ⟨0, by rw [h.2]; rfl, cd2_1 (fun q => h.1 q)⟩) (Nat.le_of_ble_eq_true rfl) (Nat.le_of_ble_eq_true rfl) (fun v H1 locs1 hp hlo => ?_)
  obtain ⟨hin, rfl, rfl⟩ := hp
  obtain ⟨k, hk, rfl⟩ := inb_ex hin
  obtain ⟨hp0k, hp12k, hu3k, hg1k⟩ := hI.2.1 k hk
  refine W.eq (g2 := F0 m 5 ls [.ref (ad (nI k).toInt.toNat)]) rfl ?_
  refine x_v (show Value.ref (ad (nI k).toInt.toNat) = .ref (ad k) by rw [toN (by omega)]) ?_
  refine lv_astore (lv' := [(4, .ref (ad k)), (0, .ref x), (1, .int (nI k)), (2, .int z), (3, .int w)]) hx hb dX1_has_5 hl (by decide) rfl (fun ls hl => ?_)
  refine lv_iload_n hx hb dX1_has_7 rfl (lv_at hl 3 rfl) ?_
  refine t_S (rest := []) S hK hT (c_X1_needRune l hfl Γ bs z) (cwS 1 hts gX1_has_X1_needRune rfl rfl rfl (by decide +kernel) ⟨Nat.le_of_ble_eq_true rfl, Nat.le_of_ble_eq_true rfl⟩) trivial rfl hl.1 rfl (Nat.le_of_ble_eq_true rfl) dX1_has_8 ⟨Nat.le_of_ble_eq_true rfl, Nat.le_of_ble_eq_true rfl⟩ hlo hno hlk (fun E h => ⟨1, by rw [h.2]; rfl, cd2_2 ((inb_nI (by omega)).mpr hk) (fun q => h.1 q.1)⟩) (Nat.le_of_ble_eq_true rfl) (Nat.le_of_ble_eq_true rfl) (fun v H1 locs1 hp hlo => ?_)
  obtain ⟨hqz, rfl, rfl⟩ := hp
  refine W.eq (g2 := F0 m 11 ls []) rfl ?_
  refine lv_iload_n hx hb dX1_has_11 rfl (lv_at hl 4 rfl) ?_
  refine t_S (rest := []) S hK hT (c_X1_needRune l hfl Γ bs w) (cwS 1 hts gX1_has_X1_needRune rfl rfl rfl (by decide +kernel) ⟨Nat.le_of_ble_eq_true rfl, Nat.le_of_ble_eq_true rfl⟩) trivial rfl hl.1 rfl (Nat.le_of_ble_eq_true rfl) dX1_has_12 ⟨Nat.le_of_ble_eq_true rfl, Nat.le_of_ble_eq_true rfl⟩ hlo hno hlk (fun E h => ⟨1, by rw [h.2]; rfl, cd2_2 ((inb_nI (by omega)).mpr hk) (fun q => h.1 q.2)⟩) (Nat.le_of_ble_eq_true rfl) (Nat.le_of_ble_eq_true rfl) (fun v H1 locs1 hp hlo => ?_)
  obtain ⟨hqw, rfl, rfl⟩ := hp
  refine W.eq (g2 := F0 m 15 ls []) rfl ?_
  refine lv_iconst (v := nI 0) hx hb dX1_has_15 (by decide +kernel) ?_
  refine lv_istore (lv' := [(5, .int (nI 0)), (4, .ref (ad k)), (0, .ref x), (1, .int (nI k)), (2, .int z), (3, .int w)]) hx hb dX1_has_16 hl (by decide) rfl (fun ls hl => ?_)
  refine lv_iconst (v := nI 0) hx hb dX1_has_18 (by decide +kernel) ?_
  refine lv_istore (lv' := [(6, .int (nI 0)), (5, .int (nI 0)), (4, .ref (ad k)), (0, .ref x), (1, .int (nI k)), (2, .int z), (3, .int w)]) hx hb dX1_has_19 hl (by decide) rfl (fun ls hl => ?_)
  refine x_loop (σ := Nat) (fun u => [(0, .ref x), (4, .ref (ad k)), (2, .int z), (3, .int w), (5, .int (nI (sN (hsF σ k z w) (3 * u)))), (6, .int (nI u))]) (fun u => u ≤ 3) (fun u => 3 - u) (fun u hu ih ls hl => ?_) 0 (by omega) ls (x_hl (lv_sub (l' := [(0, .ref x), (4, .ref (ad k)), (2, .int z), (3, .int w), (5, .int (nI 0)), (6, .int (nI 0))]) hl [3, 2, 5, 6, 1, 0] rfl) rfl)
  obtain ⟨u2, rfl⟩ : ∃ z, z = u := ⟨_, rfl⟩
  have hu : u2 ≤ 3 := hu
  have hl : lv_has ls 8 [(0, .ref x), (4, .ref (ad k)), (2, .int z), (3, .int w), (5, .int (nI (sN (hsF σ k z w) (3 * u2)))), (6, .int (nI u2))] := hl
  refine lv_iload hx hb dX1_has_21 (lv_at hl 5 rfl) ?_
  refine lv_iconst (v := nI 3) hx hb dX1_has_23 (by decide +kernel) ?_
  refine x_icge hx hb (by omega) (by omega) (tgt := 65) dX1_has_24 (by decide) (fun c_1 => ?_) (fun c_1 => ?_)
  · skip
    refine lv_iload hx hb dX1_has_65 (lv_at hl 4 rfl) ?_
    refine x_e (show nI (sN (hsF σ k z w) (3 * u2)) = nI (hs σ k z w) by rw [show u2 = 3 by omega]; rfl) ?_
    refine W.widen (k := 3) (n := 18) (Nat.le_of_ble_eq_true rfl) (Nat.le_of_ble_eq_true rfl) (vx_ret ?_)
    exact m_iret (Post := fun H v H2 => cd2 (inb (nI k) (qn σ)) (inb z 24 ∧ inb w 24) = 0 ∧ v = some (.int (nI (hs σ ((nI k).toInt.toNat) z w))) ∧ H2 = H) hx hb hr hlk hlo dX1_has_67 ⟨cd2_0 ((inb_nI (by omega)).mpr hk) ⟨hqz, hqw⟩, by rw [toN (by omega)], rfl⟩
  · skip
    refine lv_iconst (v := nI 0) hx hb dX1_has_27 (by decide +kernel) ?_
    refine lv_istore (lv' := [(7, .int (nI 0)), (0, .ref x), (4, .ref (ad k)), (2, .int z), (3, .int w), (5, .int (nI (sN (hsF σ k z w) (3 * u2)))), (6, .int (nI u2))]) hx hb dX1_has_28 hl (by decide) rfl (fun ls hl => ?_)
    refine x_loop (σ := Nat) (fun u => [(0, .ref x), (4, .ref (ad k)), (2, .int z), (3, .int w), (5, .int (nI (sN (hsF σ k z w) (3 * u2 + u)))), (6, .int (nI u2)), (7, .int (nI u))]) (fun u => u ≤ 3) (fun u => 3 - u) (fun u hu3 ih3 ls hl => ?_) 0 (by omega) ls (x_hl (lv_sub (l' := [(0, .ref x), (4, .ref (ad k)), (2, .int z), (3, .int w), (5, .int (nI (sN (hsF σ k z w) (3 * u2)))), (6, .int (nI u2)), (7, .int (nI 0))]) hl [1, 2, 3, 4, 5, 6, 0] rfl) rfl)
    obtain ⟨t2, rfl⟩ : ∃ z, z = u := ⟨_, rfl⟩
    have hu3 : t2 ≤ 3 := hu3
    have hl : lv_has ls 8 [(0, .ref x), (4, .ref (ad k)), (2, .int z), (3, .int w), (5, .int (nI (sN (hsF σ k z w) (3 * u2 + t2)))), (6, .int (nI u2)), (7, .int (nI t2))] := hl
    refine lv_iload hx hb dX1_has_30 (lv_at hl 6 rfl) ?_
    refine lv_iconst (v := nI 3) hx hb dX1_has_32 (by decide +kernel) ?_
    refine x_icge hx hb (by omega) (by omega) (tgt := 59) dX1_has_33 (by decide) (fun c_2 => ?_) (fun c_2 => ?_)
    · skip
      refine x_iinc (n := 1) (lv' := [(6, .int (nI (u2 + 1))), (0, .ref x), (4, .ref (ad k)), (2, .int z), (3, .int w), (5, .int (nI (sN (hsF σ k z w) (3 * u2 + t2)))), (7, .int (nI t2))]) hx hb dX1_has_59 hl (k := 5) rfl (by decide) rfl (fun ls hl => ?_)
      refine lv_goto (tgt := 21) hx hb dX1_has_62 (by decide) ?_
      have hl : lv_has ls 8 [(6, .int (nI (u2 + 1))), (0, .ref x), (4, .ref (ad k)), (2, .int z), (3, .int w), (5, .int (nI (sN (hsF σ k z w) (3 * (u2 + 1))))), (7, .int (nI t2))] := x_hl hl (by rw [show 3 * u2 + t2 = 3 * (u2 + 1) by omega])
      exact ih (u2 + 1) (by omega) (by omega) ls (lv_sub hl [1, 2, 3, 4, 5, 0] rfl)
    · skip
      refine lv_aload hx hb dX1_has_36 (lv_at hl 1 rfl) ?_
      refine lv_iload hx hb dX1_has_38 (lv_at hl 5 rfl) ?_
      refine lv_iload hx hb dX1_has_40 (lv_at hl 6 rfl) ?_
      refine lv_iload_n hx hb dX1_has_42 rfl (lv_at hl 2 rfl) ?_
      refine lv_iload_n hx hb dX1_has_43 rfl (lv_at hl 3 rfl) ?_
      refine ro_V (rest := []) S hK (c_X0_readsPair l Γ (ad k) (qp σ k) (qu σ k) (qB σ k) (qE σ k) (qg σ k) (rk σ k) (ak σ k) (lk σ k) (hI.2.1 k (by omega)).1 (hI.2.1 k (by omega)).2.1 u2 t2 z w (by omega) (by omega)) (cwV 4 hts gX1_has_X0_readsPair rfl rfl rfl (by decide +kernel) ⟨Nat.le_of_ble_eq_true rfl, Nat.le_of_ble_eq_true rfl⟩) (Ob.recv hK (hW.2.2 k (by omega)).1 rfl) (hW.2.2 k (by omega)) rfl hl.1 rfl (Nat.le_of_ble_eq_true rfl) dX1_has_44 ⟨Nat.le_of_ble_eq_true rfl, Nat.le_of_ble_eq_true rfl⟩ ?_
      refine W.eq (g2 := F0 m 47 ls [.int (nI (b01 (pr (rd (rk σ k) u2 t2) z w (qp σ k))))]) rfl ?_
      have hbb := b01_le (pr (rd (rk σ k) u2 t2) z w (qp σ k))
      refine x_ifeq hx hb (by omega) (tgt := 53) dX1_has_47 (by decide) (fun c_3 => ?_) (fun c_3 => ?_)
      · skip
        refine x_iinc (n := 1) (lv' := [(7, .int (nI (t2 + 1))), (0, .ref x), (4, .ref (ad k)), (2, .int z), (3, .int w), (5, .int (nI (sN (hsF σ k z w) (3 * u2 + t2)))), (6, .int (nI u2))]) hx hb dX1_has_53 hl (k := 6) rfl (by decide) rfl (fun ls hl => ?_)
        refine lv_goto (tgt := 30) hx hb dX1_has_56 (by decide) ?_
        have hl : lv_has ls 8 [(7, .int (nI (t2 + 1))), (0, .ref x), (4, .ref (ad k)), (2, .int z), (3, .int w), (5, .int (nI (sN (hsF σ k z w) (3 * u2 + (t2 + 1))))), (6, .int (nI u2))] := x_hl hl (by rw [show sN (hsF σ k z w) (3 * u2 + t2) = sN (hsF σ k z w) (3 * u2 + (t2 + 1)) by rw [← Nat.add_assoc, sN_s, show hsF σ k z w (3 * u2 + t2) = b01 (pr (rd (rk σ k) u2 t2) z w (qp σ k)) by unfold hsF; rw [show (3 * u2 + t2) / 3 = u2 by omega, show (3 * u2 + t2) % 3 = t2 by omega], c_3, Nat.add_zero]])
        exact ih3 (t2 + 1) (by omega) (by omega) ls (lv_sub hl [1, 2, 3, 4, 5, 6, 0] rfl)
      · skip
        refine x_iinc (n := 1) (lv' := [(5, .int (nI (sN (hsF σ k z w) (3 * u2 + t2) + 1))), (0, .ref x), (4, .ref (ad k)), (2, .int z), (3, .int w), (6, .int (nI u2)), (7, .int (nI t2))]) hx hb dX1_has_50 hl (k := 4) rfl (by decide) rfl (fun ls hl => ?_)
        refine x_iinc (n := 1) (lv' := [(7, .int (nI (t2 + 1))), (5, .int (nI (sN (hsF σ k z w) (3 * u2 + t2) + 1))), (0, .ref x), (4, .ref (ad k)), (2, .int z), (3, .int w), (6, .int (nI u2))]) hx hb dX1_has_53 hl (k := 6) rfl (by decide) rfl (fun ls hl => ?_)
        refine lv_goto (tgt := 30) hx hb dX1_has_56 (by decide) ?_
        have hl : lv_has ls 8 [(7, .int (nI (t2 + 1))), (5, .int (nI (sN (hsF σ k z w) (3 * u2 + (t2 + 1))))), (0, .ref x), (4, .ref (ad k)), (2, .int z), (3, .int w), (6, .int (nI u2))] := x_hl hl (by rw [show sN (hsF σ k z w) (3 * u2 + t2) + 1 = sN (hsF σ k z w) (3 * u2 + (t2 + 1)) by rw [← Nat.add_assoc, sN_s, show hsF σ k z w (3 * u2 + t2) = b01 (pr (rd (rk σ k) u2 t2) z w (qp σ k)) by unfold hsF; rw [show (3 * u2 + t2) / 3 = u2 by omega, show (3 * u2 + t2) % 3 = t2 by omega], show b01 (pr (rd (rk σ k) u2 t2) z w (qp σ k)) = 1 by omega]])
        exact ih3 (t2 + 1) (by omega) (by omega) ls (lv_sub hl [2, 3, 4, 5, 1, 6, 0] rfl)
theorem in_X1_rhyme_X0 : ∀ w ∈ wsX00, w ∈ wsX1_rhyme := by decide +kernel
set_option maxHeartbeats 4000000 in
set_option maxRecDepth 100000 in
theorem c_X1_rhyme (l : Launch) (hfl : l.stackTraces = false) (Γ : GG) (bs : Nat) (x : Nat) (σ : St) (ad : Nat → Nat) (hI : Iv σ) (y z w : Int32)  : Tx l yX1_rhyme wsX1_rhyme ({ frames := 7, cells := 3, slots := 18, locals := 119 }) Γ bs [.ref x, .int y, .int z, .int w] (CW Γ x σ ad) (fun H v H2 => cd2 (inb y (qn σ) ∧ inb z (qn σ)) (inb w 3) = 0 ∧ v = some (.int (nI (rhy σ (y.toInt.toNat) (qu σ (y.toInt.toNat)) (z.toInt.toNat) w.toInt.toNat))) ∧ H2 = H) (px (cd2 (inb y (qn σ) ∧ inb z (qn σ)) (inb w 3)) [eIO, eIA]) 3 18 := by
  refine Tx.of (cc := cX1_rhyme) (maxL := 6) (ret := (some .int)) (by decide) rfl (Nat.le_of_ble_eq_true rfl) ?_
  intro p e s m below meth c S hr hlk hno hK hT hW ls hl
  obtain ⟨hx, hb, hml, hown, hts⟩ := id S
  obtain ⟨lc, elc⟩ : ∃ z : List Loc, z = [] := ⟨_, rfl⟩
  rw [← elc]
  have hlo : lo bs lc := by rw [elc]; exact lo.nil
  clear elc
  have hl : lv_has ls 6 [(0, .ref x), (1, .int y), (2, .int z), (3, .int w)] := hl
  have hn40 := hI.1
  refine lv_aload_n hx hb dX1_rhyme_0 rfl (lv_at hl 0 rfl) ?_
  refine lv_iload_n hx hb dX1_rhyme_1 rfl (lv_at hl 1 rfl) ?_
  refine t_V (rest := []) S hK hT (c_X1_known l hfl Γ bs x σ ad hI y) (cwV 1 hts gX1_rhyme_X1_known rfl rfl rfl (by decide +kernel) ⟨Nat.le_of_ble_eq_true rfl, Nat.le_of_ble_eq_true rfl⟩) (Ob.recv hK hW.1 rfl) hW rfl hl.1 rfl (Nat.le_of_ble_eq_true rfl) dX1_rhyme_2 ⟨Nat.le_of_ble_eq_true rfl, Nat.le_of_ble_eq_true rfl⟩ hlo hno hlk (fun E h => ⟨0, by rw [h.2]; rfl, cd2_1 (fun q => h.1 q.1)⟩) (Nat.le_of_ble_eq_true rfl) (Nat.le_of_ble_eq_true rfl) (fun v H1 locs1 hp hlo => ?_)
  obtain ⟨hin, rfl, rfl⟩ := hp
  obtain ⟨k, hk, rfl⟩ := inb_ex hin
  obtain ⟨hp0k, hp12k, hu3k, hg1k⟩ := hI.2.1 k hk
  refine W.eq (g2 := F0 m 5 ls [.ref (ad (nI k).toInt.toNat)]) rfl ?_
  refine x_v (show Value.ref (ad (nI k).toInt.toNat) = .ref (ad k) by rw [toN (by omega)]) ?_
  refine lv_astore (lv' := [(4, .ref (ad k)), (0, .ref x), (1, .int (nI k)), (2, .int z), (3, .int w)]) hx hb dX1_rhyme_5 hl (by decide) rfl (fun ls hl => ?_)
  refine lv_aload_n hx hb dX1_rhyme_7 rfl (lv_at hl 1 rfl) ?_
  refine lv_iload_n hx hb dX1_rhyme_8 rfl (lv_at hl 3 rfl) ?_
  refine t_V (rest := []) S hK hT (c_X1_known l hfl Γ bs x σ ad hI z) (cwV 1 hts gX1_rhyme_X1_known rfl rfl rfl (by decide +kernel) ⟨Nat.le_of_ble_eq_true rfl, Nat.le_of_ble_eq_true rfl⟩) (Ob.recv hK hW.1 rfl) hW rfl hl.1 rfl (Nat.le_of_ble_eq_true rfl) dX1_rhyme_9 ⟨Nat.le_of_ble_eq_true rfl, Nat.le_of_ble_eq_true rfl⟩ hlo hno hlk (fun E h => ⟨0, by rw [h.2]; rfl, cd2_1 (fun q => h.1 q.2)⟩) (Nat.le_of_ble_eq_true rfl) (Nat.le_of_ble_eq_true rfl) (fun v H1 locs1 hp hlo => ?_)
  obtain ⟨hin, rfl, rfl⟩ := hp
  obtain ⟨j, hj, rfl⟩ := inb_ex hin
  obtain ⟨hp0j, hp12j, hu3j, hg1j⟩ := hI.2.1 j hj
  refine W.eq (g2 := F0 m 12 ls [.ref (ad (nI j).toInt.toNat)]) rfl ?_
  refine x_v (show Value.ref (ad (nI j).toInt.toNat) = .ref (ad j) by rw [toN (by omega)]) ?_
  refine lv_astore (lv' := [(5, .ref (ad j)), (4, .ref (ad k)), (0, .ref x), (1, .int (nI k)), (2, .int (nI j)), (3, .int w)]) hx hb dX1_rhyme_12 hl (by decide) rfl (fun ls hl => ?_)
  refine lv_iload_n hx hb dX1_rhyme_14 rfl (lv_at hl 5 rfl) ?_
  refine t_S (rest := []) S hK hT (c_X1_needTurn l hfl Γ bs w) (cwS 1 hts gX1_rhyme_X1_needTurn rfl rfl rfl (by decide +kernel) ⟨Nat.le_of_ble_eq_true rfl, Nat.le_of_ble_eq_true rfl⟩) trivial rfl hl.1 rfl (Nat.le_of_ble_eq_true rfl) dX1_rhyme_15 ⟨Nat.le_of_ble_eq_true rfl, Nat.le_of_ble_eq_true rfl⟩ hlo hno hlk (fun E h => ⟨1, by rw [h.2]; rfl, cd2_2 ⟨((inb_nI (by omega)).mpr hk), ((inb_nI (by omega)).mpr hj)⟩ (fun q => h.1 q)⟩) (Nat.le_of_ble_eq_true rfl) (Nat.le_of_ble_eq_true rfl) (fun v H1 locs1 hp hlo => ?_)
  obtain ⟨hqi2, rfl, rfl⟩ := hp
  refine W.eq (g2 := F0 m 18 ls []) rfl ?_
  obtain ⟨i2, hi2, rfl⟩ := inb_ex hqi2
  refine lv_aload hx hb dX1_rhyme_18 (lv_at hl 1 rfl) ?_
  refine lv_aload hx hb dX1_rhyme_20 (lv_at hl 1 rfl) ?_
  refine x_get S in_X1_rhyme_X0 hK (hW.2.2 k (by omega)).1 rfl 1 (by decide) (by decide +kernel) rfl rfl dX1_rhyme_22 ?_
  refine lv_aload hx hb dX1_rhyme_25 (lv_at hl 0 rfl) ?_
  refine lv_iload_n hx hb dX1_rhyme_27 rfl (lv_at hl 5 rfl) ?_
  refine ro_S (rest := []) S hK (c_X1_rhymeOf l Γ x σ ad hI k (qu σ k) j i2 (by omega) (by omega) (by first | omega | exact (hI.2.1 k (by omega)).2.2.1) (by omega)) (cwS 4 hts gX1_rhyme_X1_rhymeOf rfl rfl rfl (by decide +kernel) ⟨Nat.le_of_ble_eq_true rfl, Nat.le_of_ble_eq_true rfl⟩) hW rfl hl.1 rfl (Nat.le_of_ble_eq_true rfl) dX1_rhyme_28 ⟨Nat.le_of_ble_eq_true rfl, Nat.le_of_ble_eq_true rfl⟩ ?_
  refine W.eq (g2 := F0 m 31 ls [.int (nI (rhy σ k (qu σ k) j i2))]) rfl ?_
  refine W.widen (k := 3) (n := 18) (Nat.le_of_ble_eq_true rfl) (Nat.le_of_ble_eq_true rfl) (vx_ret ?_)
  exact m_iret (Post := fun H v H2 => cd2 (inb (nI k) (qn σ) ∧ inb (nI j) (qn σ)) (inb (nI i2) 3) = 0 ∧ v = some (.int (nI (rhy σ ((nI k).toInt.toNat) (qu σ ((nI k).toInt.toNat)) ((nI j).toInt.toNat) (nI i2).toInt.toNat))) ∧ H2 = H) hx hb hr hlk hlo dX1_rhyme_31 ⟨cd2_0 ⟨((inb_nI (by omega)).mpr hk), ((inb_nI (by omega)).mpr hj)⟩ ((inb_nI (by omega)).mpr hi2), by rw [toN (by omega), toN (by omega), toN (by omega)], rfl⟩
set_option maxHeartbeats 4000000 in
set_option maxRecDepth 100000 in
theorem c_X1_best (l : Launch) (hfl : l.stackTraces = false) (Γ : GG) (bs : Nat) (x : Nat) (σ : St) (ad : Nat → Nat) (hI : Iv σ) (y z w : Int32)  : Tx l yX1_best wsX1_best ({ frames := 7, cells := 3, slots := 18, locals := 119 }) Γ bs [.ref x, .int y, .int z, .int w] (CW Γ x σ ad) (fun H v H2 => cd2 (inb y (qn σ) ∧ inb z (qn σ)) (inb w 3) = 0 ∧ v = some (.int (nI (rbest σ (y.toInt.toNat) (z.toInt.toNat) w.toInt.toNat))) ∧ H2 = H) (px (cd2 (inb y (qn σ) ∧ inb z (qn σ)) (inb w 3)) [eIO, eIA]) 3 18 := by
  refine Tx.of (cc := cX1_best) (maxL := 10) (ret := (some .int)) (by decide) rfl (Nat.le_of_ble_eq_true rfl) ?_
  intro p e s m below meth c S hr hlk hno hK hT hW ls hl
  obtain ⟨hx, hb, hml, hown, hts⟩ := id S
  obtain ⟨lc, elc⟩ : ∃ z : List Loc, z = [] := ⟨_, rfl⟩
  rw [← elc]
  have hlo : lo bs lc := by rw [elc]; exact lo.nil
  clear elc
  have hl : lv_has ls 10 [(0, .ref x), (1, .int y), (2, .int z), (3, .int w)] := hl
  have hn40 := hI.1
  refine lv_aload_n hx hb dX1_best_0 rfl (lv_at hl 0 rfl) ?_
  refine lv_iload_n hx hb dX1_best_1 rfl (lv_at hl 1 rfl) ?_
  refine t_V (rest := []) S hK hT (c_X1_known l hfl Γ bs x σ ad hI y) (cwV 1 hts gX1_best_X1_known rfl rfl rfl (by decide +kernel) ⟨Nat.le_of_ble_eq_true rfl, Nat.le_of_ble_eq_true rfl⟩) (Ob.recv hK hW.1 rfl) hW rfl hl.1 rfl (Nat.le_of_ble_eq_true rfl) dX1_best_2 ⟨Nat.le_of_ble_eq_true rfl, Nat.le_of_ble_eq_true rfl⟩ hlo hno hlk (fun E h => ⟨0, by rw [h.2]; rfl, cd2_1 (fun q => h.1 q.1)⟩) (Nat.le_of_ble_eq_true rfl) (Nat.le_of_ble_eq_true rfl) (fun v H1 locs1 hp hlo => ?_)
  obtain ⟨hin, rfl, rfl⟩ := hp
  obtain ⟨k, hk, rfl⟩ := inb_ex hin
  obtain ⟨hp0k, hp12k, hu3k, hg1k⟩ := hI.2.1 k hk
  refine W.eq (g2 := F0 m 5 ls [.ref (ad (nI k).toInt.toNat)]) rfl ?_
  refine x_v (show Value.ref (ad (nI k).toInt.toNat) = .ref (ad k) by rw [toN (by omega)]) ?_
  refine lv_astore (lv' := [(4, .ref (ad k)), (0, .ref x), (1, .int (nI k)), (2, .int z), (3, .int w)]) hx hb dX1_best_5 hl (by decide) rfl (fun ls hl => ?_)
  refine lv_aload_n hx hb dX1_best_7 rfl (lv_at hl 1 rfl) ?_
  refine lv_iload_n hx hb dX1_best_8 rfl (lv_at hl 3 rfl) ?_
  refine t_V (rest := []) S hK hT (c_X1_known l hfl Γ bs x σ ad hI z) (cwV 1 hts gX1_best_X1_known rfl rfl rfl (by decide +kernel) ⟨Nat.le_of_ble_eq_true rfl, Nat.le_of_ble_eq_true rfl⟩) (Ob.recv hK hW.1 rfl) hW rfl hl.1 rfl (Nat.le_of_ble_eq_true rfl) dX1_best_9 ⟨Nat.le_of_ble_eq_true rfl, Nat.le_of_ble_eq_true rfl⟩ hlo hno hlk (fun E h => ⟨0, by rw [h.2]; rfl, cd2_1 (fun q => h.1 q.2)⟩) (Nat.le_of_ble_eq_true rfl) (Nat.le_of_ble_eq_true rfl) (fun v H1 locs1 hp hlo => ?_)
  obtain ⟨hin, rfl, rfl⟩ := hp
  obtain ⟨j, hj, rfl⟩ := inb_ex hin
  obtain ⟨hp0j, hp12j, hu3j, hg1j⟩ := hI.2.1 j hj
  refine W.eq (g2 := F0 m 12 ls [.ref (ad (nI j).toInt.toNat)]) rfl ?_
  refine x_v (show Value.ref (ad (nI j).toInt.toNat) = .ref (ad j) by rw [toN (by omega)]) ?_
  refine lv_astore (lv' := [(5, .ref (ad j)), (4, .ref (ad k)), (0, .ref x), (1, .int (nI k)), (2, .int (nI j)), (3, .int w)]) hx hb dX1_best_12 hl (by decide) rfl (fun ls hl => ?_)
  refine lv_iload_n hx hb dX1_best_14 rfl (lv_at hl 5 rfl) ?_
  refine t_S (rest := []) S hK hT (c_X1_needTurn l hfl Γ bs w) (cwS 1 hts gX1_best_X1_needTurn rfl rfl rfl (by decide +kernel) ⟨Nat.le_of_ble_eq_true rfl, Nat.le_of_ble_eq_true rfl⟩) trivial rfl hl.1 rfl (Nat.le_of_ble_eq_true rfl) dX1_best_15 ⟨Nat.le_of_ble_eq_true rfl, Nat.le_of_ble_eq_true rfl⟩ hlo hno hlk (fun E h => ⟨1, by rw [h.2]; rfl, cd2_2 ⟨((inb_nI (by omega)).mpr hk), ((inb_nI (by omega)).mpr hj)⟩ (fun q => h.1 q)⟩) (Nat.le_of_ble_eq_true rfl) (Nat.le_of_ble_eq_true rfl) (fun v H1 locs1 hp hlo => ?_)
  obtain ⟨hqi2, rfl, rfl⟩ := hp
  refine W.eq (g2 := F0 m 18 ls []) rfl ?_
  obtain ⟨i2, hi2, rfl⟩ := inb_ex hqi2
  refine lv_iconst (v := nI 0) hx hb dX1_best_18 (by decide +kernel) ?_
  refine lv_istore (lv' := [(6, .int (nI 0)), (5, .ref (ad j)), (4, .ref (ad k)), (0, .ref x), (1, .int (nI k)), (2, .int (nI j)), (3, .int (nI i2))]) hx hb dX1_best_19 hl (by decide) rfl (fun ls hl => ?_)
  refine lv_iconst (v := (-1)) hx hb dX1_best_21 (by decide +kernel) ?_
  refine lv_istore (lv' := [(7, .int ((-1))), (6, .int (nI 0)), (5, .ref (ad j)), (4, .ref (ad k)), (0, .ref x), (1, .int (nI k)), (2, .int (nI j)), (3, .int (nI i2))]) hx hb dX1_best_22 hl (by decide) rfl (fun ls hl => ?_)
  refine lv_iconst (v := nI 0) hx hb dX1_best_24 (by decide +kernel) ?_
  refine lv_istore (lv' := [(8, .int (nI 0)), (7, .int ((-1))), (6, .int (nI 0)), (5, .ref (ad j)), (4, .ref (ad k)), (0, .ref x), (1, .int (nI k)), (2, .int (nI j)), (3, .int (nI i2))]) hx hb dX1_best_25 hl (by decide) rfl (fun ls hl => ?_)
  refine lv_iload hx hb dX1_best_27 (lv_at hl 0 rfl) ?_
  refine lv_iconst (v := nI 3) hx hb dX1_best_29 (by decide +kernel) ?_
  refine x_icge hx hb (by omega) (by omega) (tgt := 66) dX1_best_30 (by decide) (fun c_1 => absurd c_1 (by decide)) (fun c_1 => ?_)
  refine lv_aload hx hb dX1_best_33 (lv_at hl 4 rfl) ?_
  refine lv_iload hx hb dX1_best_35 (lv_at hl 0 rfl) ?_
  refine lv_aload hx hb dX1_best_37 (lv_at hl 3 rfl) ?_
  refine lv_iload_n hx hb dX1_best_39 rfl (lv_at hl 8 rfl) ?_
  refine ro_S (rest := []) S hK (c_X1_rhymeOf l Γ x σ ad hI k 0 j i2 (by omega) (by omega) (by first | omega | exact (hI.2.1 k (by omega)).2.2.1) (by omega)) (cwS 4 hts gX1_best_X1_rhymeOf rfl rfl rfl (by decide +kernel) ⟨Nat.le_of_ble_eq_true rfl, Nat.le_of_ble_eq_true rfl⟩) hW rfl hl.1 rfl (Nat.le_of_ble_eq_true rfl) dX1_best_40 ⟨Nat.le_of_ble_eq_true rfl, Nat.le_of_ble_eq_true rfl⟩ ?_
  refine W.eq (g2 := F0 m 43 ls [.int (nI (rhy σ k 0 j i2))]) rfl ?_
  have hrh0 := rhy_le hI (a := k) (su := 0) (b := j) (t := i2) (by omega)
  refine lv_istore (lv' := [(9, .int (nI (rhy σ k 0 j i2))), (8, .int (nI 0)), (7, .int ((-1))), (6, .int (nI 0)), (5, .ref (ad j)), (4, .ref (ad k)), (0, .ref x), (1, .int (nI k)), (2, .int (nI j)), (3, .int (nI i2))]) hx hb dX1_best_43 hl (by decide) rfl (fun ls hl => ?_)
  refine lv_iload hx hb dX1_best_45 (lv_at hl 0 rfl) ?_
  refine lv_iload hx hb dX1_best_47 (lv_at hl 2 rfl) ?_
  refine lv_icmp_le (tgt := 60) hx hb dX1_best_49 (by decide) (fun c_2 => ?_) (fun c_2 => ?_)
  · skip
    exact absurd c_2 (nI_nle1 _)
  · skip
    refine lv_iload hx hb dX1_best_52 (lv_at hl 1 rfl) ?_
    refine lv_istore (lv' := [(6, .int (nI 0)), (9, .int (nI (rhy σ k 0 j i2))), (8, .int (nI 0)), (7, .int ((-1))), (5, .ref (ad j)), (4, .ref (ad k)), (0, .ref x), (1, .int (nI k)), (2, .int (nI j)), (3, .int (nI i2))]) hx hb dX1_best_54 hl (by decide) rfl (fun ls hl => ?_)
    refine lv_iload hx hb dX1_best_56 (lv_at hl 1 rfl) ?_
    refine lv_istore (lv' := [(7, .int (nI (rhy σ k 0 j i2))), (6, .int (nI 0)), (9, .int (nI (rhy σ k 0 j i2))), (8, .int (nI 0)), (5, .ref (ad j)), (4, .ref (ad k)), (0, .ref x), (1, .int (nI k)), (2, .int (nI j)), (3, .int (nI i2))]) hx hb dX1_best_58 hl (by decide) rfl (fun ls hl => ?_)
    refine x_iinc (n := 1) (lv' := [(8, .int (nI 1)), (7, .int (nI (rhy σ k 0 j i2))), (6, .int (nI 0)), (9, .int (nI (rhy σ k 0 j i2))), (5, .ref (ad j)), (4, .ref (ad k)), (0, .ref x), (1, .int (nI k)), (2, .int (nI j)), (3, .int (nI i2))]) hx hb dX1_best_60 hl (k := 3) rfl (by decide) rfl (fun ls hl => ?_)
    refine lv_goto (tgt := 27) hx hb dX1_best_63 (by decide) ?_
    refine lv_iload hx hb dX1_best_27 (lv_at hl 0 rfl) ?_
    refine lv_iconst (v := nI 3) hx hb dX1_best_29 (by decide +kernel) ?_
    refine x_icge hx hb (by omega) (by omega) (tgt := 66) dX1_best_30 (by decide) (fun c_3 => absurd c_3 (by decide)) (fun c_3 => ?_)
    refine lv_aload hx hb dX1_best_33 (lv_at hl 5 rfl) ?_
    refine lv_iload hx hb dX1_best_35 (lv_at hl 0 rfl) ?_
    refine lv_aload hx hb dX1_best_37 (lv_at hl 4 rfl) ?_
    refine lv_iload_n hx hb dX1_best_39 rfl (lv_at hl 9 rfl) ?_
    refine ro_S (rest := []) S hK (c_X1_rhymeOf l Γ x σ ad hI k 1 j i2 (by omega) (by omega) (by first | omega | exact (hI.2.1 k (by omega)).2.2.1) (by omega)) (cwS 4 hts gX1_best_X1_rhymeOf rfl rfl rfl (by decide +kernel) ⟨Nat.le_of_ble_eq_true rfl, Nat.le_of_ble_eq_true rfl⟩) hW rfl hl.1 rfl (Nat.le_of_ble_eq_true rfl) dX1_best_40 ⟨Nat.le_of_ble_eq_true rfl, Nat.le_of_ble_eq_true rfl⟩ ?_
    refine W.eq (g2 := F0 m 43 ls [.int (nI (rhy σ k 1 j i2))]) rfl ?_
    have hrh1 := rhy_le hI (a := k) (su := 1) (b := j) (t := i2) (by omega)
    refine lv_istore (lv' := [(9, .int (nI (rhy σ k 1 j i2))), (8, .int (nI 1)), (7, .int (nI (rhy σ k 0 j i2))), (6, .int (nI 0)), (5, .ref (ad j)), (4, .ref (ad k)), (0, .ref x), (1, .int (nI k)), (2, .int (nI j)), (3, .int (nI i2))]) hx hb dX1_best_43 hl (by decide) rfl (fun ls hl => ?_)
    refine lv_iload hx hb dX1_best_45 (lv_at hl 0 rfl) ?_
    refine lv_iload hx hb dX1_best_47 (lv_at hl 2 rfl) ?_
    refine x_icle hx hb (by omega) (by omega) (tgt := 60) dX1_best_49 (by decide) (fun c_4 => ?_) (fun c_4 => ?_)
    · skip
      refine x_iinc (n := 1) (lv' := [(8, .int (nI 2)), (9, .int (nI (rhy σ k 1 j i2))), (7, .int (nI (rhy σ k 0 j i2))), (6, .int (nI 0)), (5, .ref (ad j)), (4, .ref (ad k)), (0, .ref x), (1, .int (nI k)), (2, .int (nI j)), (3, .int (nI i2))]) hx hb dX1_best_60 hl (k := 1) rfl (by decide) rfl (fun ls hl => ?_)
      refine lv_goto (tgt := 27) hx hb dX1_best_63 (by decide) ?_
      refine lv_iload hx hb dX1_best_27 (lv_at hl 0 rfl) ?_
      refine lv_iconst (v := nI 3) hx hb dX1_best_29 (by decide +kernel) ?_
      refine x_icge hx hb (by omega) (by omega) (tgt := 66) dX1_best_30 (by decide) (fun c_5 => absurd c_5 (by decide)) (fun c_5 => ?_)
      refine lv_aload hx hb dX1_best_33 (lv_at hl 5 rfl) ?_
      refine lv_iload hx hb dX1_best_35 (lv_at hl 0 rfl) ?_
      refine lv_aload hx hb dX1_best_37 (lv_at hl 4 rfl) ?_
      refine lv_iload_n hx hb dX1_best_39 rfl (lv_at hl 9 rfl) ?_
      refine ro_S (rest := []) S hK (c_X1_rhymeOf l Γ x σ ad hI k 2 j i2 (by omega) (by omega) (by first | omega | exact (hI.2.1 k (by omega)).2.2.1) (by omega)) (cwS 4 hts gX1_best_X1_rhymeOf rfl rfl rfl (by decide +kernel) ⟨Nat.le_of_ble_eq_true rfl, Nat.le_of_ble_eq_true rfl⟩) hW rfl hl.1 rfl (Nat.le_of_ble_eq_true rfl) dX1_best_40 ⟨Nat.le_of_ble_eq_true rfl, Nat.le_of_ble_eq_true rfl⟩ ?_
      refine W.eq (g2 := F0 m 43 ls [.int (nI (rhy σ k 2 j i2))]) rfl ?_
      have hrh2 := rhy_le hI (a := k) (su := 2) (b := j) (t := i2) (by omega)
      refine lv_istore (lv' := [(9, .int (nI (rhy σ k 2 j i2))), (8, .int (nI 2)), (7, .int (nI (rhy σ k 0 j i2))), (6, .int (nI 0)), (5, .ref (ad j)), (4, .ref (ad k)), (0, .ref x), (1, .int (nI k)), (2, .int (nI j)), (3, .int (nI i2))]) hx hb dX1_best_43 hl (by decide) rfl (fun ls hl => ?_)
      refine lv_iload hx hb dX1_best_45 (lv_at hl 0 rfl) ?_
      refine lv_iload hx hb dX1_best_47 (lv_at hl 2 rfl) ?_
      refine x_icle hx hb (by omega) (by omega) (tgt := 60) dX1_best_49 (by decide) (fun c_6 => ?_) (fun c_6 => ?_)
      · skip
        refine x_iinc (n := 1) (lv' := [(8, .int (nI 3)), (9, .int (nI (rhy σ k 2 j i2))), (7, .int (nI (rhy σ k 0 j i2))), (6, .int (nI 0)), (5, .ref (ad j)), (4, .ref (ad k)), (0, .ref x), (1, .int (nI k)), (2, .int (nI j)), (3, .int (nI i2))]) hx hb dX1_best_60 hl (k := 1) rfl (by decide) rfl (fun ls hl => ?_)
        refine lv_goto (tgt := 27) hx hb dX1_best_63 (by decide) ?_
        refine lv_iload hx hb dX1_best_27 (lv_at hl 0 rfl) ?_
        refine lv_iconst (v := nI 3) hx hb dX1_best_29 (by decide +kernel) ?_
        refine x_icge hx hb (by omega) (by omega) (tgt := 66) dX1_best_30 (by decide) (fun c_7 => ?_) (fun c_7 => absurd c_7 (by decide))
        refine lv_iload hx hb dX1_best_66 (lv_at hl 3 rfl) ?_
        refine x_e (show nI 0 = nI (rbest σ k j i2) by rw [rbest_eq (Or.inl ⟨c_4, rfl⟩) (Or.inl ⟨c_6, rfl⟩)]) ?_
        refine W.widen (k := 3) (n := 18) (Nat.le_of_ble_eq_true rfl) (Nat.le_of_ble_eq_true rfl) (vx_ret ?_)
        exact m_iret (Post := fun H v H2 => cd2 (inb (nI k) (qn σ) ∧ inb (nI j) (qn σ)) (inb (nI i2) 3) = 0 ∧ v = some (.int (nI (rbest σ ((nI k).toInt.toNat) ((nI j).toInt.toNat) (nI i2).toInt.toNat))) ∧ H2 = H) hx hb hr hlk hlo dX1_best_68 ⟨cd2_0 ⟨((inb_nI (by omega)).mpr hk), ((inb_nI (by omega)).mpr hj)⟩ ((inb_nI (by omega)).mpr hi2), by rw [toN (by omega), toN (by omega), toN (by omega)], rfl⟩
      · skip
        refine lv_iload hx hb dX1_best_52 (lv_at hl 1 rfl) ?_
        refine lv_istore (lv' := [(6, .int (nI 2)), (9, .int (nI (rhy σ k 2 j i2))), (8, .int (nI 2)), (7, .int (nI (rhy σ k 0 j i2))), (5, .ref (ad j)), (4, .ref (ad k)), (0, .ref x), (1, .int (nI k)), (2, .int (nI j)), (3, .int (nI i2))]) hx hb dX1_best_54 hl (by decide) rfl (fun ls hl => ?_)
        refine lv_iload hx hb dX1_best_56 (lv_at hl 1 rfl) ?_
        refine lv_istore (lv' := [(7, .int (nI (rhy σ k 2 j i2))), (6, .int (nI 2)), (9, .int (nI (rhy σ k 2 j i2))), (8, .int (nI 2)), (5, .ref (ad j)), (4, .ref (ad k)), (0, .ref x), (1, .int (nI k)), (2, .int (nI j)), (3, .int (nI i2))]) hx hb dX1_best_58 hl (by decide) rfl (fun ls hl => ?_)
        refine x_iinc (n := 1) (lv' := [(8, .int (nI 3)), (7, .int (nI (rhy σ k 2 j i2))), (6, .int (nI 2)), (9, .int (nI (rhy σ k 2 j i2))), (5, .ref (ad j)), (4, .ref (ad k)), (0, .ref x), (1, .int (nI k)), (2, .int (nI j)), (3, .int (nI i2))]) hx hb dX1_best_60 hl (k := 3) rfl (by decide) rfl (fun ls hl => ?_)
        refine lv_goto (tgt := 27) hx hb dX1_best_63 (by decide) ?_
        refine lv_iload hx hb dX1_best_27 (lv_at hl 0 rfl) ?_
        refine lv_iconst (v := nI 3) hx hb dX1_best_29 (by decide +kernel) ?_
        refine x_icge hx hb (by omega) (by omega) (tgt := 66) dX1_best_30 (by decide) (fun c_8 => ?_) (fun c_8 => absurd c_8 (by decide))
        refine lv_iload hx hb dX1_best_66 (lv_at hl 2 rfl) ?_
        refine x_e (show nI 2 = nI (rbest σ k j i2) by rw [rbest_eq (Or.inl ⟨c_4, rfl⟩) (Or.inr ⟨c_6, rfl⟩)]) ?_
        refine W.widen (k := 3) (n := 18) (Nat.le_of_ble_eq_true rfl) (Nat.le_of_ble_eq_true rfl) (vx_ret ?_)
        exact m_iret (Post := fun H v H2 => cd2 (inb (nI k) (qn σ) ∧ inb (nI j) (qn σ)) (inb (nI i2) 3) = 0 ∧ v = some (.int (nI (rbest σ ((nI k).toInt.toNat) ((nI j).toInt.toNat) (nI i2).toInt.toNat))) ∧ H2 = H) hx hb hr hlk hlo dX1_best_68 ⟨cd2_0 ⟨((inb_nI (by omega)).mpr hk), ((inb_nI (by omega)).mpr hj)⟩ ((inb_nI (by omega)).mpr hi2), by rw [toN (by omega), toN (by omega), toN (by omega)], rfl⟩
    · skip
      refine lv_iload hx hb dX1_best_52 (lv_at hl 1 rfl) ?_
      refine lv_istore (lv' := [(6, .int (nI 1)), (9, .int (nI (rhy σ k 1 j i2))), (8, .int (nI 1)), (7, .int (nI (rhy σ k 0 j i2))), (5, .ref (ad j)), (4, .ref (ad k)), (0, .ref x), (1, .int (nI k)), (2, .int (nI j)), (3, .int (nI i2))]) hx hb dX1_best_54 hl (by decide) rfl (fun ls hl => ?_)
      refine lv_iload hx hb dX1_best_56 (lv_at hl 1 rfl) ?_
      refine lv_istore (lv' := [(7, .int (nI (rhy σ k 1 j i2))), (6, .int (nI 1)), (9, .int (nI (rhy σ k 1 j i2))), (8, .int (nI 1)), (5, .ref (ad j)), (4, .ref (ad k)), (0, .ref x), (1, .int (nI k)), (2, .int (nI j)), (3, .int (nI i2))]) hx hb dX1_best_58 hl (by decide) rfl (fun ls hl => ?_)
      refine x_iinc (n := 1) (lv' := [(8, .int (nI 2)), (7, .int (nI (rhy σ k 1 j i2))), (6, .int (nI 1)), (9, .int (nI (rhy σ k 1 j i2))), (5, .ref (ad j)), (4, .ref (ad k)), (0, .ref x), (1, .int (nI k)), (2, .int (nI j)), (3, .int (nI i2))]) hx hb dX1_best_60 hl (k := 3) rfl (by decide) rfl (fun ls hl => ?_)
      refine lv_goto (tgt := 27) hx hb dX1_best_63 (by decide) ?_
      refine lv_iload hx hb dX1_best_27 (lv_at hl 0 rfl) ?_
      refine lv_iconst (v := nI 3) hx hb dX1_best_29 (by decide +kernel) ?_
      refine x_icge hx hb (by omega) (by omega) (tgt := 66) dX1_best_30 (by decide) (fun c_9 => absurd c_9 (by decide)) (fun c_9 => ?_)
      refine lv_aload hx hb dX1_best_33 (lv_at hl 5 rfl) ?_
      refine lv_iload hx hb dX1_best_35 (lv_at hl 0 rfl) ?_
      refine lv_aload hx hb dX1_best_37 (lv_at hl 4 rfl) ?_
      refine lv_iload_n hx hb dX1_best_39 rfl (lv_at hl 9 rfl) ?_
      refine ro_S (rest := []) S hK (c_X1_rhymeOf l Γ x σ ad hI k 2 j i2 (by omega) (by omega) (by first | omega | exact (hI.2.1 k (by omega)).2.2.1) (by omega)) (cwS 4 hts gX1_best_X1_rhymeOf rfl rfl rfl (by decide +kernel) ⟨Nat.le_of_ble_eq_true rfl, Nat.le_of_ble_eq_true rfl⟩) hW rfl hl.1 rfl (Nat.le_of_ble_eq_true rfl) dX1_best_40 ⟨Nat.le_of_ble_eq_true rfl, Nat.le_of_ble_eq_true rfl⟩ ?_
      refine W.eq (g2 := F0 m 43 ls [.int (nI (rhy σ k 2 j i2))]) rfl ?_
      have hrh2 := rhy_le hI (a := k) (su := 2) (b := j) (t := i2) (by omega)
      refine lv_istore (lv' := [(9, .int (nI (rhy σ k 2 j i2))), (8, .int (nI 2)), (7, .int (nI (rhy σ k 1 j i2))), (6, .int (nI 1)), (5, .ref (ad j)), (4, .ref (ad k)), (0, .ref x), (1, .int (nI k)), (2, .int (nI j)), (3, .int (nI i2))]) hx hb dX1_best_43 hl (by decide) rfl (fun ls hl => ?_)
      refine lv_iload hx hb dX1_best_45 (lv_at hl 0 rfl) ?_
      refine lv_iload hx hb dX1_best_47 (lv_at hl 2 rfl) ?_
      refine x_icle hx hb (by omega) (by omega) (tgt := 60) dX1_best_49 (by decide) (fun c_10 => ?_) (fun c_10 => ?_)
      · skip
        refine x_iinc (n := 1) (lv' := [(8, .int (nI 3)), (9, .int (nI (rhy σ k 2 j i2))), (7, .int (nI (rhy σ k 1 j i2))), (6, .int (nI 1)), (5, .ref (ad j)), (4, .ref (ad k)), (0, .ref x), (1, .int (nI k)), (2, .int (nI j)), (3, .int (nI i2))]) hx hb dX1_best_60 hl (k := 1) rfl (by decide) rfl (fun ls hl => ?_)
        refine lv_goto (tgt := 27) hx hb dX1_best_63 (by decide) ?_
        refine lv_iload hx hb dX1_best_27 (lv_at hl 0 rfl) ?_
        refine lv_iconst (v := nI 3) hx hb dX1_best_29 (by decide +kernel) ?_
        refine x_icge hx hb (by omega) (by omega) (tgt := 66) dX1_best_30 (by decide) (fun c_11 => ?_) (fun c_11 => absurd c_11 (by decide))
        refine lv_iload hx hb dX1_best_66 (lv_at hl 3 rfl) ?_
        refine x_e (show nI 1 = nI (rbest σ k j i2) by rw [rbest_eq (Or.inr ⟨c_4, rfl⟩) (Or.inl ⟨c_10, rfl⟩)]) ?_
        refine W.widen (k := 3) (n := 18) (Nat.le_of_ble_eq_true rfl) (Nat.le_of_ble_eq_true rfl) (vx_ret ?_)
        exact m_iret (Post := fun H v H2 => cd2 (inb (nI k) (qn σ) ∧ inb (nI j) (qn σ)) (inb (nI i2) 3) = 0 ∧ v = some (.int (nI (rbest σ ((nI k).toInt.toNat) ((nI j).toInt.toNat) (nI i2).toInt.toNat))) ∧ H2 = H) hx hb hr hlk hlo dX1_best_68 ⟨cd2_0 ⟨((inb_nI (by omega)).mpr hk), ((inb_nI (by omega)).mpr hj)⟩ ((inb_nI (by omega)).mpr hi2), by rw [toN (by omega), toN (by omega), toN (by omega)], rfl⟩
      · skip
        refine lv_iload hx hb dX1_best_52 (lv_at hl 1 rfl) ?_
        refine lv_istore (lv' := [(6, .int (nI 2)), (9, .int (nI (rhy σ k 2 j i2))), (8, .int (nI 2)), (7, .int (nI (rhy σ k 1 j i2))), (5, .ref (ad j)), (4, .ref (ad k)), (0, .ref x), (1, .int (nI k)), (2, .int (nI j)), (3, .int (nI i2))]) hx hb dX1_best_54 hl (by decide) rfl (fun ls hl => ?_)
        refine lv_iload hx hb dX1_best_56 (lv_at hl 1 rfl) ?_
        refine lv_istore (lv' := [(7, .int (nI (rhy σ k 2 j i2))), (6, .int (nI 2)), (9, .int (nI (rhy σ k 2 j i2))), (8, .int (nI 2)), (5, .ref (ad j)), (4, .ref (ad k)), (0, .ref x), (1, .int (nI k)), (2, .int (nI j)), (3, .int (nI i2))]) hx hb dX1_best_58 hl (by decide) rfl (fun ls hl => ?_)
        refine x_iinc (n := 1) (lv' := [(8, .int (nI 3)), (7, .int (nI (rhy σ k 2 j i2))), (6, .int (nI 2)), (9, .int (nI (rhy σ k 2 j i2))), (5, .ref (ad j)), (4, .ref (ad k)), (0, .ref x), (1, .int (nI k)), (2, .int (nI j)), (3, .int (nI i2))]) hx hb dX1_best_60 hl (k := 3) rfl (by decide) rfl (fun ls hl => ?_)
        refine lv_goto (tgt := 27) hx hb dX1_best_63 (by decide) ?_
        refine lv_iload hx hb dX1_best_27 (lv_at hl 0 rfl) ?_
        refine lv_iconst (v := nI 3) hx hb dX1_best_29 (by decide +kernel) ?_
        refine x_icge hx hb (by omega) (by omega) (tgt := 66) dX1_best_30 (by decide) (fun c_12 => ?_) (fun c_12 => absurd c_12 (by decide))
        refine lv_iload hx hb dX1_best_66 (lv_at hl 2 rfl) ?_
        refine x_e (show nI 2 = nI (rbest σ k j i2) by rw [rbest_eq (Or.inr ⟨c_4, rfl⟩) (Or.inr ⟨c_10, rfl⟩)]) ?_
        refine W.widen (k := 3) (n := 18) (Nat.le_of_ble_eq_true rfl) (Nat.le_of_ble_eq_true rfl) (vx_ret ?_)
        exact m_iret (Post := fun H v H2 => cd2 (inb (nI k) (qn σ) ∧ inb (nI j) (qn σ)) (inb (nI i2) 3) = 0 ∧ v = some (.int (nI (rbest σ ((nI k).toInt.toNat) ((nI j).toInt.toNat) (nI i2).toInt.toNat))) ∧ H2 = H) hx hb hr hlk hlo dX1_best_68 ⟨cd2_0 ⟨((inb_nI (by omega)).mpr hk), ((inb_nI (by omega)).mpr hj)⟩ ((inb_nI (by omega)).mpr hi2), by rw [toN (by omega), toN (by omega), toN (by omega)], rfl⟩
set_option maxHeartbeats 4000000 in
set_option maxRecDepth 100000 in
theorem c_X1_pieces (l : Launch) (hfl : l.stackTraces = false) (Γ : GG) (bs : Nat) (x : Nat) (σ : St) (ad : Nat → Nat) (hI : Iv σ) (y z : Int32)  : Tx l yX1_pieces wsX1_pieces ({ frames := 7, cells := 2, slots := 12, locals := 111 }) Γ bs [.ref x, .int y, .int z] (CW Γ x σ ad) (fun H v H2 => cd2 (inb y (qn σ)) (inR z (1 : Nat) (20 : Nat)) = 0 ∧ v = some (.int (nI (cW (stn (rk σ (y.toInt.toNat)) (ak σ (y.toInt.toNat))) z (qp σ (y.toInt.toNat) - 1) + 1))) ∧ H2 = H) (px (cd2 (inb y (qn σ)) (inR z (1 : Nat) (20 : Nat))) [eIO, eIA]) 2 12 := by
  refine Tx.of (cc := cX1_pieces) (maxL := 4) (ret := (some .int)) (by decide) rfl (Nat.le_of_ble_eq_true rfl) ?_
  intro p e s m below meth c S hr hlk hno hK hT hW ls hl
  obtain ⟨hx, hb, hml, hown, hts⟩ := id S
  obtain ⟨lc, elc⟩ : ∃ z : List Loc, z = [] := ⟨_, rfl⟩
  rw [← elc]
  have hlo : lo bs lc := by rw [elc]; exact lo.nil
  clear elc
  have hl : lv_has ls 4 [(0, .ref x), (1, .int y), (2, .int z)] := hl
  have hn40 := hI.1
  refine lv_aload_n hx hb dX1_pieces_0 rfl (lv_at hl 0 rfl) ?_
  refine lv_iload_n hx hb dX1_pieces_1 rfl (lv_at hl 1 rfl) ?_
  refine t_V (rest := []) S hK hT (c_X1_known l hfl Γ bs x σ ad hI y) (cwV 1 hts gX1_pieces_X1_known rfl rfl rfl (by decide +kernel) ⟨Nat.le_of_ble_eq_true rfl, Nat.le_of_ble_eq_true rfl⟩) (Ob.recv hK hW.1 rfl) hW rfl hl.1 rfl (Nat.le_of_ble_eq_true rfl) dX1_pieces_2 ⟨Nat.le_of_ble_eq_true rfl, Nat.le_of_ble_eq_true rfl⟩ hlo hno hlk (fun E h => ⟨0, by rw [h.2]; rfl, cd2_1 (fun q => h.1 q)⟩) (Nat.le_of_ble_eq_true rfl) (Nat.le_of_ble_eq_true rfl) (fun v H1 locs1 hp hlo => ?_)
  obtain ⟨hin, rfl, rfl⟩ := hp
  obtain ⟨k, hk, rfl⟩ := inb_ex hin
  obtain ⟨hp0k, hp12k, hu3k, hg1k⟩ := hI.2.1 k hk
  refine W.eq (g2 := F0 m 5 ls [.ref (ad (nI k).toInt.toNat)]) rfl ?_
  refine x_v (show Value.ref (ad (nI k).toInt.toNat) = .ref (ad k) by rw [toN (by omega)]) ?_
  refine lv_astore_n (lv' := [(3, .ref (ad k)), (0, .ref x), (1, .int (nI k)), (2, .int z)]) hx hb dX1_pieces_5 rfl hl (by decide) rfl (fun ls hl => ?_)
  refine lv_iload_n hx hb dX1_pieces_6 rfl (lv_at hl 3 rfl) ?_
  refine t_S (rest := []) S hK hT (c_X1_needForce l hfl Γ bs z) (cwS 1 hts gX1_pieces_X1_needForce rfl rfl rfl (by decide +kernel) ⟨Nat.le_of_ble_eq_true rfl, Nat.le_of_ble_eq_true rfl⟩) trivial rfl hl.1 rfl (Nat.le_of_ble_eq_true rfl) dX1_pieces_7 ⟨Nat.le_of_ble_eq_true rfl, Nat.le_of_ble_eq_true rfl⟩ hlo hno hlk (fun E h => ⟨1, by rw [h.2]; rfl, cd2_2 ((inb_nI (by omega)).mpr hk) (fun q => h.1 q)⟩) (Nat.le_of_ble_eq_true rfl) (Nat.le_of_ble_eq_true rfl) (fun v H1 locs1 hp hlo => ?_)
  obtain ⟨hfc, rfl, rfl⟩ := hp
  refine W.eq (g2 := F0 m 10 ls []) rfl ?_
  refine lv_aload_n hx hb dX1_pieces_10 rfl (lv_at hl 0 rfl) ?_
  refine lv_iload_n hx hb dX1_pieces_11 rfl (lv_at hl 3 rfl) ?_
  refine ro_V (rest := []) S hK (c_X0_jointsWeakerThan l Γ (ad k) (qp σ k) (qu σ k) (qB σ k) (qE σ k) (qg σ k) (rk σ k) (ak σ k) (lk σ k) (hI.2.1 k (by omega)).1 (hI.2.1 k (by omega)).2.1 z) (cwV 1 hts gX1_pieces_X0_jointsWeakerThan rfl rfl rfl (by decide +kernel) ⟨Nat.le_of_ble_eq_true rfl, Nat.le_of_ble_eq_true rfl⟩) (Ob.recv hK (hW.2.2 k (by omega)).1 rfl) (hW.2.2 k (by omega)) rfl hl.1 rfl (Nat.le_of_ble_eq_true rfl) dX1_pieces_12 ⟨Nat.le_of_ble_eq_true rfl, Nat.le_of_ble_eq_true rfl⟩ ?_
  refine W.eq (g2 := F0 m 15 ls [.int (nI (cW (stn (rk σ k) (ak σ k)) z (qp σ k - 1)))]) rfl ?_
  refine lv_iconst (v := nI 1) hx hb dX1_pieces_15 (by decide +kernel) ?_
  refine x_add hx hb dX1_pieces_16 ?_
  refine W.widen (k := 2) (n := 12) (Nat.le_of_ble_eq_true rfl) (Nat.le_of_ble_eq_true rfl) (vx_ret ?_)
  exact m_iret (Post := fun H v H2 => cd2 (inb (nI k) (qn σ)) (inR z (1 : Nat) (20 : Nat)) = 0 ∧ v = some (.int (nI (cW (stn (rk σ ((nI k).toInt.toNat)) (ak σ ((nI k).toInt.toNat))) z (qp σ ((nI k).toInt.toNat) - 1) + 1))) ∧ H2 = H) hx hb hr hlk hlo dX1_pieces_17 ⟨cd2_0 ((inb_nI (by omega)).mpr hk) hfc, by rw [toN (by omega)], rfl⟩
theorem in_X1_row_X0 : ∀ w ∈ wsX00, w ∈ wsX1_row := by decide +kernel
theorem in_X1_row_X1 : ∀ w ∈ wsX10, w ∈ wsX1_row := by decide +kernel
set_option maxHeartbeats 4000000 in
set_option maxRecDepth 100000 in
theorem c_X1_row (l : Launch) (hfl : l.stackTraces = false) (Γ : GG) (bs : Nat) (x : Nat) (σ : St) (ad : Nat → Nat) (hI : Iv σ) (b0 : Nat) (y z : Int32) (hy : Ly b0 σ ad) : Tx l yX1_row wsX1_row ({ frames := 7, cells := 3, slots := 18, locals := 119 }) Γ bs [.ref x, .int y, .int z] (CW Γ x σ ad) (fun H v H2 => cd3 (inb y (qn σ)) (inb z 3) (qg σ (y.toInt.toNat) = 0) = 0 ∧ v = some (.int (nI (rw_ σ (y.toInt.toNat) (z.toInt.toNat) (qn σ)))) ∧ H2 = H) (px (cd3 (inb y (qn σ)) (inb z 3) (qg σ (y.toInt.toNat) = 0)) [eIO, eIA, eIS]) 3 18 := by
  refine Tx.of (cc := cX1_row) (maxL := 7) (ret := (some .int)) (by decide) rfl (Nat.le_of_ble_eq_true rfl) ?_
  intro p e s m below meth c S hr hlk hno hK hT hW ls hl
  obtain ⟨hx, hb, hml, hown, hts⟩ := id S
  obtain ⟨lc, elc⟩ : ∃ z : List Loc, z = [] := ⟨_, rfl⟩
  rw [← elc]
  have hlo : lo bs lc := by rw [elc]; exact lo.nil
  clear elc
  have hl : lv_has ls 7 [(0, .ref x), (1, .int y), (2, .int z)] := hl
  have hn40 := hI.1
  refine lv_aload_n hx hb dX1_row_0 rfl (lv_at hl 0 rfl) ?_
  refine lv_iload_n hx hb dX1_row_1 rfl (lv_at hl 1 rfl) ?_
  refine t_V (rest := []) S hK hT (c_X1_known l hfl Γ bs x σ ad hI y) (cwV 1 hts gX1_row_X1_known rfl rfl rfl (by decide +kernel) ⟨Nat.le_of_ble_eq_true rfl, Nat.le_of_ble_eq_true rfl⟩) (Ob.recv hK hW.1 rfl) hW rfl hl.1 rfl (Nat.le_of_ble_eq_true rfl) dX1_row_2 ⟨Nat.le_of_ble_eq_true rfl, Nat.le_of_ble_eq_true rfl⟩ hlo hno hlk (fun E h => ⟨0, by rw [h.2]; rfl, cd3_1 (fun q => h.1 q)⟩) (Nat.le_of_ble_eq_true rfl) (Nat.le_of_ble_eq_true rfl) (fun v H1 locs1 hp hlo => ?_)
  obtain ⟨hin, rfl, rfl⟩ := hp
  obtain ⟨k, hk, rfl⟩ := inb_ex hin
  obtain ⟨hp0k, hp12k, hu3k, hg1k⟩ := hI.2.1 k hk
  refine W.eq (g2 := F0 m 5 ls [.ref (ad (nI k).toInt.toNat)]) rfl ?_
  refine x_v (show Value.ref (ad (nI k).toInt.toNat) = .ref (ad k) by rw [toN (by omega)]) ?_
  refine lv_astore_n (lv' := [(3, .ref (ad k)), (0, .ref x), (1, .int (nI k)), (2, .int z)]) hx hb dX1_row_5 rfl hl (by decide) rfl (fun ls hl => ?_)
  refine lv_iload_n hx hb dX1_row_6 rfl (lv_at hl 3 rfl) ?_
  refine t_S (rest := []) S hK hT (c_X1_needTurn l hfl Γ bs z) (cwS 1 hts gX1_row_X1_needTurn rfl rfl rfl (by decide +kernel) ⟨Nat.le_of_ble_eq_true rfl, Nat.le_of_ble_eq_true rfl⟩) trivial rfl hl.1 rfl (Nat.le_of_ble_eq_true rfl) dX1_row_7 ⟨Nat.le_of_ble_eq_true rfl, Nat.le_of_ble_eq_true rfl⟩ hlo hno hlk (fun E h => ⟨1, by rw [h.2]; rfl, cd3_2 ((inb_nI (by omega)).mpr hk) (fun q => h.1 q)⟩) (Nat.le_of_ble_eq_true rfl) (Nat.le_of_ble_eq_true rfl) (fun v H1 locs1 hp hlo => ?_)
  obtain ⟨hqj, rfl, rfl⟩ := hp
  refine W.eq (g2 := F0 m 10 ls []) rfl ?_
  obtain ⟨j, hj, rfl⟩ := inb_ex hqj
  refine lv_aload_n hx hb dX1_row_10 rfl (lv_at hl 0 rfl) ?_
  refine t_S (rest := []) S hK hT (c_X1_needThere l hfl Γ bs (ad k) (qp σ k) (qu σ k) (qB σ k) (qE σ k) (qg σ k) (rk σ k) (ak σ k) (lk σ k) (hI.2.1 k (by omega)).2.2.2) (cwS 1 hts gX1_row_X1_needThere rfl rfl rfl (by decide +kernel) ⟨Nat.le_of_ble_eq_true rfl, Nat.le_of_ble_eq_true rfl⟩) (hW.2.2 k (by omega)) rfl hl.1 rfl (Nat.le_of_ble_eq_true rfl) dX1_row_11 ⟨Nat.le_of_ble_eq_true rfl, Nat.le_of_ble_eq_true rfl⟩ hlo hno hlk (fun E h => ⟨2, by rw [h.2]; rfl, cd3_3 ((inb_nI (by omega)).mpr hk) ((inb_nI (by omega)).mpr hj) (fun q => h.1 (by rw [toN (by omega)] at q; exact q))⟩) (Nat.le_of_ble_eq_true rfl) (Nat.le_of_ble_eq_true rfl) (fun v H1 locs1 hp hlo => ?_)
  obtain ⟨hthk, rfl, rfl⟩ := hp
  refine W.eq (g2 := F0 m 14 ls []) rfl ?_
  refine lv_iconst (v := nI 1) hx hb dX1_row_14 (by decide +kernel) ?_
  refine lv_istore (lv' := [(4, .int (nI 1)), (3, .ref (ad k)), (0, .ref x), (1, .int (nI k)), (2, .int (nI j))]) hx hb dX1_row_15 hl (by decide) rfl (fun ls hl => ?_)
  refine lv_iconst (v := nI 0) hx hb dX1_row_17 (by decide +kernel) ?_
  refine lv_istore (lv' := [(5, .int (nI 0)), (4, .int (nI 1)), (3, .ref (ad k)), (0, .ref x), (1, .int (nI k)), (2, .int (nI j))]) hx hb dX1_row_18 hl (by decide) rfl (fun ls hl => ?_)
  have hl : lv_has ls 7 [(5, .int (nI 0)), (4, .int (nI (rw_ σ k j 0))), (3, .ref (ad k)), (0, .ref x), (1, .int (nI k)), (2, .int (nI j))] := x_hl hl rfl
  refine x_loop (σ := Nat) (fun u => [(0, .ref x), (2, .int (nI j)), (3, .ref (ad k)), (4, .int (nI (rw_ σ k j u))), (5, .int (nI u))]) (fun u => u ≤ qn σ) (fun u => qn σ - u) (fun u hu ih ls hl => ?_) 0 (by omega) ls (x_hl (lv_sub (l' := [(0, .ref x), (2, .int (nI j)), (3, .ref (ad k)), (4, .int (nI (rw_ σ k j 0))), (5, .int (nI 0))]) hl [3, 5, 2, 1, 0] rfl) rfl)
  obtain ⟨i, rfl⟩ : ∃ z, z = u := ⟨_, rfl⟩
  have hu : i ≤ qn σ := hu
  have hl : lv_has ls 7 [(0, .ref x), (2, .int (nI j)), (3, .ref (ad k)), (4, .int (nI (rw_ σ k j i))), (5, .int (nI i))] := hl
  refine lv_iload hx hb dX1_row_20 (lv_at hl 4 rfl) ?_
  refine lv_aload_n hx hb dX1_row_22 rfl (lv_at hl 0 rfl) ?_
  refine x_get S in_X1_row_X1 hK hW.1 rfl 1 (by decide) (by decide +kernel) rfl rfl dX1_row_23 ?_
  refine x_icge hx hb (by omega) (by omega) (tgt := 71) dX1_row_26 (by decide) (fun c_1 => ?_) (fun c_1 => ?_)
  · skip
    refine lv_iload hx hb dX1_row_71 (lv_at hl 3 rfl) ?_
    refine x_e (show nI (rw_ σ k j i) = nI (rw_ σ k j (qn σ)) by rw [show i = qn σ by omega]) ?_
    refine W.widen (k := 3) (n := 18) (Nat.le_of_ble_eq_true rfl) (Nat.le_of_ble_eq_true rfl) (vx_ret ?_)
    exact m_iret (Post := fun H v H2 => cd3 (inb (nI k) (qn σ)) (inb (nI j) 3) (qg σ ((nI k).toInt.toNat) = 0) = 0 ∧ v = some (.int (nI (rw_ σ ((nI k).toInt.toNat) ((nI j).toInt.toNat) (qn σ)))) ∧ H2 = H) hx hb hr hlk hlo dX1_row_73 ⟨cd3_0 ((inb_nI (by omega)).mpr hk) ((inb_nI (by omega)).mpr hj) (by rw [toN (by omega)]; exact hthk), by rw [toN (by omega), toN (by omega)], rfl⟩
  · skip
    refine lv_aload_n hx hb dX1_row_29 rfl (lv_at hl 0 rfl) ?_
    refine lv_iload hx hb dX1_row_30 (lv_at hl 4 rfl) ?_
    refine ro_V (rest := []) S hK (c_X1_thereOrNull l Γ x σ ad hI i (by omega)) (cwV 1 hts gX1_row_X1_thereOrNull rfl rfl rfl (by decide +kernel) ⟨Nat.le_of_ble_eq_true rfl, Nat.le_of_ble_eq_true rfl⟩) (Ob.recv hK hW.1 rfl) hW rfl hl.1 rfl (Nat.le_of_ble_eq_true rfl) dX1_row_32 ⟨Nat.le_of_ble_eq_true rfl, Nat.le_of_ble_eq_true rfl⟩ ?_
    refine W.eq (g2 := F0 m 35 ls [va_rf (tr σ ad i)]) rfl ?_
    rcases Nat.eq_zero_or_pos (qg σ i) with hg | hg
    · skip
      refine x_v (show va_rf (tr σ ad i) = .ref (ad i) by unfold tr; rw [if_pos hg]; rfl) ?_
      refine lv_astore (lv' := [(6, .ref (ad i)), (0, .ref x), (2, .int (nI j)), (3, .ref (ad k)), (4, .int (nI (rw_ σ k j i))), (5, .int (nI i))]) hx hb dX1_row_35 hl (by decide) rfl (fun ls hl => ?_)
      refine lv_aload hx hb dX1_row_37 (lv_at hl 0 rfl) ?_
      refine lv_ifnull hx hb dX1_row_39 ?_
      refine lv_aload hx hb dX1_row_42 (lv_at hl 0 rfl) ?_
      refine lv_aload_n hx hb dX1_row_44 rfl (lv_at hl 3 rfl) ?_
      refine lv_acmp_eq (rx := some (ad i)) (ry := some (ad k)) (tgt := 65) hx hb dX1_row_45 (by decide) (fun c_2 => ?_) (fun c_2 => ?_)
      · skip
        refine x_iinc (n := 1) (lv' := [(5, .int (nI (i + 1))), (6, .ref (ad i)), (0, .ref x), (2, .int (nI j)), (3, .ref (ad k)), (4, .int (nI (rw_ σ k j i)))]) hx hb dX1_row_65 hl (k := 5) rfl (by decide) rfl (fun ls hl => ?_)
        refine lv_goto (tgt := 20) hx hb dX1_row_68 (by decide) ?_
        have hl : lv_has ls 7 [(5, .int (nI (i + 1))), (6, .ref (ad i)), (0, .ref x), (2, .int (nI j)), (3, .ref (ad k)), (4, .int (nI (rw_ σ k j (i + 1))))] := x_hl hl (by rw [show rw_ σ k j i = rw_ σ k j (i + 1) by rw [rw_s, show rwF σ k j i = 0 from bP_f (fun q => q.2.1 (hy.ne (by omega) (by omega) (Option.some.inj c_2))), Nat.add_zero]])
        exact ih (i + 1) (by omega) (by omega) ls (lv_sub hl [2, 3, 4, 5, 0] rfl)
      · skip
        refine lv_aload_n hx hb dX1_row_48 rfl (lv_at hl 3 rfl) ?_
        refine lv_aload_n hx hb dX1_row_49 rfl (lv_at hl 3 rfl) ?_
        refine x_get S in_X1_row_X0 hK (hW.2.2 k (by omega)).1 rfl 1 (by decide) (by decide +kernel) rfl rfl dX1_row_50 ?_
        refine lv_aload hx hb dX1_row_53 (lv_at hl 0 rfl) ?_
        refine lv_iload_n hx hb dX1_row_55 rfl (lv_at hl 2 rfl) ?_
        refine ro_S (rest := []) S hK (c_X1_rhymeOf l Γ x σ ad hI k (qu σ k) i j (by omega) (by omega) (by first | omega | exact (hI.2.1 k (by omega)).2.2.1) (by omega)) (cwS 4 hts gX1_row_X1_rhymeOf rfl rfl rfl (by decide +kernel) ⟨Nat.le_of_ble_eq_true rfl, Nat.le_of_ble_eq_true rfl⟩) hW rfl hl.1 rfl (Nat.le_of_ble_eq_true rfl) dX1_row_56 ⟨Nat.le_of_ble_eq_true rfl, Nat.le_of_ble_eq_true rfl⟩ ?_
        refine W.eq (g2 := F0 m 59 ls [.int (nI (rhy σ k (qu σ k) i j))]) rfl ?_
        have hrh := rhy_le hI (a := k) (su := qu σ k) (b := i) (t := j) (by omega)
        refine lv_if_le (tgt := 65) hx hb dX1_row_59 (by decide) (fun c_3 => ?_) (fun c_3 => ?_)
        · skip
          refine x_iinc (n := 1) (lv' := [(5, .int (nI (i + 1))), (6, .ref (ad i)), (0, .ref x), (2, .int (nI j)), (3, .ref (ad k)), (4, .int (nI (rw_ σ k j i)))]) hx hb dX1_row_65 hl (k := 5) rfl (by decide) rfl (fun ls hl => ?_)
          refine lv_goto (tgt := 20) hx hb dX1_row_68 (by decide) ?_
          have hl : lv_has ls 7 [(5, .int (nI (i + 1))), (6, .ref (ad i)), (0, .ref x), (2, .int (nI j)), (3, .ref (ad k)), (4, .int (nI (rw_ σ k j (i + 1))))] := x_hl hl (by rw [show rw_ σ k j i = rw_ σ k j (i + 1) by rw [rw_s, show rwF σ k j i = 0 from bP_f (fun q => absurd c_3 (nI_nle q.2.2 (by omega))), Nat.add_zero]])
          exact ih (i + 1) (by omega) (by omega) ls (lv_sub hl [2, 3, 4, 5, 0] rfl)
        · skip
          refine x_iinc (n := 1) (lv' := [(4, .int (nI (rw_ σ k j i + 1))), (6, .ref (ad i)), (0, .ref x), (2, .int (nI j)), (3, .ref (ad k)), (5, .int (nI i))]) hx hb dX1_row_62 hl (k := 4) rfl (by decide) rfl (fun ls hl => ?_)
          refine x_iinc (n := 1) (lv' := [(5, .int (nI (i + 1))), (4, .int (nI (rw_ σ k j i + 1))), (6, .ref (ad i)), (0, .ref x), (2, .int (nI j)), (3, .ref (ad k))]) hx hb dX1_row_65 hl (k := 5) rfl (by decide) rfl (fun ls hl => ?_)
          refine lv_goto (tgt := 20) hx hb dX1_row_68 (by decide) ?_
          have hl : lv_has ls 7 [(5, .int (nI (i + 1))), (4, .int (nI (rw_ σ k j (i + 1)))), (6, .ref (ad i)), (0, .ref x), (2, .int (nI j)), (3, .ref (ad k))] := x_hl hl (by rw [show rw_ σ k j i + 1 = rw_ σ k j (i + 1) by rw [rw_s, show rwF σ k j i = 1 from bP_t ⟨hg, fun z => c_2 (by rw [z]), nI_pos0 c_3⟩]])
          exact ih (i + 1) (by omega) (by omega) ls (lv_sub hl [3, 4, 5, 1, 0] rfl)
    · skip
      refine x_v (show va_rf (tr σ ad i) = .null by unfold tr; rw [if_neg (by omega)]; rfl) ?_
      refine lv_astoreN (lv' := [(6, .null), (0, .ref x), (2, .int (nI j)), (3, .ref (ad k)), (4, .int (nI (rw_ σ k j i))), (5, .int (nI i))]) hx hb dX1_row_35 hl (by decide) rfl (fun ls hl => ?_)
      refine lv_aloadN hx hb dX1_row_37 (lv_at hl 0 rfl) ?_
      refine lv_ifnullN (tgt := 65) hx hb dX1_row_39 (by decide) ?_
      refine x_iinc (n := 1) (lv' := [(5, .int (nI (i + 1))), (6, .null), (0, .ref x), (2, .int (nI j)), (3, .ref (ad k)), (4, .int (nI (rw_ σ k j i)))]) hx hb dX1_row_65 hl (k := 5) rfl (by decide) rfl (fun ls hl => ?_)
      refine lv_goto (tgt := 20) hx hb dX1_row_68 (by decide) ?_
      have hl : lv_has ls 7 [(5, .int (nI (i + 1))), (6, .null), (0, .ref x), (2, .int (nI j)), (3, .ref (ad k)), (4, .int (nI (rw_ σ k j (i + 1))))] := x_hl hl (by rw [show rw_ σ k j i = rw_ σ k j (i + 1) by rw [rw_s, show rwF σ k j i = 0 from bP_f (fun q => by have := q.1; omega), Nat.add_zero]])
      exact ih (i + 1) (by omega) (by omega) ls (lv_sub hl [2, 3, 4, 5, 0] rfl)
