set_option maxHeartbeats 4000000 in
set_option maxRecDepth 100000 in
theorem c_X1_carve (l : Launch) (hfl : l.stackTraces = false) (Γ : GG) (bs : Nat) (x : Nat) (σ : St) (ad : Nat → Nat) (hI : Iv σ) (b0 : Nat) (y z w r : Int32) (hy : Ly b0 σ ad) (hb0 : x + 2 ≤ b0) (hbs : bs ≤ x) : Tx l yX1_carve wsX1_carve ({ frames := 7, cells := 4, slots := 24, locals := 104 }) Γ bs [.ref x, .int y, .int z, .int w, .int r] (CW Γ x σ ad) (fun H v H2 => cd3 (spotP σ y z w) (inb r 24) (qg σ (y.toInt.toNat) = 0) = 0 ∧ v = some (.int (rk σ (y.toInt.toNat) (3 * w.toInt.toNat + z.toInt.toNat))) ∧ (∃ ad2, CW Γ x (o_rune σ (36 * y.toInt.toNat + (3 * w.toInt.toNat + z.toInt.toNat)) (r)) ad2 H2 ∧ Ly b0 (o_rune σ (36 * y.toInt.toNat + (3 * w.toInt.toNat + z.toInt.toNat)) (r)) ad2) ∧ FrC x σ ad H H2) (px (cd3 (spotP σ y z w) (inb r 24) (qg σ (y.toInt.toNat) = 0)) [eIO, eIA, eIS]) 4 24 := by
  refine Tx.of (cc := cX1_carve) (maxL := 7) (ret := (some .int)) (by decide) rfl (Nat.le_of_ble_eq_true rfl) ?_
  intro p e s m below meth c S hr hlk hno hK hT hW ls hl
  obtain ⟨hx, hb, hml, hown, hts⟩ := id S
  obtain ⟨lc, elc⟩ : ∃ z : List Loc, z = [] := ⟨_, rfl⟩
  rw [← elc]
  have hlo : lo bs lc := by rw [elc]; exact lo.nil
  clear elc
  have hl : lv_has ls 7 [(0, .ref x), (1, .int y), (2, .int z), (3, .int w), (4, .int r)] := hl
  have hn40 := hI.1
  refine lv_aload_n hx hb dX1_carve_0 rfl (lv_at hl 0 rfl) ?_
  refine lv_iload_n hx hb dX1_carve_1 rfl (lv_at hl 1 rfl) ?_
  refine t_V (rest := []) S hK hT (c_X1_known l hfl Γ bs x σ ad hI y) (cwV 1 hts gX1_carve_X1_known rfl rfl rfl (by decide +kernel) ⟨Nat.le_of_ble_eq_true rfl, Nat.le_of_ble_eq_true rfl⟩) (Ob.recv hK hW.1 rfl) hW rfl hl.1 rfl (Nat.le_of_ble_eq_true rfl) dX1_carve_2 ⟨Nat.le_of_ble_eq_true rfl, Nat.le_of_ble_eq_true rfl⟩ hlo hno hlk (fun E h => ⟨0, by rw [h.2]; rfl, cd3_1 (fun q => h.1 q.1)⟩) (Nat.le_of_ble_eq_true rfl) (Nat.le_of_ble_eq_true rfl) (fun v H1 locs1 hp hlo => ?_)
  obtain ⟨hin, rfl, rfl⟩ := hp
  obtain ⟨k, hk, rfl⟩ := inb_ex hin
  obtain ⟨hp0k, hp12k, hu3k, hg1k⟩ := hI.2.1 k hk
  refine W.eq (g2 := F0 m 5 ls [.ref (ad (nI k).toInt.toNat)]) rfl ?_
  refine x_v (show Value.ref (ad (nI k).toInt.toNat) = .ref (ad k) by rw [toN (by omega)]) ?_
  refine lv_astore (lv' := [(5, .ref (ad k)), (0, .ref x), (1, .int (nI k)), (2, .int z), (3, .int w), (4, .int r)]) hx hb dX1_carve_5 hl (by decide) rfl (fun ls hl => ?_)
  refine lv_aload hx hb dX1_carve_7 (lv_at hl 0 rfl) ?_
  refine lv_iload_n hx hb dX1_carve_9 rfl (lv_at hl 3 rfl) ?_
  refine lv_iload_n hx hb dX1_carve_10 rfl (lv_at hl 4 rfl) ?_
  refine t_S (rest := []) S hK hT (c_X1_needPlace l hfl Γ bs (ad k) (qp σ k) (qu σ k) (qB σ k) (qE σ k) (qg σ k) (rk σ k) (ak σ k) (lk σ k) (hI.2.1 k (by omega)).1 (hI.2.1 k (by omega)).2.1 z w) (cwS 3 hts gX1_carve_X1_needPlace rfl rfl rfl (by decide +kernel) ⟨Nat.le_of_ble_eq_true rfl, Nat.le_of_ble_eq_true rfl⟩) (hW.2.2 k (by omega)) rfl hl.1 rfl (Nat.le_of_ble_eq_true rfl) dX1_carve_11 ⟨Nat.le_of_ble_eq_true rfl, Nat.le_of_ble_eq_true rfl⟩ hlo hno hlk (fun E h => ⟨0, by rw [h.2]; rfl, cd3_1 (fun q => h.1 ⟨q.2.1, by have h9 := q.2.2; rw [toN (by omega)] at h9; exact h9⟩)⟩) (Nat.le_of_ble_eq_true rfl) (Nat.le_of_ble_eq_true rfl) (fun v H1 locs1 hp hlo => ?_)
  obtain ⟨⟨hqs, hqp⟩, rfl, rfl⟩ := hp
  refine W.eq (g2 := F0 m 14 ls []) rfl ?_
  obtain ⟨j, hj, rfl⟩ := inb_ex hqs
  obtain ⟨i2, hi2, rfl⟩ := inb_ex hqp
  refine lv_iload hx hb dX1_carve_14 (lv_at hl 5 rfl) ?_
  refine t_S (rest := []) S hK hT (c_X1_needRune l hfl Γ bs r) (cwS 1 hts gX1_carve_X1_needRune rfl rfl rfl (by decide +kernel) ⟨Nat.le_of_ble_eq_true rfl, Nat.le_of_ble_eq_true rfl⟩) trivial rfl hl.1 rfl (Nat.le_of_ble_eq_true rfl) dX1_carve_16 ⟨Nat.le_of_ble_eq_true rfl, Nat.le_of_ble_eq_true rfl⟩ hlo hno hlk (fun E h => ⟨1, by rw [h.2]; rfl, cd3_2 ⟨((inb_nI (by omega)).mpr hk), (inb_nI (by omega)).mpr hj, by rw [toN (by omega)]; exact (inb_nI (by omega)).mpr hi2⟩ (fun q => h.1 q)⟩) (Nat.le_of_ble_eq_true rfl) (Nat.le_of_ble_eq_true rfl) (fun v H1 locs1 hp hlo => ?_)
  obtain ⟨hqi3, rfl, rfl⟩ := hp
  refine W.eq (g2 := F0 m 19 ls []) rfl ?_
  obtain ⟨i3, hi3, rfl⟩ := inb_ex hqi3
  refine lv_aload hx hb dX1_carve_19 (lv_at hl 0 rfl) ?_
  refine t_S (rest := []) S hK hT (c_X1_needThere l hfl Γ bs (ad k) (qp σ k) (qu σ k) (qB σ k) (qE σ k) (qg σ k) (rk σ k) (ak σ k) (lk σ k) (hI.2.1 k (by omega)).2.2.2) (cwS 1 hts gX1_carve_X1_needThere rfl rfl rfl (by decide +kernel) ⟨Nat.le_of_ble_eq_true rfl, Nat.le_of_ble_eq_true rfl⟩) (hW.2.2 k (by omega)) rfl hl.1 rfl (Nat.le_of_ble_eq_true rfl) dX1_carve_21 ⟨Nat.le_of_ble_eq_true rfl, Nat.le_of_ble_eq_true rfl⟩ hlo hno hlk (fun E h => ⟨2, by rw [h.2]; rfl, cd3_3 ⟨((inb_nI (by omega)).mpr hk), (inb_nI (by omega)).mpr hj, by rw [toN (by omega)]; exact (inb_nI (by omega)).mpr hi2⟩ ((inb_nI (by omega)).mpr hi3) (fun q => h.1 (by rw [toN (by omega)] at q; exact q))⟩) (Nat.le_of_ble_eq_true rfl) (Nat.le_of_ble_eq_true rfl) (fun v H1 locs1 hp hlo => ?_)
  obtain ⟨hthk, rfl, rfl⟩ := hp
  refine W.eq (g2 := F0 m 24 ls []) rfl ?_
  refine lv_aload hx hb dX1_carve_24 (lv_at hl 0 rfl) ?_
  refine lv_iload_n hx hb dX1_carve_26 rfl (lv_at hl 3 rfl) ?_
  refine lv_iload_n hx hb dX1_carve_27 rfl (lv_at hl 4 rfl) ?_
  refine ro_V (rest := []) S hK (c_X0_runeAt l Γ (ad k) (qp σ k) (qu σ k) (qB σ k) (qE σ k) (qg σ k) (rk σ k) (ak σ k) (lk σ k) (hI.2.1 k (by omega)).1 (hI.2.1 k (by omega)).2.1 j i2 (by omega) (by omega)) (cwV 2 hts gX1_carve_X0_runeAt rfl rfl rfl (by decide +kernel) ⟨Nat.le_of_ble_eq_true rfl, Nat.le_of_ble_eq_true rfl⟩) (Ob.recv hK (hW.2.2 k (by omega)).1 rfl) (hW.2.2 k (by omega)) rfl hl.1 rfl (Nat.le_of_ble_eq_true rfl) dX1_carve_28 ⟨Nat.le_of_ble_eq_true rfl, Nat.le_of_ble_eq_true rfl⟩ ?_
  refine W.eq (g2 := F0 m 31 ls [.int (rk σ k (3 * i2 + j))]) rfl ?_
  refine lv_istore (lv' := [(6, .int (rk σ k (3 * i2 + j))), (5, .ref (ad k)), (0, .ref x), (1, .int (nI k)), (2, .int (nI j)), (3, .int (nI i2)), (4, .int (nI i3))]) hx hb dX1_carve_31 hl (by decide) rfl (fun ls hl => ?_)
  refine lv_aload hx hb dX1_carve_33 (lv_at hl 1 rfl) ?_
  refine lv_iload_n hx hb dX1_carve_35 rfl (lv_at hl 4 rfl) ?_
  refine lv_iload_n hx hb dX1_carve_36 rfl (lv_at hl 5 rfl) ?_
  refine lv_iload hx hb dX1_carve_37 (lv_at hl 6 rfl) ?_
  refine m_V (rest := []) S hK (c_X0_putRune l Γ bs (ad k) (qp σ k) (qu σ k) (qB σ k) (qE σ k) (qg σ k) (rk σ k) (ak σ k) (lk σ k) (hI.2.1 k (by omega)).1 (hI.2.1 k (by omega)).2.1 j i2 (nI i3) (by omega) (by omega) (by have := hy.1 k hk; omega)) (cwV 3 hts gX1_carve_X0_putRune rfl rfl rfl (by decide +kernel) ⟨Nat.le_of_ble_eq_true rfl, Nat.le_of_ble_eq_true rfl⟩) (Ob.recv hK (hW.2.2 k (by omega)).1 rfl) (hW.2.2 k (by omega)) rfl hl.1 rfl (Nat.le_of_ble_eq_true rfl) dX1_carve_39 ⟨Nat.le_of_ble_eq_true rfl, Nat.le_of_ble_eq_true rfl⟩ hlo (fun v H1 lc1 hp hlo => ?_)
  obtain ⟨rfl, hSW, hz1, ho1⟩ := hp
  refine W.eq (g2 := F0 m 42 ls []) rfl ?_
  refine lv_iload hx hb dX1_carve_42 (lv_at hl 0 rfl) ?_
  refine W.widen (k := 4) (n := 24) (Nat.le_of_ble_eq_true rfl) (Nat.le_of_ble_eq_true rfl) (vx_ret ?_)
  exact m_iret (Post := fun H v H2 => cd3 (spotP σ (nI k) (nI j) (nI i2)) (inb (nI i3) 24) (qg σ ((nI k).toInt.toNat) = 0) = 0 ∧ v = some (.int (rk σ ((nI k).toInt.toNat) (3 * (nI i2).toInt.toNat + (nI j).toInt.toNat))) ∧ (∃ ad2, CW Γ x (o_rune σ (36 * (nI k).toInt.toNat + (3 * (nI i2).toInt.toNat + (nI j).toInt.toNat)) ((nI i3))) ad2 H2 ∧ Ly b0 (o_rune σ (36 * (nI k).toInt.toNat + (3 * (nI i2).toInt.toNat + (nI j).toInt.toNat)) ((nI i3))) ad2) ∧ FrC x σ ad H H2) hx hb hr hlk hlo dX1_carve_44 ⟨cd3_0 ⟨((inb_nI (by omega)).mpr hk), (inb_nI (by omega)).mpr hj, by rw [toN (by omega)]; exact (inb_nI (by omega)).mpr hi2⟩ ((inb_nI (by omega)).mpr hi3) (by rw [toN (by omega)]; exact hthk), by rw [toN (by omega), toN (by omega), toN (by omega)], ⟨ad, by rw [toN (by omega), toN (by omega), toN (by omega)]; exact CW.carve hW hy hb0 hk (by omega) (by omega) hSW ho1, hy⟩, Nat.le_of_eq hz1.symm, fun q q1 q2 q3 q4 => ho1 q (by have := q4 k hk; omega)⟩
theorem in_X1_roll_X0 : ∀ w ∈ wsX00, w ∈ wsX1_roll := by decide +kernel
set_option maxRecDepth 100000 in
theorem ix_X1_roll_IA : ∀ w ∈ (vx_atS RX1 26 eIA nmT).filter goodWord, w ∈ wsX1_roll := by decide +kernel
set_option maxHeartbeats 4000000 in
set_option maxRecDepth 100000 in
theorem c_X1_roll (l : Launch) (hfl : l.stackTraces = false) (Γ : GG) (bs : Nat) (x : Nat) (σ : St) (ad : Nat → Nat) (hI : Iv σ) (b0 : Nat) (y z : Int32) (hy : Ly b0 σ ad) (hb0 : x + 2 ≤ b0) (hbs : bs ≤ x) : Tx l yX1_roll wsX1_roll ({ frames := 7, cells := 3, slots := 18, locals := 104 }) Γ bs [.ref x, .int y, .int z] (CW Γ x σ ad) (fun H v H2 => cd3 (inb y (qn σ)) (inb z 3) (qg σ (y.toInt.toNat) = 0) = 0 ∧ v = some (.int (nI ((qu σ (y.toInt.toNat) + z.toInt.toNat) % 3))) ∧ (∃ ad2, CW Γ x (o_up σ (y.toInt.toNat) ((qu σ (y.toInt.toNat) + z.toInt.toNat) % 3)) ad2 H2 ∧ Ly b0 (o_up σ (y.toInt.toNat) ((qu σ (y.toInt.toNat) + z.toInt.toNat) % 3)) ad2) ∧ FrC x σ ad H H2) (px (cd3 (inb y (qn σ)) (inb z 3) (qg σ (y.toInt.toNat) = 0)) [eIO, eIA, eIS]) 3 18 := by
  refine Tx.of (cc := cX1_roll) (maxL := 4) (ret := (some .int)) (by decide) rfl (Nat.le_of_ble_eq_true rfl) ?_
  intro p e s m below meth c S hr hlk hno hK hT hW ls hl
  obtain ⟨hx, hb, hml, hown, hts⟩ := id S
  obtain ⟨lc, elc⟩ : ∃ z : List Loc, z = [] := ⟨_, rfl⟩
  rw [← elc]
  have hlo : lo bs lc := by rw [elc]; exact lo.nil
  clear elc
  have hl : lv_has ls 4 [(0, .ref x), (1, .int y), (2, .int z)] := hl
  have hn40 := hI.1
  refine lv_aload_n hx hb dX1_roll_0 rfl (lv_at hl 0 rfl) ?_
  refine lv_iload_n hx hb dX1_roll_1 rfl (lv_at hl 1 rfl) ?_
  refine t_V (rest := []) S hK hT (c_X1_known l hfl Γ bs x σ ad hI y) (cwV 1 hts gX1_roll_X1_known rfl rfl rfl (by decide +kernel) ⟨Nat.le_of_ble_eq_true rfl, Nat.le_of_ble_eq_true rfl⟩) (Ob.recv hK hW.1 rfl) hW rfl hl.1 rfl (Nat.le_of_ble_eq_true rfl) dX1_roll_2 ⟨Nat.le_of_ble_eq_true rfl, Nat.le_of_ble_eq_true rfl⟩ hlo hno hlk (fun E h => ⟨0, by rw [h.2]; rfl, cd3_1 (fun q => h.1 q)⟩) (Nat.le_of_ble_eq_true rfl) (Nat.le_of_ble_eq_true rfl) (fun v H1 locs1 hp hlo => ?_)
  obtain ⟨hin, rfl, rfl⟩ := hp
  obtain ⟨k, hk, rfl⟩ := inb_ex hin
  obtain ⟨hp0k, hp12k, hu3k, hg1k⟩ := hI.2.1 k hk
  refine W.eq (g2 := F0 m 5 ls [.ref (ad (nI k).toInt.toNat)]) rfl ?_
  refine x_v (show Value.ref (ad (nI k).toInt.toNat) = .ref (ad k) by rw [toN (by omega)]) ?_
  refine lv_astore_n (lv' := [(3, .ref (ad k)), (0, .ref x), (1, .int (nI k)), (2, .int z)]) hx hb dX1_roll_5 rfl hl (by decide) rfl (fun ls hl => ?_)
  refine lv_iload_n hx hb dX1_roll_6 rfl (lv_at hl 3 rfl) ?_
  refine lv_if_lt (tgt := 15) hx hb dX1_roll_7 (by decide) (fun c_1 => ?_) (fun c_1 => ?_)
  · skip
    exact t_throw (is := 73) (text := "a stick is rolled by 0 to 2 sides") S hfl (by decide +kernel) (by decide +kernel) (by decide +kernel) ix_X1_roll_IA xb_IA og_IA (by decide +kernel) hT hlo hl.1 dX1_roll_15 dX1_roll_18 dX1_roll_19 dX1_roll_21 dX1_roll_24 hno hlk (Nat.le_of_ble_eq_true rfl) (Nat.le_of_ble_eq_true rfl) (Nat.le_of_ble_eq_true rfl) (Nat.le_of_ble_eq_true rfl) (Nat.le_of_ble_eq_true rfl) (Nat.le_of_ble_eq_true rfl) ⟨1, rfl, cd3_2 ((inb_nI (by omega)).mpr hk) (fun q => inb_lt0 c_1 q)⟩
  · skip
    refine lv_iload_n hx hb dX1_roll_10 rfl (lv_at hl 3 rfl) ?_
    refine lv_iconst (v := nI 3) hx hb dX1_roll_11 (by decide +kernel) ?_
    refine lv_icmp_lt (tgt := 25) hx hb dX1_roll_12 (by decide) (fun c_2 => ?_) (fun c_2 => ?_)
    · skip
      obtain ⟨j, hj, rfl⟩ := inb_ex (inb_of2 c_1 c_2 (by decide))
      refine lv_aload_n hx hb dX1_roll_25 rfl (lv_at hl 0 rfl) ?_
      refine t_S (rest := []) S hK hT (c_X1_needThere l hfl Γ bs (ad k) (qp σ k) (qu σ k) (qB σ k) (qE σ k) (qg σ k) (rk σ k) (ak σ k) (lk σ k) (hI.2.1 k (by omega)).2.2.2) (cwS 1 hts gX1_roll_X1_needThere rfl rfl rfl (by decide +kernel) ⟨Nat.le_of_ble_eq_true rfl, Nat.le_of_ble_eq_true rfl⟩) (hW.2.2 k (by omega)) rfl hl.1 rfl (Nat.le_of_ble_eq_true rfl) dX1_roll_26 ⟨Nat.le_of_ble_eq_true rfl, Nat.le_of_ble_eq_true rfl⟩ hlo hno hlk (fun E h => ⟨2, by rw [h.2]; rfl, cd3_3 ((inb_nI (by omega)).mpr hk) ((inb_nI (by omega)).mpr hj) (fun q => h.1 (by rw [toN (by omega)] at q; exact q))⟩) (Nat.le_of_ble_eq_true rfl) (Nat.le_of_ble_eq_true rfl) (fun v H1 locs1 hp hlo => ?_)
      obtain ⟨hthk, rfl, rfl⟩ := hp
      refine W.eq (g2 := F0 m 29 ls []) rfl ?_
      refine lv_aload_n hx hb dX1_roll_29 rfl (lv_at hl 0 rfl) ?_
      refine lv_aload_n hx hb dX1_roll_30 rfl (lv_at hl 0 rfl) ?_
      refine x_get S in_X1_roll_X0 hK (hW.2.2 k (by omega)).1 rfl 1 (by decide) (by decide +kernel) rfl rfl dX1_roll_31 ?_
      refine lv_iload_n hx hb dX1_roll_34 rfl (lv_at hl 3 rfl) ?_
      refine x_add hx hb dX1_roll_35 ?_
      refine lv_iconst (v := nI 3) hx hb dX1_roll_36 (by decide +kernel) ?_
      refine x_rem hx hb (by omega) (by omega) (by omega) dX1_roll_37 ?_
      refine x_putX S in_X1_roll_X0 tyX0 tyX0_ok nmX0 hK (hW.2.2 k (by omega)).1 rfl 1 (by decide) (by decide +kernel) rfl (Or.inl rfl) (tyX0_ok 1 (by decide)) rfl rfl (Nat.le_of_ble_eq_true rfl) hlo (by have := hy.1 k hk; omega) dX1_roll_38 (fun H1 lc1 hO1 hz1 ho1 hlo => ?_)
      have hO1 : Ob Γ 0 (ad k) [.int (nI (qp σ k)), .int (nI (((qu σ k) + j) % 3)), .int (qB σ k), .int (qE σ k), .int (nI (qg σ k)), .ref (ad k + 1), .ref (ad k + 2), .ref (ad k + 3)] H1 := hO1
      refine lv_aload_n hx hb dX1_roll_41 rfl (lv_at hl 0 rfl) ?_
      refine x_get S in_X1_roll_X0 hK hO1 rfl 1 (by decide) (by decide +kernel) rfl rfl dX1_roll_42 ?_
      refine W.widen (k := 3) (n := 18) (Nat.le_of_ble_eq_true rfl) (Nat.le_of_ble_eq_true rfl) (vx_ret ?_)
      exact m_iret (Post := fun H v H2 => cd3 (inb (nI k) (qn σ)) (inb (nI j) 3) (qg σ ((nI k).toInt.toNat) = 0) = 0 ∧ v = some (.int (nI ((qu σ ((nI k).toInt.toNat) + (nI j).toInt.toNat) % 3))) ∧ (∃ ad2, CW Γ x (o_up σ ((nI k).toInt.toNat) ((qu σ ((nI k).toInt.toNat) + (nI j).toInt.toNat) % 3)) ad2 H2 ∧ Ly b0 (o_up σ ((nI k).toInt.toNat) ((qu σ ((nI k).toInt.toNat) + (nI j).toInt.toNat) % 3)) ad2) ∧ FrC x σ ad H H2) hx hb hr hlk hlo dX1_roll_45 ⟨cd3_0 ((inb_nI (by omega)).mpr hk) ((inb_nI (by omega)).mpr hj) (by rw [toN (by omega)]; exact hthk), by rw [toN (by omega), toN (by omega)], ⟨ad, by rw [toN (by omega), toN (by omega)]; exact CW.roll hW hy hb0 hk hO1 ho1, hy⟩, Nat.le_of_eq hz1.symm, fun q q1 q2 q3 q4 => ho1 q (by have := q4 k hk; omega)⟩
    · skip
      exact t_throw (is := 73) (text := "a stick is rolled by 0 to 2 sides") S hfl (by decide +kernel) (by decide +kernel) (by decide +kernel) ix_X1_roll_IA xb_IA og_IA (by decide +kernel) hT hlo hl.1 dX1_roll_15 dX1_roll_18 dX1_roll_19 dX1_roll_21 dX1_roll_24 hno hlk (Nat.le_of_ble_eq_true rfl) (Nat.le_of_ble_eq_true rfl) (Nat.le_of_ble_eq_true rfl) (Nat.le_of_ble_eq_true rfl) (Nat.le_of_ble_eq_true rfl) (Nat.le_of_ble_eq_true rfl) ⟨1, rfl, cd3_2 ((inb_nI (by omega)).mpr hk) (fun q => c_2 (inb_lt q (Nat.le_refl _) (by decide)))⟩
theorem in_X1_breakAt_X0 : ∀ w ∈ wsX00, w ∈ wsX1_breakAt := by decide +kernel
theorem in_X1_breakAt_X1 : ∀ w ∈ wsX10, w ∈ wsX1_breakAt := by decide +kernel
set_option maxHeartbeats 4000000 in
set_option maxRecDepth 100000 in
theorem c_X1_breakAt (l : Launch) (Γ : GG) (bs : Nat) (x : Nat) (σ : St) (ad : Nat → Nat) (hI : Iv σ) (b0 k j : Nat) (hk : k < qn σ) (hj : j < qp σ k - 1) (hn38 : qn σ ≤ 38) (hy : Ly b0 σ ad) (hb0 : x + 2 ≤ b0) (hbs : bs ≤ x) : Mt l yX1_breakAt wsX1_breakAt ({ frames := 3, cells := 8, slots := 132, locals := 72 }) Γ bs [.ref x, .ref (ad k), .int (nI j)] (fun H => CW Γ x σ ad H ∧ b0 ≤ H.size) (fun H v H2 => v = some (.int (nI (qn σ))) ∧ (∃ ad2, CW Γ x (sBend σ k j) ad2 H2 ∧ Ly b0 (sBend σ k j) ad2) ∧ FrC x σ ad H H2) 8 132 := by
  refine Mt.of (cc := cX1_breakAt) (maxL := 7) (ret := (some .int)) (by decide) rfl (Nat.le_of_ble_eq_true rfl) ?_
  intro p e s m below meth c S hr hlk hin hK hW ls hl
  obtain ⟨hx, hb, hml, hown, hts⟩ := id S
  obtain ⟨lc, elc⟩ : ∃ z : List Loc, z = [] := ⟨_, rfl⟩
  rw [← elc]
  have hlo : lo bs lc := by rw [elc]; exact lo.nil
  clear elc
  have hl : lv_has ls 7 [(0, .ref x), (1, .ref (ad k)), (2, .int (nI j))] := hl
  have hn40 := hI.1
  obtain ⟨hp0, hp12, hu3, hg1⟩ := hI.2.1 k hk
  have hak := hy.1 k hk
  have hltk := hW.1.lt hk
  obtain ⟨a1, ha⟩ : ∃ z : Nat, s.heap.size = z := ⟨_, rfl⟩
  obtain ⟨a2, ha2⟩ : ∃ z : Nat, z = a1 + 4 := ⟨_, rfl⟩
  have hb9 : b0 ≤ a1 := by rw [← ha]; exact hW.2
  rw [ha] at hltk
  refine lv_iload_n hx hb dX1_breakAt_0 rfl (lv_at hl 2 rfl) ?_
  refine lv_iconst (v := nI 1) hx hb dX1_breakAt_1 (by decide +kernel) ?_
  refine x_add hx hb dX1_breakAt_2 ?_
  refine lv_istore_n (lv' := [(3, .int (nI (j + 1))), (0, .ref x), (1, .ref (ad k)), (2, .int (nI j))]) hx hb dX1_breakAt_3 rfl hl (by decide) rfl (fun ls hl => ?_)
  refine x_new (ci := 0) (fs := [.int (nI 0), .int (nI 0), .int (nI 0), .int (nI 0), .int (nI 0), .null, .null, .null]) S in_X1_breakAt_X0 tyX0 tyX0_ok (by decide +kernel) (by decide +kernel) (by decide +kernel) hK rfl (fun j hj => by rcases (show j = 0 ∨ j = 1 ∨ j = 2 ∨ j = 3 ∨ j = 4 ∨ j = 5 ∨ j = 6 ∨ j = 7 by omega) with rfl | rfl | rfl | rfl | rfl | rfl | rfl | rfl <;> rfl) (Nat.le_of_ble_eq_true rfl) (Nat.le_of_ble_eq_true rfl) dX1_breakAt_4 (fun H1 hO1 hz1 ho1 => ?_)
  rw [ha] at hO1 hz1 ho1
  refine x_v (congrArg Value.ref ha) ?_
  have hlow : ∀ q : Nat, q < a1 → H1[q]? = s.heap[q]? := ho1
  refine lv_dup hx hb dX1_breakAt_7 rfl ?_
  refine lv_iload_n hx hb dX1_breakAt_8 rfl (lv_at hl 0 rfl) ?_
  refine m_I (rest := [.ref a1]) S hK (c_X0_init l Γ bs a1 (j + 1) (by omega)) (cwI 1 hts gX1_breakAt_X0_init rfl rfl rfl (hts (.initialized RX0) (by decide +kernel)) (hts (.methodLink RX1 42 yX0_init) (by decide +kernel)) (hts (.instanceMethod yX0_init) (by decide +kernel)) rfl (by decide +kernel) ⟨Nat.le_of_ble_eq_true rfl, Nat.le_of_ble_eq_true rfl⟩) ⟨hO1, hz1⟩ rfl hl.1 rfl (Nat.le_of_ble_eq_true rfl) dX1_breakAt_9 ⟨Nat.le_of_ble_eq_true rfl, Nat.le_of_ble_eq_true rfl⟩ hlo (fun v H1 lc1 hp hlo => ?_)
  obtain ⟨rfl, hSn, hsz1, ho1⟩ := hp
  refine W.eq (g2 := F0 m 12 ls [.ref a1]) rfl ?_
  have hlow : ∀ q : Nat, q < a1 → H1[q]? = s.heap[q]? := fun q hq => (ho1 q (by omega)).trans (hlow q hq)
  have hS1 := hSn
  refine lv_astore (lv' := [(4, .ref a1), (3, .int (nI (j + 1))), (0, .ref x), (1, .ref (ad k)), (2, .int (nI j))]) hx hb dX1_breakAt_12 hl (by decide) rfl (fun ls hl => ?_)
  refine lv_aload hx hb dX1_breakAt_14 (lv_at hl 0 rfl) ?_
  refine lv_aload_n hx hb dX1_breakAt_16 rfl (lv_at hl 3 rfl) ?_
  refine lv_iconst (v := nI 0) hx hb dX1_breakAt_17 (by decide +kernel) ?_
  refine lv_iload_n hx hb dX1_breakAt_18 rfl (lv_at hl 1 rfl) ?_
  refine lv_iconst (v := nI 0) hx hb dX1_breakAt_19 (by decide +kernel) ?_
  refine lv_iconst (v := nI 0) hx hb dX1_breakAt_20 (by decide +kernel) ?_
  refine m_V (rest := []) S hK (c_X0_takePlaces l Γ bs a1 (j + 1) (0) (-1) (-1) 0 ((fun _ => -1)) ((fun _ => nI 12)) ((fun _ => nI 0)) (by omega) (by omega) (ad k) (qp σ k) (qu σ k) (qB σ k) (qE σ k) (qg σ k) (rk σ k) (ak σ k) (lk σ k) (hI.2.1 k (by omega)).1 (hI.2.1 k (by omega)).2.1 (fun q => hI.2.2.2.2.2.1 _) 0 (j + 1) 0 0 (by omega) (by omega) (by omega) (by omega) (by have := hW.1.lt (k := k) (by omega); omega) (by omega)) (cwV 5 hts gX1_breakAt_X0_takePlaces rfl rfl rfl (by decide +kernel) ⟨Nat.le_of_ble_eq_true rfl, Nat.le_of_ble_eq_true rfl⟩) (Ob.recv hK hS1.1 rfl) ⟨hS1, (hW.1.2.2 k (by omega)).kept (fun q q1 q2 => hlow q (by have := hW.1.lt (k := k) (by omega); omega))⟩ rfl hl.1 rfl (Nat.le_of_ble_eq_true rfl) dX1_breakAt_21 ⟨Nat.le_of_ble_eq_true rfl, Nat.le_of_ble_eq_true rfl⟩ hlo (fun v H1 lc1 hp hlo => ?_)
  obtain ⟨rfl, hSn, hFq, hzq⟩ := hp
  refine W.eq (g2 := F0 m 24 ls []) rfl ?_
  have hlow : ∀ q : Nat, q < a1 → H1[q]? = s.heap[q]? := fun q hq => (hFq.2 q (by omega) (by omega)).trans (hlow q hq)
  have hS1 := hSn
  have hsz1 := hzq.trans hsz1
  refine lv_aload hx hb dX1_breakAt_24 (lv_at hl 0 rfl) ?_
  refine lv_aload_n hx hb dX1_breakAt_26 rfl (lv_at hl 3 rfl) ?_
  refine x_get S in_X1_breakAt_X0 hK ((hW.1.2.2 k (by omega)).1.kept (hlow _ (by omega))) rfl 1 (by decide) (by decide +kernel) rfl rfl dX1_breakAt_27 ?_
  refine x_putX S in_X1_breakAt_X0 tyX0 tyX0_ok nmX0 hK hS1.1 rfl 1 (by decide) (by decide +kernel) rfl (Or.inl rfl) (tyX0_ok 1 (by decide)) rfl rfl (Nat.le_of_ble_eq_true rfl) hlo (by omega) dX1_breakAt_30 (fun H1 lc1 hO1 hz1 ho1 hlo => ?_)
  have hO1 : Ob Γ 0 a1 [.int (nI (j + 1)), .int (nI (qu σ k)), .int ((-1)), .int ((-1)), .int (nI 0), .ref (a1 + 1), .ref (a1 + 2), .ref (a1 + 3)] H1 := hO1
  have hlow : ∀ q : Nat, q < a1 → H1[q]? = s.heap[q]? := fun q hq => (ho1 q (by omega)).trans (hlow q hq)
  have hS1 := (⟨hO1, hS1.2.1.kept (ho1 _ (by omega)), hS1.2.2.1.kept (ho1 _ (by omega)), hS1.2.2.2.kept (ho1 _ (by omega))⟩ : _ ∧ _ ∧ _ ∧ _)
  have hsz1 := hz1.trans hsz1
  have hS1 : SW Γ a1 (j + 1) (qu σ k) (-1) (-1) 0 (tpR ((fun _ => -1)) (rk σ k) 0 0 0 (3 * (j + 1))) (tpB ((fun _ => nI 12)) (ak σ k) 0 0 ((j + 1) - 1)) (tpB ((fun _ => nI 0)) (lk σ k) 0 0 ((j + 1) - 1)) H1 := hS1
  refine lv_aload hx hb dX1_breakAt_33 (lv_at hl 0 rfl) ?_
  refine lv_aload_n hx hb dX1_breakAt_35 rfl (lv_at hl 3 rfl) ?_
  refine x_get S in_X1_breakAt_X0 hK ((hW.1.2.2 k (by omega)).1.kept (hlow _ (by omega))) rfl 2 (by decide) (by decide +kernel) rfl rfl dX1_breakAt_36 ?_
  refine x_putX S in_X1_breakAt_X0 tyX0 tyX0_ok nmX0 hK hS1.1 rfl 2 (by decide) (by decide +kernel) rfl (Or.inl rfl) (tyX0_ok 2 (by decide)) rfl rfl (Nat.le_of_ble_eq_true rfl) hlo (by omega) dX1_breakAt_39 (fun H1 lc1 hO1 hz1 ho1 hlo => ?_)
  have hO1 : Ob Γ 0 a1 [.int (nI (j + 1)), .int (nI (qu σ k)), .int (qB σ k), .int ((-1)), .int (nI 0), .ref (a1 + 1), .ref (a1 + 2), .ref (a1 + 3)] H1 := hO1
  have hlow : ∀ q : Nat, q < a1 → H1[q]? = s.heap[q]? := fun q hq => (ho1 q (by omega)).trans (hlow q hq)
  have hS1 := (⟨hO1, hS1.2.1.kept (ho1 _ (by omega)), hS1.2.2.1.kept (ho1 _ (by omega)), hS1.2.2.2.kept (ho1 _ (by omega))⟩ : _ ∧ _ ∧ _ ∧ _)
  have hsz1 := hz1.trans hsz1
  have hS1 : SW Γ a1 (j + 1) (qu σ k) (qB σ k) (-1) 0 (tpR ((fun _ => -1)) (rk σ k) 0 0 0 (3 * (j + 1))) (tpB ((fun _ => nI 12)) (ak σ k) 0 0 ((j + 1) - 1)) (tpB ((fun _ => nI 0)) (lk σ k) 0 0 ((j + 1) - 1)) H1 := hS1
  refine lv_aload hx hb dX1_breakAt_42 (lv_at hl 0 rfl) ?_
  refine lv_aload_n hx hb dX1_breakAt_44 rfl (lv_at hl 2 rfl) ?_
  refine x_get S in_X1_breakAt_X1 hK (hW.1.1.kept (hlow _ (by omega))) rfl 2 (by decide) (by decide +kernel) rfl rfl dX1_breakAt_45 ?_
  refine x_putX S in_X1_breakAt_X0 tyX0 tyX0_ok nmX0 hK hS1.1 rfl 3 (by decide) (by decide +kernel) rfl (Or.inl rfl) (tyX0_ok 3 (by decide)) rfl rfl (Nat.le_of_ble_eq_true rfl) hlo (by omega) dX1_breakAt_48 (fun H1 lc1 hO1 hz1 ho1 hlo => ?_)
  have hO1 : Ob Γ 0 a1 [.int (nI (j + 1)), .int (nI (qu σ k)), .int (qB σ k), .int (qb σ), .int (nI 0), .ref (a1 + 1), .ref (a1 + 2), .ref (a1 + 3)] H1 := hO1
  have hlow : ∀ q : Nat, q < a1 → H1[q]? = s.heap[q]? := fun q hq => (ho1 q (by omega)).trans (hlow q hq)
  have hS1 := (⟨hO1, hS1.2.1.kept (ho1 _ (by omega)), hS1.2.2.1.kept (ho1 _ (by omega)), hS1.2.2.2.kept (ho1 _ (by omega))⟩ : _ ∧ _ ∧ _ ∧ _)
  have hsz1 := hz1.trans hsz1
  have hS1 : SW Γ a1 (j + 1) (qu σ k) (qB σ k) (qb σ) 0 (tpR ((fun _ => -1)) (rk σ k) 0 0 0 (3 * (j + 1))) (tpB ((fun _ => nI 12)) (ak σ k) 0 0 ((j + 1) - 1)) (tpB ((fun _ => nI 0)) (lk σ k) 0 0 ((j + 1) - 1)) H1 := hS1
  rw [← ha2] at hsz1
  refine x_new (ci := 0) (fs := [.int (nI 0), .int (nI 0), .int (nI 0), .int (nI 0), .int (nI 0), .null, .null, .null]) S in_X1_breakAt_X0 tyX0 tyX0_ok (by decide +kernel) (by decide +kernel) (by decide +kernel) hK rfl (fun j hj => by rcases (show j = 0 ∨ j = 1 ∨ j = 2 ∨ j = 3 ∨ j = 4 ∨ j = 5 ∨ j = 6 ∨ j = 7 by omega) with rfl | rfl | rfl | rfl | rfl | rfl | rfl | rfl <;> rfl) (Nat.le_of_ble_eq_true rfl) (Nat.le_of_ble_eq_true rfl) dX1_breakAt_51 (fun H1 hO1 hz1 ho1 => ?_)
  rw [hsz1] at hO1 hz1 ho1
  refine x_v (congrArg Value.ref hsz1) ?_
  have hlow : ∀ q : Nat, q < a1 → H1[q]? = s.heap[q]? := fun q hq => (ho1 q (by omega)).trans (hlow q hq)
  have hS1 := hS1.kept (fun q q1 q2 => ho1 q (by omega))
  refine lv_dup hx hb dX1_breakAt_54 rfl ?_
  refine lv_aload_n hx hb dX1_breakAt_55 rfl (lv_at hl 3 rfl) ?_
  refine x_get S in_X1_breakAt_X0 hK ((hW.1.2.2 k (by omega)).1.kept (hlow _ (by omega))) rfl 0 (by decide) (by decide +kernel) rfl rfl dX1_breakAt_56 ?_
  refine lv_iload_n hx hb dX1_breakAt_59 rfl (lv_at hl 1 rfl) ?_
  refine x_sub hx hb (by omega) dX1_breakAt_60 ?_
  refine m_I (rest := [.ref a2]) S hK (c_X0_init l Γ bs a2 ((qp σ k) - (j + 1)) (by omega)) (cwI 1 hts gX1_breakAt_X0_init rfl rfl rfl (hts (.initialized RX0) (by decide +kernel)) (hts (.methodLink RX1 42 yX0_init) (by decide +kernel)) (hts (.instanceMethod yX0_init) (by decide +kernel)) rfl (by decide +kernel) ⟨Nat.le_of_ble_eq_true rfl, Nat.le_of_ble_eq_true rfl⟩) ⟨hO1, hz1⟩ rfl hl.1 rfl (Nat.le_of_ble_eq_true rfl) dX1_breakAt_61 ⟨Nat.le_of_ble_eq_true rfl, Nat.le_of_ble_eq_true rfl⟩ hlo (fun v H1 lc1 hp hlo => ?_)
  obtain ⟨rfl, hSn, hsz1, ho1⟩ := hp
  refine W.eq (g2 := F0 m 64 ls [.ref a2]) rfl ?_
  have hlow : ∀ q : Nat, q < a1 → H1[q]? = s.heap[q]? := fun q hq => (ho1 q (by omega)).trans (hlow q hq)
  have hS1 := hS1.kept (fun q q1 q2 => ho1 q (by omega))
  have hS2 := hSn
  refine lv_astore (lv' := [(5, .ref a2), (4, .ref a1), (3, .int (nI (j + 1))), (0, .ref x), (1, .ref (ad k)), (2, .int (nI j))]) hx hb dX1_breakAt_64 hl (by decide) rfl (fun ls hl => ?_)
  refine lv_aload hx hb dX1_breakAt_66 (lv_at hl 0 rfl) ?_
  refine lv_aload_n hx hb dX1_breakAt_68 rfl (lv_at hl 4 rfl) ?_
  refine lv_iload_n hx hb dX1_breakAt_69 rfl (lv_at hl 2 rfl) ?_
  refine lv_aload_n hx hb dX1_breakAt_70 rfl (lv_at hl 4 rfl) ?_
  refine x_get S in_X1_breakAt_X0 hK ((hW.1.2.2 k (by omega)).1.kept (hlow _ (by omega))) rfl 0 (by decide) (by decide +kernel) rfl rfl dX1_breakAt_71 ?_
  refine lv_iload_n hx hb dX1_breakAt_74 rfl (lv_at hl 2 rfl) ?_
  refine x_sub hx hb (by omega) dX1_breakAt_75 ?_
  refine lv_iconst (v := nI 0) hx hb dX1_breakAt_76 (by decide +kernel) ?_
  refine lv_iconst (v := nI 0) hx hb dX1_breakAt_77 (by decide +kernel) ?_
  refine m_V (rest := []) S hK (c_X0_takePlaces l Γ bs a2 ((qp σ k) - (j + 1)) (0) (-1) (-1) 0 ((fun _ => -1)) ((fun _ => nI 12)) ((fun _ => nI 0)) (by omega) (by omega) (ad k) (qp σ k) (qu σ k) (qB σ k) (qE σ k) (qg σ k) (rk σ k) (ak σ k) (lk σ k) (hI.2.1 k (by omega)).1 (hI.2.1 k (by omega)).2.1 (fun q => hI.2.2.2.2.2.1 _) (j + 1) ((qp σ k) - (j + 1)) 0 0 (by omega) (by omega) (by omega) (by omega) (by have := hW.1.lt (k := k) (by omega); omega) (by omega)) (cwV 5 hts gX1_breakAt_X0_takePlaces rfl rfl rfl (by decide +kernel) ⟨Nat.le_of_ble_eq_true rfl, Nat.le_of_ble_eq_true rfl⟩) (Ob.recv hK hS2.1 rfl) ⟨hS2, (hW.1.2.2 k (by omega)).kept (fun q q1 q2 => hlow q (by have := hW.1.lt (k := k) (by omega); omega))⟩ rfl hl.1 rfl (Nat.le_of_ble_eq_true rfl) dX1_breakAt_78 ⟨Nat.le_of_ble_eq_true rfl, Nat.le_of_ble_eq_true rfl⟩ hlo (fun v H1 lc1 hp hlo => ?_)
  obtain ⟨rfl, hSn, hFq, hzq⟩ := hp
  refine W.eq (g2 := F0 m 81 ls []) rfl ?_
  have hlow : ∀ q : Nat, q < a1 → H1[q]? = s.heap[q]? := fun q hq => (hFq.2 q (by omega) (by omega)).trans (hlow q hq)
  have hS1 := hS1.kept (fun q q1 q2 => hFq.2 q (by omega) (by omega))
  have hS2 := hSn
  have hsz1 := hzq.trans hsz1
  refine lv_aload hx hb dX1_breakAt_81 (lv_at hl 0 rfl) ?_
  refine lv_aload_n hx hb dX1_breakAt_83 rfl (lv_at hl 4 rfl) ?_
  refine x_get S in_X1_breakAt_X0 hK ((hW.1.2.2 k (by omega)).1.kept (hlow _ (by omega))) rfl 1 (by decide) (by decide +kernel) rfl rfl dX1_breakAt_84 ?_
  refine x_putX S in_X1_breakAt_X0 tyX0 tyX0_ok nmX0 hK hS2.1 rfl 1 (by decide) (by decide +kernel) rfl (Or.inl rfl) (tyX0_ok 1 (by decide)) rfl rfl (Nat.le_of_ble_eq_true rfl) hlo (by omega) dX1_breakAt_87 (fun H1 lc1 hO1 hz1 ho1 hlo => ?_)
  have hO1 : Ob Γ 0 a2 [.int (nI ((qp σ k) - (j + 1))), .int (nI (qu σ k)), .int ((-1)), .int ((-1)), .int (nI 0), .ref (a2 + 1), .ref (a2 + 2), .ref (a2 + 3)] H1 := hO1
  have hlow : ∀ q : Nat, q < a1 → H1[q]? = s.heap[q]? := fun q hq => (ho1 q (by omega)).trans (hlow q hq)
  have hS2 := (⟨hO1, hS2.2.1.kept (ho1 _ (by omega)), hS2.2.2.1.kept (ho1 _ (by omega)), hS2.2.2.2.kept (ho1 _ (by omega))⟩ : _ ∧ _ ∧ _ ∧ _)
  have hS1 := hS1.kept (fun q q1 q2 => ho1 q (by omega))
  have hsz1 := hz1.trans hsz1
  have hS2 : SW Γ a2 ((qp σ k) - (j + 1)) (qu σ k) (-1) (-1) 0 (tpR ((fun _ => -1)) (rk σ k) (j + 1) 0 0 (3 * ((qp σ k) - (j + 1)))) (tpB ((fun _ => nI 12)) (ak σ k) (j + 1) 0 (((qp σ k) - (j + 1)) - 1)) (tpB ((fun _ => nI 0)) (lk σ k) (j + 1) 0 (((qp σ k) - (j + 1)) - 1)) H1 := hS2
  refine lv_aload hx hb dX1_breakAt_90 (lv_at hl 0 rfl) ?_
  refine lv_aload_n hx hb dX1_breakAt_92 rfl (lv_at hl 3 rfl) ?_
  refine x_get S in_X1_breakAt_X1 hK (hW.1.1.kept (hlow _ (by omega))) rfl 2 (by decide) (by decide +kernel) rfl rfl dX1_breakAt_93 ?_
  refine x_putX S in_X1_breakAt_X0 tyX0 tyX0_ok nmX0 hK hS2.1 rfl 2 (by decide) (by decide +kernel) rfl (Or.inl rfl) (tyX0_ok 2 (by decide)) rfl rfl (Nat.le_of_ble_eq_true rfl) hlo (by omega) dX1_breakAt_96 (fun H1 lc1 hO1 hz1 ho1 hlo => ?_)
  have hO1 : Ob Γ 0 a2 [.int (nI ((qp σ k) - (j + 1))), .int (nI (qu σ k)), .int (qb σ), .int ((-1)), .int (nI 0), .ref (a2 + 1), .ref (a2 + 2), .ref (a2 + 3)] H1 := hO1
  have hlow : ∀ q : Nat, q < a1 → H1[q]? = s.heap[q]? := fun q hq => (ho1 q (by omega)).trans (hlow q hq)
  have hS2 := (⟨hO1, hS2.2.1.kept (ho1 _ (by omega)), hS2.2.2.1.kept (ho1 _ (by omega)), hS2.2.2.2.kept (ho1 _ (by omega))⟩ : _ ∧ _ ∧ _ ∧ _)
  have hS1 := hS1.kept (fun q q1 q2 => ho1 q (by omega))
  have hsz1 := hz1.trans hsz1
  have hS2 : SW Γ a2 ((qp σ k) - (j + 1)) (qu σ k) (qb σ) (-1) 0 (tpR ((fun _ => -1)) (rk σ k) (j + 1) 0 0 (3 * ((qp σ k) - (j + 1)))) (tpB ((fun _ => nI 12)) (ak σ k) (j + 1) 0 (((qp σ k) - (j + 1)) - 1)) (tpB ((fun _ => nI 0)) (lk σ k) (j + 1) 0 (((qp σ k) - (j + 1)) - 1)) H1 := hS2
  refine lv_aload hx hb dX1_breakAt_99 (lv_at hl 0 rfl) ?_
  refine lv_aload_n hx hb dX1_breakAt_101 rfl (lv_at hl 4 rfl) ?_
  refine x_get S in_X1_breakAt_X0 hK ((hW.1.2.2 k (by omega)).1.kept (hlow _ (by omega))) rfl 3 (by decide) (by decide +kernel) rfl rfl dX1_breakAt_102 ?_
  refine x_putX S in_X1_breakAt_X0 tyX0 tyX0_ok nmX0 hK hS2.1 rfl 3 (by decide) (by decide +kernel) rfl (Or.inl rfl) (tyX0_ok 3 (by decide)) rfl rfl (Nat.le_of_ble_eq_true rfl) hlo (by omega) dX1_breakAt_105 (fun H1 lc1 hO1 hz1 ho1 hlo => ?_)
  have hO1 : Ob Γ 0 a2 [.int (nI ((qp σ k) - (j + 1))), .int (nI (qu σ k)), .int (qb σ), .int (qE σ k), .int (nI 0), .ref (a2 + 1), .ref (a2 + 2), .ref (a2 + 3)] H1 := hO1
  have hlow : ∀ q : Nat, q < a1 → H1[q]? = s.heap[q]? := fun q hq => (ho1 q (by omega)).trans (hlow q hq)
  have hS2 := (⟨hO1, hS2.2.1.kept (ho1 _ (by omega)), hS2.2.2.1.kept (ho1 _ (by omega)), hS2.2.2.2.kept (ho1 _ (by omega))⟩ : _ ∧ _ ∧ _ ∧ _)
  have hS1 := hS1.kept (fun q q1 q2 => ho1 q (by omega))
  have hsz1 := hz1.trans hsz1
  have hS2 : SW Γ a2 ((qp σ k) - (j + 1)) (qu σ k) (qb σ) (qE σ k) 0 (tpR ((fun _ => -1)) (rk σ k) (j + 1) 0 0 (3 * ((qp σ k) - (j + 1)))) (tpB ((fun _ => nI 12)) (ak σ k) (j + 1) 0 (((qp σ k) - (j + 1)) - 1)) (tpB ((fun _ => nI 0)) (lk σ k) (j + 1) 0 (((qp σ k) - (j + 1)) - 1)) H1 := hS2
  have hCW := hW.1.kept (fun q hq => hlow q (by omega))
  obtain ⟨hOx, hQx, hSs⟩ := hCW
  have hFx : ∀ q : Nat, q < s.heap.size → q ≠ x → q ≠ x + 1 → (∀ i, i < qn σ → q < ad i ∨ ad i + 4 ≤ q) → _ = s.heap[q]? := fun q q1 _ _ _ => hlow q (by omega)
  refine lv_aload_n hx hb dX1_breakAt_108 rfl (lv_at hl 3 rfl) ?_
  refine lv_dup hx hb dX1_breakAt_109 rfl ?_
  refine x_get S in_X1_breakAt_X1 hK hOx rfl 2 (by decide) (by decide +kernel) rfl rfl dX1_breakAt_110 ?_
  refine lv_iconst (v := nI 1) hx hb dX1_breakAt_113 (by decide +kernel) ?_
  refine lv_iadd hx hb dX1_breakAt_114 ?_
  refine x_putX S in_X1_breakAt_X1 tyX1 tyX1_ok nmX1 hK hOx rfl 2 (by decide) (by decide +kernel) rfl (Or.inl rfl) (tyX1_ok 2 (by decide)) rfl rfl (Nat.le_of_ble_eq_true rfl) hlo (by omega) dX1_breakAt_115 (fun H1 lc1 hO1 hz1 ho1 hlo => ?_)
  have hO1 : Ob Γ 1 x [.ref (x + 1), .int (nI (qn σ)), .int ((qb σ) + (nI 1))] H1 := hO1
  have hsz1 := hz1.trans hsz1
  have hOx := hO1
  have hQx := hQx.kept (ho1 _ (by omega))
  have hSs : ∀ i, i < qn σ → SK Γ σ i (ad i) H1 := fun i hi => (hSs i hi).kept (fun q q1 q2 => ho1 q (by have := hy.1 i hi; omega))
  have hS1 := hS1.kept (fun q q1 q2 => ho1 q (by omega))
  have hS2 := hS2.kept (fun q q1 q2 => ho1 q (by omega))
  have hFx : ∀ q : Nat, q < s.heap.size → q ≠ x → q ≠ x + 1 → (∀ i, i < qn σ → q < ad i ∨ ad i + 4 ≤ q) → H1[q]? = s.heap[q]? := fun q q1 q2 q3 q4 => (ho1 q (by have := q4 k hk; omega)).trans (hFx q q1 q2 q3 q4)
  refine lv_aload_n hx hb dX1_breakAt_118 rfl (lv_at hl 4 rfl) ?_
  refine lv_iconst (v := nI 1) hx hb dX1_breakAt_119 (by decide +kernel) ?_
  refine x_putX S in_X1_breakAt_X0 tyX0 tyX0_ok nmX0 hK (hSs k hk).1 rfl 4 (by decide) (by decide +kernel) rfl (Or.inl rfl) (tyX0_ok 4 (by decide)) (by decide +kernel) (by decide +kernel) (Nat.le_of_ble_eq_true rfl) hlo (by omega) dX1_breakAt_120 (fun H1 lc1 hO1 hz1 ho1 hlo => ?_)
  have hO1 : Ob Γ 0 (ad k) [.int (nI (qp σ k)), .int (nI (qu σ k)), .int (qB σ k), .int (qE σ k), .int (nI 1), .ref (ad k + 1), .ref (ad k + 2), .ref (ad k + 3)] H1 := hO1
  have hsz1 := hz1.trans hsz1
  have hKn := (⟨hO1, (hSs k hk).2.1.kept (ho1 _ (by omega)), (hSs k hk).2.2.1.kept (ho1 _ (by omega)), (hSs k hk).2.2.2.kept (ho1 _ (by omega))⟩ : _ ∧ _ ∧ _ ∧ _)
  have hKn : SW Γ (ad k) (qp σ k) (qu σ k) (qB σ k) (qE σ k) 1 (rk σ k) (ak σ k) (lk σ k) H1 := hKn
  have hOx := hOx.kept (ho1 _ (by omega))
  have hQx := hQx.kept (ho1 _ (by omega))
  have hSs : ∀ i, i < qn σ → ¬ i = k → SK Γ σ i (ad i) H1 := fun i hi hik => (hSs i hi).kept (fun q q1 q2 => ho1 q (by rcases Nat.lt_or_gt_of_ne hik with z | z; (have := hy.2 i k z hk; omega); (have := hy.2 k i z hi; omega)))
  have hS1 := hS1.kept (fun q q1 q2 => ho1 q (by omega))
  have hS2 := hS2.kept (fun q q1 q2 => ho1 q (by omega))
  have hFx : ∀ q : Nat, q < s.heap.size → q ≠ x → q ≠ x + 1 → (∀ i, i < qn σ → q < ad i ∨ ad i + 4 ≤ q) → H1[q]? = s.heap[q]? := fun q q1 q2 q3 q4 => (ho1 q (by have := q4 k hk; omega)).trans (hFx q q1 q2 q3 q4)
  refine lv_aload_n hx hb dX1_breakAt_123 rfl (lv_at hl 3 rfl) ?_
  refine lv_aload hx hb dX1_breakAt_124 (lv_at hl 1 rfl) ?_
  refine m_V (rest := []) S hK (c_X1_put l Γ bs x (qn σ) (qb σ + nI 1) (fun k => if k < qn σ then some (ad k) else none) a1 _ (by omega) (by omega) (by omega)) (cwV 1 hts gX1_breakAt_X1_put rfl rfl rfl (by decide +kernel) ⟨Nat.le_of_ble_eq_true rfl, Nat.le_of_ble_eq_true rfl⟩) (Ob.recv hK hOx rfl) ⟨hOx, hQx, hS1.1⟩ rfl hl.1 rfl (Nat.le_of_ble_eq_true rfl) dX1_breakAt_126 ⟨Nat.le_of_ble_eq_true rfl, Nat.le_of_ble_eq_true rfl⟩ hlo (fun v H1 lc1 hp hlo => ?_)
  obtain ⟨rfl, hOx, hQx, hz1, ho1⟩ := hp
  refine W.eq (g2 := F0 m 129 ls [.int (nI (qn σ))]) rfl ?_
  have hS1 := hS1.kept (fun q q1 q2 => ho1 q (by omega) (by omega))
  have hS2 := hS2.kept (fun q q1 q2 => ho1 q (by omega) (by omega))
  have hKn := hKn.kept (fun q q1 q2 => ho1 q (by omega) (by omega))
  have hSs : ∀ i, i < qn σ → ¬ i = k → SK Γ σ i (ad i) H1 := fun i hi h0 => (hSs i hi h0).kept (fun q q1 q2 => ho1 q (by have := hy.1 i hi; omega) (by have := hy.1 i hi; omega))
  have hFx : ∀ q : Nat, q < s.heap.size → q ≠ x → q ≠ x + 1 → (∀ i, i < qn σ → q < ad i ∨ ad i + 4 ≤ q) → H1[q]? = s.heap[q]? := fun q q1 q2 q3 q4 => (ho1 q q2 q3).trans (hFx q q1 q2 q3 q4)
  have hsz1 := hz1.trans hsz1
  refine lv_istore (lv' := [(6, .int (nI (qn σ))), (5, .ref a2), (4, .ref a1), (3, .int (nI (j + 1))), (0, .ref x), (1, .ref (ad k)), (2, .int (nI j))]) hx hb dX1_breakAt_129 hl (by decide) rfl (fun ls hl => ?_)
  refine lv_aload_n hx hb dX1_breakAt_131 rfl (lv_at hl 4 rfl) ?_
  refine lv_aload hx hb dX1_breakAt_132 (lv_at hl 1 rfl) ?_
  refine m_V (rest := []) S hK (c_X1_put l Γ bs x (qn σ + 1) (qb σ + nI 1) (va_up (fun k => if k < qn σ then some (ad k) else none) (qn σ) (some a1)) a2 _ (by omega) (by omega) (by omega)) (cwV 1 hts gX1_breakAt_X1_put rfl rfl rfl (by decide +kernel) ⟨Nat.le_of_ble_eq_true rfl, Nat.le_of_ble_eq_true rfl⟩) (Ob.recv hK hOx rfl) ⟨hOx, hQx, hS2.1⟩ rfl hl.1 rfl (Nat.le_of_ble_eq_true rfl) dX1_breakAt_134 ⟨Nat.le_of_ble_eq_true rfl, Nat.le_of_ble_eq_true rfl⟩ hlo (fun v H1 lc1 hp hlo => ?_)
  obtain ⟨rfl, hOx, hQx, hz1, ho1⟩ := hp
  refine W.eq (g2 := F0 m 137 ls [.int (nI (qn σ + 1))]) rfl ?_
  have hS1 := hS1.kept (fun q q1 q2 => ho1 q (by omega) (by omega))
  have hS2 := hS2.kept (fun q q1 q2 => ho1 q (by omega) (by omega))
  have hKn := hKn.kept (fun q q1 q2 => ho1 q (by omega) (by omega))
  have hSs : ∀ i, i < qn σ → ¬ i = k → SK Γ σ i (ad i) H1 := fun i hi h0 => (hSs i hi h0).kept (fun q q1 q2 => ho1 q (by have := hy.1 i hi; omega) (by have := hy.1 i hi; omega))
  have hFx : ∀ q : Nat, q < s.heap.size → q ≠ x → q ≠ x + 1 → (∀ i, i < qn σ → q < ad i ∨ ad i + 4 ≤ q) → H1[q]? = s.heap[q]? := fun q q1 q2 q3 q4 => (ho1 q q2 q3).trans (hFx q q1 q2 q3 q4)
  have hsz1 := hz1.trans hsz1
  refine lv_pop hx hb dX1_breakAt_137 rfl ?_
  refine lv_iload hx hb dX1_breakAt_138 (lv_at hl 0 rfl) ?_
  refine W.widen (k := 8) (n := 132) (Nat.le_of_ble_eq_true rfl) (Nat.le_of_ble_eq_true rfl) ?_
  exact m_iret (Post := fun H v H2 => v = some (.int (nI (qn σ))) ∧ (∃ ad2, CW Γ x (sBend σ k j) ad2 H2 ∧ Ly b0 (sBend σ k j) ad2) ∧ FrC x σ ad H H2) hx hb hr hlk hlo dX1_breakAt_140 ⟨rfl, ⟨va_up (va_up ad (qn σ) a1) (qn σ + 1) a2, CW.bend hI hk hj hOx hQx hSs hKn hS1 hS2, (hy.push (σ' := o_add σ 0 0 0 0) rfl hb9 (fun i hi => by have := hW.1.lt hi; omega)).push (σ := o_add σ 0 0 0 0) rfl (by omega) (fun i hi => by
      have hi2 : i < qn σ + 1 := hi
      by_cases e9 : i = qn σ
      · rw [e9, va_up_self]; omega
      · rw [va_up_ne _ _ e9]; have := hW.1.lt (k := i) (by omega); omega)⟩, by omega, hFx⟩
