theorem nI_gt0 {a : Nat} (ha : a < 2 ^ 31) (h : 0 < nI a) : 0 < a := (nI_ltI (a := 0) (b := a) (by decide) ha).mp h
theorem nI_z {a : Nat} (ha : a < 2 ^ 31) (h : ¬ 0 < nI a) : a = 0 := by
  rcases Nat.eq_zero_or_pos a with q | q
  · exact q
  · exact absurd ((nI_ltI (a := 0) (b := a) (by decide) ha).mpr q) h
theorem in_X2_make_X2 : ∀ w ∈ wsX20, w ∈ wsX2_make := by decide +kernel
set_option maxHeartbeats 4000000 in
set_option maxRecDepth 100000 in
theorem c_X2_make (l : Launch) (Γ : GG) (bs : Nat) (mo : Nat) (th : Int32) (σ : St) (hI : Iv σ) (hbm : bs ≤ mo) (y : Int32)  : Mt l yX2_make wsX2_make ({ frames := 1, cells := 0, slots := 0, locals := 25 }) Γ bs [.ref mo, .int y] (MX Γ mo th σ) (fun H v H2 => PM Γ mo (cd2 (inR y (1 : Nat) (12 : Nat)) (thr σ (qn σ) < 12 ∧ qn σ < 40)) σ (sMake σ y.toInt.toNat) (nI (qn σ)) H v H2) 0 0 := by
  refine Mt.of (cc := cX2_make) (maxL := 2) (ret := (some .int)) (by decide) rfl (Nat.le_of_ble_eq_true rfl) ?_
  intro p e s m below meth c S hr hlk hin hK hW ls hl
  obtain ⟨hx, hb, hml, hown, hts⟩ := id S
  obtain ⟨lc, elc⟩ : ∃ z : List Loc, z = [] := ⟨_, rfl⟩
  rw [← elc]
  have hlo : lo bs lc := by rw [elc]; exact lo.nil
  clear elc
  have hl : lv_has ls 2 [(0, .ref mo), (1, .int y)] := hl
  have hn40 := hI.1
  have hFr : Fr mo (mo + 11) s.heap s.heap := Fr.rf
  obtain ⟨g1, g2, hW⟩ := hW
  refine lv_aload_n hx hb dX2_make_0 rfl (lv_at hl 0 rfl) ?_
  refine lv_iconst (v := nI 0) hx hb dX2_make_1 (by decide +kernel) ?_
  refine x_putX S in_X2_make_X2 tyX2 tyX2_ok nmX2 hK hW.1 rfl 0 (by decide) (by decide +kernel) rfl (Or.inl rfl) (tyX2_ok 0 (by decide)) rfl rfl (Nat.le_of_ble_eq_true rfl) hlo (by omega) dX2_make_2 (fun H1 lc1 hO1 hz1 ho1 hlo => ?_)
  have hO1 : Ob Γ 2 mo [.int (nI 0), .int (nI (qn σ)), .int (qb σ), .ref (mo + 1), .ref (mo + 2), .ref (mo + 3), .ref (mo + 4), .ref (mo + 5), .ref (mo + 6), .ref (mo + 7), .ref (mo + 8), .ref (mo + 9), .ref (mo + 10)] H1 := hO1
  have hFr := hFr.put hz1 ho1 (by omega) (by omega)
  have hW := MW.put (σ' := σ) hW hO1 ho1 rfl
  have hW : MW Γ mo (nI 0) σ g1 g2 H1 := hW
  refine lv_iload_n hx hb dX2_make_5 rfl (lv_at hl 1 rfl) ?_
  refine lv_iconst (v := nI 1) hx hb dX2_make_6 (by decide +kernel) ?_
  refine lv_bipush (v := nI 12) hx hb dX2_make_7 (by decide +kernel) ?_
  refine ro_S (rest := []) S hK (c_X2_isIn l Γ y (nI 1) (nI 12)) (cwS 3 hts gX2_make_X2_isIn rfl rfl rfl (by decide +kernel) ⟨Nat.le_of_ble_eq_true rfl, Nat.le_of_ble_eq_true rfl⟩) trivial rfl hl.1 rfl (Nat.le_of_ble_eq_true rfl) dX2_make_9 ⟨Nat.le_of_ble_eq_true rfl, Nat.le_of_ble_eq_true rfl⟩ ?_
  refine W.eq (g2 := F0 m 12 ls [.int (nI (bP (nI 1 ≤ y ∧ y ≤ nI 12)))]) rfl ?_
  refine x_e (show nI (bP (nI 1 ≤ y ∧ y ≤ nI 12)) = nI (bP (inR y (1 : Nat) (12 : Nat))) by rw [bP_iff (inR_iff (by decide) (by decide))]) ?_
  have hbb9 := bP_le (inR y (1 : Nat) (12 : Nat))
  refine x_ifne hx hb (by omega) (tgt := 21) dX2_make_12 (by decide) (fun c_1 => ?_) (fun c_1 => ?_)
  · skip
    have hfc := bP_1 c_1
    obtain ⟨k, h1k, h2k, rfl⟩ := inR_ex hfc
    refine lv_aload_n hx hb dX2_make_21 rfl (lv_at hl 0 rfl) ?_
    refine ro_V (rest := []) S hK (c_X2_there l Γ mo (nI 0) σ g1 g2 hI ) (cwV 0 hts gX2_make_X2_there rfl rfl rfl (by decide +kernel) ⟨Nat.le_of_ble_eq_true rfl, Nat.le_of_ble_eq_true rfl⟩) (Ob.recv hK hW.1 rfl) hW rfl hl.1 rfl (Nat.le_of_ble_eq_true rfl) dX2_make_22 ⟨Nat.le_of_ble_eq_true rfl, Nat.le_of_ble_eq_true rfl⟩ ?_
    refine W.eq (g2 := F0 m 25 ls [.int (nI (thr σ (qn σ)))]) rfl ?_
    have hthr := thr_le σ (qn σ)
    refine lv_bipush (v := nI 12) hx hb dX2_make_25 (by decide +kernel) ?_
    refine x_iceq hx hb (by omega) (by omega) (tgt := 39) dX2_make_27 (by decide) (fun c_2 => ?_) (fun c_2 => ?_)
    · skip
      refine lv_aload_n hx hb dX2_make_39 rfl (lv_at hl 0 rfl) ?_
      refine lv_iconst (v := nI 2) hx hb dX2_make_40 (by decide +kernel) ?_
      refine m_V (rest := []) S hK (c_X2_no l Γ bs mo (nI 0) σ g1 g2 hI hbm 2) (cwV 1 hts gX2_make_X2_no rfl rfl rfl (by decide +kernel) ⟨Nat.le_of_ble_eq_true rfl, Nat.le_of_ble_eq_true rfl⟩) (Ob.recv hK hW.1 rfl) hW rfl hl.1 rfl (Nat.le_of_ble_eq_true rfl) dX2_make_41 ⟨Nat.le_of_ble_eq_true rfl, Nat.le_of_ble_eq_true rfl⟩ hlo (fun v H1 lc1 hp hlo => ?_)
      obtain ⟨rfl, hW, hFq, hzq⟩ := hp
      refine W.eq (g2 := F0 m 44 ls [.int (nI 0)]) rfl ?_
      have hFr := hFr.trans hFq
      refine lv_goto (tgt := 55) hx hb dX2_make_44 (by decide) ?_
      refine W.widen (k := 0) (n := 0) (Nat.le_of_ble_eq_true rfl) (Nat.le_of_ble_eq_true rfl) ?_
      exact m_iret (Post := fun H v H2 => PM Γ mo (cd2 (inR (nI k) (1 : Nat) (12 : Nat)) (thr σ (qn σ) < 12 ∧ qn σ < 40)) σ (sMake σ (nI k).toInt.toNat) (nI (qn σ)) H v H2) hx hb hr hlk hlo dX2_make_55 (PM.no (i := 1) (cd2_2 hfc (fun q => by omega)) rfl ⟨_, _, hW⟩ hFr)
    · skip
      refine lv_aload_n hx hb dX2_make_30 rfl (lv_at hl 0 rfl) ?_
      refine x_get S in_X2_make_X2 hK hW.1 rfl 1 (by decide) (by decide +kernel) rfl rfl dX2_make_31 ?_
      refine lv_bipush (v := nI 40) hx hb dX2_make_34 (by decide +kernel) ?_
      refine x_icne hx hb (by omega) (by omega) (tgt := 47) dX2_make_36 (by decide) (fun c_3 => ?_) (fun c_3 => ?_)
      · skip
        refine lv_aload_n hx hb dX2_make_47 rfl (lv_at hl 0 rfl) ?_
        refine lv_iload_n hx hb dX2_make_48 rfl (lv_at hl 1 rfl) ?_
        refine lv_iconst (v := nI 0) hx hb dX2_make_49 (by decide +kernel) ?_
        refine lv_iconst (v := (-1)) hx hb dX2_make_50 (by decide +kernel) ?_
        refine lv_iconst (v := (-1)) hx hb dX2_make_51 (by decide +kernel) ?_
        refine m_V (rest := []) S hK (c_X2_add l Γ bs mo (nI 0) σ g1 g2 (hI) hbm k 0 ((-1)) ((-1)) (show qn σ < 40 by omega)) (cwV 4 hts gX2_make_X2_add rfl rfl rfl (by decide +kernel) ⟨Nat.le_of_ble_eq_true rfl, Nat.le_of_ble_eq_true rfl⟩) (Ob.recv hK hW.1 rfl) hW rfl hl.1 rfl (Nat.le_of_ble_eq_true rfl) dX2_make_52 ⟨Nat.le_of_ble_eq_true rfl, Nat.le_of_ble_eq_true rfl⟩ hlo (fun v H1 lc1 hp hlo => ?_)
        obtain ⟨rfl, hW, hFq, hzq⟩ := hp
        refine W.eq (g2 := F0 m 55 ls [.int (nI (qn σ))]) rfl ?_
        have hFr := hFr.trans hFq
        refine W.widen (k := 0) (n := 0) (Nat.le_of_ble_eq_true rfl) (Nat.le_of_ble_eq_true rfl) ?_
        exact m_iret (Post := fun H v H2 => PM Γ mo (cd2 (inR (nI k) (1 : Nat) (12 : Nat)) (thr σ (qn σ) < 12 ∧ qn σ < 40)) σ (sMake σ (nI k).toInt.toNat) (nI (qn σ)) H v H2) hx hb hr hlk hlo dX2_make_55 (PM.ok (cd2_0 hfc ⟨by have := hI.2.2.2.2.2.2; omega, by omega⟩) (rfl) ⟨_, _, by rw [toN (by omega)]; exact hW⟩ hFr)
      · skip
        refine lv_aload_n hx hb dX2_make_39 rfl (lv_at hl 0 rfl) ?_
        refine lv_iconst (v := nI 2) hx hb dX2_make_40 (by decide +kernel) ?_
        refine m_V (rest := []) S hK (c_X2_no l Γ bs mo (nI 0) σ g1 g2 hI hbm 2) (cwV 1 hts gX2_make_X2_no rfl rfl rfl (by decide +kernel) ⟨Nat.le_of_ble_eq_true rfl, Nat.le_of_ble_eq_true rfl⟩) (Ob.recv hK hW.1 rfl) hW rfl hl.1 rfl (Nat.le_of_ble_eq_true rfl) dX2_make_41 ⟨Nat.le_of_ble_eq_true rfl, Nat.le_of_ble_eq_true rfl⟩ hlo (fun v H1 lc1 hp hlo => ?_)
        obtain ⟨rfl, hW, hFq, hzq⟩ := hp
        refine W.eq (g2 := F0 m 44 ls [.int (nI 0)]) rfl ?_
        have hFr := hFr.trans hFq
        refine lv_goto (tgt := 55) hx hb dX2_make_44 (by decide) ?_
        refine W.widen (k := 0) (n := 0) (Nat.le_of_ble_eq_true rfl) (Nat.le_of_ble_eq_true rfl) ?_
        exact m_iret (Post := fun H v H2 => PM Γ mo (cd2 (inR (nI k) (1 : Nat) (12 : Nat)) (thr σ (qn σ) < 12 ∧ qn σ < 40)) σ (sMake σ (nI k).toInt.toNat) (nI (qn σ)) H v H2) hx hb hr hlk hlo dX2_make_55 (PM.no (i := 1) (cd2_2 hfc (fun q => by omega)) rfl ⟨_, _, hW⟩ hFr)
  · skip
    refine lv_aload_n hx hb dX2_make_15 rfl (lv_at hl 0 rfl) ?_
    refine lv_iconst (v := nI 1) hx hb dX2_make_16 (by decide +kernel) ?_
    refine m_V (rest := []) S hK (c_X2_no l Γ bs mo (nI 0) σ g1 g2 hI hbm 1) (cwV 1 hts gX2_make_X2_no rfl rfl rfl (by decide +kernel) ⟨Nat.le_of_ble_eq_true rfl, Nat.le_of_ble_eq_true rfl⟩) (Ob.recv hK hW.1 rfl) hW rfl hl.1 rfl (Nat.le_of_ble_eq_true rfl) dX2_make_17 ⟨Nat.le_of_ble_eq_true rfl, Nat.le_of_ble_eq_true rfl⟩ hlo (fun v H1 lc1 hp hlo => ?_)
    obtain ⟨rfl, hW, hFq, hzq⟩ := hp
    refine W.eq (g2 := F0 m 20 ls [.int (nI 0)]) rfl ?_
    have hFr := hFr.trans hFq
    refine W.widen (k := 0) (n := 0) (Nat.le_of_ble_eq_true rfl) (Nat.le_of_ble_eq_true rfl) ?_
    exact m_iret (Post := fun H v H2 => PM Γ mo (cd2 (inR y (1 : Nat) (12 : Nat)) (thr σ (qn σ) < 12 ∧ qn σ < 40)) σ (sMake σ y.toInt.toNat) (nI (qn σ)) H v H2) hx hb hr hlk hlo dX2_make_20 (PM.no (i := 0) (cd2_1 (bP_0 c_1)) rfl ⟨_, _, hW⟩ hFr)
theorem in_X2_carve_X2 : ∀ w ∈ wsX20, w ∈ wsX2_carve := by decide +kernel
set_option maxHeartbeats 4000000 in
set_option maxRecDepth 100000 in
theorem c_X2_carve (l : Launch) (Γ : GG) (bs : Nat) (mo : Nat) (th : Int32) (σ : St) (hI : Iv σ) (hbm : bs ≤ mo) (y z w r : Int32)  : Mt l yX2_carve wsX2_carve ({ frames := 3, cells := 0, slots := 0, locals := 66 }) Γ bs [.ref mo, .int y, .int z, .int w, .int r] (MX Γ mo th σ) (fun H v H2 => PM Γ mo (cd3 (spotP σ y z w) (inb r 24) (qg σ (y.toInt.toNat) = 0)) σ (o_rune σ (36 * y.toInt.toNat + (3 * w.toInt.toNat + z.toInt.toNat)) (r)) (rk σ (y.toInt.toNat) (3 * w.toInt.toNat + z.toInt.toNat)) H v H2) 0 0 := by
  refine Mt.of (cc := cX2_carve) (maxL := 7) (ret := (some .int)) (by decide) rfl (Nat.le_of_ble_eq_true rfl) ?_
  intro p e s m below meth c S hr hlk hin hK hW ls hl
  obtain ⟨hx, hb, hml, hown, hts⟩ := id S
  obtain ⟨lc, elc⟩ : ∃ z : List Loc, z = [] := ⟨_, rfl⟩
  rw [← elc]
  have hlo : lo bs lc := by rw [elc]; exact lo.nil
  clear elc
  have hl : lv_has ls 7 [(0, .ref mo), (1, .int y), (2, .int z), (3, .int w), (4, .int r)] := hl
  have hn40 := hI.1
  have hFr : Fr mo (mo + 11) s.heap s.heap := Fr.rf
  obtain ⟨g1, g2, hW⟩ := hW
  refine lv_aload_n hx hb dX2_carve_0 rfl (lv_at hl 0 rfl) ?_
  refine lv_iconst (v := nI 0) hx hb dX2_carve_1 (by decide +kernel) ?_
  refine x_putX S in_X2_carve_X2 tyX2 tyX2_ok nmX2 hK hW.1 rfl 0 (by decide) (by decide +kernel) rfl (Or.inl rfl) (tyX2_ok 0 (by decide)) rfl rfl (Nat.le_of_ble_eq_true rfl) hlo (by omega) dX2_carve_2 (fun H1 lc1 hO1 hz1 ho1 hlo => ?_)
  have hO1 : Ob Γ 2 mo [.int (nI 0), .int (nI (qn σ)), .int (qb σ), .ref (mo + 1), .ref (mo + 2), .ref (mo + 3), .ref (mo + 4), .ref (mo + 5), .ref (mo + 6), .ref (mo + 7), .ref (mo + 8), .ref (mo + 9), .ref (mo + 10)] H1 := hO1
  have hFr := hFr.put hz1 ho1 (by omega) (by omega)
  have hW := MW.put (σ' := σ) hW hO1 ho1 rfl
  have hW : MW Γ mo (nI 0) σ g1 g2 H1 := hW
  refine lv_aload_n hx hb dX2_carve_5 rfl (lv_at hl 0 rfl) ?_
  refine lv_iload_n hx hb dX2_carve_6 rfl (lv_at hl 1 rfl) ?_
  refine lv_iload_n hx hb dX2_carve_7 rfl (lv_at hl 2 rfl) ?_
  refine lv_iload_n hx hb dX2_carve_8 rfl (lv_at hl 3 rfl) ?_
  refine ro_V (rest := []) S hK (c_X2_isSpot l Γ mo (nI 0) σ g1 g2 hI y z w) (cwV 3 hts gX2_carve_X2_isSpot rfl rfl rfl (by decide +kernel) ⟨Nat.le_of_ble_eq_true rfl, Nat.le_of_ble_eq_true rfl⟩) (Ob.recv hK hW.1 rfl) hW rfl hl.1 rfl (Nat.le_of_ble_eq_true rfl) dX2_carve_9 ⟨Nat.le_of_ble_eq_true rfl, Nat.le_of_ble_eq_true rfl⟩ ?_
  refine W.eq (g2 := F0 m 12 ls [.int (nI (bP (spotP σ y z w)))]) rfl ?_
  have hbb9 := bP_le (spotP σ y z w)
  refine x_ifne hx hb (by omega) (tgt := 21) dX2_carve_12 (by decide) (fun c_1 => ?_) (fun c_1 => ?_)
  · skip
    obtain ⟨hqy, hqs, hqp⟩ := bP_1 c_1
    obtain ⟨k, hk, rfl⟩ := inb_ex hqy
    obtain ⟨hp0k, hp12k, hu3k, hg1k⟩ := hI.2.1 k hk
    rw [toN (by omega)] at hqp
    obtain ⟨j, hj, rfl⟩ := inb_ex hqs
    obtain ⟨i2, hi2, rfl⟩ := inb_ex hqp
    refine lv_iload hx hb dX2_carve_21 (lv_at hl 4 rfl) ?_
    refine ro_S (rest := []) S hK (c_X2_isRune l Γ r) (cwS 1 hts gX2_carve_X2_isRune rfl rfl rfl (by decide +kernel) ⟨Nat.le_of_ble_eq_true rfl, Nat.le_of_ble_eq_true rfl⟩) trivial rfl hl.1 rfl (Nat.le_of_ble_eq_true rfl) dX2_carve_23 ⟨Nat.le_of_ble_eq_true rfl, Nat.le_of_ble_eq_true rfl⟩ ?_
    refine W.eq (g2 := F0 m 26 ls [.int (nI (bP (inb r 24)))]) rfl ?_
    have hbb23 := bP_le (inb r 24)
    refine x_ifne hx hb (by omega) (tgt := 35) dX2_carve_26 (by decide) (fun c_2 => ?_) (fun c_2 => ?_)
    · skip
      have hqi3 := bP_1 c_2
      refine lv_aload_n hx hb dX2_carve_35 rfl (lv_at hl 0 rfl) ?_
      refine x_get S in_X2_carve_X2 hK hW.1 rfl 5 (by decide) (by decide +kernel) rfl rfl dX2_carve_36 ?_
      refine lv_iload_n hx hb dX2_carve_39 rfl (lv_at hl 1 rfl) ?_
      refine x_iald hx hb hK hW.2.2.2.1 (by omega) (by omega) dX2_carve_40 ?_
      refine lv_iconst (v := nI 1) hx hb dX2_carve_41 (by decide +kernel) ?_
      refine x_icne hx hb (by omega) (by omega) (tgt := 51) dX2_carve_42 (by decide) (fun c_3 => ?_) (fun c_3 => ?_)
      · skip
        refine lv_iload_n hx hb dX2_carve_51 rfl (lv_at hl 1 rfl) ?_
        refine lv_iload_n hx hb dX2_carve_52 rfl (lv_at hl 3 rfl) ?_
        refine lv_iload_n hx hb dX2_carve_53 rfl (lv_at hl 2 rfl) ?_
        refine ro_S (rest := []) S hK (c_X2_spot l Γ k i2 j) (cwS 3 hts gX2_carve_X2_spot rfl rfl rfl (by decide +kernel) ⟨Nat.le_of_ble_eq_true rfl, Nat.le_of_ble_eq_true rfl⟩) trivial rfl hl.1 rfl (Nat.le_of_ble_eq_true rfl) dX2_carve_54 ⟨Nat.le_of_ble_eq_true rfl, Nat.le_of_ble_eq_true rfl⟩ ?_
        refine W.eq (g2 := F0 m 57 ls [.int (nI (3 * (12 * k + i2) + j))]) rfl ?_
        refine lv_istore (lv' := [(5, .int (nI (3 * (12 * k + i2) + j))), (0, .ref mo), (1, .int (nI k)), (2, .int (nI j)), (3, .int (nI i2)), (4, .int r)]) hx hb dX2_carve_57 hl (by decide) rfl (fun ls hl => ?_)
        refine lv_aload_n hx hb dX2_carve_59 rfl (lv_at hl 1 rfl) ?_
        refine x_get S in_X2_carve_X2 hK hW.1 rfl 8 (by decide) (by decide +kernel) rfl rfl dX2_carve_60 ?_
        refine lv_iload hx hb dX2_carve_63 (lv_at hl 0 rfl) ?_
        refine x_iald hx hb hK hW.2.2.2.2.2.2.1 (by omega) (by omega) dX2_carve_65 ?_
        refine lv_iconst (v := nI 1) hx hb dX2_carve_66 (by decide +kernel) ?_
        refine lv_isub hx hb dX2_carve_67 ?_
        refine x_e (add1_sub1 _) ?_
        refine lv_istore (lv' := [(6, .int (qr σ (3 * (12 * k + i2) + j))), (5, .int (nI (3 * (12 * k + i2) + j))), (0, .ref mo), (1, .int (nI k)), (2, .int (nI j)), (3, .int (nI i2)), (4, .int r)]) hx hb dX2_carve_68 hl (by decide) rfl (fun ls hl => ?_)
        refine lv_aload_n hx hb dX2_carve_70 rfl (lv_at hl 2 rfl) ?_
        refine x_get S in_X2_carve_X2 hK hW.1 rfl 8 (by decide) (by decide +kernel) rfl rfl dX2_carve_71 ?_
        refine lv_iload hx hb dX2_carve_74 (lv_at hl 1 rfl) ?_
        refine lv_iload hx hb dX2_carve_76 (lv_at hl 6 rfl) ?_
        refine lv_iconst (v := nI 1) hx hb dX2_carve_78 (by decide +kernel) ?_
        refine lv_iadd hx hb dX2_carve_79 ?_
        refine x_e (show r + nI 1 = r + 1 from congrArg (r + ·) (by decide +kernel)) ?_
        refine x_iast hx hb hK hW.2.2.2.2.2.2.1 (by omega) (by omega) hlo (by omega) dX2_carve_80 (fun H1 lc1 hA1 hz1 ho1 hlo => ?_)
        have hFr := hFr.put hz1 ho1 (by omega) (by omega)
        have hW := MW.sR (v := r) hW hA1 ho1
        have hW : MW Γ mo (nI 0) (u_R σ (3 * (12 * k + i2) + j) r) g1 g2 H1 := hW
        refine lv_iload hx hb dX2_carve_81 (lv_at hl 0 rfl) ?_
        refine W.widen (k := 0) (n := 0) (Nat.le_of_ble_eq_true rfl) (Nat.le_of_ble_eq_true rfl) ?_
        exact m_iret (Post := fun H v H2 => PM Γ mo (cd3 (spotP σ (nI k) (nI j) (nI i2)) (inb r 24) (qg σ ((nI k).toInt.toNat) = 0)) σ (o_rune σ (36 * (nI k).toInt.toNat + (3 * (nI i2).toInt.toNat + (nI j).toInt.toNat)) (r)) (rk σ ((nI k).toInt.toNat) (3 * (nI i2).toInt.toNat + (nI j).toInt.toNat)) H v H2) hx hb hr hlk hlo dX2_carve_83 (PM.ok (cd3_0 ⟨((inb_nI (by omega)).mpr hk), (inb_nI (by omega)).mpr hj, by rw [toN (by omega)]; exact (inb_nI (by omega)).mpr hi2⟩ hqi3 (by rw [toN (by omega)]; omega)) (by rw [toN (by omega), toN (by omega), toN (by omega), rk_at]) ⟨_, _, by rw [toN (by omega), toN (by omega), toN (by omega), show 36 * k + (3 * i2 + j) = 3 * (12 * k + i2) + j by omega]; exact hW⟩ hFr)
      · skip
        refine lv_aload_n hx hb dX2_carve_45 rfl (lv_at hl 0 rfl) ?_
        refine lv_iconst (v := nI 3) hx hb dX2_carve_46 (by decide +kernel) ?_
        refine m_V (rest := []) S hK (c_X2_no l Γ bs mo (nI 0) σ g1 g2 hI hbm 3) (cwV 1 hts gX2_carve_X2_no rfl rfl rfl (by decide +kernel) ⟨Nat.le_of_ble_eq_true rfl, Nat.le_of_ble_eq_true rfl⟩) (Ob.recv hK hW.1 rfl) hW rfl hl.1 rfl (Nat.le_of_ble_eq_true rfl) dX2_carve_47 ⟨Nat.le_of_ble_eq_true rfl, Nat.le_of_ble_eq_true rfl⟩ hlo (fun v H1 lc1 hp hlo => ?_)
        obtain ⟨rfl, hW, hFq, hzq⟩ := hp
        refine W.eq (g2 := F0 m 50 ls [.int (nI 0)]) rfl ?_
        have hFr := hFr.trans hFq
        refine W.widen (k := 0) (n := 0) (Nat.le_of_ble_eq_true rfl) (Nat.le_of_ble_eq_true rfl) ?_
        exact m_iret (Post := fun H v H2 => PM Γ mo (cd3 (spotP σ (nI k) (nI j) (nI i2)) (inb r 24) (qg σ ((nI k).toInt.toNat) = 0)) σ (o_rune σ (36 * (nI k).toInt.toNat + (3 * (nI i2).toInt.toNat + (nI j).toInt.toNat)) (r)) (rk σ ((nI k).toInt.toNat) (3 * (nI i2).toInt.toNat + (nI j).toInt.toNat)) H v H2) hx hb hr hlk hlo dX2_carve_50 (PM.no (i := 2) (cd3_3 ⟨((inb_nI (by omega)).mpr hk), (inb_nI (by omega)).mpr hj, by rw [toN (by omega)]; exact (inb_nI (by omega)).mpr hi2⟩ hqi3 (fun q => by rw [toN (by omega)] at q; omega)) rfl ⟨_, _, hW⟩ hFr)
    · skip
      refine lv_aload_n hx hb dX2_carve_29 rfl (lv_at hl 0 rfl) ?_
      refine lv_iconst (v := nI 2) hx hb dX2_carve_30 (by decide +kernel) ?_
      refine m_V (rest := []) S hK (c_X2_no l Γ bs mo (nI 0) σ g1 g2 hI hbm 2) (cwV 1 hts gX2_carve_X2_no rfl rfl rfl (by decide +kernel) ⟨Nat.le_of_ble_eq_true rfl, Nat.le_of_ble_eq_true rfl⟩) (Ob.recv hK hW.1 rfl) hW rfl hl.1 rfl (Nat.le_of_ble_eq_true rfl) dX2_carve_31 ⟨Nat.le_of_ble_eq_true rfl, Nat.le_of_ble_eq_true rfl⟩ hlo (fun v H1 lc1 hp hlo => ?_)
      obtain ⟨rfl, hW, hFq, hzq⟩ := hp
      refine W.eq (g2 := F0 m 34 ls [.int (nI 0)]) rfl ?_
      have hFr := hFr.trans hFq
      refine W.widen (k := 0) (n := 0) (Nat.le_of_ble_eq_true rfl) (Nat.le_of_ble_eq_true rfl) ?_
      exact m_iret (Post := fun H v H2 => PM Γ mo (cd3 (spotP σ (nI k) (nI j) (nI i2)) (inb r 24) (qg σ ((nI k).toInt.toNat) = 0)) σ (o_rune σ (36 * (nI k).toInt.toNat + (3 * (nI i2).toInt.toNat + (nI j).toInt.toNat)) (r)) (rk σ ((nI k).toInt.toNat) (3 * (nI i2).toInt.toNat + (nI j).toInt.toNat)) H v H2) hx hb hr hlk hlo dX2_carve_34 (PM.no (i := 1) (cd3_2 ⟨((inb_nI (by omega)).mpr hk), (inb_nI (by omega)).mpr hj, by rw [toN (by omega)]; exact (inb_nI (by omega)).mpr hi2⟩ (bP_0 c_2)) rfl ⟨_, _, hW⟩ hFr)
  · skip
    refine lv_aload_n hx hb dX2_carve_15 rfl (lv_at hl 0 rfl) ?_
    refine lv_iconst (v := nI 1) hx hb dX2_carve_16 (by decide +kernel) ?_
    refine m_V (rest := []) S hK (c_X2_no l Γ bs mo (nI 0) σ g1 g2 hI hbm 1) (cwV 1 hts gX2_carve_X2_no rfl rfl rfl (by decide +kernel) ⟨Nat.le_of_ble_eq_true rfl, Nat.le_of_ble_eq_true rfl⟩) (Ob.recv hK hW.1 rfl) hW rfl hl.1 rfl (Nat.le_of_ble_eq_true rfl) dX2_carve_17 ⟨Nat.le_of_ble_eq_true rfl, Nat.le_of_ble_eq_true rfl⟩ hlo (fun v H1 lc1 hp hlo => ?_)
    obtain ⟨rfl, hW, hFq, hzq⟩ := hp
    refine W.eq (g2 := F0 m 20 ls [.int (nI 0)]) rfl ?_
    have hFr := hFr.trans hFq
    refine W.widen (k := 0) (n := 0) (Nat.le_of_ble_eq_true rfl) (Nat.le_of_ble_eq_true rfl) ?_
    exact m_iret (Post := fun H v H2 => PM Γ mo (cd3 (spotP σ y z w) (inb r 24) (qg σ (y.toInt.toNat) = 0)) σ (o_rune σ (36 * y.toInt.toNat + (3 * w.toInt.toNat + z.toInt.toNat)) (r)) (rk σ (y.toInt.toNat) (3 * w.toInt.toNat + z.toInt.toNat)) H v H2) hx hb hr hlk hlo dX2_carve_20 (PM.no (i := 0) (cd3_1 (bP_0 c_1)) rfl ⟨_, _, hW⟩ hFr)
theorem in_X2_scrape_X2 : ∀ w ∈ wsX20, w ∈ wsX2_scrape := by decide +kernel
set_option maxHeartbeats 4000000 in
set_option maxRecDepth 100000 in
theorem c_X2_scrape (l : Launch) (Γ : GG) (bs : Nat) (mo : Nat) (th : Int32) (σ : St) (hI : Iv σ) (hbm : bs ≤ mo) (y z w : Int32)  : Mt l yX2_scrape wsX2_scrape ({ frames := 3, cells := 0, slots := 0, locals := 66 }) Γ bs [.ref mo, .int y, .int z, .int w] (MX Γ mo th σ) (fun H v H2 => PM Γ mo (cd2 (spotP σ y z w) (qg σ (y.toInt.toNat) = 0 ∧ ¬ rk σ (y.toInt.toNat) (3 * w.toInt.toNat + z.toInt.toNat) = -1)) σ (o_rune σ (36 * y.toInt.toNat + (3 * w.toInt.toNat + z.toInt.toNat)) (-1)) (rk σ (y.toInt.toNat) (3 * w.toInt.toNat + z.toInt.toNat)) H v H2) 0 0 := by
  refine Mt.of (cc := cX2_scrape) (maxL := 6) (ret := (some .int)) (by decide) rfl (Nat.le_of_ble_eq_true rfl) ?_
  intro p e s m below meth c S hr hlk hin hK hW ls hl
  obtain ⟨hx, hb, hml, hown, hts⟩ := id S
  obtain ⟨lc, elc⟩ : ∃ z : List Loc, z = [] := ⟨_, rfl⟩
  rw [← elc]
  have hlo : lo bs lc := by rw [elc]; exact lo.nil
  clear elc
  have hl : lv_has ls 6 [(0, .ref mo), (1, .int y), (2, .int z), (3, .int w)] := hl
  have hn40 := hI.1
  have hFr : Fr mo (mo + 11) s.heap s.heap := Fr.rf
  obtain ⟨g1, g2, hW⟩ := hW
  refine lv_aload_n hx hb dX2_scrape_0 rfl (lv_at hl 0 rfl) ?_
  refine lv_iconst (v := nI 0) hx hb dX2_scrape_1 (by decide +kernel) ?_
  refine x_putX S in_X2_scrape_X2 tyX2 tyX2_ok nmX2 hK hW.1 rfl 0 (by decide) (by decide +kernel) rfl (Or.inl rfl) (tyX2_ok 0 (by decide)) rfl rfl (Nat.le_of_ble_eq_true rfl) hlo (by omega) dX2_scrape_2 (fun H1 lc1 hO1 hz1 ho1 hlo => ?_)
  have hO1 : Ob Γ 2 mo [.int (nI 0), .int (nI (qn σ)), .int (qb σ), .ref (mo + 1), .ref (mo + 2), .ref (mo + 3), .ref (mo + 4), .ref (mo + 5), .ref (mo + 6), .ref (mo + 7), .ref (mo + 8), .ref (mo + 9), .ref (mo + 10)] H1 := hO1
  have hFr := hFr.put hz1 ho1 (by omega) (by omega)
  have hW := MW.put (σ' := σ) hW hO1 ho1 rfl
  have hW : MW Γ mo (nI 0) σ g1 g2 H1 := hW
  refine lv_aload_n hx hb dX2_scrape_5 rfl (lv_at hl 0 rfl) ?_
  refine lv_iload_n hx hb dX2_scrape_6 rfl (lv_at hl 1 rfl) ?_
  refine lv_iload_n hx hb dX2_scrape_7 rfl (lv_at hl 2 rfl) ?_
  refine lv_iload_n hx hb dX2_scrape_8 rfl (lv_at hl 3 rfl) ?_
  refine ro_V (rest := []) S hK (c_X2_isSpot l Γ mo (nI 0) σ g1 g2 hI y z w) (cwV 3 hts gX2_scrape_X2_isSpot rfl rfl rfl (by decide +kernel) ⟨Nat.le_of_ble_eq_true rfl, Nat.le_of_ble_eq_true rfl⟩) (Ob.recv hK hW.1 rfl) hW rfl hl.1 rfl (Nat.le_of_ble_eq_true rfl) dX2_scrape_9 ⟨Nat.le_of_ble_eq_true rfl, Nat.le_of_ble_eq_true rfl⟩ ?_
  refine W.eq (g2 := F0 m 12 ls [.int (nI (bP (spotP σ y z w)))]) rfl ?_
  have hbb9 := bP_le (spotP σ y z w)
  refine x_ifne hx hb (by omega) (tgt := 21) dX2_scrape_12 (by decide) (fun c_1 => ?_) (fun c_1 => ?_)
  · skip
    obtain ⟨hqy, hqs, hqp⟩ := bP_1 c_1
    obtain ⟨k, hk, rfl⟩ := inb_ex hqy
    obtain ⟨hp0k, hp12k, hu3k, hg1k⟩ := hI.2.1 k hk
    rw [toN (by omega)] at hqp
    obtain ⟨j, hj, rfl⟩ := inb_ex hqs
    obtain ⟨i2, hi2, rfl⟩ := inb_ex hqp
    refine lv_iload_n hx hb dX2_scrape_21 rfl (lv_at hl 1 rfl) ?_
    refine lv_iload_n hx hb dX2_scrape_22 rfl (lv_at hl 3 rfl) ?_
    refine lv_iload_n hx hb dX2_scrape_23 rfl (lv_at hl 2 rfl) ?_
    refine ro_S (rest := []) S hK (c_X2_spot l Γ k i2 j) (cwS 3 hts gX2_scrape_X2_spot rfl rfl rfl (by decide +kernel) ⟨Nat.le_of_ble_eq_true rfl, Nat.le_of_ble_eq_true rfl⟩) trivial rfl hl.1 rfl (Nat.le_of_ble_eq_true rfl) dX2_scrape_24 ⟨Nat.le_of_ble_eq_true rfl, Nat.le_of_ble_eq_true rfl⟩ ?_
    refine W.eq (g2 := F0 m 27 ls [.int (nI (3 * (12 * k + i2) + j))]) rfl ?_
    refine lv_istore (lv' := [(4, .int (nI (3 * (12 * k + i2) + j))), (0, .ref mo), (1, .int (nI k)), (2, .int (nI j)), (3, .int (nI i2))]) hx hb dX2_scrape_27 hl (by decide) rfl (fun ls hl => ?_)
    refine lv_aload_n hx hb dX2_scrape_29 rfl (lv_at hl 1 rfl) ?_
    refine x_get S in_X2_scrape_X2 hK hW.1 rfl 5 (by decide) (by decide +kernel) rfl rfl dX2_scrape_30 ?_
    refine lv_iload_n hx hb dX2_scrape_33 rfl (lv_at hl 2 rfl) ?_
    refine x_iald hx hb hK hW.2.2.2.1 (by omega) (by omega) dX2_scrape_34 ?_
    refine lv_iconst (v := nI 1) hx hb dX2_scrape_35 (by decide +kernel) ?_
    refine x_iceq hx hb (by omega) (by omega) (tgt := 49) dX2_scrape_36 (by decide) (fun c_2 => ?_) (fun c_2 => ?_)
    · skip
      refine lv_aload_n hx hb dX2_scrape_49 rfl (lv_at hl 1 rfl) ?_
      refine lv_iconst (v := nI 2) hx hb dX2_scrape_50 (by decide +kernel) ?_
      refine m_V (rest := []) S hK (c_X2_no l Γ bs mo (nI 0) σ g1 g2 hI hbm 2) (cwV 1 hts gX2_scrape_X2_no rfl rfl rfl (by decide +kernel) ⟨Nat.le_of_ble_eq_true rfl, Nat.le_of_ble_eq_true rfl⟩) (Ob.recv hK hW.1 rfl) hW rfl hl.1 rfl (Nat.le_of_ble_eq_true rfl) dX2_scrape_51 ⟨Nat.le_of_ble_eq_true rfl, Nat.le_of_ble_eq_true rfl⟩ hlo (fun v H1 lc1 hp hlo => ?_)
      obtain ⟨rfl, hW, hFq, hzq⟩ := hp
      refine W.eq (g2 := F0 m 54 ls [.int (nI 0)]) rfl ?_
      have hFr := hFr.trans hFq
      refine W.widen (k := 0) (n := 0) (Nat.le_of_ble_eq_true rfl) (Nat.le_of_ble_eq_true rfl) ?_
      exact m_iret (Post := fun H v H2 => PM Γ mo (cd2 (spotP σ (nI k) (nI j) (nI i2)) (qg σ ((nI k).toInt.toNat) = 0 ∧ ¬ rk σ ((nI k).toInt.toNat) (3 * (nI i2).toInt.toNat + (nI j).toInt.toNat) = -1)) σ (o_rune σ (36 * (nI k).toInt.toNat + (3 * (nI i2).toInt.toNat + (nI j).toInt.toNat)) (-1)) (rk σ ((nI k).toInt.toNat) (3 * (nI i2).toInt.toNat + (nI j).toInt.toNat)) H v H2) hx hb hr hlk hlo dX2_scrape_54 (PM.no (i := 1) (cd2_2 ⟨((inb_nI (by omega)).mpr hk), (inb_nI (by omega)).mpr hj, by rw [toN (by omega)]; exact (inb_nI (by omega)).mpr hi2⟩ (fun q => by have h9 := q.1; rw [toN (by omega)] at h9; omega)) rfl ⟨_, _, hW⟩ hFr)
    · skip
      refine lv_aload_n hx hb dX2_scrape_39 rfl (lv_at hl 1 rfl) ?_
      refine x_get S in_X2_scrape_X2 hK hW.1 rfl 8 (by decide) (by decide +kernel) rfl rfl dX2_scrape_40 ?_
      refine lv_iload hx hb dX2_scrape_43 (lv_at hl 0 rfl) ?_
      refine x_iald hx hb hK hW.2.2.2.2.2.2.1 (by omega) (by omega) dX2_scrape_45 ?_
      refine lv_if_ne (tgt := 55) hx hb dX2_scrape_46 (by decide) (fun c_3 => ?_) (fun c_3 => ?_)
      · skip
        refine lv_aload_n hx hb dX2_scrape_55 rfl (lv_at hl 1 rfl) ?_
        refine x_get S in_X2_scrape_X2 hK hW.1 rfl 8 (by decide) (by decide +kernel) rfl rfl dX2_scrape_56 ?_
        refine lv_iload hx hb dX2_scrape_59 (lv_at hl 0 rfl) ?_
        refine x_iald hx hb hK hW.2.2.2.2.2.2.1 (by omega) (by omega) dX2_scrape_61 ?_
        refine lv_iconst (v := nI 1) hx hb dX2_scrape_62 (by decide +kernel) ?_
        refine lv_isub hx hb dX2_scrape_63 ?_
        refine x_e (add1_sub1 _) ?_
        refine lv_istore (lv' := [(5, .int (qr σ (3 * (12 * k + i2) + j))), (4, .int (nI (3 * (12 * k + i2) + j))), (0, .ref mo), (1, .int (nI k)), (2, .int (nI j)), (3, .int (nI i2))]) hx hb dX2_scrape_64 hl (by decide) rfl (fun ls hl => ?_)
        refine lv_aload_n hx hb dX2_scrape_66 rfl (lv_at hl 2 rfl) ?_
        refine x_get S in_X2_scrape_X2 hK hW.1 rfl 8 (by decide) (by decide +kernel) rfl rfl dX2_scrape_67 ?_
        refine lv_iload hx hb dX2_scrape_70 (lv_at hl 1 rfl) ?_
        refine lv_iconst (v := nI 0) hx hb dX2_scrape_72 (by decide +kernel) ?_
        refine x_e (show nI 0 = (-1) + 1 by decide +kernel) ?_
        refine x_iast hx hb hK hW.2.2.2.2.2.2.1 (by omega) (by omega) hlo (by omega) dX2_scrape_73 (fun H1 lc1 hA1 hz1 ho1 hlo => ?_)
        have hFr := hFr.put hz1 ho1 (by omega) (by omega)
        have hW := MW.sR (v := (-1)) hW hA1 ho1
        have hW : MW Γ mo (nI 0) (u_R σ (3 * (12 * k + i2) + j) ((-1))) g1 g2 H1 := hW
        refine lv_iload hx hb dX2_scrape_74 (lv_at hl 0 rfl) ?_
        refine W.widen (k := 0) (n := 0) (Nat.le_of_ble_eq_true rfl) (Nat.le_of_ble_eq_true rfl) ?_
        exact m_iret (Post := fun H v H2 => PM Γ mo (cd2 (spotP σ (nI k) (nI j) (nI i2)) (qg σ ((nI k).toInt.toNat) = 0 ∧ ¬ rk σ ((nI k).toInt.toNat) (3 * (nI i2).toInt.toNat + (nI j).toInt.toNat) = -1)) σ (o_rune σ (36 * (nI k).toInt.toNat + (3 * (nI i2).toInt.toNat + (nI j).toInt.toNat)) (-1)) (rk σ ((nI k).toInt.toNat) (3 * (nI i2).toInt.toNat + (nI j).toInt.toNat)) H v H2) hx hb hr hlk hlo dX2_scrape_76 (PM.ok (cd2_0 ⟨((inb_nI (by omega)).mpr hk), (inb_nI (by omega)).mpr hj, by rw [toN (by omega)]; exact (inb_nI (by omega)).mpr hi2⟩ ⟨by rw [toN (by omega)]; omega, by rw [toN (by omega), toN (by omega), toN (by omega), ← rk_at]; exact okR_nz c_3⟩) (by rw [toN (by omega), toN (by omega), toN (by omega), rk_at]) ⟨_, _, by rw [toN (by omega), toN (by omega), toN (by omega), show 36 * k + (3 * i2 + j) = 3 * (12 * k + i2) + j by omega]; exact hW⟩ hFr)
      · skip
        refine lv_aload_n hx hb dX2_scrape_49 rfl (lv_at hl 1 rfl) ?_
        refine lv_iconst (v := nI 2) hx hb dX2_scrape_50 (by decide +kernel) ?_
        refine m_V (rest := []) S hK (c_X2_no l Γ bs mo (nI 0) σ g1 g2 hI hbm 2) (cwV 1 hts gX2_scrape_X2_no rfl rfl rfl (by decide +kernel) ⟨Nat.le_of_ble_eq_true rfl, Nat.le_of_ble_eq_true rfl⟩) (Ob.recv hK hW.1 rfl) hW rfl hl.1 rfl (Nat.le_of_ble_eq_true rfl) dX2_scrape_51 ⟨Nat.le_of_ble_eq_true rfl, Nat.le_of_ble_eq_true rfl⟩ hlo (fun v H1 lc1 hp hlo => ?_)
        obtain ⟨rfl, hW, hFq, hzq⟩ := hp
        refine W.eq (g2 := F0 m 54 ls [.int (nI 0)]) rfl ?_
        have hFr := hFr.trans hFq
        refine W.widen (k := 0) (n := 0) (Nat.le_of_ble_eq_true rfl) (Nat.le_of_ble_eq_true rfl) ?_
        exact m_iret (Post := fun H v H2 => PM Γ mo (cd2 (spotP σ (nI k) (nI j) (nI i2)) (qg σ ((nI k).toInt.toNat) = 0 ∧ ¬ rk σ ((nI k).toInt.toNat) (3 * (nI i2).toInt.toNat + (nI j).toInt.toNat) = -1)) σ (o_rune σ (36 * (nI k).toInt.toNat + (3 * (nI i2).toInt.toNat + (nI j).toInt.toNat)) (-1)) (rk σ ((nI k).toInt.toNat) (3 * (nI i2).toInt.toNat + (nI j).toInt.toNat)) H v H2) hx hb hr hlk hlo dX2_scrape_54 (PM.no (i := 1) (cd2_2 ⟨((inb_nI (by omega)).mpr hk), (inb_nI (by omega)).mpr hj, by rw [toN (by omega)]; exact (inb_nI (by omega)).mpr hi2⟩ (fun q => q.2 (by rw [toN (by omega), toN (by omega), toN (by omega), ← rk_at]; exact okR_z c_3))) rfl ⟨_, _, hW⟩ hFr)
  · skip
    refine lv_aload_n hx hb dX2_scrape_15 rfl (lv_at hl 0 rfl) ?_
    refine lv_iconst (v := nI 1) hx hb dX2_scrape_16 (by decide +kernel) ?_
    refine m_V (rest := []) S hK (c_X2_no l Γ bs mo (nI 0) σ g1 g2 hI hbm 1) (cwV 1 hts gX2_scrape_X2_no rfl rfl rfl (by decide +kernel) ⟨Nat.le_of_ble_eq_true rfl, Nat.le_of_ble_eq_true rfl⟩) (Ob.recv hK hW.1 rfl) hW rfl hl.1 rfl (Nat.le_of_ble_eq_true rfl) dX2_scrape_17 ⟨Nat.le_of_ble_eq_true rfl, Nat.le_of_ble_eq_true rfl⟩ hlo (fun v H1 lc1 hp hlo => ?_)
    obtain ⟨rfl, hW, hFq, hzq⟩ := hp
    refine W.eq (g2 := F0 m 20 ls [.int (nI 0)]) rfl ?_
    have hFr := hFr.trans hFq
    refine W.widen (k := 0) (n := 0) (Nat.le_of_ble_eq_true rfl) (Nat.le_of_ble_eq_true rfl) ?_
    exact m_iret (Post := fun H v H2 => PM Γ mo (cd2 (spotP σ y z w) (qg σ (y.toInt.toNat) = 0 ∧ ¬ rk σ (y.toInt.toNat) (3 * w.toInt.toNat + z.toInt.toNat) = -1)) σ (o_rune σ (36 * y.toInt.toNat + (3 * w.toInt.toNat + z.toInt.toNat)) (-1)) (rk σ (y.toInt.toNat) (3 * w.toInt.toNat + z.toInt.toNat)) H v H2) hx hb hr hlk hlo dX2_scrape_20 (PM.no (i := 0) (cd2_1 (bP_0 c_1)) rfl ⟨_, _, hW⟩ hFr)
theorem in_X2_roll_X2 : ∀ w ∈ wsX20, w ∈ wsX2_roll := by decide +kernel
set_option maxHeartbeats 4000000 in
set_option maxRecDepth 100000 in
theorem c_X2_roll (l : Launch) (Γ : GG) (bs : Nat) (mo : Nat) (th : Int32) (σ : St) (hI : Iv σ) (hbm : bs ≤ mo) (y z : Int32)  : Mt l yX2_roll wsX2_roll ({ frames := 2, cells := 0, slots := 0, locals := 43 }) Γ bs [.ref mo, .int y, .int z] (MX Γ mo th σ) (fun H v H2 => PM Γ mo (cd3 (inb y (qn σ)) (inb z 3) (qg σ (y.toInt.toNat) = 0)) σ (o_up σ (y.toInt.toNat) ((qu σ (y.toInt.toNat) + z.toInt.toNat) % 3)) (nI ((qu σ (y.toInt.toNat) + z.toInt.toNat) % 3)) H v H2) 0 0 := by
  refine Mt.of (cc := cX2_roll) (maxL := 3) (ret := (some .int)) (by decide) rfl (Nat.le_of_ble_eq_true rfl) ?_
  intro p e s m below meth c S hr hlk hin hK hW ls hl
  obtain ⟨hx, hb, hml, hown, hts⟩ := id S
  obtain ⟨lc, elc⟩ : ∃ z : List Loc, z = [] := ⟨_, rfl⟩
  rw [← elc]
  have hlo : lo bs lc := by rw [elc]; exact lo.nil
  clear elc
  have hl : lv_has ls 3 [(0, .ref mo), (1, .int y), (2, .int z)] := hl
  have hn40 := hI.1
  have hFr : Fr mo (mo + 11) s.heap s.heap := Fr.rf
  obtain ⟨g1, g2, hW⟩ := hW
  refine lv_aload_n hx hb dX2_roll_0 rfl (lv_at hl 0 rfl) ?_
  refine lv_iconst (v := nI 0) hx hb dX2_roll_1 (by decide +kernel) ?_
  refine x_putX S in_X2_roll_X2 tyX2 tyX2_ok nmX2 hK hW.1 rfl 0 (by decide) (by decide +kernel) rfl (Or.inl rfl) (tyX2_ok 0 (by decide)) rfl rfl (Nat.le_of_ble_eq_true rfl) hlo (by omega) dX2_roll_2 (fun H1 lc1 hO1 hz1 ho1 hlo => ?_)
  have hO1 : Ob Γ 2 mo [.int (nI 0), .int (nI (qn σ)), .int (qb σ), .ref (mo + 1), .ref (mo + 2), .ref (mo + 3), .ref (mo + 4), .ref (mo + 5), .ref (mo + 6), .ref (mo + 7), .ref (mo + 8), .ref (mo + 9), .ref (mo + 10)] H1 := hO1
  have hFr := hFr.put hz1 ho1 (by omega) (by omega)
  have hW := MW.put (σ' := σ) hW hO1 ho1 rfl
  have hW : MW Γ mo (nI 0) σ g1 g2 H1 := hW
  refine lv_aload_n hx hb dX2_roll_5 rfl (lv_at hl 0 rfl) ?_
  refine lv_iload_n hx hb dX2_roll_6 rfl (lv_at hl 1 rfl) ?_
  refine ro_V (rest := []) S hK (c_X2_isStick l Γ mo (nI 0) σ g1 g2 hI y) (cwV 1 hts gX2_roll_X2_isStick rfl rfl rfl (by decide +kernel) ⟨Nat.le_of_ble_eq_true rfl, Nat.le_of_ble_eq_true rfl⟩) (Ob.recv hK hW.1 rfl) hW rfl hl.1 rfl (Nat.le_of_ble_eq_true rfl) dX2_roll_7 ⟨Nat.le_of_ble_eq_true rfl, Nat.le_of_ble_eq_true rfl⟩ ?_
  refine W.eq (g2 := F0 m 10 ls [.int (nI (bP (inb y (qn σ))))]) rfl ?_
  have hbb7 := bP_le (inb y (qn σ))
  refine x_ifne hx hb (by omega) (tgt := 19) dX2_roll_10 (by decide) (fun c_1 => ?_) (fun c_1 => ?_)
  · skip
    obtain ⟨k, hk, rfl⟩ := inb_ex (bP_1 c_1)
    obtain ⟨hp0k, hp12k, hu3k, hg1k⟩ := hI.2.1 k hk
    refine lv_iload_n hx hb dX2_roll_19 rfl (lv_at hl 2 rfl) ?_
    refine lv_iconst (v := nI 0) hx hb dX2_roll_20 (by decide +kernel) ?_
    refine lv_iconst (v := nI 2) hx hb dX2_roll_21 (by decide +kernel) ?_
    refine ro_S (rest := []) S hK (c_X2_isIn l Γ z (nI 0) (nI 2)) (cwS 3 hts gX2_roll_X2_isIn rfl rfl rfl (by decide +kernel) ⟨Nat.le_of_ble_eq_true rfl, Nat.le_of_ble_eq_true rfl⟩) trivial rfl hl.1 rfl (Nat.le_of_ble_eq_true rfl) dX2_roll_22 ⟨Nat.le_of_ble_eq_true rfl, Nat.le_of_ble_eq_true rfl⟩ ?_
    refine W.eq (g2 := F0 m 25 ls [.int (nI (bP (nI 0 ≤ z ∧ z ≤ nI 2)))]) rfl ?_
    refine x_e (show nI (bP (nI 0 ≤ z ∧ z ≤ nI 2)) = nI (bP (inb z 3)) by rw [bP_iff isin_3]) ?_
    have hbb22 := bP_le (inb z 3)
    refine x_ifne hx hb (by omega) (tgt := 34) dX2_roll_25 (by decide) (fun c_2 => ?_) (fun c_2 => ?_)
    · skip
      obtain ⟨j, hj, rfl⟩ := inb_ex (bP_1 c_2)
      refine lv_aload_n hx hb dX2_roll_34 rfl (lv_at hl 0 rfl) ?_
      refine x_get S in_X2_roll_X2 hK hW.1 rfl 5 (by decide) (by decide +kernel) rfl rfl dX2_roll_35 ?_
      refine lv_iload_n hx hb dX2_roll_38 rfl (lv_at hl 1 rfl) ?_
      refine x_iald hx hb hK hW.2.2.2.1 (by omega) (by omega) dX2_roll_39 ?_
      refine lv_iconst (v := nI 1) hx hb dX2_roll_40 (by decide +kernel) ?_
      refine x_icne hx hb (by omega) (by omega) (tgt := 50) dX2_roll_41 (by decide) (fun c_3 => ?_) (fun c_3 => ?_)
      · skip
        refine lv_aload_n hx hb dX2_roll_50 rfl (lv_at hl 0 rfl) ?_
        refine x_get S in_X2_roll_X2 hK hW.1 rfl 4 (by decide) (by decide +kernel) rfl rfl dX2_roll_51 ?_
        refine lv_iload_n hx hb dX2_roll_54 rfl (lv_at hl 1 rfl) ?_
        refine lv_aload_n hx hb dX2_roll_55 rfl (lv_at hl 0 rfl) ?_
        refine x_get S in_X2_roll_X2 hK hW.1 rfl 4 (by decide) (by decide +kernel) rfl rfl dX2_roll_56 ?_
        refine lv_iload_n hx hb dX2_roll_59 rfl (lv_at hl 1 rfl) ?_
        refine x_iald hx hb hK hW.2.2.1 (by omega) (by omega) dX2_roll_60 ?_
        refine lv_iload_n hx hb dX2_roll_61 rfl (lv_at hl 2 rfl) ?_
        refine x_add hx hb dX2_roll_62 ?_
        refine lv_iconst (v := nI 3) hx hb dX2_roll_63 (by decide +kernel) ?_
        refine x_rem hx hb (by omega) (by omega) (by omega) dX2_roll_64 ?_
        refine x_iast hx hb hK hW.2.2.1 (by omega) (by omega) hlo (by omega) dX2_roll_65 (fun H1 lc1 hA1 hz1 ho1 hlo => ?_)
        have hFr := hFr.put hz1 ho1 (by omega) (by omega)
        have hW := MW.sU (v := ((qu σ k) + j) % 3) hW hA1 ho1
        have hW : MW Γ mo (nI 0) (u_U σ k (((qu σ k) + j) % 3)) g1 g2 H1 := hW
        refine lv_aload_n hx hb dX2_roll_66 rfl (lv_at hl 0 rfl) ?_
        refine x_get S in_X2_roll_X2 hK (show Ob Γ 2 mo [.int (nI 0), .int (nI (qn σ)), .int (qb σ), .ref (mo + 1), .ref (mo + 2), .ref (mo + 3), .ref (mo + 4), .ref (mo + 5), .ref (mo + 6), .ref (mo + 7), .ref (mo + 8), .ref (mo + 9), .ref (mo + 10)] _ from hW.1) rfl 4 (by decide) (by decide +kernel) rfl rfl dX2_roll_67 ?_
        refine lv_iload_n hx hb dX2_roll_70 rfl (lv_at hl 1 rfl) ?_
        refine x_iald hx hb hK hW.2.2.1 (by omega) (by omega) dX2_roll_71 ?_
        refine x_e (show nI (va_up (qu σ) k ((qu σ k + j) % 3) k) = nI ((qu σ k + j) % 3) by rw [va_up_self]) ?_
        refine W.widen (k := 0) (n := 0) (Nat.le_of_ble_eq_true rfl) (Nat.le_of_ble_eq_true rfl) ?_
        exact m_iret (Post := fun H v H2 => PM Γ mo (cd3 (inb (nI k) (qn σ)) (inb (nI j) 3) (qg σ ((nI k).toInt.toNat) = 0)) σ (o_up σ ((nI k).toInt.toNat) ((qu σ ((nI k).toInt.toNat) + (nI j).toInt.toNat) % 3)) (nI ((qu σ ((nI k).toInt.toNat) + (nI j).toInt.toNat) % 3)) H v H2) hx hb hr hlk hlo dX2_roll_72 (PM.ok (cd3_0 ((inb_nI (by omega)).mpr hk) ((inb_nI (by omega)).mpr hj) (by rw [toN (by omega)]; omega)) (by rw [toN (by omega), toN (by omega)]) ⟨_, _, by rw [toN (by omega), toN (by omega)]; exact hW⟩ hFr)
      · skip
        refine lv_aload_n hx hb dX2_roll_44 rfl (lv_at hl 0 rfl) ?_
        refine lv_iconst (v := nI 3) hx hb dX2_roll_45 (by decide +kernel) ?_
        refine m_V (rest := []) S hK (c_X2_no l Γ bs mo (nI 0) σ g1 g2 hI hbm 3) (cwV 1 hts gX2_roll_X2_no rfl rfl rfl (by decide +kernel) ⟨Nat.le_of_ble_eq_true rfl, Nat.le_of_ble_eq_true rfl⟩) (Ob.recv hK hW.1 rfl) hW rfl hl.1 rfl (Nat.le_of_ble_eq_true rfl) dX2_roll_46 ⟨Nat.le_of_ble_eq_true rfl, Nat.le_of_ble_eq_true rfl⟩ hlo (fun v H1 lc1 hp hlo => ?_)
        obtain ⟨rfl, hW, hFq, hzq⟩ := hp
        refine W.eq (g2 := F0 m 49 ls [.int (nI 0)]) rfl ?_
        have hFr := hFr.trans hFq
        refine W.widen (k := 0) (n := 0) (Nat.le_of_ble_eq_true rfl) (Nat.le_of_ble_eq_true rfl) ?_
        exact m_iret (Post := fun H v H2 => PM Γ mo (cd3 (inb (nI k) (qn σ)) (inb (nI j) 3) (qg σ ((nI k).toInt.toNat) = 0)) σ (o_up σ ((nI k).toInt.toNat) ((qu σ ((nI k).toInt.toNat) + (nI j).toInt.toNat) % 3)) (nI ((qu σ ((nI k).toInt.toNat) + (nI j).toInt.toNat) % 3)) H v H2) hx hb hr hlk hlo dX2_roll_49 (PM.no (i := 2) (cd3_3 ((inb_nI (by omega)).mpr hk) ((inb_nI (by omega)).mpr hj) (fun q => by rw [toN (by omega)] at q; omega)) rfl ⟨_, _, hW⟩ hFr)
    · skip
      refine lv_aload_n hx hb dX2_roll_28 rfl (lv_at hl 0 rfl) ?_
      refine lv_iconst (v := nI 2) hx hb dX2_roll_29 (by decide +kernel) ?_
      refine m_V (rest := []) S hK (c_X2_no l Γ bs mo (nI 0) σ g1 g2 hI hbm 2) (cwV 1 hts gX2_roll_X2_no rfl rfl rfl (by decide +kernel) ⟨Nat.le_of_ble_eq_true rfl, Nat.le_of_ble_eq_true rfl⟩) (Ob.recv hK hW.1 rfl) hW rfl hl.1 rfl (Nat.le_of_ble_eq_true rfl) dX2_roll_30 ⟨Nat.le_of_ble_eq_true rfl, Nat.le_of_ble_eq_true rfl⟩ hlo (fun v H1 lc1 hp hlo => ?_)
      obtain ⟨rfl, hW, hFq, hzq⟩ := hp
      refine W.eq (g2 := F0 m 33 ls [.int (nI 0)]) rfl ?_
      have hFr := hFr.trans hFq
      refine W.widen (k := 0) (n := 0) (Nat.le_of_ble_eq_true rfl) (Nat.le_of_ble_eq_true rfl) ?_
      exact m_iret (Post := fun H v H2 => PM Γ mo (cd3 (inb (nI k) (qn σ)) (inb z 3) (qg σ ((nI k).toInt.toNat) = 0)) σ (o_up σ ((nI k).toInt.toNat) ((qu σ ((nI k).toInt.toNat) + z.toInt.toNat) % 3)) (nI ((qu σ ((nI k).toInt.toNat) + z.toInt.toNat) % 3)) H v H2) hx hb hr hlk hlo dX2_roll_33 (PM.no (i := 1) (cd3_2 ((inb_nI (by omega)).mpr hk) (bP_0 c_2)) rfl ⟨_, _, hW⟩ hFr)
  · skip
    refine lv_aload_n hx hb dX2_roll_13 rfl (lv_at hl 0 rfl) ?_
    refine lv_iconst (v := nI 1) hx hb dX2_roll_14 (by decide +kernel) ?_
    refine m_V (rest := []) S hK (c_X2_no l Γ bs mo (nI 0) σ g1 g2 hI hbm 1) (cwV 1 hts gX2_roll_X2_no rfl rfl rfl (by decide +kernel) ⟨Nat.le_of_ble_eq_true rfl, Nat.le_of_ble_eq_true rfl⟩) (Ob.recv hK hW.1 rfl) hW rfl hl.1 rfl (Nat.le_of_ble_eq_true rfl) dX2_roll_15 ⟨Nat.le_of_ble_eq_true rfl, Nat.le_of_ble_eq_true rfl⟩ hlo (fun v H1 lc1 hp hlo => ?_)
    obtain ⟨rfl, hW, hFq, hzq⟩ := hp
    refine W.eq (g2 := F0 m 18 ls [.int (nI 0)]) rfl ?_
    have hFr := hFr.trans hFq
    refine W.widen (k := 0) (n := 0) (Nat.le_of_ble_eq_true rfl) (Nat.le_of_ble_eq_true rfl) ?_
    exact m_iret (Post := fun H v H2 => PM Γ mo (cd3 (inb y (qn σ)) (inb z 3) (qg σ (y.toInt.toNat) = 0)) σ (o_up σ (y.toInt.toNat) ((qu σ (y.toInt.toNat) + z.toInt.toNat) % 3)) (nI ((qu σ (y.toInt.toNat) + z.toInt.toNat) % 3)) H v H2) hx hb hr hlk hlo dX2_roll_18 (PM.no (i := 0) (cd3_1 (bP_0 c_1)) rfl ⟨_, _, hW⟩ hFr)
