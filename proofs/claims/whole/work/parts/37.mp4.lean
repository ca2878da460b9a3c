theorem MW.toJoint {Γ : GG} {mo : Nat} {th : Int32} {S : St} {i : Nat} {v : Int32} {g1 g2 : Nat → Int32} {H : Heap} (h : MW Γ mo th (u_L (u_A S i v) i (nI 1)) g1 g2 H) : MW Γ mo th (o_joint S i v) g1 g2 H := h
theorem in_X2_glue_X2 : ∀ w ∈ wsX20, w ∈ wsX2_glue := by decide +kernel
set_option maxHeartbeats 4000000 in
set_option maxRecDepth 100000 in
theorem c_X2_glue (l : Launch) (Γ : GG) (bs : Nat) (mo : Nat) (th : Int32) (σ : St) (hI : Iv σ) (hbm : bs ≤ mo) (y z w r : Int32)  : Mt l yX2_glue wsX2_glue ({ frames := 2, cells := 0, slots := 0, locals := 50 }) Γ bs [.ref mo, .int y, .int z, .int w, .int r] (MX Γ mo th σ) (fun H v H2 => PM Γ mo (cd3 (inb y (qn σ) ∧ inb z (qn σ)) (inb w 3 ∧ inR r (1 : Nat) (9 : Nat)) (qg σ (y.toInt.toNat) = 0 ∧ qg σ (z.toInt.toNat) = 0 ∧ ¬ y.toInt.toNat = z.toInt.toNat ∧ qp σ (y.toInt.toNat) + qp σ (z.toInt.toNat) ≤ 12 ∧ qn σ < 40)) σ (sGlue σ (y.toInt.toNat) (z.toInt.toNat) w.toInt.toNat r.toInt.toNat) (nI (qn σ)) H v H2) 0 0 := by
  refine Mt.of (cc := cX2_glue) (maxL := 7) (ret := (some .int)) (by decide) rfl (Nat.le_of_ble_eq_true rfl) ?_
  intro p e s m below meth c S hr hlk hin hK hW ls hl
  obtain ⟨hx, hb, hml, hown, hts⟩ := id S
  obtain ⟨lc, elc⟩ : ∃ z : List Loc, z = [] := ⟨_, rfl⟩
  rw [← elc]
  have hlo : lo bs lc := by rw [elc]; exact lo.nil
  clear elc
  have hl : lv_has ls 7 [(0, .ref mo), (1, .int y), (2, .int z), (3, .int w), (4, .int r)] := hl
  have hn40 := hI.1
  have hFr : Fr mo (mo + 11) s.heap s.heap := Fr.rf
  obtain ⟨g1, g2, hW⟩ := hW
  refine lv_aload_n hx hb dX2_glue_0 rfl (lv_at hl 0 rfl) ?_
  refine lv_iconst (v := nI 0) hx hb dX2_glue_1 (by decide +kernel) ?_
  refine x_putX S in_X2_glue_X2 tyX2 tyX2_ok nmX2 hK hW.1 rfl 0 (by decide) (by decide +kernel) rfl (Or.inl rfl) (tyX2_ok 0 (by decide)) rfl rfl (Nat.le_of_ble_eq_true rfl) hlo (by omega) dX2_glue_2 (fun H1 lc1 hO1 hz1 ho1 hlo => ?_)
  have hO1 : Ob Γ 2 mo [.int (nI 0), .int (nI (qn σ)), .int (qb σ), .ref (mo + 1), .ref (mo + 2), .ref (mo + 3), .ref (mo + 4), .ref (mo + 5), .ref (mo + 6), .ref (mo + 7), .ref (mo + 8), .ref (mo + 9), .ref (mo + 10)] H1 := hO1
  have hFr := hFr.put hz1 ho1 (by omega) (by omega)
  have hW := MW.put (σ' := σ) hW hO1 ho1 rfl
  have hW : MW Γ mo (nI 0) σ g1 g2 H1 := hW
  refine lv_aload_n hx hb dX2_glue_5 rfl (lv_at hl 0 rfl) ?_
  refine lv_iload_n hx hb dX2_glue_6 rfl (lv_at hl 1 rfl) ?_
  refine ro_V (rest := []) S hK (c_X2_isStick l Γ mo (nI 0) σ g1 g2 hI y) (cwV 1 hts gX2_glue_X2_isStick rfl rfl rfl (by decide +kernel) ⟨Nat.le_of_ble_eq_true rfl, Nat.le_of_ble_eq_true rfl⟩) (Ob.recv hK hW.1 rfl) hW rfl hl.1 rfl (Nat.le_of_ble_eq_true rfl) dX2_glue_7 ⟨Nat.le_of_ble_eq_true rfl, Nat.le_of_ble_eq_true rfl⟩ ?_
  refine W.eq (g2 := F0 m 10 ls [.int (nI (bP (inb y (qn σ))))]) rfl ?_
  have hbb7 := bP_le (inb y (qn σ))
  refine x_ifeq hx hb (by omega) (tgt := 21) dX2_glue_10 (by decide) (fun c_1 => ?_) (fun c_1 => ?_)
  · skip
    refine lv_aload_n hx hb dX2_glue_21 rfl (lv_at hl 0 rfl) ?_
    refine lv_iconst (v := nI 1) hx hb dX2_glue_22 (by decide +kernel) ?_
    refine m_V (rest := []) S hK (c_X2_no l Γ bs mo (nI 0) σ g1 g2 hI hbm 1) (cwV 1 hts gX2_glue_X2_no rfl rfl rfl (by decide +kernel) ⟨Nat.le_of_ble_eq_true rfl, Nat.le_of_ble_eq_true rfl⟩) (Ob.recv hK hW.1 rfl) hW rfl hl.1 rfl (Nat.le_of_ble_eq_true rfl) dX2_glue_23 ⟨Nat.le_of_ble_eq_true rfl, Nat.le_of_ble_eq_true rfl⟩ hlo (fun v H1 lc1 hp hlo => ?_)
    obtain ⟨rfl, hW, hFq, hzq⟩ := hp
    refine W.eq (g2 := F0 m 26 ls [.int (nI 0)]) rfl ?_
    have hFr := hFr.trans hFq
    refine W.widen (k := 0) (n := 0) (Nat.le_of_ble_eq_true rfl) (Nat.le_of_ble_eq_true rfl) ?_
    exact m_iret (Post := fun H v H2 => PM Γ mo (cd3 (inb y (qn σ) ∧ inb z (qn σ)) (inb w 3 ∧ inR r (1 : Nat) (9 : Nat)) (qg σ (y.toInt.toNat) = 0 ∧ qg σ (z.toInt.toNat) = 0 ∧ ¬ y.toInt.toNat = z.toInt.toNat ∧ qp σ (y.toInt.toNat) + qp σ (z.toInt.toNat) ≤ 12 ∧ qn σ < 40)) σ (sGlue σ (y.toInt.toNat) (z.toInt.toNat) w.toInt.toNat r.toInt.toNat) (nI (qn σ)) H v H2) hx hb hr hlk hlo dX2_glue_26 (PM.no (i := 0) (cd3_1 (fun q => bP_0 c_1 q.1)) rfl ⟨_, _, hW⟩ hFr)
  · skip
    obtain ⟨k, hk, rfl⟩ := inb_ex (bP_1 c_1)
    obtain ⟨hp0k, hp12k, hu3k, hg1k⟩ := hI.2.1 k hk
    refine lv_aload_n hx hb dX2_glue_13 rfl (lv_at hl 0 rfl) ?_
    refine lv_iload_n hx hb dX2_glue_14 rfl (lv_at hl 2 rfl) ?_
    refine ro_V (rest := []) S hK (c_X2_isStick l Γ mo (nI 0) σ g1 g2 hI z) (cwV 1 hts gX2_glue_X2_isStick rfl rfl rfl (by decide +kernel) ⟨Nat.le_of_ble_eq_true rfl, Nat.le_of_ble_eq_true rfl⟩) (Ob.recv hK hW.1 rfl) hW rfl hl.1 rfl (Nat.le_of_ble_eq_true rfl) dX2_glue_15 ⟨Nat.le_of_ble_eq_true rfl, Nat.le_of_ble_eq_true rfl⟩ ?_
    refine W.eq (g2 := F0 m 18 ls [.int (nI (bP (inb z (qn σ))))]) rfl ?_
    have hbb15 := bP_le (inb z (qn σ))
    refine x_ifne hx hb (by omega) (tgt := 27) dX2_glue_18 (by decide) (fun c_2 => ?_) (fun c_2 => ?_)
    · skip
      obtain ⟨j, hj, rfl⟩ := inb_ex (bP_1 c_2)
      obtain ⟨hp0j, hp12j, hu3j, hg1j⟩ := hI.2.1 j hj
      refine lv_iload_n hx hb dX2_glue_27 rfl (lv_at hl 3 rfl) ?_
      refine lv_iconst (v := nI 0) hx hb dX2_glue_28 (by decide +kernel) ?_
      refine lv_iconst (v := nI 2) hx hb dX2_glue_29 (by decide +kernel) ?_
      refine ro_S (rest := []) S hK (c_X2_isIn l Γ w (nI 0) (nI 2)) (cwS 3 hts gX2_glue_X2_isIn rfl rfl rfl (by decide +kernel) ⟨Nat.le_of_ble_eq_true rfl, Nat.le_of_ble_eq_true rfl⟩) trivial rfl hl.1 rfl (Nat.le_of_ble_eq_true rfl) dX2_glue_30 ⟨Nat.le_of_ble_eq_true rfl, Nat.le_of_ble_eq_true rfl⟩ ?_
      refine W.eq (g2 := F0 m 33 ls [.int (nI (bP (nI 0 ≤ w ∧ w ≤ nI 2)))]) rfl ?_
      refine x_e (show nI (bP (nI 0 ≤ w ∧ w ≤ nI 2)) = nI (bP (inb w 3)) by rw [bP_iff isin_3]) ?_
      have hbb30 := bP_le (inb w 3)
      refine x_ifeq hx hb (by omega) (tgt := 47) dX2_glue_33 (by decide) (fun c_3 => ?_) (fun c_3 => ?_)
      · skip
        refine lv_aload_n hx hb dX2_glue_47 rfl (lv_at hl 0 rfl) ?_
        refine lv_iconst (v := nI 2) hx hb dX2_glue_48 (by decide +kernel) ?_
        refine m_V (rest := []) S hK (c_X2_no l Γ bs mo (nI 0) σ g1 g2 hI hbm 2) (cwV 1 hts gX2_glue_X2_no rfl rfl rfl (by decide +kernel) ⟨Nat.le_of_ble_eq_true rfl, Nat.le_of_ble_eq_true rfl⟩) (Ob.recv hK hW.1 rfl) hW rfl hl.1 rfl (Nat.le_of_ble_eq_true rfl) dX2_glue_49 ⟨Nat.le_of_ble_eq_true rfl, Nat.le_of_ble_eq_true rfl⟩ hlo (fun v H1 lc1 hp hlo => ?_)
        obtain ⟨rfl, hW, hFq, hzq⟩ := hp
        refine W.eq (g2 := F0 m 52 ls [.int (nI 0)]) rfl ?_
        have hFr := hFr.trans hFq
        refine W.widen (k := 0) (n := 0) (Nat.le_of_ble_eq_true rfl) (Nat.le_of_ble_eq_true rfl) ?_
        exact m_iret (Post := fun H v H2 => PM Γ mo (cd3 (inb (nI k) (qn σ) ∧ inb (nI j) (qn σ)) (inb w 3 ∧ inR r (1 : Nat) (9 : Nat)) (qg σ ((nI k).toInt.toNat) = 0 ∧ qg σ ((nI j).toInt.toNat) = 0 ∧ ¬ (nI k).toInt.toNat = (nI j).toInt.toNat ∧ qp σ ((nI k).toInt.toNat) + qp σ ((nI j).toInt.toNat) ≤ 12 ∧ qn σ < 40)) σ (sGlue σ ((nI k).toInt.toNat) ((nI j).toInt.toNat) w.toInt.toNat r.toInt.toNat) (nI (qn σ)) H v H2) hx hb hr hlk hlo dX2_glue_52 (PM.no (i := 1) (cd3_2 ⟨((inb_nI (by omega)).mpr hk), ((inb_nI (by omega)).mpr hj)⟩ (fun q => bP_0 c_3 q.1)) rfl ⟨_, _, hW⟩ hFr)
      · skip
        obtain ⟨i2, hi2, rfl⟩ := inb_ex (bP_1 c_3)
        refine lv_iload hx hb dX2_glue_36 (lv_at hl 4 rfl) ?_
        refine lv_iconst (v := nI 1) hx hb dX2_glue_38 (by decide +kernel) ?_
        refine lv_bipush (v := nI 9) hx hb dX2_glue_39 (by decide +kernel) ?_
        refine ro_S (rest := []) S hK (c_X2_isIn l Γ r (nI 1) (nI 9)) (cwS 3 hts gX2_glue_X2_isIn rfl rfl rfl (by decide +kernel) ⟨Nat.le_of_ble_eq_true rfl, Nat.le_of_ble_eq_true rfl⟩) trivial rfl hl.1 rfl (Nat.le_of_ble_eq_true rfl) dX2_glue_41 ⟨Nat.le_of_ble_eq_true rfl, Nat.le_of_ble_eq_true rfl⟩ ?_
        refine W.eq (g2 := F0 m 44 ls [.int (nI (bP (nI 1 ≤ r ∧ r ≤ nI 9)))]) rfl ?_
        refine x_e (show nI (bP (nI 1 ≤ r ∧ r ≤ nI 9)) = nI (bP (inR r (1 : Nat) (9 : Nat))) by rw [bP_iff (inR_iff (by decide) (by decide))]) ?_
        have hbb41 := bP_le (inR r (1 : Nat) (9 : Nat))
        refine x_ifne hx hb (by omega) (tgt := 53) dX2_glue_44 (by decide) (fun c_4 => ?_) (fun c_4 => ?_)
        · skip
          have hfc := bP_1 c_4
          obtain ⟨i3, h1i3, h2i3, rfl⟩ := inR_ex hfc
          refine lv_aload_n hx hb dX2_glue_53 rfl (lv_at hl 0 rfl) ?_
          refine x_get S in_X2_glue_X2 hK hW.1 rfl 5 (by decide) (by decide +kernel) rfl rfl dX2_glue_54 ?_
          refine lv_iload_n hx hb dX2_glue_57 rfl (lv_at hl 1 rfl) ?_
          refine x_iald hx hb hK hW.2.2.2.1 (by omega) (by omega) dX2_glue_58 ?_
          refine lv_aload_n hx hb dX2_glue_59 rfl (lv_at hl 0 rfl) ?_
          refine x_get S in_X2_glue_X2 hK hW.1 rfl 5 (by decide) (by decide +kernel) rfl rfl dX2_glue_60 ?_
          refine lv_iload_n hx hb dX2_glue_63 rfl (lv_at hl 2 rfl) ?_
          refine x_iald hx hb hK hW.2.2.2.1 (by omega) (by omega) dX2_glue_64 ?_
          refine x_add hx hb dX2_glue_65 ?_
          refine lv_if_gt (tgt := 101) hx hb dX2_glue_66 (by decide) (fun c_5 => ?_) (fun c_5 => ?_)
          · skip
            have c66 := nI_gt0 (by omega) c_5
            refine lv_aload_n hx hb dX2_glue_101 rfl (lv_at hl 0 rfl) ?_
            refine lv_iconst (v := nI 3) hx hb dX2_glue_102 (by decide +kernel) ?_
            refine m_V (rest := []) S hK (c_X2_no l Γ bs mo (nI 0) σ g1 g2 hI hbm 3) (cwV 1 hts gX2_glue_X2_no rfl rfl rfl (by decide +kernel) ⟨Nat.le_of_ble_eq_true rfl, Nat.le_of_ble_eq_true rfl⟩) (Ob.recv hK hW.1 rfl) hW rfl hl.1 rfl (Nat.le_of_ble_eq_true rfl) dX2_glue_103 ⟨Nat.le_of_ble_eq_true rfl, Nat.le_of_ble_eq_true rfl⟩ hlo (fun v H1 lc1 hp hlo => ?_)
            obtain ⟨rfl, hW, hFq, hzq⟩ := hp
            refine W.eq (g2 := F0 m 106 ls [.int (nI 0)]) rfl ?_
            have hFr := hFr.trans hFq
            refine W.widen (k := 0) (n := 0) (Nat.le_of_ble_eq_true rfl) (Nat.le_of_ble_eq_true rfl) ?_
            exact m_iret (Post := fun H v H2 => PM Γ mo (cd3 (inb (nI k) (qn σ) ∧ inb (nI j) (qn σ)) (inb (nI i2) 3 ∧ inR (nI i3) (1 : Nat) (9 : Nat)) (qg σ ((nI k).toInt.toNat) = 0 ∧ qg σ ((nI j).toInt.toNat) = 0 ∧ ¬ (nI k).toInt.toNat = (nI j).toInt.toNat ∧ qp σ ((nI k).toInt.toNat) + qp σ ((nI j).toInt.toNat) ≤ 12 ∧ qn σ < 40)) σ (sGlue σ ((nI k).toInt.toNat) ((nI j).toInt.toNat) (nI i2).toInt.toNat (nI i3).toInt.toNat) (nI (qn σ)) H v H2) hx hb hr hlk hlo dX2_glue_106 (PM.no (i := 2) (cd3_3 ⟨((inb_nI (by omega)).mpr hk), ((inb_nI (by omega)).mpr hj)⟩ ⟨(inb_nI (by omega)).mpr hi2, hfc⟩ (fun q => by have h9 := q; rw [toN (by omega), toN (by omega)] at h9; omega)) rfl ⟨_, _, hW⟩ hFr)
          · skip
            have c66 := nI_z (by omega) c_5
            refine lv_iload_n hx hb dX2_glue_69 rfl (lv_at hl 1 rfl) ?_
            refine lv_iload_n hx hb dX2_glue_70 rfl (lv_at hl 2 rfl) ?_
            refine x_iceq hx hb (by omega) (by omega) (tgt := 101) dX2_glue_71 (by decide) (fun c_6 => ?_) (fun c_6 => ?_)
            · skip
              refine lv_aload_n hx hb dX2_glue_101 rfl (lv_at hl 0 rfl) ?_
              refine lv_iconst (v := nI 3) hx hb dX2_glue_102 (by decide +kernel) ?_
              refine m_V (rest := []) S hK (c_X2_no l Γ bs mo (nI 0) σ g1 g2 hI hbm 3) (cwV 1 hts gX2_glue_X2_no rfl rfl rfl (by decide +kernel) ⟨Nat.le_of_ble_eq_true rfl, Nat.le_of_ble_eq_true rfl⟩) (Ob.recv hK hW.1 rfl) hW rfl hl.1 rfl (Nat.le_of_ble_eq_true rfl) dX2_glue_103 ⟨Nat.le_of_ble_eq_true rfl, Nat.le_of_ble_eq_true rfl⟩ hlo (fun v H1 lc1 hp hlo => ?_)
              obtain ⟨rfl, hW, hFq, hzq⟩ := hp
              refine W.eq (g2 := F0 m 106 ls [.int (nI 0)]) rfl ?_
              have hFr := hFr.trans hFq
              refine W.widen (k := 0) (n := 0) (Nat.le_of_ble_eq_true rfl) (Nat.le_of_ble_eq_true rfl) ?_
              exact m_iret (Post := fun H v H2 => PM Γ mo (cd3 (inb (nI k) (qn σ) ∧ inb (nI j) (qn σ)) (inb (nI i2) 3 ∧ inR (nI i3) (1 : Nat) (9 : Nat)) (qg σ ((nI k).toInt.toNat) = 0 ∧ qg σ ((nI j).toInt.toNat) = 0 ∧ ¬ (nI k).toInt.toNat = (nI j).toInt.toNat ∧ qp σ ((nI k).toInt.toNat) + qp σ ((nI j).toInt.toNat) ≤ 12 ∧ qn σ < 40)) σ (sGlue σ ((nI k).toInt.toNat) ((nI j).toInt.toNat) (nI i2).toInt.toNat (nI i3).toInt.toNat) (nI (qn σ)) H v H2) hx hb hr hlk hlo dX2_glue_106 (PM.no (i := 2) (cd3_3 ⟨((inb_nI (by omega)).mpr hk), ((inb_nI (by omega)).mpr hj)⟩ ⟨(inb_nI (by omega)).mpr hi2, hfc⟩ (fun q => by have h9 := q; rw [toN (by omega), toN (by omega)] at h9; omega)) rfl ⟨_, _, hW⟩ hFr)
            · skip
              refine lv_aload_n hx hb dX2_glue_74 rfl (lv_at hl 0 rfl) ?_
              refine x_get S in_X2_glue_X2 hK hW.1 rfl 3 (by decide) (by decide +kernel) rfl rfl dX2_glue_75 ?_
              refine lv_iload_n hx hb dX2_glue_78 rfl (lv_at hl 1 rfl) ?_
              refine x_iald hx hb hK hW.2.1 (by omega) (by omega) dX2_glue_79 ?_
              refine lv_aload_n hx hb dX2_glue_80 rfl (lv_at hl 0 rfl) ?_
              refine x_get S in_X2_glue_X2 hK hW.1 rfl 3 (by decide) (by decide +kernel) rfl rfl dX2_glue_81 ?_
              refine lv_iload_n hx hb dX2_glue_84 rfl (lv_at hl 2 rfl) ?_
              refine x_iald hx hb hK hW.2.1 (by omega) (by omega) dX2_glue_85 ?_
              refine x_add hx hb dX2_glue_86 ?_
              refine lv_bipush (v := nI 12) hx hb dX2_glue_87 (by decide +kernel) ?_
              refine x_icgt hx hb (by omega) (by omega) (tgt := 101) dX2_glue_89 (by decide) (fun c_7 => ?_) (fun c_7 => ?_)
              · skip
                refine lv_aload_n hx hb dX2_glue_101 rfl (lv_at hl 0 rfl) ?_
                refine lv_iconst (v := nI 3) hx hb dX2_glue_102 (by decide +kernel) ?_
                refine m_V (rest := []) S hK (c_X2_no l Γ bs mo (nI 0) σ g1 g2 hI hbm 3) (cwV 1 hts gX2_glue_X2_no rfl rfl rfl (by decide +kernel) ⟨Nat.le_of_ble_eq_true rfl, Nat.le_of_ble_eq_true rfl⟩) (Ob.recv hK hW.1 rfl) hW rfl hl.1 rfl (Nat.le_of_ble_eq_true rfl) dX2_glue_103 ⟨Nat.le_of_ble_eq_true rfl, Nat.le_of_ble_eq_true rfl⟩ hlo (fun v H1 lc1 hp hlo => ?_)
                obtain ⟨rfl, hW, hFq, hzq⟩ := hp
                refine W.eq (g2 := F0 m 106 ls [.int (nI 0)]) rfl ?_
                have hFr := hFr.trans hFq
                refine W.widen (k := 0) (n := 0) (Nat.le_of_ble_eq_true rfl) (Nat.le_of_ble_eq_true rfl) ?_
                exact m_iret (Post := fun H v H2 => PM Γ mo (cd3 (inb (nI k) (qn σ) ∧ inb (nI j) (qn σ)) (inb (nI i2) 3 ∧ inR (nI i3) (1 : Nat) (9 : Nat)) (qg σ ((nI k).toInt.toNat) = 0 ∧ qg σ ((nI j).toInt.toNat) = 0 ∧ ¬ (nI k).toInt.toNat = (nI j).toInt.toNat ∧ qp σ ((nI k).toInt.toNat) + qp σ ((nI j).toInt.toNat) ≤ 12 ∧ qn σ < 40)) σ (sGlue σ ((nI k).toInt.toNat) ((nI j).toInt.toNat) (nI i2).toInt.toNat (nI i3).toInt.toNat) (nI (qn σ)) H v H2) hx hb hr hlk hlo dX2_glue_106 (PM.no (i := 2) (cd3_3 ⟨((inb_nI (by omega)).mpr hk), ((inb_nI (by omega)).mpr hj)⟩ ⟨(inb_nI (by omega)).mpr hi2, hfc⟩ (fun q => by have h9 := q; rw [toN (by omega), toN (by omega)] at h9; omega)) rfl ⟨_, _, hW⟩ hFr)
              · skip
                refine lv_aload_n hx hb dX2_glue_92 rfl (lv_at hl 0 rfl) ?_
                refine x_get S in_X2_glue_X2 hK hW.1 rfl 1 (by decide) (by decide +kernel) rfl rfl dX2_glue_93 ?_
                refine lv_bipush (v := nI 40) hx hb dX2_glue_96 (by decide +kernel) ?_
                refine x_icne hx hb (by omega) (by omega) (tgt := 107) dX2_glue_98 (by decide) (fun c_8 => ?_) (fun c_8 => ?_)
                · skip
                  refine lv_iload_n hx hb dX2_glue_107 rfl (lv_at hl 3 rfl) ?_
                  refine x_ifne hx hb (by omega) (tgt := 124) dX2_glue_108 (by decide) (fun c_9 => ?_) (fun c_9 => ?_)
                  · skip
                    refine lv_iconst (v := nI 0) hx hb dX2_glue_124 (by decide +kernel) ?_
                    refine x_e (show nI 0 = nI (more σ k j i2) by unfold more; rw [bP_f (fun q => by have := q.1; omega)]) ?_
                    have hmo : more σ k j i2 ≤ 3 := by have := bP_le (i2 = 0 ∧ fitP σ k j); unfold more; omega
                    refine lv_istore (lv' := [(5, .int (nI (more σ k j i2))), (0, .ref mo), (1, .int (nI k)), (2, .int (nI j)), (3, .int (nI i2)), (4, .int (nI i3))]) hx hb dX2_glue_125 hl (by decide) rfl (fun ls hl => ?_)
                    refine lv_aload_n hx hb dX2_glue_127 rfl (lv_at hl 1 rfl) ?_
                    refine x_get S in_X2_glue_X2 hK hW.1 rfl 5 (by decide) (by decide +kernel) rfl rfl dX2_glue_128 ?_
                    refine lv_iload_n hx hb dX2_glue_131 rfl (lv_at hl 2 rfl) ?_
                    refine lv_iconst (v := nI 1) hx hb dX2_glue_132 (by decide +kernel) ?_
                    refine x_iast hx hb hK hW.2.2.2.1 (by omega) (by omega) hlo (by omega) dX2_glue_133 (fun H1 lc1 hA1 hz1 ho1 hlo => ?_)
                    have hFr := hFr.put hz1 ho1 (by omega) (by omega)
                    have hW := MW.sG (v := 1) hW hA1 ho1
                    have hW : MW Γ mo (nI 0) (u_G σ k 1) g1 g2 H1 := hW
                    refine lv_aload_n hx hb dX2_glue_134 rfl (lv_at hl 1 rfl) ?_
                    refine x_get S in_X2_glue_X2 hK (show Ob Γ 2 mo [.int (nI 0), .int (nI (qn σ)), .int (qb σ), .ref (mo + 1), .ref (mo + 2), .ref (mo + 3), .ref (mo + 4), .ref (mo + 5), .ref (mo + 6), .ref (mo + 7), .ref (mo + 8), .ref (mo + 9), .ref (mo + 10)] _ from hW.1) rfl 5 (by decide) (by decide +kernel) rfl rfl dX2_glue_135 ?_
                    refine lv_iload_n hx hb dX2_glue_138 rfl (lv_at hl 3 rfl) ?_
                    refine lv_iconst (v := nI 1) hx hb dX2_glue_139 (by decide +kernel) ?_
                    refine x_iast hx hb hK hW.2.2.2.1 (by omega) (by omega) hlo (by omega) dX2_glue_140 (fun H1 lc1 hA1 hz1 ho1 hlo => ?_)
                    have hFr := hFr.put hz1 ho1 (by omega) (by omega)
                    have hW := MW.sG (v := 1) hW hA1 ho1
                    have hW : MW Γ mo (nI 0) (u_G (u_G σ k 1) j 1) g1 g2 H1 := hW
                    have hW : MW Γ mo (nI 0) (o_gone (o_gone σ k) j) g1 g2 _ := hW
                    have h0 : qg σ k = 0 := by omega
                    have h1 : qg σ j = 0 := by omega
                    have h7 := hI.2.2.2.2.2.2
                    obtain ⟨hg1, hg2⟩ := Iv_gone hI hk h0
                    obtain ⟨hg3, hg4⟩ := Iv_gone (k := j) hg1 hj (by show va_up (qg σ) k 1 j = 0; rw [va_up_ne _ _ (show j ≠ k by omega)]; exact h1)
                    have hg4 : thr (o_gone (o_gone σ k) j) (qn σ) + 1 = thr (o_gone σ k) (qn σ) := hg4
                    have hb1 : Iv (o_add (o_gone (o_gone σ k) j) (qp σ k + qp σ j) (qu σ k) (qB σ k) (qE σ j)) := Iv_make hg3 (show qn σ < 40 by omega) (show thr (o_gone (o_gone σ k) j) (qn σ) < 12 by omega) (by omega) (by omega) hu3k
                    have hb2 : Iv (o_lay (o_add (o_gone (o_gone σ k) j) (qp σ k + qp σ j) (qu σ k) (qB σ k) (qE σ j)) k 0 (qp σ k) (qn σ) 0 0) := Iv_lay hb1 (show qn σ < qn σ + 1 by omega) (by omega)
                    refine lv_aload_n hx hb dX2_glue_141 rfl (lv_at hl 1 rfl) ?_
                    refine lv_aload_n hx hb dX2_glue_142 rfl (lv_at hl 1 rfl) ?_
                    refine x_get S in_X2_glue_X2 hK (show Ob Γ 2 mo [.int (nI 0), .int (nI (qn σ)), .int (qb σ), .ref (mo + 1), .ref (mo + 2), .ref (mo + 3), .ref (mo + 4), .ref (mo + 5), .ref (mo + 6), .ref (mo + 7), .ref (mo + 8), .ref (mo + 9), .ref (mo + 10)] _ from hW.1) rfl 3 (by decide) (by decide +kernel) rfl rfl dX2_glue_143 ?_
                    refine lv_iload_n hx hb dX2_glue_146 rfl (lv_at hl 2 rfl) ?_
                    refine x_iald hx hb hK hW.2.1 (by omega) (by omega) dX2_glue_147 ?_
                    refine x_e (show nI (qp (o_gone (o_gone σ k) j) k) = nI (qp σ k) from rfl) ?_
                    refine lv_aload_n hx hb dX2_glue_148 rfl (lv_at hl 1 rfl) ?_
                    refine x_get S in_X2_glue_X2 hK (show Ob Γ 2 mo [.int (nI 0), .int (nI (qn σ)), .int (qb σ), .ref (mo + 1), .ref (mo + 2), .ref (mo + 3), .ref (mo + 4), .ref (mo + 5), .ref (mo + 6), .ref (mo + 7), .ref (mo + 8), .ref (mo + 9), .ref (mo + 10)] _ from hW.1) rfl 3 (by decide) (by decide +kernel) rfl rfl dX2_glue_149 ?_
                    refine lv_iload_n hx hb dX2_glue_152 rfl (lv_at hl 3 rfl) ?_
                    refine x_iald hx hb hK hW.2.1 (by omega) (by omega) dX2_glue_153 ?_
                    refine x_e (show nI (qp (o_gone (o_gone σ k) j) j) = nI (qp σ j) from rfl) ?_
                    refine x_add hx hb dX2_glue_154 ?_
                    refine lv_aload_n hx hb dX2_glue_155 rfl (lv_at hl 1 rfl) ?_
                    refine x_get S in_X2_glue_X2 hK (show Ob Γ 2 mo [.int (nI 0), .int (nI (qn σ)), .int (qb σ), .ref (mo + 1), .ref (mo + 2), .ref (mo + 3), .ref (mo + 4), .ref (mo + 5), .ref (mo + 6), .ref (mo + 7), .ref (mo + 8), .ref (mo + 9), .ref (mo + 10)] _ from hW.1) rfl 4 (by decide) (by decide +kernel) rfl rfl dX2_glue_156 ?_
                    refine lv_iload_n hx hb dX2_glue_159 rfl (lv_at hl 2 rfl) ?_
                    refine x_iald hx hb hK hW.2.2.1 (by omega) (by omega) dX2_glue_160 ?_
                    refine x_e (show nI (qu (o_gone (o_gone σ k) j) k) = nI (qu σ k) from rfl) ?_
                    refine lv_aload_n hx hb dX2_glue_161 rfl (lv_at hl 1 rfl) ?_
                    refine x_get S in_X2_glue_X2 hK (show Ob Γ 2 mo [.int (nI 0), .int (nI (qn σ)), .int (qb σ), .ref (mo + 1), .ref (mo + 2), .ref (mo + 3), .ref (mo + 4), .ref (mo + 5), .ref (mo + 6), .ref (mo + 7), .ref (mo + 8), .ref (mo + 9), .ref (mo + 10)] _ from hW.1) rfl 6 (by decide) (by decide +kernel) rfl rfl dX2_glue_162 ?_
                    refine lv_iload_n hx hb dX2_glue_165 rfl (lv_at hl 2 rfl) ?_
                    refine x_iald hx hb hK hW.2.2.2.2.1 (by omega) (by omega) dX2_glue_166 ?_
                    refine x_e (show qB (o_gone (o_gone σ k) j) k = qB σ k from rfl) ?_
                    refine lv_aload_n hx hb dX2_glue_167 rfl (lv_at hl 1 rfl) ?_
                    refine x_get S in_X2_glue_X2 hK (show Ob Γ 2 mo [.int (nI 0), .int (nI (qn σ)), .int (qb σ), .ref (mo + 1), .ref (mo + 2), .ref (mo + 3), .ref (mo + 4), .ref (mo + 5), .ref (mo + 6), .ref (mo + 7), .ref (mo + 8), .ref (mo + 9), .ref (mo + 10)] _ from hW.1) rfl 7 (by decide) (by decide +kernel) rfl rfl dX2_glue_168 ?_
                    refine lv_iload_n hx hb dX2_glue_171 rfl (lv_at hl 3 rfl) ?_
                    refine x_iald hx hb hK hW.2.2.2.2.2.1 (by omega) (by omega) dX2_glue_172 ?_
                    refine x_e (show qE (o_gone (o_gone σ k) j) j = qE σ j from rfl) ?_
                    refine m_V (rest := []) S hK (c_X2_add l Γ bs mo (nI 0) (o_gone (o_gone σ k) j) g1 g2 (hg3) hbm ((qp σ k) + (qp σ j)) (qu σ k) (qB σ k) (qE σ j) (show qn σ < 40 by omega)) (cwV 4 hts gX2_glue_X2_add rfl rfl rfl (by decide +kernel) ⟨Nat.le_of_ble_eq_true rfl, Nat.le_of_ble_eq_true rfl⟩) (Ob.recv hK hW.1 rfl) hW rfl hl.1 rfl (Nat.le_of_ble_eq_true rfl) dX2_glue_173 ⟨Nat.le_of_ble_eq_true rfl, Nat.le_of_ble_eq_true rfl⟩ hlo (fun v H1 lc1 hp hlo => ?_)
                    obtain ⟨rfl, hW, hFq, hzq⟩ := hp
                    refine W.eq (g2 := F0 m 176 ls [.int (nI (qn σ))]) rfl ?_
                    have hFr := hFr.trans hFq
                    refine lv_istore (lv' := [(6, .int (nI (qn σ))), (5, .int (nI (more σ k j i2))), (0, .ref mo), (1, .int (nI k)), (2, .int (nI j)), (3, .int (nI i2)), (4, .int (nI i3))]) hx hb dX2_glue_176 hl (by decide) rfl (fun ls hl => ?_)
                    refine lv_aload_n hx hb dX2_glue_178 rfl (lv_at hl 2 rfl) ?_
                    refine lv_iload_n hx hb dX2_glue_179 rfl (lv_at hl 3 rfl) ?_
                    refine lv_iconst (v := nI 0) hx hb dX2_glue_180 (by decide +kernel) ?_
                    refine lv_aload_n hx hb dX2_glue_181 rfl (lv_at hl 2 rfl) ?_
                    refine x_get S in_X2_glue_X2 hK (show Ob Γ 2 mo [.int (nI 0), .int (nI (qn σ + 1)), .int (qb σ), .ref (mo + 1), .ref (mo + 2), .ref (mo + 3), .ref (mo + 4), .ref (mo + 5), .ref (mo + 6), .ref (mo + 7), .ref (mo + 8), .ref (mo + 9), .ref (mo + 10)] _ from hW.1) rfl 3 (by decide) (by decide +kernel) rfl rfl dX2_glue_182 ?_
                    refine lv_iload_n hx hb dX2_glue_185 rfl (lv_at hl 3 rfl) ?_
                    refine x_iald hx hb hK hW.2.1 (by omega) (by omega) dX2_glue_186 ?_
                    refine x_e (show nI (qp (o_add (o_gone (o_gone σ k) j) ((qp σ k) + (qp σ j)) (qu σ k) (qB σ k) (qE σ j)) k) = nI (qp σ k) from congrArg nI (va_up_ne _ _ (show k ≠ qn σ by omega))) ?_
                    refine lv_iload hx hb dX2_glue_187 (lv_at hl 0 rfl) ?_
                    refine lv_iconst (v := nI 0) hx hb dX2_glue_189 (by decide +kernel) ?_
                    refine lv_iconst (v := nI 0) hx hb dX2_glue_190 (by decide +kernel) ?_
                    refine m_V (rest := []) S hK (c_X2_lay l Γ bs mo (nI 0) (o_add (o_gone (o_gone σ k) j) ((qp σ k) + (qp σ j)) (qu σ k) (qB σ k) (qE σ j)) g1 g2 (hb1) hbm k 0 (qp σ k) (qn σ) 0 0 (by omega) (by omega) (by omega) (by omega) (by omega) (by omega) (by omega)) (cwV 6 hts gX2_glue_X2_lay rfl rfl rfl (by decide +kernel) ⟨Nat.le_of_ble_eq_true rfl, Nat.le_of_ble_eq_true rfl⟩) (Ob.recv hK hW.1 rfl) hW rfl hl.1 rfl (Nat.le_of_ble_eq_true rfl) dX2_glue_191 ⟨Nat.le_of_ble_eq_true rfl, Nat.le_of_ble_eq_true rfl⟩ hlo (fun v H1 lc1 hp hlo => ?_)
                    obtain ⟨rfl, hW, hFq, hzq⟩ := hp
                    refine W.eq (g2 := F0 m 194 ls []) rfl ?_
                    have hFr := hFr.trans hFq
                    refine lv_aload_n hx hb dX2_glue_194 rfl (lv_at hl 2 rfl) ?_
                    refine lv_iload_n hx hb dX2_glue_195 rfl (lv_at hl 4 rfl) ?_
                    refine lv_iconst (v := nI 0) hx hb dX2_glue_196 (by decide +kernel) ?_
                    refine lv_aload_n hx hb dX2_glue_197 rfl (lv_at hl 2 rfl) ?_
                    refine x_get S in_X2_glue_X2 hK (show Ob Γ 2 mo [.int (nI 0), .int (nI (qn σ + 1)), .int (qb σ), .ref (mo + 1), .ref (mo + 2), .ref (mo + 3), .ref (mo + 4), .ref (mo + 5), .ref (mo + 6), .ref (mo + 7), .ref (mo + 8), .ref (mo + 9), .ref (mo + 10)] _ from hW.1) rfl 3 (by decide) (by decide +kernel) rfl rfl dX2_glue_198 ?_
                    refine lv_iload_n hx hb dX2_glue_201 rfl (lv_at hl 4 rfl) ?_
                    refine x_iald hx hb hK hW.2.1 (by omega) (by omega) dX2_glue_202 ?_
                    refine x_e (show nI (qp (o_lay (o_add (o_gone (o_gone σ k) j) ((qp σ k) + (qp σ j)) (qu σ k) (qB σ k) (qE σ j)) k 0 (qp σ k) (qn σ) 0 0) j) = nI (qp σ j) from congrArg nI (va_up_ne _ _ (show j ≠ qn σ by omega))) ?_
                    refine lv_iload hx hb dX2_glue_203 (lv_at hl 0 rfl) ?_
                    refine lv_aload_n hx hb dX2_glue_205 rfl (lv_at hl 2 rfl) ?_
                    refine x_get S in_X2_glue_X2 hK (show Ob Γ 2 mo [.int (nI 0), .int (nI (qn σ + 1)), .int (qb σ), .ref (mo + 1), .ref (mo + 2), .ref (mo + 3), .ref (mo + 4), .ref (mo + 5), .ref (mo + 6), .ref (mo + 7), .ref (mo + 8), .ref (mo + 9), .ref (mo + 10)] _ from hW.1) rfl 3 (by decide) (by decide +kernel) rfl rfl dX2_glue_206 ?_
                    refine lv_iload_n hx hb dX2_glue_209 rfl (lv_at hl 3 rfl) ?_
                    refine x_iald hx hb hK hW.2.1 (by omega) (by omega) dX2_glue_210 ?_
                    refine x_e (show nI (qp (o_lay (o_add (o_gone (o_gone σ k) j) ((qp σ k) + (qp σ j)) (qu σ k) (qB σ k) (qE σ j)) k 0 (qp σ k) (qn σ) 0 0) k) = nI (qp σ k) from congrArg nI (va_up_ne _ _ (show k ≠ qn σ by omega))) ?_
                    refine lv_iload_n hx hb dX2_glue_211 rfl (lv_at hl 5 rfl) ?_
                    refine m_V (rest := []) S hK (c_X2_lay l Γ bs mo (nI 0) (o_lay (o_add (o_gone (o_gone σ k) j) ((qp σ k) + (qp σ j)) (qu σ k) (qB σ k) (qE σ j)) k 0 (qp σ k) (qn σ) 0 0) g1 g2 (hb2) hbm j 0 (qp σ j) (qn σ) (qp σ k) i2 (by omega) (by omega) (by omega) (by omega) (by omega) (by omega) (by omega)) (cwV 6 hts gX2_glue_X2_lay rfl rfl rfl (by decide +kernel) ⟨Nat.le_of_ble_eq_true rfl, Nat.le_of_ble_eq_true rfl⟩) (Ob.recv hK hW.1 rfl) hW rfl hl.1 rfl (Nat.le_of_ble_eq_true rfl) dX2_glue_212 ⟨Nat.le_of_ble_eq_true rfl, Nat.le_of_ble_eq_true rfl⟩ hlo (fun v H1 lc1 hp hlo => ?_)
                    obtain ⟨rfl, hW, hFq, hzq⟩ := hp
                    refine W.eq (g2 := F0 m 215 ls []) rfl ?_
                    have hFr := hFr.trans hFq
                    refine lv_aload_n hx hb dX2_glue_215 rfl (lv_at hl 2 rfl) ?_
                    refine x_get S in_X2_glue_X2 hK (show Ob Γ 2 mo [.int (nI 0), .int (nI (qn σ + 1)), .int (qb σ), .ref (mo + 1), .ref (mo + 2), .ref (mo + 3), .ref (mo + 4), .ref (mo + 5), .ref (mo + 6), .ref (mo + 7), .ref (mo + 8), .ref (mo + 9), .ref (mo + 10)] _ from hW.1) rfl 9 (by decide) (by decide +kernel) rfl rfl dX2_glue_216 ?_
                    refine lv_bipush (v := nI 12) hx hb dX2_glue_219 (by decide +kernel) ?_
                    refine lv_iload hx hb dX2_glue_221 (lv_at hl 0 rfl) ?_
                    refine x_mul hx hb dX2_glue_223 ?_
                    refine lv_aload_n hx hb dX2_glue_224 rfl (lv_at hl 2 rfl) ?_
                    refine x_get S in_X2_glue_X2 hK (show Ob Γ 2 mo [.int (nI 0), .int (nI (qn σ + 1)), .int (qb σ), .ref (mo + 1), .ref (mo + 2), .ref (mo + 3), .ref (mo + 4), .ref (mo + 5), .ref (mo + 6), .ref (mo + 7), .ref (mo + 8), .ref (mo + 9), .ref (mo + 10)] _ from hW.1) rfl 3 (by decide) (by decide +kernel) rfl rfl dX2_glue_225 ?_
                    refine lv_iload_n hx hb dX2_glue_228 rfl (lv_at hl 3 rfl) ?_
                    refine x_iald hx hb hK hW.2.1 (by omega) (by omega) dX2_glue_229 ?_
                    refine x_e (show nI (qp (o_lay (o_lay (o_add (o_gone (o_gone σ k) j) ((qp σ k) + (qp σ j)) (qu σ k) (qB σ k) (qE σ j)) k 0 (qp σ k) (qn σ) 0 0) j 0 (qp σ j) (qn σ) (qp σ k) i2) k) = nI (qp σ k) from congrArg nI (va_up_ne _ _ (show k ≠ qn σ by omega))) ?_
                    refine x_add hx hb dX2_glue_230 ?_
                    refine lv_iconst (v := nI 1) hx hb dX2_glue_231 (by decide +kernel) ?_
                    refine x_sub hx hb (by omega) dX2_glue_232 ?_
                    refine lv_iload hx hb dX2_glue_233 (lv_at hl 6 rfl) ?_
                    refine lv_iload hx hb dX2_glue_235 (lv_at hl 1 rfl) ?_
                    refine x_add hx hb dX2_glue_237 ?_
                    refine x_iast hx hb hK hW.2.2.2.2.2.2.2.1 (by omega) (by omega) hlo (by omega) dX2_glue_238 (fun H1 lc1 hA1 hz1 ho1 hlo => ?_)
                    have hFr := hFr.put hz1 ho1 (by omega) (by omega)
                    have hW := MW.sA (v := nI (i3 + (more σ k j i2))) hW hA1 ho1
                    have hW : MW Γ mo (nI 0) (u_A (o_lay (o_lay (o_add (o_gone (o_gone σ k) j) ((qp σ k) + (qp σ j)) (qu σ k) (qB σ k) (qE σ j)) k 0 (qp σ k) (qn σ) 0 0) j 0 (qp σ j) (qn σ) (qp σ k) i2) (((12 * (qn σ)) + (qp σ k)) - 1) (nI (i3 + (more σ k j i2)))) g1 g2 H1 := hW
                    refine lv_aload_n hx hb dX2_glue_239 rfl (lv_at hl 2 rfl) ?_
                    refine x_get S in_X2_glue_X2 hK (show Ob Γ 2 mo [.int (nI 0), .int (nI (qn σ + 1)), .int (qb σ), .ref (mo + 1), .ref (mo + 2), .ref (mo + 3), .ref (mo + 4), .ref (mo + 5), .ref (mo + 6), .ref (mo + 7), .ref (mo + 8), .ref (mo + 9), .ref (mo + 10)] _ from hW.1) rfl 10 (by decide) (by decide +kernel) rfl rfl dX2_glue_240 ?_
                    refine lv_bipush (v := nI 12) hx hb dX2_glue_243 (by decide +kernel) ?_
                    refine lv_iload hx hb dX2_glue_245 (lv_at hl 0 rfl) ?_
                    refine x_mul hx hb dX2_glue_247 ?_
                    refine lv_aload_n hx hb dX2_glue_248 rfl (lv_at hl 2 rfl) ?_
                    refine x_get S in_X2_glue_X2 hK (show Ob Γ 2 mo [.int (nI 0), .int (nI (qn σ + 1)), .int (qb σ), .ref (mo + 1), .ref (mo + 2), .ref (mo + 3), .ref (mo + 4), .ref (mo + 5), .ref (mo + 6), .ref (mo + 7), .ref (mo + 8), .ref (mo + 9), .ref (mo + 10)] _ from hW.1) rfl 3 (by decide) (by decide +kernel) rfl rfl dX2_glue_249 ?_
                    refine lv_iload_n hx hb dX2_glue_252 rfl (lv_at hl 3 rfl) ?_
                    refine x_iald hx hb hK hW.2.1 (by omega) (by omega) dX2_glue_253 ?_
                    refine x_e (show nI (qp (u_A (o_lay (o_lay (o_add (o_gone (o_gone σ k) j) ((qp σ k) + (qp σ j)) (qu σ k) (qB σ k) (qE σ j)) k 0 (qp σ k) (qn σ) 0 0) j 0 (qp σ j) (qn σ) (qp σ k) i2) (((12 * (qn σ)) + (qp σ k)) - 1) (nI (i3 + (more σ k j i2)))) k) = nI (qp σ k) from congrArg nI (va_up_ne _ _ (show k ≠ qn σ by omega))) ?_
                    refine x_add hx hb dX2_glue_254 ?_
                    refine lv_iconst (v := nI 1) hx hb dX2_glue_255 (by decide +kernel) ?_
                    refine x_sub hx hb (by omega) dX2_glue_256 ?_
                    refine lv_iconst (v := nI 1) hx hb dX2_glue_257 (by decide +kernel) ?_
                    refine x_iast hx hb hK hW.2.2.2.2.2.2.2.2.1 (by omega) (by omega) hlo (by omega) dX2_glue_258 (fun H1 lc1 hA1 hz1 ho1 hlo => ?_)
                    have hFr := hFr.put hz1 ho1 (by omega) (by omega)
                    have hW := MW.sL (v := nI 1) hW hA1 ho1
                    have hW : MW Γ mo (nI 0) (u_L (u_A (o_lay (o_lay (o_add (o_gone (o_gone σ k) j) ((qp σ k) + (qp σ j)) (qu σ k) (qB σ k) (qE σ j)) k 0 (qp σ k) (qn σ) 0 0) j 0 (qp σ j) (qn σ) (qp σ k) i2) (((12 * (qn σ)) + (qp σ k)) - 1) (nI (i3 + (more σ k j i2)))) (((12 * (qn σ)) + (qp σ k)) - 1) (nI 1)) g1 g2 H1 := hW
                    refine lv_iload hx hb dX2_glue_259 (lv_at hl 0 rfl) ?_
                    refine W.widen (k := 0) (n := 0) (Nat.le_of_ble_eq_true rfl) (Nat.le_of_ble_eq_true rfl) ?_
                    exact m_iret (Post := fun H v H2 => PM Γ mo (cd3 (inb (nI k) (qn σ) ∧ inb (nI j) (qn σ)) (inb (nI i2) 3 ∧ inR (nI i3) (1 : Nat) (9 : Nat)) (qg σ ((nI k).toInt.toNat) = 0 ∧ qg σ ((nI j).toInt.toNat) = 0 ∧ ¬ (nI k).toInt.toNat = (nI j).toInt.toNat ∧ qp σ ((nI k).toInt.toNat) + qp σ ((nI j).toInt.toNat) ≤ 12 ∧ qn σ < 40)) σ (sGlue σ ((nI k).toInt.toNat) ((nI j).toInt.toNat) (nI i2).toInt.toNat (nI i3).toInt.toNat) (nI (qn σ)) H v H2) hx hb hr hlk hlo dX2_glue_261 (PM.ok (cd3_0 ⟨((inb_nI (by omega)).mpr hk), ((inb_nI (by omega)).mpr hj)⟩ ⟨(inb_nI (by omega)).mpr hi2, hfc⟩ (by rw [toN (by omega), toN (by omega)]; omega)) (rfl) ⟨_, _, by rw [toN (by omega), toN (by omega), toN (by omega), toN (by omega)]; unfold sGlue; rw [show 12 * qn σ + (qp σ k - 1) = 12 * qn σ + qp σ k - 1 by omega]; exact MW.toJoint hW⟩ hFr)
                  · skip
                    refine lv_aload_n hx hb dX2_glue_111 rfl (lv_at hl 0 rfl) ?_
                    refine lv_iload_n hx hb dX2_glue_112 rfl (lv_at hl 1 rfl) ?_
                    refine lv_iload_n hx hb dX2_glue_113 rfl (lv_at hl 2 rfl) ?_
                    refine ro_V (rest := []) S hK (c_X2_fit l Γ mo (nI 0) σ g1 g2 hI k j (by omega) (by omega)) (cwV 2 hts gX2_glue_X2_fit rfl rfl rfl (by decide +kernel) ⟨Nat.le_of_ble_eq_true rfl, Nat.le_of_ble_eq_true rfl⟩) (Ob.recv hK hW.1 rfl) hW rfl hl.1 rfl (Nat.le_of_ble_eq_true rfl) dX2_glue_114 ⟨Nat.le_of_ble_eq_true rfl, Nat.le_of_ble_eq_true rfl⟩ ?_
                    refine W.eq (g2 := F0 m 117 ls [.int (nI (bP (fitP σ k j)))]) rfl ?_
                    have hbb114 := bP_le (fitP σ k j)
                    refine x_ifeq hx hb (by omega) (tgt := 124) dX2_glue_117 (by decide) (fun c_10 => ?_) (fun c_10 => ?_)
                    · skip
                      refine lv_iconst (v := nI 0) hx hb dX2_glue_124 (by decide +kernel) ?_
                      refine x_e (show nI 0 = nI (more σ k j i2) by unfold more; rw [bP_f (fun q => bP_0 c_10 q.2)]) ?_
                      have hmo : more σ k j i2 ≤ 3 := by have := bP_le (i2 = 0 ∧ fitP σ k j); unfold more; omega
                      refine lv_istore (lv' := [(5, .int (nI (more σ k j i2))), (0, .ref mo), (1, .int (nI k)), (2, .int (nI j)), (3, .int (nI i2)), (4, .int (nI i3))]) hx hb dX2_glue_125 hl (by decide) rfl (fun ls hl => ?_)
                      refine lv_aload_n hx hb dX2_glue_127 rfl (lv_at hl 1 rfl) ?_
                      refine x_get S in_X2_glue_X2 hK hW.1 rfl 5 (by decide) (by decide +kernel) rfl rfl dX2_glue_128 ?_
                      refine lv_iload_n hx hb dX2_glue_131 rfl (lv_at hl 2 rfl) ?_
                      refine lv_iconst (v := nI 1) hx hb dX2_glue_132 (by decide +kernel) ?_
                      refine x_iast hx hb hK hW.2.2.2.1 (by omega) (by omega) hlo (by omega) dX2_glue_133 (fun H1 lc1 hA1 hz1 ho1 hlo => ?_)
                      have hFr := hFr.put hz1 ho1 (by omega) (by omega)
                      have hW := MW.sG (v := 1) hW hA1 ho1
                      have hW : MW Γ mo (nI 0) (u_G σ k 1) g1 g2 H1 := hW
                      refine lv_aload_n hx hb dX2_glue_134 rfl (lv_at hl 1 rfl) ?_
                      refine x_get S in_X2_glue_X2 hK (show Ob Γ 2 mo [.int (nI 0), .int (nI (qn σ)), .int (qb σ), .ref (mo + 1), .ref (mo + 2), .ref (mo + 3), .ref (mo + 4), .ref (mo + 5), .ref (mo + 6), .ref (mo + 7), .ref (mo + 8), .ref (mo + 9), .ref (mo + 10)] _ from hW.1) rfl 5 (by decide) (by decide +kernel) rfl rfl dX2_glue_135 ?_
                      refine lv_iload_n hx hb dX2_glue_138 rfl (lv_at hl 3 rfl) ?_
                      refine lv_iconst (v := nI 1) hx hb dX2_glue_139 (by decide +kernel) ?_
                      refine x_iast hx hb hK hW.2.2.2.1 (by omega) (by omega) hlo (by omega) dX2_glue_140 (fun H1 lc1 hA1 hz1 ho1 hlo => ?_)
                      have hFr := hFr.put hz1 ho1 (by omega) (by omega)
                      have hW := MW.sG (v := 1) hW hA1 ho1
                      have hW : MW Γ mo (nI 0) (u_G (u_G σ k 1) j 1) g1 g2 H1 := hW
                      have hW : MW Γ mo (nI 0) (o_gone (o_gone σ k) j) g1 g2 _ := hW
                      have h0 : qg σ k = 0 := by omega
                      have h1 : qg σ j = 0 := by omega
                      have h7 := hI.2.2.2.2.2.2
                      obtain ⟨hg1, hg2⟩ := Iv_gone hI hk h0
                      obtain ⟨hg3, hg4⟩ := Iv_gone (k := j) hg1 hj (by show va_up (qg σ) k 1 j = 0; rw [va_up_ne _ _ (show j ≠ k by omega)]; exact h1)
                      have hg4 : thr (o_gone (o_gone σ k) j) (qn σ) + 1 = thr (o_gone σ k) (qn σ) := hg4
                      have hb1 : Iv (o_add (o_gone (o_gone σ k) j) (qp σ k + qp σ j) (qu σ k) (qB σ k) (qE σ j)) := Iv_make hg3 (show qn σ < 40 by omega) (show thr (o_gone (o_gone σ k) j) (qn σ) < 12 by omega) (by omega) (by omega) hu3k
                      have hb2 : Iv (o_lay (o_add (o_gone (o_gone σ k) j) (qp σ k + qp σ j) (qu σ k) (qB σ k) (qE σ j)) k 0 (qp σ k) (qn σ) 0 0) := Iv_lay hb1 (show qn σ < qn σ + 1 by omega) (by omega)
                      refine lv_aload_n hx hb dX2_glue_141 rfl (lv_at hl 1 rfl) ?_
                      refine lv_aload_n hx hb dX2_glue_142 rfl (lv_at hl 1 rfl) ?_
                      refine x_get S in_X2_glue_X2 hK (show Ob Γ 2 mo [.int (nI 0), .int (nI (qn σ)), .int (qb σ), .ref (mo + 1), .ref (mo + 2), .ref (mo + 3), .ref (mo + 4), .ref (mo + 5), .ref (mo + 6), .ref (mo + 7), .ref (mo + 8), .ref (mo + 9), .ref (mo + 10)] _ from hW.1) rfl 3 (by decide) (by decide +kernel) rfl rfl dX2_glue_143 ?_
                      refine lv_iload_n hx hb dX2_glue_146 rfl (lv_at hl 2 rfl) ?_
                      refine x_iald hx hb hK hW.2.1 (by omega) (by omega) dX2_glue_147 ?_
                      refine x_e (show nI (qp (o_gone (o_gone σ k) j) k) = nI (qp σ k) from rfl) ?_
                      refine lv_aload_n hx hb dX2_glue_148 rfl (lv_at hl 1 rfl) ?_
                      refine x_get S in_X2_glue_X2 hK (show Ob Γ 2 mo [.int (nI 0), .int (nI (qn σ)), .int (qb σ), .ref (mo + 1), .ref (mo + 2), .ref (mo + 3), .ref (mo + 4), .ref (mo + 5), .ref (mo + 6), .ref (mo + 7), .ref (mo + 8), .ref (mo + 9), .ref (mo + 10)] _ from hW.1) rfl 3 (by decide) (by decide +kernel) rfl rfl dX2_glue_149 ?_
                      refine lv_iload_n hx hb dX2_glue_152 rfl (lv_at hl 3 rfl) ?_
                      refine x_iald hx hb hK hW.2.1 (by omega) (by omega) dX2_glue_153 ?_
                      refine x_e (show nI (qp (o_gone (o_gone σ k) j) j) = nI (qp σ j) from rfl) ?_
                      refine x_add hx hb dX2_glue_154 ?_
                      refine lv_aload_n hx hb dX2_glue_155 rfl (lv_at hl 1 rfl) ?_
                      refine x_get S in_X2_glue_X2 hK (show Ob Γ 2 mo [.int (nI 0), .int (nI (qn σ)), .int (qb σ), .ref (mo + 1), .ref (mo + 2), .ref (mo + 3), .ref (mo + 4), .ref (mo + 5), .ref (mo + 6), .ref (mo + 7), .ref (mo + 8), .ref (mo + 9), .ref (mo + 10)] _ from hW.1) rfl 4 (by decide) (by decide +kernel) rfl rfl dX2_glue_156 ?_
                      refine lv_iload_n hx hb dX2_glue_159 rfl (lv_at hl 2 rfl) ?_
                      refine x_iald hx hb hK hW.2.2.1 (by omega) (by omega) dX2_glue_160 ?_
                      refine x_e (show nI (qu (o_gone (o_gone σ k) j) k) = nI (qu σ k) from rfl) ?_
                      refine lv_aload_n hx hb dX2_glue_161 rfl (lv_at hl 1 rfl) ?_
                      refine x_get S in_X2_glue_X2 hK (show Ob Γ 2 mo [.int (nI 0), .int (nI (qn σ)), .int (qb σ), .ref (mo + 1), .ref (mo + 2), .ref (mo + 3), .ref (mo + 4), .ref (mo + 5), .ref (mo + 6), .ref (mo + 7), .ref (mo + 8), .ref (mo + 9), .ref (mo + 10)] _ from hW.1) rfl 6 (by decide) (by decide +kernel) rfl rfl dX2_glue_162 ?_
                      refine lv_iload_n hx hb dX2_glue_165 rfl (lv_at hl 2 rfl) ?_
                      refine x_iald hx hb hK hW.2.2.2.2.1 (by omega) (by omega) dX2_glue_166 ?_
                      refine x_e (show qB (o_gone (o_gone σ k) j) k = qB σ k from rfl) ?_
                      refine lv_aload_n hx hb dX2_glue_167 rfl (lv_at hl 1 rfl) ?_
                      refine x_get S in_X2_glue_X2 hK (show Ob Γ 2 mo [.int (nI 0), .int (nI (qn σ)), .int (qb σ), .ref (mo + 1), .ref (mo + 2), .ref (mo + 3), .ref (mo + 4), .ref (mo + 5), .ref (mo + 6), .ref (mo + 7), .ref (mo + 8), .ref (mo + 9), .ref (mo + 10)] _ from hW.1) rfl 7 (by decide) (by decide +kernel) rfl rfl dX2_glue_168 ?_
                      refine lv_iload_n hx hb dX2_glue_171 rfl (lv_at hl 3 rfl) ?_
                      refine x_iald hx hb hK hW.2.2.2.2.2.1 (by omega) (by omega) dX2_glue_172 ?_
                      refine x_e (show qE (o_gone (o_gone σ k) j) j = qE σ j from rfl) ?_
                      refine m_V (rest := []) S hK (c_X2_add l Γ bs mo (nI 0) (o_gone (o_gone σ k) j) g1 g2 (hg3) hbm ((qp σ k) + (qp σ j)) (qu σ k) (qB σ k) (qE σ j) (show qn σ < 40 by omega)) (cwV 4 hts gX2_glue_X2_add rfl rfl rfl (by decide +kernel) ⟨Nat.le_of_ble_eq_true rfl, Nat.le_of_ble_eq_true rfl⟩) (Ob.recv hK hW.1 rfl) hW rfl hl.1 rfl (Nat.le_of_ble_eq_true rfl) dX2_glue_173 ⟨Nat.le_of_ble_eq_true rfl, Nat.le_of_ble_eq_true rfl⟩ hlo (fun v H1 lc1 hp hlo => ?_)
                      obtain ⟨rfl, hW, hFq, hzq⟩ := hp
                      refine W.eq (g2 := F0 m 176 ls [.int (nI (qn σ))]) rfl ?_
                      have hFr := hFr.trans hFq
                      refine lv_istore (lv' := [(6, .int (nI (qn σ))), (5, .int (nI (more σ k j i2))), (0, .ref mo), (1, .int (nI k)), (2, .int (nI j)), (3, .int (nI i2)), (4, .int (nI i3))]) hx hb dX2_glue_176 hl (by decide) rfl (fun ls hl => ?_)
                      refine lv_aload_n hx hb dX2_glue_178 rfl (lv_at hl 2 rfl) ?_
                      refine lv_iload_n hx hb dX2_glue_179 rfl (lv_at hl 3 rfl) ?_
                      refine lv_iconst (v := nI 0) hx hb dX2_glue_180 (by decide +kernel) ?_
                      refine lv_aload_n hx hb dX2_glue_181 rfl (lv_at hl 2 rfl) ?_
                      refine x_get S in_X2_glue_X2 hK (show Ob Γ 2 mo [.int (nI 0), .int (nI (qn σ + 1)), .int (qb σ), .ref (mo + 1), .ref (mo + 2), .ref (mo + 3), .ref (mo + 4), .ref (mo + 5), .ref (mo + 6), .ref (mo + 7), .ref (mo + 8), .ref (mo + 9), .ref (mo + 10)] _ from hW.1) rfl 3 (by decide) (by decide +kernel) rfl rfl dX2_glue_182 ?_
                      refine lv_iload_n hx hb dX2_glue_185 rfl (lv_at hl 3 rfl) ?_
                      refine x_iald hx hb hK hW.2.1 (by omega) (by omega) dX2_glue_186 ?_
                      refine x_e (show nI (qp (o_add (o_gone (o_gone σ k) j) ((qp σ k) + (qp σ j)) (qu σ k) (qB σ k) (qE σ j)) k) = nI (qp σ k) from congrArg nI (va_up_ne _ _ (show k ≠ qn σ by omega))) ?_
                      refine lv_iload hx hb dX2_glue_187 (lv_at hl 0 rfl) ?_
                      refine lv_iconst (v := nI 0) hx hb dX2_glue_189 (by decide +kernel) ?_
                      refine lv_iconst (v := nI 0) hx hb dX2_glue_190 (by decide +kernel) ?_
                      refine m_V (rest := []) S hK (c_X2_lay l Γ bs mo (nI 0) (o_add (o_gone (o_gone σ k) j) ((qp σ k) + (qp σ j)) (qu σ k) (qB σ k) (qE σ j)) g1 g2 (hb1) hbm k 0 (qp σ k) (qn σ) 0 0 (by omega) (by omega) (by omega) (by omega) (by omega) (by omega) (by omega)) (cwV 6 hts gX2_glue_X2_lay rfl rfl rfl (by decide +kernel) ⟨Nat.le_of_ble_eq_true rfl, Nat.le_of_ble_eq_true rfl⟩) (Ob.recv hK hW.1 rfl) hW rfl hl.1 rfl (Nat.le_of_ble_eq_true rfl) dX2_glue_191 ⟨Nat.le_of_ble_eq_true rfl, Nat.le_of_ble_eq_true rfl⟩ hlo (fun v H1 lc1 hp hlo => ?_)
                      obtain ⟨rfl, hW, hFq, hzq⟩ := hp
                      refine W.eq (g2 := F0 m 194 ls []) rfl ?_
                      have hFr := hFr.trans hFq
                      refine lv_aload_n hx hb dX2_glue_194 rfl (lv_at hl 2 rfl) ?_
                      refine lv_iload_n hx hb dX2_glue_195 rfl (lv_at hl 4 rfl) ?_
                      refine lv_iconst (v := nI 0) hx hb dX2_glue_196 (by decide +kernel) ?_
                      refine lv_aload_n hx hb dX2_glue_197 rfl (lv_at hl 2 rfl) ?_
                      refine x_get S in_X2_glue_X2 hK (show Ob Γ 2 mo [.int (nI 0), .int (nI (qn σ + 1)), .int (qb σ), .ref (mo + 1), .ref (mo + 2), .ref (mo + 3), .ref (mo + 4), .ref (mo + 5), .ref (mo + 6), .ref (mo + 7), .ref (mo + 8), .ref (mo + 9), .ref (mo + 10)] _ from hW.1) rfl 3 (by decide) (by decide +kernel) rfl rfl dX2_glue_198 ?_
                      refine lv_iload_n hx hb dX2_glue_201 rfl (lv_at hl 4 rfl) ?_
                      refine x_iald hx hb hK hW.2.1 (by omega) (by omega) dX2_glue_202 ?_
                      refine x_e (show nI (qp (o_lay (o_add (o_gone (o_gone σ k) j) ((qp σ k) + (qp σ j)) (qu σ k) (qB σ k) (qE σ j)) k 0 (qp σ k) (qn σ) 0 0) j) = nI (qp σ j) from congrArg nI (va_up_ne _ _ (show j ≠ qn σ by omega))) ?_
                      refine lv_iload hx hb dX2_glue_203 (lv_at hl 0 rfl) ?_
                      refine lv_aload_n hx hb dX2_glue_205 rfl (lv_at hl 2 rfl) ?_
                      refine x_get S in_X2_glue_X2 hK (show Ob Γ 2 mo [.int (nI 0), .int (nI (qn σ + 1)), .int (qb σ), .ref (mo + 1), .ref (mo + 2), .ref (mo + 3), .ref (mo + 4), .ref (mo + 5), .ref (mo + 6), .ref (mo + 7), .ref (mo + 8), .ref (mo + 9), .ref (mo + 10)] _ from hW.1) rfl 3 (by decide) (by decide +kernel) rfl rfl dX2_glue_206 ?_
                      refine lv_iload_n hx hb dX2_glue_209 rfl (lv_at hl 3 rfl) ?_
                      refine x_iald hx hb hK hW.2.1 (by omega) (by omega) dX2_glue_210 ?_
                      refine x_e (show nI (qp (o_lay (o_add (o_gone (o_gone σ k) j) ((qp σ k) + (qp σ j)) (qu σ k) (qB σ k) (qE σ j)) k 0 (qp σ k) (qn σ) 0 0) k) = nI (qp σ k) from congrArg nI (va_up_ne _ _ (show k ≠ qn σ by omega))) ?_
                      refine lv_iload_n hx hb dX2_glue_211 rfl (lv_at hl 5 rfl) ?_
                      refine m_V (rest := []) S hK (c_X2_lay l Γ bs mo (nI 0) (o_lay (o_add (o_gone (o_gone σ k) j) ((qp σ k) + (qp σ j)) (qu σ k) (qB σ k) (qE σ j)) k 0 (qp σ k) (qn σ) 0 0) g1 g2 (hb2) hbm j 0 (qp σ j) (qn σ) (qp σ k) i2 (by omega) (by omega) (by omega) (by omega) (by omega) (by omega) (by omega)) (cwV 6 hts gX2_glue_X2_lay rfl rfl rfl (by decide +kernel) ⟨Nat.le_of_ble_eq_true rfl, Nat.le_of_ble_eq_true rfl⟩) (Ob.recv hK hW.1 rfl) hW rfl hl.1 rfl (Nat.le_of_ble_eq_true rfl) dX2_glue_212 ⟨Nat.le_of_ble_eq_true rfl, Nat.le_of_ble_eq_true rfl⟩ hlo (fun v H1 lc1 hp hlo => ?_)
                      obtain ⟨rfl, hW, hFq, hzq⟩ := hp
                      refine W.eq (g2 := F0 m 215 ls []) rfl ?_
                      have hFr := hFr.trans hFq
                      refine lv_aload_n hx hb dX2_glue_215 rfl (lv_at hl 2 rfl) ?_
                      refine x_get S in_X2_glue_X2 hK (show Ob Γ 2 mo [.int (nI 0), .int (nI (qn σ + 1)), .int (qb σ), .ref (mo + 1), .ref (mo + 2), .ref (mo + 3), .ref (mo + 4), .ref (mo + 5), .ref (mo + 6), .ref (mo + 7), .ref (mo + 8), .ref (mo + 9), .ref (mo + 10)] _ from hW.1) rfl 9 (by decide) (by decide +kernel) rfl rfl dX2_glue_216 ?_
                      refine lv_bipush (v := nI 12) hx hb dX2_glue_219 (by decide +kernel) ?_
                      refine lv_iload hx hb dX2_glue_221 (lv_at hl 0 rfl) ?_
                      refine x_mul hx hb dX2_glue_223 ?_
                      refine lv_aload_n hx hb dX2_glue_224 rfl (lv_at hl 2 rfl) ?_
                      refine x_get S in_X2_glue_X2 hK (show Ob Γ 2 mo [.int (nI 0), .int (nI (qn σ + 1)), .int (qb σ), .ref (mo + 1), .ref (mo + 2), .ref (mo + 3), .ref (mo + 4), .ref (mo + 5), .ref (mo + 6), .ref (mo + 7), .ref (mo + 8), .ref (mo + 9), .ref (mo + 10)] _ from hW.1) rfl 3 (by decide) (by decide +kernel) rfl rfl dX2_glue_225 ?_
                      refine lv_iload_n hx hb dX2_glue_228 rfl (lv_at hl 3 rfl) ?_
                      refine x_iald hx hb hK hW.2.1 (by omega) (by omega) dX2_glue_229 ?_
                      refine x_e (show nI (qp (o_lay (o_lay (o_add (o_gone (o_gone σ k) j) ((qp σ k) + (qp σ j)) (qu σ k) (qB σ k) (qE σ j)) k 0 (qp σ k) (qn σ) 0 0) j 0 (qp σ j) (qn σ) (qp σ k) i2) k) = nI (qp σ k) from congrArg nI (va_up_ne _ _ (show k ≠ qn σ by omega))) ?_
                      refine x_add hx hb dX2_glue_230 ?_
                      refine lv_iconst (v := nI 1) hx hb dX2_glue_231 (by decide +kernel) ?_
                      refine x_sub hx hb (by omega) dX2_glue_232 ?_
                      refine lv_iload hx hb dX2_glue_233 (lv_at hl 6 rfl) ?_
                      refine lv_iload hx hb dX2_glue_235 (lv_at hl 1 rfl) ?_
                      refine x_add hx hb dX2_glue_237 ?_
                      refine x_iast hx hb hK hW.2.2.2.2.2.2.2.1 (by omega) (by omega) hlo (by omega) dX2_glue_238 (fun H1 lc1 hA1 hz1 ho1 hlo => ?_)
                      have hFr := hFr.put hz1 ho1 (by omega) (by omega)
                      have hW := MW.sA (v := nI (i3 + (more σ k j i2))) hW hA1 ho1
                      have hW : MW Γ mo (nI 0) (u_A (o_lay (o_lay (o_add (o_gone (o_gone σ k) j) ((qp σ k) + (qp σ j)) (qu σ k) (qB σ k) (qE σ j)) k 0 (qp σ k) (qn σ) 0 0) j 0 (qp σ j) (qn σ) (qp σ k) i2) (((12 * (qn σ)) + (qp σ k)) - 1) (nI (i3 + (more σ k j i2)))) g1 g2 H1 := hW
                      refine lv_aload_n hx hb dX2_glue_239 rfl (lv_at hl 2 rfl) ?_
                      refine x_get S in_X2_glue_X2 hK (show Ob Γ 2 mo [.int (nI 0), .int (nI (qn σ + 1)), .int (qb σ), .ref (mo + 1), .ref (mo + 2), .ref (mo + 3), .ref (mo + 4), .ref (mo + 5), .ref (mo + 6), .ref (mo + 7), .ref (mo + 8), .ref (mo + 9), .ref (mo + 10)] _ from hW.1) rfl 10 (by decide) (by decide +kernel) rfl rfl dX2_glue_240 ?_
                      refine lv_bipush (v := nI 12) hx hb dX2_glue_243 (by decide +kernel) ?_
                      refine lv_iload hx hb dX2_glue_245 (lv_at hl 0 rfl) ?_
                      refine x_mul hx hb dX2_glue_247 ?_
                      refine lv_aload_n hx hb dX2_glue_248 rfl (lv_at hl 2 rfl) ?_
                      refine x_get S in_X2_glue_X2 hK (show Ob Γ 2 mo [.int (nI 0), .int (nI (qn σ + 1)), .int (qb σ), .ref (mo + 1), .ref (mo + 2), .ref (mo + 3), .ref (mo + 4), .ref (mo + 5), .ref (mo + 6), .ref (mo + 7), .ref (mo + 8), .ref (mo + 9), .ref (mo + 10)] _ from hW.1) rfl 3 (by decide) (by decide +kernel) rfl rfl dX2_glue_249 ?_
                      refine lv_iload_n hx hb dX2_glue_252 rfl (lv_at hl 3 rfl) ?_
                      refine x_iald hx hb hK hW.2.1 (by omega) (by omega) dX2_glue_253 ?_
                      refine x_e (show nI (qp (u_A (o_lay (o_lay (o_add (o_gone (o_gone σ k) j) ((qp σ k) + (qp σ j)) (qu σ k) (qB σ k) (qE σ j)) k 0 (qp σ k) (qn σ) 0 0) j 0 (qp σ j) (qn σ) (qp σ k) i2) (((12 * (qn σ)) + (qp σ k)) - 1) (nI (i3 + (more σ k j i2)))) k) = nI (qp σ k) from congrArg nI (va_up_ne _ _ (show k ≠ qn σ by omega))) ?_
                      refine x_add hx hb dX2_glue_254 ?_
                      refine lv_iconst (v := nI 1) hx hb dX2_glue_255 (by decide +kernel) ?_
                      refine x_sub hx hb (by omega) dX2_glue_256 ?_
                      refine lv_iconst (v := nI 1) hx hb dX2_glue_257 (by decide +kernel) ?_
                      refine x_iast hx hb hK hW.2.2.2.2.2.2.2.2.1 (by omega) (by omega) hlo (by omega) dX2_glue_258 (fun H1 lc1 hA1 hz1 ho1 hlo => ?_)
                      have hFr := hFr.put hz1 ho1 (by omega) (by omega)
                      have hW := MW.sL (v := nI 1) hW hA1 ho1
                      have hW : MW Γ mo (nI 0) (u_L (u_A (o_lay (o_lay (o_add (o_gone (o_gone σ k) j) ((qp σ k) + (qp σ j)) (qu σ k) (qB σ k) (qE σ j)) k 0 (qp σ k) (qn σ) 0 0) j 0 (qp σ j) (qn σ) (qp σ k) i2) (((12 * (qn σ)) + (qp σ k)) - 1) (nI (i3 + (more σ k j i2)))) (((12 * (qn σ)) + (qp σ k)) - 1) (nI 1)) g1 g2 H1 := hW
                      refine lv_iload hx hb dX2_glue_259 (lv_at hl 0 rfl) ?_
                      refine W.widen (k := 0) (n := 0) (Nat.le_of_ble_eq_true rfl) (Nat.le_of_ble_eq_true rfl) ?_
                      exact m_iret (Post := fun H v H2 => PM Γ mo (cd3 (inb (nI k) (qn σ) ∧ inb (nI j) (qn σ)) (inb (nI i2) 3 ∧ inR (nI i3) (1 : Nat) (9 : Nat)) (qg σ ((nI k).toInt.toNat) = 0 ∧ qg σ ((nI j).toInt.toNat) = 0 ∧ ¬ (nI k).toInt.toNat = (nI j).toInt.toNat ∧ qp σ ((nI k).toInt.toNat) + qp σ ((nI j).toInt.toNat) ≤ 12 ∧ qn σ < 40)) σ (sGlue σ ((nI k).toInt.toNat) ((nI j).toInt.toNat) (nI i2).toInt.toNat (nI i3).toInt.toNat) (nI (qn σ)) H v H2) hx hb hr hlk hlo dX2_glue_261 (PM.ok (cd3_0 ⟨((inb_nI (by omega)).mpr hk), ((inb_nI (by omega)).mpr hj)⟩ ⟨(inb_nI (by omega)).mpr hi2, hfc⟩ (by rw [toN (by omega), toN (by omega)]; omega)) (rfl) ⟨_, _, by rw [toN (by omega), toN (by omega), toN (by omega), toN (by omega)]; unfold sGlue; rw [show 12 * qn σ + (qp σ k - 1) = 12 * qn σ + qp σ k - 1 by omega]; exact MW.toJoint hW⟩ hFr)
                    · skip
                      refine lv_iconst (v := nI 3) hx hb dX2_glue_120 (by decide +kernel) ?_
                      refine lv_goto (tgt := 125) hx hb dX2_glue_121 (by decide) ?_
                      refine x_e (show nI 3 = nI (more σ k j i2) by unfold more; rw [bP_t ⟨by omega, bP_1 c_10⟩]) ?_
                      have hmo : more σ k j i2 ≤ 3 := by have := bP_le (i2 = 0 ∧ fitP σ k j); unfold more; omega
                      refine lv_istore (lv' := [(5, .int (nI (more σ k j i2))), (0, .ref mo), (1, .int (nI k)), (2, .int (nI j)), (3, .int (nI i2)), (4, .int (nI i3))]) hx hb dX2_glue_125 hl (by decide) rfl (fun ls hl => ?_)
                      refine lv_aload_n hx hb dX2_glue_127 rfl (lv_at hl 1 rfl) ?_
                      refine x_get S in_X2_glue_X2 hK hW.1 rfl 5 (by decide) (by decide +kernel) rfl rfl dX2_glue_128 ?_
                      refine lv_iload_n hx hb dX2_glue_131 rfl (lv_at hl 2 rfl) ?_
                      refine lv_iconst (v := nI 1) hx hb dX2_glue_132 (by decide +kernel) ?_
                      refine x_iast hx hb hK hW.2.2.2.1 (by omega) (by omega) hlo (by omega) dX2_glue_133 (fun H1 lc1 hA1 hz1 ho1 hlo => ?_)
                      have hFr := hFr.put hz1 ho1 (by omega) (by omega)
                      have hW := MW.sG (v := 1) hW hA1 ho1
                      have hW : MW Γ mo (nI 0) (u_G σ k 1) g1 g2 H1 := hW
                      refine lv_aload_n hx hb dX2_glue_134 rfl (lv_at hl 1 rfl) ?_
                      refine x_get S in_X2_glue_X2 hK (show Ob Γ 2 mo [.int (nI 0), .int (nI (qn σ)), .int (qb σ), .ref (mo + 1), .ref (mo + 2), .ref (mo + 3), .ref (mo + 4), .ref (mo + 5), .ref (mo + 6), .ref (mo + 7), .ref (mo + 8), .ref (mo + 9), .ref (mo + 10)] _ from hW.1) rfl 5 (by decide) (by decide +kernel) rfl rfl dX2_glue_135 ?_
                      refine lv_iload_n hx hb dX2_glue_138 rfl (lv_at hl 3 rfl) ?_
                      refine lv_iconst (v := nI 1) hx hb dX2_glue_139 (by decide +kernel) ?_
                      refine x_iast hx hb hK hW.2.2.2.1 (by omega) (by omega) hlo (by omega) dX2_glue_140 (fun H1 lc1 hA1 hz1 ho1 hlo => ?_)
                      have hFr := hFr.put hz1 ho1 (by omega) (by omega)
                      have hW := MW.sG (v := 1) hW hA1 ho1
                      have hW : MW Γ mo (nI 0) (u_G (u_G σ k 1) j 1) g1 g2 H1 := hW
                      have hW : MW Γ mo (nI 0) (o_gone (o_gone σ k) j) g1 g2 _ := hW
                      have h0 : qg σ k = 0 := by omega
                      have h1 : qg σ j = 0 := by omega
                      have h7 := hI.2.2.2.2.2.2
                      obtain ⟨hg1, hg2⟩ := Iv_gone hI hk h0
                      obtain ⟨hg3, hg4⟩ := Iv_gone (k := j) hg1 hj (by show va_up (qg σ) k 1 j = 0; rw [va_up_ne _ _ (show j ≠ k by omega)]; exact h1)
                      have hg4 : thr (o_gone (o_gone σ k) j) (qn σ) + 1 = thr (o_gone σ k) (qn σ) := hg4
                      have hb1 : Iv (o_add (o_gone (o_gone σ k) j) (qp σ k + qp σ j) (qu σ k) (qB σ k) (qE σ j)) := Iv_make hg3 (show qn σ < 40 by omega) (show thr (o_gone (o_gone σ k) j) (qn σ) < 12 by omega) (by omega) (by omega) hu3k
                      have hb2 : Iv (o_lay (o_add (o_gone (o_gone σ k) j) (qp σ k + qp σ j) (qu σ k) (qB σ k) (qE σ j)) k 0 (qp σ k) (qn σ) 0 0) := Iv_lay hb1 (show qn σ < qn σ + 1 by omega) (by omega)
                      refine lv_aload_n hx hb dX2_glue_141 rfl (lv_at hl 1 rfl) ?_
                      refine lv_aload_n hx hb dX2_glue_142 rfl (lv_at hl 1 rfl) ?_
                      refine x_get S in_X2_glue_X2 hK (show Ob Γ 2 mo [.int (nI 0), .int (nI (qn σ)), .int (qb σ), .ref (mo + 1), .ref (mo + 2), .ref (mo + 3), .ref (mo + 4), .ref (mo + 5), .ref (mo + 6), .ref (mo + 7), .ref (mo + 8), .ref (mo + 9), .ref (mo + 10)] _ from hW.1) rfl 3 (by decide) (by decide +kernel) rfl rfl dX2_glue_143 ?_
                      refine lv_iload_n hx hb dX2_glue_146 rfl (lv_at hl 2 rfl) ?_
                      refine x_iald hx hb hK hW.2.1 (by omega) (by omega) dX2_glue_147 ?_
                      refine x_e (show nI (qp (o_gone (o_gone σ k) j) k) = nI (qp σ k) from rfl) ?_
                      refine lv_aload_n hx hb dX2_glue_148 rfl (lv_at hl 1 rfl) ?_
                      refine x_get S in_X2_glue_X2 hK (show Ob Γ 2 mo [.int (nI 0), .int (nI (qn σ)), .int (qb σ), .ref (mo + 1), .ref (mo + 2), .ref (mo + 3), .ref (mo + 4), .ref (mo + 5), .ref (mo + 6), .ref (mo + 7), .ref (mo + 8), .ref (mo + 9), .ref (mo + 10)] _ from hW.1) rfl 3 (by decide) (by decide +kernel) rfl rfl dX2_glue_149 ?_
                      refine lv_iload_n hx hb dX2_glue_152 rfl (lv_at hl 3 rfl) ?_
                      refine x_iald hx hb hK hW.2.1 (by omega) (by omega) dX2_glue_153 ?_
                      refine x_e (show nI (qp (o_gone (o_gone σ k) j) j) = nI (qp σ j) from rfl) ?_
                      refine x_add hx hb dX2_glue_154 ?_
                      refine lv_aload_n hx hb dX2_glue_155 rfl (lv_at hl 1 rfl) ?_
                      refine x_get S in_X2_glue_X2 hK (show Ob Γ 2 mo [.int (nI 0), .int (nI (qn σ)), .int (qb σ), .ref (mo + 1), .ref (mo + 2), .ref (mo + 3), .ref (mo + 4), .ref (mo + 5), .ref (mo + 6), .ref (mo + 7), .ref (mo + 8), .ref (mo + 9), .ref (mo + 10)] _ from hW.1) rfl 4 (by decide) (by decide +kernel) rfl rfl dX2_glue_156 ?_
                      refine lv_iload_n hx hb dX2_glue_159 rfl (lv_at hl 2 rfl) ?_
                      refine x_iald hx hb hK hW.2.2.1 (by omega) (by omega) dX2_glue_160 ?_
                      refine x_e (show nI (qu (o_gone (o_gone σ k) j) k) = nI (qu σ k) from rfl) ?_
                      refine lv_aload_n hx hb dX2_glue_161 rfl (lv_at hl 1 rfl) ?_
                      refine x_get S in_X2_glue_X2 hK (show Ob Γ 2 mo [.int (nI 0), .int (nI (qn σ)), .int (qb σ), .ref (mo + 1), .ref (mo + 2), .ref (mo + 3), .ref (mo + 4), .ref (mo + 5), .ref (mo + 6), .ref (mo + 7), .ref (mo + 8), .ref (mo + 9), .ref (mo + 10)] _ from hW.1) rfl 6 (by decide) (by decide +kernel) rfl rfl dX2_glue_162 ?_
                      refine lv_iload_n hx hb dX2_glue_165 rfl (lv_at hl 2 rfl) ?_
                      refine x_iald hx hb hK hW.2.2.2.2.1 (by omega) (by omega) dX2_glue_166 ?_
                      refine x_e (show qB (o_gone (o_gone σ k) j) k = qB σ k from rfl) ?_
                      refine lv_aload_n hx hb dX2_glue_167 rfl (lv_at hl 1 rfl) ?_
                      refine x_get S in_X2_glue_X2 hK (show Ob Γ 2 mo [.int (nI 0), .int (nI (qn σ)), .int (qb σ), .ref (mo + 1), .ref (mo + 2), .ref (mo + 3), .ref (mo + 4), .ref (mo + 5), .ref (mo + 6), .ref (mo + 7), .ref (mo + 8), .ref (mo + 9), .ref (mo + 10)] _ from hW.1) rfl 7 (by decide) (by decide +kernel) rfl rfl dX2_glue_168 ?_
                      refine lv_iload_n hx hb dX2_glue_171 rfl (lv_at hl 3 rfl) ?_
                      refine x_iald hx hb hK hW.2.2.2.2.2.1 (by omega) (by omega) dX2_glue_172 ?_
                      refine x_e (show qE (o_gone (o_gone σ k) j) j = qE σ j from rfl) ?_
                      refine m_V (rest := []) S hK (c_X2_add l Γ bs mo (nI 0) (o_gone (o_gone σ k) j) g1 g2 (hg3) hbm ((qp σ k) + (qp σ j)) (qu σ k) (qB σ k) (qE σ j) (show qn σ < 40 by omega)) (cwV 4 hts gX2_glue_X2_add rfl rfl rfl (by decide +kernel) ⟨Nat.le_of_ble_eq_true rfl, Nat.le_of_ble_eq_true rfl⟩) (Ob.recv hK hW.1 rfl) hW rfl hl.1 rfl (Nat.le_of_ble_eq_true rfl) dX2_glue_173 ⟨Nat.le_of_ble_eq_true rfl, Nat.le_of_ble_eq_true rfl⟩ hlo (fun v H1 lc1 hp hlo => ?_)
                      obtain ⟨rfl, hW, hFq, hzq⟩ := hp
                      refine W.eq (g2 := F0 m 176 ls [.int (nI (qn σ))]) rfl ?_
                      have hFr := hFr.trans hFq
                      refine lv_istore (lv' := [(6, .int (nI (qn σ))), (5, .int (nI (more σ k j i2))), (0, .ref mo), (1, .int (nI k)), (2, .int (nI j)), (3, .int (nI i2)), (4, .int (nI i3))]) hx hb dX2_glue_176 hl (by decide) rfl (fun ls hl => ?_)
                      refine lv_aload_n hx hb dX2_glue_178 rfl (lv_at hl 2 rfl) ?_
                      refine lv_iload_n hx hb dX2_glue_179 rfl (lv_at hl 3 rfl) ?_
                      refine lv_iconst (v := nI 0) hx hb dX2_glue_180 (by decide +kernel) ?_
                      refine lv_aload_n hx hb dX2_glue_181 rfl (lv_at hl 2 rfl) ?_
                      refine x_get S in_X2_glue_X2 hK (show Ob Γ 2 mo [.int (nI 0), .int (nI (qn σ + 1)), .int (qb σ), .ref (mo + 1), .ref (mo + 2), .ref (mo + 3), .ref (mo + 4), .ref (mo + 5), .ref (mo + 6), .ref (mo + 7), .ref (mo + 8), .ref (mo + 9), .ref (mo + 10)] _ from hW.1) rfl 3 (by decide) (by decide +kernel) rfl rfl dX2_glue_182 ?_
                      refine lv_iload_n hx hb dX2_glue_185 rfl (lv_at hl 3 rfl) ?_
                      refine x_iald hx hb hK hW.2.1 (by omega) (by omega) dX2_glue_186 ?_
                      refine x_e (show nI (qp (o_add (o_gone (o_gone σ k) j) ((qp σ k) + (qp σ j)) (qu σ k) (qB σ k) (qE σ j)) k) = nI (qp σ k) from congrArg nI (va_up_ne _ _ (show k ≠ qn σ by omega))) ?_
                      refine lv_iload hx hb dX2_glue_187 (lv_at hl 0 rfl) ?_
                      refine lv_iconst (v := nI 0) hx hb dX2_glue_189 (by decide +kernel) ?_
                      refine lv_iconst (v := nI 0) hx hb dX2_glue_190 (by decide +kernel) ?_
                      refine m_V (rest := []) S hK (c_X2_lay l Γ bs mo (nI 0) (o_add (o_gone (o_gone σ k) j) ((qp σ k) + (qp σ j)) (qu σ k) (qB σ k) (qE σ j)) g1 g2 (hb1) hbm k 0 (qp σ k) (qn σ) 0 0 (by omega) (by omega) (by omega) (by omega) (by omega) (by omega) (by omega)) (cwV 6 hts gX2_glue_X2_lay rfl rfl rfl (by decide +kernel) ⟨Nat.le_of_ble_eq_true rfl, Nat.le_of_ble_eq_true rfl⟩) (Ob.recv hK hW.1 rfl) hW rfl hl.1 rfl (Nat.le_of_ble_eq_true rfl) dX2_glue_191 ⟨Nat.le_of_ble_eq_true rfl, Nat.le_of_ble_eq_true rfl⟩ hlo (fun v H1 lc1 hp hlo => ?_)
                      obtain ⟨rfl, hW, hFq, hzq⟩ := hp
                      refine W.eq (g2 := F0 m 194 ls []) rfl ?_
                      have hFr := hFr.trans hFq
                      refine lv_aload_n hx hb dX2_glue_194 rfl (lv_at hl 2 rfl) ?_
                      refine lv_iload_n hx hb dX2_glue_195 rfl (lv_at hl 4 rfl) ?_
                      refine lv_iconst (v := nI 0) hx hb dX2_glue_196 (by decide +kernel) ?_
                      refine lv_aload_n hx hb dX2_glue_197 rfl (lv_at hl 2 rfl) ?_
                      refine x_get S in_X2_glue_X2 hK (show Ob Γ 2 mo [.int (nI 0), .int (nI (qn σ + 1)), .int (qb σ), .ref (mo + 1), .ref (mo + 2), .ref (mo + 3), .ref (mo + 4), .ref (mo + 5), .ref (mo + 6), .ref (mo + 7), .ref (mo + 8), .ref (mo + 9), .ref (mo + 10)] _ from hW.1) rfl 3 (by decide) (by decide +kernel) rfl rfl dX2_glue_198 ?_
                      refine lv_iload_n hx hb dX2_glue_201 rfl (lv_at hl 4 rfl) ?_
                      refine x_iald hx hb hK hW.2.1 (by omega) (by omega) dX2_glue_202 ?_
                      refine x_e (show nI (qp (o_lay (o_add (o_gone (o_gone σ k) j) ((qp σ k) + (qp σ j)) (qu σ k) (qB σ k) (qE σ j)) k 0 (qp σ k) (qn σ) 0 0) j) = nI (qp σ j) from congrArg nI (va_up_ne _ _ (show j ≠ qn σ by omega))) ?_
                      refine lv_iload hx hb dX2_glue_203 (lv_at hl 0 rfl) ?_
                      refine lv_aload_n hx hb dX2_glue_205 rfl (lv_at hl 2 rfl) ?_
                      refine x_get S in_X2_glue_X2 hK (show Ob Γ 2 mo [.int (nI 0), .int (nI (qn σ + 1)), .int (qb σ), .ref (mo + 1), .ref (mo + 2), .ref (mo + 3), .ref (mo + 4), .ref (mo + 5), .ref (mo + 6), .ref (mo + 7), .ref (mo + 8), .ref (mo + 9), .ref (mo + 10)] _ from hW.1) rfl 3 (by decide) (by decide +kernel) rfl rfl dX2_glue_206 ?_
                      refine lv_iload_n hx hb dX2_glue_209 rfl (lv_at hl 3 rfl) ?_
                      refine x_iald hx hb hK hW.2.1 (by omega) (by omega) dX2_glue_210 ?_
                      refine x_e (show nI (qp (o_lay (o_add (o_gone (o_gone σ k) j) ((qp σ k) + (qp σ j)) (qu σ k) (qB σ k) (qE σ j)) k 0 (qp σ k) (qn σ) 0 0) k) = nI (qp σ k) from congrArg nI (va_up_ne _ _ (show k ≠ qn σ by omega))) ?_
                      refine lv_iload_n hx hb dX2_glue_211 rfl (lv_at hl 5 rfl) ?_
                      refine m_V (rest := []) S hK (c_X2_lay l Γ bs mo (nI 0) (o_lay (o_add (o_gone (o_gone σ k) j) ((qp σ k) + (qp σ j)) (qu σ k) (qB σ k) (qE σ j)) k 0 (qp σ k) (qn σ) 0 0) g1 g2 (hb2) hbm j 0 (qp σ j) (qn σ) (qp σ k) i2 (by omega) (by omega) (by omega) (by omega) (by omega) (by omega) (by omega)) (cwV 6 hts gX2_glue_X2_lay rfl rfl rfl (by decide +kernel) ⟨Nat.le_of_ble_eq_true rfl, Nat.le_of_ble_eq_true rfl⟩) (Ob.recv hK hW.1 rfl) hW rfl hl.1 rfl (Nat.le_of_ble_eq_true rfl) dX2_glue_212 ⟨Nat.le_of_ble_eq_true rfl, Nat.le_of_ble_eq_true rfl⟩ hlo (fun v H1 lc1 hp hlo => ?_)
                      obtain ⟨rfl, hW, hFq, hzq⟩ := hp
                      refine W.eq (g2 := F0 m 215 ls []) rfl ?_
                      have hFr := hFr.trans hFq
                      refine lv_aload_n hx hb dX2_glue_215 rfl (lv_at hl 2 rfl) ?_
                      refine x_get S in_X2_glue_X2 hK (show Ob Γ 2 mo [.int (nI 0), .int (nI (qn σ + 1)), .int (qb σ), .ref (mo + 1), .ref (mo + 2), .ref (mo + 3), .ref (mo + 4), .ref (mo + 5), .ref (mo + 6), .ref (mo + 7), .ref (mo + 8), .ref (mo + 9), .ref (mo + 10)] _ from hW.1) rfl 9 (by decide) (by decide +kernel) rfl rfl dX2_glue_216 ?_
                      refine lv_bipush (v := nI 12) hx hb dX2_glue_219 (by decide +kernel) ?_
                      refine lv_iload hx hb dX2_glue_221 (lv_at hl 0 rfl) ?_
                      refine x_mul hx hb dX2_glue_223 ?_
                      refine lv_aload_n hx hb dX2_glue_224 rfl (lv_at hl 2 rfl) ?_
                      refine x_get S in_X2_glue_X2 hK (show Ob Γ 2 mo [.int (nI 0), .int (nI (qn σ + 1)), .int (qb σ), .ref (mo + 1), .ref (mo + 2), .ref (mo + 3), .ref (mo + 4), .ref (mo + 5), .ref (mo + 6), .ref (mo + 7), .ref (mo + 8), .ref (mo + 9), .ref (mo + 10)] _ from hW.1) rfl 3 (by decide) (by decide +kernel) rfl rfl dX2_glue_225 ?_
                      refine lv_iload_n hx hb dX2_glue_228 rfl (lv_at hl 3 rfl) ?_
                      refine x_iald hx hb hK hW.2.1 (by omega) (by omega) dX2_glue_229 ?_
                      refine x_e (show nI (qp (o_lay (o_lay (o_add (o_gone (o_gone σ k) j) ((qp σ k) + (qp σ j)) (qu σ k) (qB σ k) (qE σ j)) k 0 (qp σ k) (qn σ) 0 0) j 0 (qp σ j) (qn σ) (qp σ k) i2) k) = nI (qp σ k) from congrArg nI (va_up_ne _ _ (show k ≠ qn σ by omega))) ?_
                      refine x_add hx hb dX2_glue_230 ?_
                      refine lv_iconst (v := nI 1) hx hb dX2_glue_231 (by decide +kernel) ?_
                      refine x_sub hx hb (by omega) dX2_glue_232 ?_
                      refine lv_iload hx hb dX2_glue_233 (lv_at hl 6 rfl) ?_
                      refine lv_iload hx hb dX2_glue_235 (lv_at hl 1 rfl) ?_
                      refine x_add hx hb dX2_glue_237 ?_
                      refine x_iast hx hb hK hW.2.2.2.2.2.2.2.1 (by omega) (by omega) hlo (by omega) dX2_glue_238 (fun H1 lc1 hA1 hz1 ho1 hlo => ?_)
                      have hFr := hFr.put hz1 ho1 (by omega) (by omega)
                      have hW := MW.sA (v := nI (i3 + (more σ k j i2))) hW hA1 ho1
                      have hW : MW Γ mo (nI 0) (u_A (o_lay (o_lay (o_add (o_gone (o_gone σ k) j) ((qp σ k) + (qp σ j)) (qu σ k) (qB σ k) (qE σ j)) k 0 (qp σ k) (qn σ) 0 0) j 0 (qp σ j) (qn σ) (qp σ k) i2) (((12 * (qn σ)) + (qp σ k)) - 1) (nI (i3 + (more σ k j i2)))) g1 g2 H1 := hW
                      refine lv_aload_n hx hb dX2_glue_239 rfl (lv_at hl 2 rfl) ?_
                      refine x_get S in_X2_glue_X2 hK (show Ob Γ 2 mo [.int (nI 0), .int (nI (qn σ + 1)), .int (qb σ), .ref (mo + 1), .ref (mo + 2), .ref (mo + 3), .ref (mo + 4), .ref (mo + 5), .ref (mo + 6), .ref (mo + 7), .ref (mo + 8), .ref (mo + 9), .ref (mo + 10)] _ from hW.1) rfl 10 (by decide) (by decide +kernel) rfl rfl dX2_glue_240 ?_
                      refine lv_bipush (v := nI 12) hx hb dX2_glue_243 (by decide +kernel) ?_
                      refine lv_iload hx hb dX2_glue_245 (lv_at hl 0 rfl) ?_
                      refine x_mul hx hb dX2_glue_247 ?_
                      refine lv_aload_n hx hb dX2_glue_248 rfl (lv_at hl 2 rfl) ?_
                      refine x_get S in_X2_glue_X2 hK (show Ob Γ 2 mo [.int (nI 0), .int (nI (qn σ + 1)), .int (qb σ), .ref (mo + 1), .ref (mo + 2), .ref (mo + 3), .ref (mo + 4), .ref (mo + 5), .ref (mo + 6), .ref (mo + 7), .ref (mo + 8), .ref (mo + 9), .ref (mo + 10)] _ from hW.1) rfl 3 (by decide) (by decide +kernel) rfl rfl dX2_glue_249 ?_
                      refine lv_iload_n hx hb dX2_glue_252 rfl (lv_at hl 3 rfl) ?_
                      refine x_iald hx hb hK hW.2.1 (by omega) (by omega) dX2_glue_253 ?_
                      refine x_e (show nI (qp (u_A (o_lay (o_lay (o_add (o_gone (o_gone σ k) j) ((qp σ k) + (qp σ j)) (qu σ k) (qB σ k) (qE σ j)) k 0 (qp σ k) (qn σ) 0 0) j 0 (qp σ j) (qn σ) (qp σ k) i2) (((12 * (qn σ)) + (qp σ k)) - 1) (nI (i3 + (more σ k j i2)))) k) = nI (qp σ k) from congrArg nI (va_up_ne _ _ (show k ≠ qn σ by omega))) ?_
                      refine x_add hx hb dX2_glue_254 ?_
                      refine lv_iconst (v := nI 1) hx hb dX2_glue_255 (by decide +kernel) ?_
                      refine x_sub hx hb (by omega) dX2_glue_256 ?_
                      refine lv_iconst (v := nI 1) hx hb dX2_glue_257 (by decide +kernel) ?_
                      refine x_iast hx hb hK hW.2.2.2.2.2.2.2.2.1 (by omega) (by omega) hlo (by omega) dX2_glue_258 (fun H1 lc1 hA1 hz1 ho1 hlo => ?_)
                      have hFr := hFr.put hz1 ho1 (by omega) (by omega)
                      have hW := MW.sL (v := nI 1) hW hA1 ho1
                      have hW : MW Γ mo (nI 0) (u_L (u_A (o_lay (o_lay (o_add (o_gone (o_gone σ k) j) ((qp σ k) + (qp σ j)) (qu σ k) (qB σ k) (qE σ j)) k 0 (qp σ k) (qn σ) 0 0) j 0 (qp σ j) (qn σ) (qp σ k) i2) (((12 * (qn σ)) + (qp σ k)) - 1) (nI (i3 + (more σ k j i2)))) (((12 * (qn σ)) + (qp σ k)) - 1) (nI 1)) g1 g2 H1 := hW
                      refine lv_iload hx hb dX2_glue_259 (lv_at hl 0 rfl) ?_
                      refine W.widen (k := 0) (n := 0) (Nat.le_of_ble_eq_true rfl) (Nat.le_of_ble_eq_true rfl) ?_
                      exact m_iret (Post := fun H v H2 => PM Γ mo (cd3 (inb (nI k) (qn σ) ∧ inb (nI j) (qn σ)) (inb (nI i2) 3 ∧ inR (nI i3) (1 : Nat) (9 : Nat)) (qg σ ((nI k).toInt.toNat) = 0 ∧ qg σ ((nI j).toInt.toNat) = 0 ∧ ¬ (nI k).toInt.toNat = (nI j).toInt.toNat ∧ qp σ ((nI k).toInt.toNat) + qp σ ((nI j).toInt.toNat) ≤ 12 ∧ qn σ < 40)) σ (sGlue σ ((nI k).toInt.toNat) ((nI j).toInt.toNat) (nI i2).toInt.toNat (nI i3).toInt.toNat) (nI (qn σ)) H v H2) hx hb hr hlk hlo dX2_glue_261 (PM.ok (cd3_0 ⟨((inb_nI (by omega)).mpr hk), ((inb_nI (by omega)).mpr hj)⟩ ⟨(inb_nI (by omega)).mpr hi2, hfc⟩ (by rw [toN (by omega), toN (by omega)]; omega)) (rfl) ⟨_, _, by rw [toN (by omega), toN (by omega), toN (by omega), toN (by omega)]; unfold sGlue; rw [show 12 * qn σ + (qp σ k - 1) = 12 * qn σ + qp σ k - 1 by omega]; exact MW.toJoint hW⟩ hFr)
                · skip
                  refine lv_aload_n hx hb dX2_glue_101 rfl (lv_at hl 0 rfl) ?_
                  refine lv_iconst (v := nI 3) hx hb dX2_glue_102 (by decide +kernel) ?_
                  refine m_V (rest := []) S hK (c_X2_no l Γ bs mo (nI 0) σ g1 g2 hI hbm 3) (cwV 1 hts gX2_glue_X2_no rfl rfl rfl (by decide +kernel) ⟨Nat.le_of_ble_eq_true rfl, Nat.le_of_ble_eq_true rfl⟩) (Ob.recv hK hW.1 rfl) hW rfl hl.1 rfl (Nat.le_of_ble_eq_true rfl) dX2_glue_103 ⟨Nat.le_of_ble_eq_true rfl, Nat.le_of_ble_eq_true rfl⟩ hlo (fun v H1 lc1 hp hlo => ?_)
                  obtain ⟨rfl, hW, hFq, hzq⟩ := hp
                  refine W.eq (g2 := F0 m 106 ls [.int (nI 0)]) rfl ?_
                  have hFr := hFr.trans hFq
                  refine W.widen (k := 0) (n := 0) (Nat.le_of_ble_eq_true rfl) (Nat.le_of_ble_eq_true rfl) ?_
                  exact m_iret (Post := fun H v H2 => PM Γ mo (cd3 (inb (nI k) (qn σ) ∧ inb (nI j) (qn σ)) (inb (nI i2) 3 ∧ inR (nI i3) (1 : Nat) (9 : Nat)) (qg σ ((nI k).toInt.toNat) = 0 ∧ qg σ ((nI j).toInt.toNat) = 0 ∧ ¬ (nI k).toInt.toNat = (nI j).toInt.toNat ∧ qp σ ((nI k).toInt.toNat) + qp σ ((nI j).toInt.toNat) ≤ 12 ∧ qn σ < 40)) σ (sGlue σ ((nI k).toInt.toNat) ((nI j).toInt.toNat) (nI i2).toInt.toNat (nI i3).toInt.toNat) (nI (qn σ)) H v H2) hx hb hr hlk hlo dX2_glue_106 (PM.no (i := 2) (cd3_3 ⟨((inb_nI (by omega)).mpr hk), ((inb_nI (by omega)).mpr hj)⟩ ⟨(inb_nI (by omega)).mpr hi2, hfc⟩ (fun q => by have h9 := q; rw [toN (by omega), toN (by omega)] at h9; omega)) rfl ⟨_, _, hW⟩ hFr)
        · skip
          refine lv_aload_n hx hb dX2_glue_47 rfl (lv_at hl 0 rfl) ?_
          refine lv_iconst (v := nI 2) hx hb dX2_glue_48 (by decide +kernel) ?_
          refine m_V (rest := []) S hK (c_X2_no l Γ bs mo (nI 0) σ g1 g2 hI hbm 2) (cwV 1 hts gX2_glue_X2_no rfl rfl rfl (by decide +kernel) ⟨Nat.le_of_ble_eq_true rfl, Nat.le_of_ble_eq_true rfl⟩) (Ob.recv hK hW.1 rfl) hW rfl hl.1 rfl (Nat.le_of_ble_eq_true rfl) dX2_glue_49 ⟨Nat.le_of_ble_eq_true rfl, Nat.le_of_ble_eq_true rfl⟩ hlo (fun v H1 lc1 hp hlo => ?_)
          obtain ⟨rfl, hW, hFq, hzq⟩ := hp
          refine W.eq (g2 := F0 m 52 ls [.int (nI 0)]) rfl ?_
          have hFr := hFr.trans hFq
          refine W.widen (k := 0) (n := 0) (Nat.le_of_ble_eq_true rfl) (Nat.le_of_ble_eq_true rfl) ?_
          exact m_iret (Post := fun H v H2 => PM Γ mo (cd3 (inb (nI k) (qn σ) ∧ inb (nI j) (qn σ)) (inb (nI i2) 3 ∧ inR r (1 : Nat) (9 : Nat)) (qg σ ((nI k).toInt.toNat) = 0 ∧ qg σ ((nI j).toInt.toNat) = 0 ∧ ¬ (nI k).toInt.toNat = (nI j).toInt.toNat ∧ qp σ ((nI k).toInt.toNat) + qp σ ((nI j).toInt.toNat) ≤ 12 ∧ qn σ < 40)) σ (sGlue σ ((nI k).toInt.toNat) ((nI j).toInt.toNat) (nI i2).toInt.toNat r.toInt.toNat) (nI (qn σ)) H v H2) hx hb hr hlk hlo dX2_glue_52 (PM.no (i := 1) (cd3_2 ⟨((inb_nI (by omega)).mpr hk), ((inb_nI (by omega)).mpr hj)⟩ (fun q => bP_0 c_4 q.2)) rfl ⟨_, _, hW⟩ hFr)
    · skip
      refine lv_aload_n hx hb dX2_glue_21 rfl (lv_at hl 0 rfl) ?_
      refine lv_iconst (v := nI 1) hx hb dX2_glue_22 (by decide +kernel) ?_
      refine m_V (rest := []) S hK (c_X2_no l Γ bs mo (nI 0) σ g1 g2 hI hbm 1) (cwV 1 hts gX2_glue_X2_no rfl rfl rfl (by decide +kernel) ⟨Nat.le_of_ble_eq_true rfl, Nat.le_of_ble_eq_true rfl⟩) (Ob.recv hK hW.1 rfl) hW rfl hl.1 rfl (Nat.le_of_ble_eq_true rfl) dX2_glue_23 ⟨Nat.le_of_ble_eq_true rfl, Nat.le_of_ble_eq_true rfl⟩ hlo (fun v H1 lc1 hp hlo => ?_)
      obtain ⟨rfl, hW, hFq, hzq⟩ := hp
      refine W.eq (g2 := F0 m 26 ls [.int (nI 0)]) rfl ?_
      have hFr := hFr.trans hFq
      refine W.widen (k := 0) (n := 0) (Nat.le_of_ble_eq_true rfl) (Nat.le_of_ble_eq_true rfl) ?_
      exact m_iret (Post := fun H v H2 => PM Γ mo (cd3 (inb (nI k) (qn σ) ∧ inb z (qn σ)) (inb w 3 ∧ inR r (1 : Nat) (9 : Nat)) (qg σ ((nI k).toInt.toNat) = 0 ∧ qg σ (z.toInt.toNat) = 0 ∧ ¬ (nI k).toInt.toNat = z.toInt.toNat ∧ qp σ ((nI k).toInt.toNat) + qp σ (z.toInt.toNat) ≤ 12 ∧ qn σ < 40)) σ (sGlue σ ((nI k).toInt.toNat) (z.toInt.toNat) w.toInt.toNat r.toInt.toNat) (nI (qn σ)) H v H2) hx hb hr hlk hlo dX2_glue_26 (PM.no (i := 0) (cd3_1 (fun q => bP_0 c_2 q.2)) rfl ⟨_, _, hW⟩ hFr)
