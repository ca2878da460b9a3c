theorem in_X2_bend_X2 : ∀ w ∈ wsX20, w ∈ wsX2_bend := by decide +kernel
set_option maxHeartbeats 4000000 in
set_option maxRecDepth 100000 in
theorem c_X2_bend (l : Launch) (Γ : GG) (bs : Nat) (mo : Nat) (th : Int32) (σ : St) (hI : Iv σ) (hbm : bs ≤ mo) (y z : Int32)  : Mt l yX2_bend wsX2_bend ({ frames := 4, cells := 0, slots := 0, locals := 91 }) Γ bs [.ref mo, .int y, .int z] (MX Γ mo th σ) (fun H v H2 => PM Γ mo (cd3 (inb y (qn σ)) (inR z (1 : Nat) (20 : Nat)) (qg σ (y.toInt.toNat) = 0 ∧ (bJ σ (y.toInt.toNat) z = none ∨ (thr σ (qn σ) < 12 ∧ qn σ ≤ 38)))) σ (bdS σ (y.toInt.toNat) z) (bdV σ (y.toInt.toNat) z) H v H2) 0 0 := by
  refine Mt.of (cc := cX2_bend) (maxL := 7) (ret := (some .int)) (by decide) rfl (Nat.le_of_ble_eq_true rfl) ?_
  intro p e s m below meth c S hr hlk hin hK hW ls hl
  obtain ⟨hx, hb, hml, hown, hts⟩ := id S
  obtain ⟨lc, elc⟩ : ∃ z : List Loc, z = [] := ⟨_, rfl⟩
  rw [← elc]
  have hlo : lo bs lc := by rw [elc]; exact lo.nil
  clear elc
  have hl : lv_has ls 7 [(0, .ref mo), (1, .int y), (2, .int z)] := hl
  have hn40 := hI.1
  have hFr : Fr mo (mo + 11) s.heap s.heap := Fr.rf
  obtain ⟨g1, g2, hW⟩ := hW
  refine lv_aload_n hx hb dX2_bend_0 rfl (lv_at hl 0 rfl) ?_
  refine lv_iconst (v := nI 0) hx hb dX2_bend_1 (by decide +kernel) ?_
  refine x_putX S in_X2_bend_X2 tyX2 tyX2_ok nmX2 hK hW.1 rfl 0 (by decide) (by decide +kernel) rfl (Or.inl rfl) (tyX2_ok 0 (by decide)) rfl rfl (Nat.le_of_ble_eq_true rfl) hlo (by omega) dX2_bend_2 (fun H1 lc1 hO1 hz1 ho1 hlo => ?_)
  have hO1 : Ob Γ 2 mo [.int (nI 0), .int (nI (qn σ)), .int (qb σ), .ref (mo + 1), .ref (mo + 2), .ref (mo + 3), .ref (mo + 4), .ref (mo + 5), .ref (mo + 6), .ref (mo + 7), .ref (mo + 8), .ref (mo + 9), .ref (mo + 10)] H1 := hO1
  have hFr := hFr.put hz1 ho1 (by omega) (by omega)
  have hW := MW.put (σ' := σ) hW hO1 ho1 rfl
  have hW : MW Γ mo (nI 0) σ g1 g2 H1 := hW
  refine lv_aload_n hx hb dX2_bend_5 rfl (lv_at hl 0 rfl) ?_
  refine lv_iload_n hx hb dX2_bend_6 rfl (lv_at hl 1 rfl) ?_
  refine ro_V (rest := []) S hK (c_X2_isStick l Γ mo (nI 0) σ g1 g2 hI y) (cwV 1 hts gX2_bend_X2_isStick rfl rfl rfl (by decide +kernel) ⟨Nat.le_of_ble_eq_true rfl, Nat.le_of_ble_eq_true rfl⟩) (Ob.recv hK hW.1 rfl) hW rfl hl.1 rfl (Nat.le_of_ble_eq_true rfl) dX2_bend_7 ⟨Nat.le_of_ble_eq_true rfl, Nat.le_of_ble_eq_true rfl⟩ ?_
  refine W.eq (g2 := F0 m 10 ls [.int (nI (bP (inb y (qn σ))))]) rfl ?_
  have hbb7 := bP_le (inb y (qn σ))
  refine x_ifne hx hb (by omega) (tgt := 19) dX2_bend_10 (by decide) (fun c_1 => ?_) (fun c_1 => ?_)
  · skip
    obtain ⟨k, hk, rfl⟩ := inb_ex (bP_1 c_1)
    obtain ⟨hp0k, hp12k, hu3k, hg1k⟩ := hI.2.1 k hk
    refine lv_iload_n hx hb dX2_bend_19 rfl (lv_at hl 2 rfl) ?_
    refine lv_iconst (v := nI 1) hx hb dX2_bend_20 (by decide +kernel) ?_
    refine lv_bipush (v := nI 20) hx hb dX2_bend_21 (by decide +kernel) ?_
    refine ro_S (rest := []) S hK (c_X2_isIn l Γ z (nI 1) (nI 20)) (cwS 3 hts gX2_bend_X2_isIn rfl rfl rfl (by decide +kernel) ⟨Nat.le_of_ble_eq_true rfl, Nat.le_of_ble_eq_true rfl⟩) trivial rfl hl.1 rfl (Nat.le_of_ble_eq_true rfl) dX2_bend_23 ⟨Nat.le_of_ble_eq_true rfl, Nat.le_of_ble_eq_true rfl⟩ ?_
    refine W.eq (g2 := F0 m 26 ls [.int (nI (bP (nI 1 ≤ z ∧ z ≤ nI 20)))]) rfl ?_
    refine x_e (show nI (bP (nI 1 ≤ z ∧ z ≤ nI 20)) = nI (bP (inR z (1 : Nat) (20 : Nat))) by rw [bP_iff (inR_iff (by decide) (by decide))]) ?_
    have hbb23 := bP_le (inR z (1 : Nat) (20 : Nat))
    refine x_ifne hx hb (by omega) (tgt := 35) dX2_bend_26 (by decide) (fun c_2 => ?_) (fun c_2 => ?_)
    · skip
      have hfc := bP_1 c_2
      refine lv_aload_n hx hb dX2_bend_35 rfl (lv_at hl 0 rfl) ?_
      refine x_get S in_X2_bend_X2 hK hW.1 rfl 5 (by decide) (by decide +kernel) rfl rfl dX2_bend_36 ?_
      refine lv_iload_n hx hb dX2_bend_39 rfl (lv_at hl 1 rfl) ?_
      refine x_iald hx hb hK hW.2.2.2.1 (by omega) (by omega) dX2_bend_40 ?_
      refine lv_iconst (v := nI 1) hx hb dX2_bend_41 (by decide +kernel) ?_
      refine x_icne hx hb (by omega) (by omega) (tgt := 51) dX2_bend_42 (by decide) (fun c_3 => ?_) (fun c_3 => ?_)
      · skip
        refine lv_aload_n hx hb dX2_bend_51 rfl (lv_at hl 0 rfl) ?_
        refine lv_iload_n hx hb dX2_bend_52 rfl (lv_at hl 1 rfl) ?_
        refine ro_V (rest := []) S hK (c_X2_weakest l Γ mo (nI 0) σ g1 g2 hI k (by omega)) (cwV 1 hts gX2_bend_X2_weakest rfl rfl rfl (by decide +kernel) ⟨Nat.le_of_ble_eq_true rfl, Nat.le_of_ble_eq_true rfl⟩) (Ob.recv hK hW.1 rfl) hW rfl hl.1 rfl (Nat.le_of_ble_eq_true rfl) dX2_bend_53 ⟨Nat.le_of_ble_eq_true rfl, Nat.le_of_ble_eq_true rfl⟩ ?_
        refine W.eq (g2 := F0 m 56 ls [.int (oI (wk (stn (rk σ k) (ak σ k)) (qp σ k - 1)))]) rfl ?_
        refine lv_istore_n (lv' := [(3, .int (oI (wk (stn (rk σ k) (ak σ k)) (qp σ k - 1)))), (0, .ref mo), (1, .int (nI k)), (2, .int z)]) hx hb dX2_bend_56 rfl hl (by decide) rfl (fun ls hl => ?_)
        refine lv_iload_n hx hb dX2_bend_57 rfl (lv_at hl 0 rfl) ?_
        refine lv_iconst (v := (-1)) hx hb dX2_bend_58 (by decide +kernel) ?_
        refine lv_icmp_eq (tgt := 72) hx hb dX2_bend_59 (by decide) (fun c_4 => ?_) (fun c_4 => ?_)
        · skip
          have e1 : wk (stn (rk σ k) (ak σ k)) (qp σ k - 1) = none := oI_n c_4 (fun w h => by have := wk_lt _ _ _ h; omega)
          have eJ : bJ σ k z = none := bJ_n e1
          refine lv_iconst (v := (-1)) hx hb dX2_bend_72 (by decide +kernel) ?_
          refine W.widen (k := 0) (n := 0) (Nat.le_of_ble_eq_true rfl) (Nat.le_of_ble_eq_true rfl) ?_
          exact m_iret (Post := fun H v H2 => PM Γ mo (cd3 (inb (nI k) (qn σ)) (inR z (1 : Nat) (20 : Nat)) (qg σ ((nI k).toInt.toNat) = 0 ∧ (bJ σ ((nI k).toInt.toNat) z = none ∨ (thr σ (qn σ) < 12 ∧ qn σ ≤ 38)))) σ (bdS σ ((nI k).toInt.toNat) z) (bdV σ ((nI k).toInt.toNat) z) H v H2) hx hb hr hlk hlo dX2_bend_73 (PM.ok (cd3_0 ((inb_nI (by omega)).mpr hk) hfc ⟨by rw [toN (by omega)]; omega, by rw [toN (by omega), eJ]; exact Or.inl rfl⟩) (by rw [toN (by omega)]; unfold bdV; rw [eJ]) ⟨_, _, by rw [toN (by omega)]; unfold bdS; rw [eJ]; exact hW⟩ hFr)
        · skip
          obtain ⟨j, e1⟩ := oI_s c_4
          have hj := wk_lt _ _ _ e1
          have hl : lv_has ls 7 [(3, .int (nI j)), (0, .ref mo), (1, .int (nI k)), (2, .int z)] := x_hl hl (by rw [e1]; rfl)
          refine lv_aload_n hx hb dX2_bend_62 rfl (lv_at hl 1 rfl) ?_
          refine lv_iload_n hx hb dX2_bend_63 rfl (lv_at hl 2 rfl) ?_
          refine lv_iload_n hx hb dX2_bend_64 rfl (lv_at hl 0 rfl) ?_
          refine ro_V (rest := []) S hK (c_X2_strong l Γ mo (nI 0) σ g1 g2 hI k j (by omega) (by omega)) (cwV 2 hts gX2_bend_X2_strong rfl rfl rfl (by decide +kernel) ⟨Nat.le_of_ble_eq_true rfl, Nat.le_of_ble_eq_true rfl⟩) (Ob.recv hK hW.1 rfl) hW rfl hl.1 rfl (Nat.le_of_ble_eq_true rfl) dX2_bend_65 ⟨Nat.le_of_ble_eq_true rfl, Nat.le_of_ble_eq_true rfl⟩ ?_
          refine W.eq (g2 := F0 m 68 ls [.int (stn (rk σ k) (ak σ k) j)]) rfl ?_
          refine lv_iload_n hx hb dX2_bend_68 rfl (lv_at hl 3 rfl) ?_
          refine lv_icmp_lt (tgt := 74) hx hb dX2_bend_69 (by decide) (fun c_5 => ?_) (fun c_5 => ?_)
          · skip
            have eJ : bJ σ k z = some j := bJ_s e1 c_5
            refine lv_aload_n hx hb dX2_bend_74 rfl (lv_at hl 1 rfl) ?_
            refine ro_V (rest := []) S hK (c_X2_there l Γ mo (nI 0) σ g1 g2 hI ) (cwV 0 hts gX2_bend_X2_there rfl rfl rfl (by decide +kernel) ⟨Nat.le_of_ble_eq_true rfl, Nat.le_of_ble_eq_true rfl⟩) (Ob.recv hK hW.1 rfl) hW rfl hl.1 rfl (Nat.le_of_ble_eq_true rfl) dX2_bend_75 ⟨Nat.le_of_ble_eq_true rfl, Nat.le_of_ble_eq_true rfl⟩ ?_
            refine W.eq (g2 := F0 m 78 ls [.int (nI (thr σ (qn σ)))]) rfl ?_
            have hthr := thr_le σ (qn σ)
            refine lv_bipush (v := nI 12) hx hb dX2_bend_78 (by decide +kernel) ?_
            refine x_iceq hx hb (by omega) (by omega) (tgt := 92) dX2_bend_80 (by decide) (fun c_6 => ?_) (fun c_6 => ?_)
            · skip
              refine lv_aload_n hx hb dX2_bend_92 rfl (lv_at hl 1 rfl) ?_
              refine lv_iconst (v := nI 3) hx hb dX2_bend_93 (by decide +kernel) ?_
              refine m_V (rest := []) S hK (c_X2_no l Γ bs mo (nI 0) σ g1 g2 hI hbm 3) (cwV 1 hts gX2_bend_X2_no rfl rfl rfl (by decide +kernel) ⟨Nat.le_of_ble_eq_true rfl, Nat.le_of_ble_eq_true rfl⟩) (Ob.recv hK hW.1 rfl) hW rfl hl.1 rfl (Nat.le_of_ble_eq_true rfl) dX2_bend_94 ⟨Nat.le_of_ble_eq_true rfl, Nat.le_of_ble_eq_true rfl⟩ hlo (fun v H1 lc1 hp hlo => ?_)
              obtain ⟨rfl, hW, hFq, hzq⟩ := hp
              refine W.eq (g2 := F0 m 97 ls [.int (nI 0)]) rfl ?_
              have hFr := hFr.trans hFq
              refine W.widen (k := 0) (n := 0) (Nat.le_of_ble_eq_true rfl) (Nat.le_of_ble_eq_true rfl) ?_
              exact m_iret (Post := fun H v H2 => PM Γ mo (cd3 (inb (nI k) (qn σ)) (inR z (1 : Nat) (20 : Nat)) (qg σ ((nI k).toInt.toNat) = 0 ∧ (bJ σ ((nI k).toInt.toNat) z = none ∨ (thr σ (qn σ) < 12 ∧ qn σ ≤ 38)))) σ (bdS σ ((nI k).toInt.toNat) z) (bdV σ ((nI k).toInt.toNat) z) H v H2) hx hb hr hlk hlo dX2_bend_97 (PM.no (i := 2) (cd3_3 ((inb_nI (by omega)).mpr hk) hfc (fun q => by have h9 := q.2; rw [toN (by omega), eJ] at h9; rcases h9 with h9 | h9; exact absurd h9 (by simp); omega)) rfl ⟨_, _, hW⟩ hFr)
            · skip
              refine lv_aload_n hx hb dX2_bend_83 rfl (lv_at hl 1 rfl) ?_
              refine x_get S in_X2_bend_X2 hK hW.1 rfl 1 (by decide) (by decide +kernel) rfl rfl dX2_bend_84 ?_
              refine lv_bipush (v := nI 38) hx hb dX2_bend_87 (by decide +kernel) ?_
              refine x_icle hx hb (by omega) (by omega) (tgt := 98) dX2_bend_89 (by decide) (fun c_7 => ?_) (fun c_7 => ?_)
              · skip
                refine lv_aload_n hx hb dX2_bend_98 rfl (lv_at hl 1 rfl) ?_
                refine x_get S in_X2_bend_X2 hK hW.1 rfl 5 (by decide) (by decide +kernel) rfl rfl dX2_bend_99 ?_
                refine lv_iload_n hx hb dX2_bend_102 rfl (lv_at hl 2 rfl) ?_
                refine lv_iconst (v := nI 1) hx hb dX2_bend_103 (by decide +kernel) ?_
                refine x_iast hx hb hK hW.2.2.2.1 (by omega) (by omega) hlo (by omega) dX2_bend_104 (fun H1 lc1 hA1 hz1 ho1 hlo => ?_)
                have hFr := hFr.put hz1 ho1 (by omega) (by omega)
                have hW := MW.sG (v := 1) hW hA1 ho1
                have hW : MW Γ mo (nI 0) (u_G σ k 1) g1 g2 H1 := hW
                have hW : MW Γ mo (nI 0) (o_gone σ k) g1 g2 _ := hW
                have h0 : qg σ k = 0 := by omega
                have ht7 : thr σ (qn σ) < 12 := by have := hI.2.2.2.2.2.2; omega
                have hn7 : qn σ < 40 := by omega
                obtain ⟨hg1, hg2⟩ := Iv_gone hI hk h0
                have hb1 : Iv (o_add (o_gone σ k) (j + 1) (qu σ k) (qB σ k) (qb σ)) := Iv_make hg1 (show qn σ < 40 by omega) (show thr (o_gone σ k) (qn σ) < 12 by omega) (by omega) (by omega) hu3k
                have ht1 : thr (o_add (o_gone σ k) (j + 1) (qu σ k) (qB σ k) (qb σ)) (qn σ + 1) = thr (o_gone σ k) (qn σ) + 1 := by rw [thr_cong (show qg (o_add (o_gone σ k) (j + 1) (qu σ k) (qB σ k) (qb σ)) = qg (o_gone σ k) from rfl)]; exact thr_y (hg1.2.2.1 _ (Nat.le_refl _))
                have hb2 : Iv (o_add (o_add (o_gone σ k) (j + 1) (qu σ k) (qB σ k) (qb σ)) (qp σ k - (j + 1)) (qu σ k) (qb σ) (qE σ k)) := Iv_make hb1 (show qn σ + 1 < 40 by omega) (show thr _ (qn σ + 1) < 12 by rw [ht1]; omega) (by omega) (by omega) hu3k
                have hb4 : Iv (o_lay (o_brk (o_add (o_add (o_gone σ k) (j + 1) (qu σ k) (qB σ k) (qb σ)) (qp σ k - (j + 1)) (qu σ k) (qb σ) (qE σ k))) k 0 (j + 1) (qn σ) 0 0) := Iv_lay (Iv_brk hb2) (show qn σ < qn σ + 1 + 1 by omega) (by omega)
                refine lv_iload_n hx hb dX2_bend_105 rfl (lv_at hl 0 rfl) ?_
                refine lv_iconst (v := nI 1) hx hb dX2_bend_106 (by decide +kernel) ?_
                refine x_add hx hb dX2_bend_107 ?_
                refine lv_istore (lv' := [(4, .int (nI (j + 1))), (3, .int (nI j)), (0, .ref mo), (1, .int (nI k)), (2, .int z)]) hx hb dX2_bend_108 hl (by decide) rfl (fun ls hl => ?_)
                refine lv_aload_n hx hb dX2_bend_110 rfl (lv_at hl 2 rfl) ?_
                refine lv_iload hx hb dX2_bend_111 (lv_at hl 0 rfl) ?_
                refine lv_aload_n hx hb dX2_bend_113 rfl (lv_at hl 2 rfl) ?_
                refine x_get S in_X2_bend_X2 hK (show Ob Γ 2 mo [.int (nI 0), .int (nI (qn σ)), .int (qb σ), .ref (mo + 1), .ref (mo + 2), .ref (mo + 3), .ref (mo + 4), .ref (mo + 5), .ref (mo + 6), .ref (mo + 7), .ref (mo + 8), .ref (mo + 9), .ref (mo + 10)] _ from hW.1) rfl 4 (by decide) (by decide +kernel) rfl rfl dX2_bend_114 ?_
                refine lv_iload_n hx hb dX2_bend_117 rfl (lv_at hl 3 rfl) ?_
                refine x_iald hx hb hK hW.2.2.1 (by omega) (by omega) dX2_bend_118 ?_
                refine x_e (show nI (qu (o_gone σ k) k) = nI (qu σ k) from rfl) ?_
                refine lv_aload_n hx hb dX2_bend_119 rfl (lv_at hl 2 rfl) ?_
                refine x_get S in_X2_bend_X2 hK (show Ob Γ 2 mo [.int (nI 0), .int (nI (qn σ)), .int (qb σ), .ref (mo + 1), .ref (mo + 2), .ref (mo + 3), .ref (mo + 4), .ref (mo + 5), .ref (mo + 6), .ref (mo + 7), .ref (mo + 8), .ref (mo + 9), .ref (mo + 10)] _ from hW.1) rfl 6 (by decide) (by decide +kernel) rfl rfl dX2_bend_120 ?_
                refine lv_iload_n hx hb dX2_bend_123 rfl (lv_at hl 3 rfl) ?_
                refine x_iald hx hb hK hW.2.2.2.2.1 (by omega) (by omega) dX2_bend_124 ?_
                refine x_e (show qB (o_gone σ k) k = qB σ k from rfl) ?_
                refine lv_aload_n hx hb dX2_bend_125 rfl (lv_at hl 2 rfl) ?_
                refine x_get S in_X2_bend_X2 hK (show Ob Γ 2 mo [.int (nI 0), .int (nI (qn σ)), .int (qb σ), .ref (mo + 1), .ref (mo + 2), .ref (mo + 3), .ref (mo + 4), .ref (mo + 5), .ref (mo + 6), .ref (mo + 7), .ref (mo + 8), .ref (mo + 9), .ref (mo + 10)] _ from hW.1) rfl 2 (by decide) (by decide +kernel) rfl rfl dX2_bend_126 ?_
                refine m_V (rest := []) S hK (c_X2_add l Γ bs mo (nI 0) (o_gone σ k) g1 g2 (hg1) hbm (j + 1) (qu σ k) (qB σ k) (qb σ) (show qn σ < 40 by omega)) (cwV 4 hts gX2_bend_X2_add rfl rfl rfl (by decide +kernel) ⟨Nat.le_of_ble_eq_true rfl, Nat.le_of_ble_eq_true rfl⟩) (Ob.recv hK hW.1 rfl) hW rfl hl.1 rfl (Nat.le_of_ble_eq_true rfl) dX2_bend_129 ⟨Nat.le_of_ble_eq_true rfl, Nat.le_of_ble_eq_true rfl⟩ hlo (fun v H1 lc1 hp hlo => ?_)
                obtain ⟨rfl, hW, hFq, hzq⟩ := hp
                refine W.eq (g2 := F0 m 132 ls [.int (nI (qn σ))]) rfl ?_
                have hFr := hFr.trans hFq
                refine lv_istore (lv' := [(5, .int (nI (qn σ))), (4, .int (nI (j + 1))), (3, .int (nI j)), (0, .ref mo), (1, .int (nI k)), (2, .int z)]) hx hb dX2_bend_132 hl (by decide) rfl (fun ls hl => ?_)
                refine lv_aload_n hx hb dX2_bend_134 rfl (lv_at hl 3 rfl) ?_
                refine lv_aload_n hx hb dX2_bend_135 rfl (lv_at hl 3 rfl) ?_
                refine x_get S in_X2_bend_X2 hK (show Ob Γ 2 mo [.int (nI 0), .int (nI (qn σ + 1)), .int (qb σ), .ref (mo + 1), .ref (mo + 2), .ref (mo + 3), .ref (mo + 4), .ref (mo + 5), .ref (mo + 6), .ref (mo + 7), .ref (mo + 8), .ref (mo + 9), .ref (mo + 10)] _ from hW.1) rfl 3 (by decide) (by decide +kernel) rfl rfl dX2_bend_136 ?_
                refine lv_iload_n hx hb dX2_bend_139 rfl (lv_at hl 4 rfl) ?_
                refine x_iald hx hb hK hW.2.1 (by omega) (by omega) dX2_bend_140 ?_
                refine x_e (show nI (qp (o_add (o_gone σ k) (j + 1) (qu σ k) (qB σ k) (qb σ)) k) = nI (qp σ k) from congrArg nI (va_up_ne _ _ (show k ≠ qn σ by omega))) ?_
                refine lv_iload hx hb dX2_bend_141 (lv_at hl 1 rfl) ?_
                refine x_sub hx hb (by omega) dX2_bend_143 ?_
                refine lv_aload_n hx hb dX2_bend_144 rfl (lv_at hl 3 rfl) ?_
                refine x_get S in_X2_bend_X2 hK (show Ob Γ 2 mo [.int (nI 0), .int (nI (qn σ + 1)), .int (qb σ), .ref (mo + 1), .ref (mo + 2), .ref (mo + 3), .ref (mo + 4), .ref (mo + 5), .ref (mo + 6), .ref (mo + 7), .ref (mo + 8), .ref (mo + 9), .ref (mo + 10)] _ from hW.1) rfl 4 (by decide) (by decide +kernel) rfl rfl dX2_bend_145 ?_
                refine lv_iload_n hx hb dX2_bend_148 rfl (lv_at hl 4 rfl) ?_
                refine x_iald hx hb hK hW.2.2.1 (by omega) (by omega) dX2_bend_149 ?_
                refine x_e (show nI (qu (o_add (o_gone σ k) (j + 1) (qu σ k) (qB σ k) (qb σ)) k) = nI (qu σ k) from congrArg nI (va_up_ne _ _ (show k ≠ qn σ by omega))) ?_
                refine lv_aload_n hx hb dX2_bend_150 rfl (lv_at hl 3 rfl) ?_
                refine x_get S in_X2_bend_X2 hK (show Ob Γ 2 mo [.int (nI 0), .int (nI (qn σ + 1)), .int (qb σ), .ref (mo + 1), .ref (mo + 2), .ref (mo + 3), .ref (mo + 4), .ref (mo + 5), .ref (mo + 6), .ref (mo + 7), .ref (mo + 8), .ref (mo + 9), .ref (mo + 10)] _ from hW.1) rfl 2 (by decide) (by decide +kernel) rfl rfl dX2_bend_151 ?_
                refine lv_aload_n hx hb dX2_bend_154 rfl (lv_at hl 3 rfl) ?_
                refine x_get S in_X2_bend_X2 hK (show Ob Γ 2 mo [.int (nI 0), .int (nI (qn σ + 1)), .int (qb σ), .ref (mo + 1), .ref (mo + 2), .ref (mo + 3), .ref (mo + 4), .ref (mo + 5), .ref (mo + 6), .ref (mo + 7), .ref (mo + 8), .ref (mo + 9), .ref (mo + 10)] _ from hW.1) rfl 7 (by decide) (by decide +kernel) rfl rfl dX2_bend_155 ?_
                refine lv_iload_n hx hb dX2_bend_158 rfl (lv_at hl 4 rfl) ?_
                refine x_iald hx hb hK hW.2.2.2.2.2.1 (by omega) (by omega) dX2_bend_159 ?_
                refine x_e (show qE (o_add (o_gone σ k) (j + 1) (qu σ k) (qB σ k) (qb σ)) k = qE σ k from upd_n (show k ≠ qn σ by omega)) ?_
                refine m_V (rest := []) S hK (c_X2_add l Γ bs mo (nI 0) (o_add (o_gone σ k) (j + 1) (qu σ k) (qB σ k) (qb σ)) g1 g2 (hb1) hbm ((qp σ k) - (j + 1)) (qu σ k) (qb σ) (qE σ k) (show qn σ + 1 < 40 by omega)) (cwV 4 hts gX2_bend_X2_add rfl rfl rfl (by decide +kernel) ⟨Nat.le_of_ble_eq_true rfl, Nat.le_of_ble_eq_true rfl⟩) (Ob.recv hK hW.1 rfl) hW rfl hl.1 rfl (Nat.le_of_ble_eq_true rfl) dX2_bend_160 ⟨Nat.le_of_ble_eq_true rfl, Nat.le_of_ble_eq_true rfl⟩ hlo (fun v H1 lc1 hp hlo => ?_)
                obtain ⟨rfl, hW, hFq, hzq⟩ := hp
                refine W.eq (g2 := F0 m 163 ls [.int (nI (qn σ + 1))]) rfl ?_
                have hFr := hFr.trans hFq
                refine lv_istore (lv' := [(6, .int (nI (qn σ + 1))), (5, .int (nI (qn σ))), (4, .int (nI (j + 1))), (3, .int (nI j)), (0, .ref mo), (1, .int (nI k)), (2, .int z)]) hx hb dX2_bend_163 hl (by decide) rfl (fun ls hl => ?_)
                refine lv_aload_n hx hb dX2_bend_165 rfl (lv_at hl 4 rfl) ?_
                refine lv_dup hx hb dX2_bend_166 rfl ?_
                refine x_get S in_X2_bend_X2 hK (show Ob Γ 2 mo [.int (nI 0), .int (nI (qn σ + 1 + 1)), .int (qb σ), .ref (mo + 1), .ref (mo + 2), .ref (mo + 3), .ref (mo + 4), .ref (mo + 5), .ref (mo + 6), .ref (mo + 7), .ref (mo + 8), .ref (mo + 9), .ref (mo + 10)] _ from hW.1) rfl 2 (by decide) (by decide +kernel) rfl rfl dX2_bend_167 ?_
                refine lv_iconst (v := nI 1) hx hb dX2_bend_170 (by decide +kernel) ?_
                refine lv_iadd hx hb dX2_bend_171 ?_
                refine x_putX S in_X2_bend_X2 tyX2 tyX2_ok nmX2 hK (show Ob Γ 2 mo [.int (nI 0), .int (nI (qn σ + 1 + 1)), .int (qb σ), .ref (mo + 1), .ref (mo + 2), .ref (mo + 3), .ref (mo + 4), .ref (mo + 5), .ref (mo + 6), .ref (mo + 7), .ref (mo + 8), .ref (mo + 9), .ref (mo + 10)] _ from hW.1) rfl 2 (by decide) (by decide +kernel) rfl (Or.inl rfl) (tyX2_ok 2 (by decide)) rfl rfl (Nat.le_of_ble_eq_true rfl) hlo (by omega) dX2_bend_172 (fun H1 lc1 hO1 hz1 ho1 hlo => ?_)
                have hO1 : Ob Γ 2 mo [.int (nI 0), .int (nI (qn σ + 1 + 1)), .int ((qb σ) + (nI 1)), .ref (mo + 1), .ref (mo + 2), .ref (mo + 3), .ref (mo + 4), .ref (mo + 5), .ref (mo + 6), .ref (mo + 7), .ref (mo + 8), .ref (mo + 9), .ref (mo + 10)] H1 := hO1
                have hFr := hFr.put hz1 ho1 (by omega) (by omega)
                have hW := MW.put (σ' := o_brk (o_add (o_add (o_gone σ k) (j + 1) (qu σ k) (qB σ k) (qb σ)) ((qp σ k) - (j + 1)) (qu σ k) (qb σ) (qE σ k))) hW hO1 ho1 rfl
                have hW : MW Γ mo (nI 0) (o_brk (o_add (o_add (o_gone σ k) (j + 1) (qu σ k) (qB σ k) (qb σ)) ((qp σ k) - (j + 1)) (qu σ k) (qb σ) (qE σ k))) g1 g2 H1 := hW
                refine lv_aload_n hx hb dX2_bend_175 rfl (lv_at hl 4 rfl) ?_
                refine lv_iload_n hx hb dX2_bend_176 rfl (lv_at hl 5 rfl) ?_
                refine lv_iconst (v := nI 0) hx hb dX2_bend_177 (by decide +kernel) ?_
                refine lv_iload hx hb dX2_bend_178 (lv_at hl 2 rfl) ?_
                refine lv_iload hx hb dX2_bend_180 (lv_at hl 1 rfl) ?_
                refine lv_iconst (v := nI 0) hx hb dX2_bend_182 (by decide +kernel) ?_
                refine lv_iconst (v := nI 0) hx hb dX2_bend_183 (by decide +kernel) ?_
                refine m_V (rest := []) S hK (c_X2_lay l Γ bs mo (nI 0) (o_brk (o_add (o_add (o_gone σ k) (j + 1) (qu σ k) (qB σ k) (qb σ)) ((qp σ k) - (j + 1)) (qu σ k) (qb σ) (qE σ k))) g1 g2 ((Iv_brk hb2)) hbm k 0 (j + 1) (qn σ) 0 0 (by omega) (by omega) (by omega) (by omega) (by omega) (by omega) (by omega)) (cwV 6 hts gX2_bend_X2_lay rfl rfl rfl (by decide +kernel) ⟨Nat.le_of_ble_eq_true rfl, Nat.le_of_ble_eq_true rfl⟩) (Ob.recv hK hW.1 rfl) hW rfl hl.1 rfl (Nat.le_of_ble_eq_true rfl) dX2_bend_184 ⟨Nat.le_of_ble_eq_true rfl, Nat.le_of_ble_eq_true rfl⟩ hlo (fun v H1 lc1 hp hlo => ?_)
                obtain ⟨rfl, hW, hFq, hzq⟩ := hp
                refine W.eq (g2 := F0 m 187 ls []) rfl ?_
                have hFr := hFr.trans hFq
                refine lv_aload_n hx hb dX2_bend_187 rfl (lv_at hl 4 rfl) ?_
                refine lv_iload_n hx hb dX2_bend_188 rfl (lv_at hl 5 rfl) ?_
                refine lv_iload hx hb dX2_bend_189 (lv_at hl 2 rfl) ?_
                refine lv_aload_n hx hb dX2_bend_191 rfl (lv_at hl 4 rfl) ?_
                refine x_get S in_X2_bend_X2 hK (show Ob Γ 2 mo [.int (nI 0), .int (nI (qn σ + 1 + 1)), .int ((qb σ) + (nI 1)), .ref (mo + 1), .ref (mo + 2), .ref (mo + 3), .ref (mo + 4), .ref (mo + 5), .ref (mo + 6), .ref (mo + 7), .ref (mo + 8), .ref (mo + 9), .ref (mo + 10)] _ from hW.1) rfl 3 (by decide) (by decide +kernel) rfl rfl dX2_bend_192 ?_
                refine lv_iload hx hb dX2_bend_195 (lv_at hl 0 rfl) ?_
                refine x_iald hx hb hK hW.2.1 (by omega) (by omega) dX2_bend_197 ?_
                refine x_e (show nI (qp (o_lay (o_brk (o_add (o_add (o_gone σ k) (j + 1) (qu σ k) (qB σ k) (qb σ)) ((qp σ k) - (j + 1)) (qu σ k) (qb σ) (qE σ k))) k 0 (j + 1) (qn σ) 0 0) (qn σ + 1)) = nI (qp σ k - (j + 1)) from congrArg nI (va_up_self _ _ _)) ?_
                refine lv_iload hx hb dX2_bend_198 (lv_at hl 0 rfl) ?_
                refine lv_iconst (v := nI 0) hx hb dX2_bend_200 (by decide +kernel) ?_
                refine lv_iconst (v := nI 0) hx hb dX2_bend_201 (by decide +kernel) ?_
                refine m_V (rest := []) S hK (c_X2_lay l Γ bs mo (nI 0) (o_lay (o_brk (o_add (o_add (o_gone σ k) (j + 1) (qu σ k) (qB σ k) (qb σ)) ((qp σ k) - (j + 1)) (qu σ k) (qb σ) (qE σ k))) k 0 (j + 1) (qn σ) 0 0) g1 g2 (hb4) hbm k (j + 1) (qp σ k - (j + 1)) (qn σ + 1) 0 0 (by omega) (by omega) (by omega) (by omega) (by omega) (by omega) (by omega)) (cwV 6 hts gX2_bend_X2_lay rfl rfl rfl (by decide +kernel) ⟨Nat.le_of_ble_eq_true rfl, Nat.le_of_ble_eq_true rfl⟩) (Ob.recv hK hW.1 rfl) hW rfl hl.1 rfl (Nat.le_of_ble_eq_true rfl) dX2_bend_202 ⟨Nat.le_of_ble_eq_true rfl, Nat.le_of_ble_eq_true rfl⟩ hlo (fun v H1 lc1 hp hlo => ?_)
                obtain ⟨rfl, hW, hFq, hzq⟩ := hp
                refine W.eq (g2 := F0 m 205 ls []) rfl ?_
                have hFr := hFr.trans hFq
                refine lv_iload hx hb dX2_bend_205 (lv_at hl 1 rfl) ?_
                refine W.widen (k := 0) (n := 0) (Nat.le_of_ble_eq_true rfl) (Nat.le_of_ble_eq_true rfl) ?_
                exact m_iret (Post := fun H v H2 => PM Γ mo (cd3 (inb (nI k) (qn σ)) (inR z (1 : Nat) (20 : Nat)) (qg σ ((nI k).toInt.toNat) = 0 ∧ (bJ σ ((nI k).toInt.toNat) z = none ∨ (thr σ (qn σ) < 12 ∧ qn σ ≤ 38)))) σ (bdS σ ((nI k).toInt.toNat) z) (bdV σ ((nI k).toInt.toNat) z) H v H2) hx hb hr hlk hlo dX2_bend_207 (PM.ok (cd3_0 ((inb_nI (by omega)).mpr hk) hfc ⟨by rw [toN (by omega)]; omega, by rw [toN (by omega), eJ]; exact Or.inr ⟨by omega, by omega⟩⟩) (by rw [toN (by omega)]; unfold bdV; rw [eJ]) ⟨_, _, by rw [toN (by omega)]; unfold bdS; rw [eJ]; exact hW⟩ hFr)
              · skip
                refine lv_aload_n hx hb dX2_bend_92 rfl (lv_at hl 1 rfl) ?_
                refine lv_iconst (v := nI 3) hx hb dX2_bend_93 (by decide +kernel) ?_
                refine m_V (rest := []) S hK (c_X2_no l Γ bs mo (nI 0) σ g1 g2 hI hbm 3) (cwV 1 hts gX2_bend_X2_no rfl rfl rfl (by decide +kernel) ⟨Nat.le_of_ble_eq_true rfl, Nat.le_of_ble_eq_true rfl⟩) (Ob.recv hK hW.1 rfl) hW rfl hl.1 rfl (Nat.le_of_ble_eq_true rfl) dX2_bend_94 ⟨Nat.le_of_ble_eq_true rfl, Nat.le_of_ble_eq_true rfl⟩ hlo (fun v H1 lc1 hp hlo => ?_)
                obtain ⟨rfl, hW, hFq, hzq⟩ := hp
                refine W.eq (g2 := F0 m 97 ls [.int (nI 0)]) rfl ?_
                have hFr := hFr.trans hFq
                refine W.widen (k := 0) (n := 0) (Nat.le_of_ble_eq_true rfl) (Nat.le_of_ble_eq_true rfl) ?_
                exact m_iret (Post := fun H v H2 => PM Γ mo (cd3 (inb (nI k) (qn σ)) (inR z (1 : Nat) (20 : Nat)) (qg σ ((nI k).toInt.toNat) = 0 ∧ (bJ σ ((nI k).toInt.toNat) z = none ∨ (thr σ (qn σ) < 12 ∧ qn σ ≤ 38)))) σ (bdS σ ((nI k).toInt.toNat) z) (bdV σ ((nI k).toInt.toNat) z) H v H2) hx hb hr hlk hlo dX2_bend_97 (PM.no (i := 2) (cd3_3 ((inb_nI (by omega)).mpr hk) hfc (fun q => by have h9 := q.2; rw [toN (by omega), eJ] at h9; rcases h9 with h9 | h9; exact absurd h9 (by simp); omega)) rfl ⟨_, _, hW⟩ hFr)
          · skip
            have eJ : bJ σ k z = none := bJ_h e1 c_5
            refine lv_iconst (v := (-1)) hx hb dX2_bend_72 (by decide +kernel) ?_
            refine W.widen (k := 0) (n := 0) (Nat.le_of_ble_eq_true rfl) (Nat.le_of_ble_eq_true rfl) ?_
            exact m_iret (Post := fun H v H2 => PM Γ mo (cd3 (inb (nI k) (qn σ)) (inR z (1 : Nat) (20 : Nat)) (qg σ ((nI k).toInt.toNat) = 0 ∧ (bJ σ ((nI k).toInt.toNat) z = none ∨ (thr σ (qn σ) < 12 ∧ qn σ ≤ 38)))) σ (bdS σ ((nI k).toInt.toNat) z) (bdV σ ((nI k).toInt.toNat) z) H v H2) hx hb hr hlk hlo dX2_bend_73 (PM.ok (cd3_0 ((inb_nI (by omega)).mpr hk) hfc ⟨by rw [toN (by omega)]; omega, by rw [toN (by omega), eJ]; exact Or.inl rfl⟩) (by rw [toN (by omega)]; unfold bdV; rw [eJ]) ⟨_, _, by rw [toN (by omega)]; unfold bdS; rw [eJ]; exact hW⟩ hFr)
      · skip
        refine lv_aload_n hx hb dX2_bend_45 rfl (lv_at hl 0 rfl) ?_
        refine lv_iconst (v := nI 3) hx hb dX2_bend_46 (by decide +kernel) ?_
        refine m_V (rest := []) S hK (c_X2_no l Γ bs mo (nI 0) σ g1 g2 hI hbm 3) (cwV 1 hts gX2_bend_X2_no rfl rfl rfl (by decide +kernel) ⟨Nat.le_of_ble_eq_true rfl, Nat.le_of_ble_eq_true rfl⟩) (Ob.recv hK hW.1 rfl) hW rfl hl.1 rfl (Nat.le_of_ble_eq_true rfl) dX2_bend_47 ⟨Nat.le_of_ble_eq_true rfl, Nat.le_of_ble_eq_true rfl⟩ hlo (fun v H1 lc1 hp hlo => ?_)
        obtain ⟨rfl, hW, hFq, hzq⟩ := hp
        refine W.eq (g2 := F0 m 50 ls [.int (nI 0)]) rfl ?_
        have hFr := hFr.trans hFq
        refine W.widen (k := 0) (n := 0) (Nat.le_of_ble_eq_true rfl) (Nat.le_of_ble_eq_true rfl) ?_
        exact m_iret (Post := fun H v H2 => PM Γ mo (cd3 (inb (nI k) (qn σ)) (inR z (1 : Nat) (20 : Nat)) (qg σ ((nI k).toInt.toNat) = 0 ∧ (bJ σ ((nI k).toInt.toNat) z = none ∨ (thr σ (qn σ) < 12 ∧ qn σ ≤ 38)))) σ (bdS σ ((nI k).toInt.toNat) z) (bdV σ ((nI k).toInt.toNat) z) H v H2) hx hb hr hlk hlo dX2_bend_50 (PM.no (i := 2) (cd3_3 ((inb_nI (by omega)).mpr hk) hfc (fun q => by have h9 := q.1; rw [toN (by omega)] at h9; omega)) rfl ⟨_, _, hW⟩ hFr)
    · skip
      refine lv_aload_n hx hb dX2_bend_29 rfl (lv_at hl 0 rfl) ?_
      refine lv_iconst (v := nI 2) hx hb dX2_bend_30 (by decide +kernel) ?_
      refine m_V (rest := []) S hK (c_X2_no l Γ bs mo (nI 0) σ g1 g2 hI hbm 2) (cwV 1 hts gX2_bend_X2_no rfl rfl rfl (by decide +kernel) ⟨Nat.le_of_ble_eq_true rfl, Nat.le_of_ble_eq_true rfl⟩) (Ob.recv hK hW.1 rfl) hW rfl hl.1 rfl (Nat.le_of_ble_eq_true rfl) dX2_bend_31 ⟨Nat.le_of_ble_eq_true rfl, Nat.le_of_ble_eq_true rfl⟩ hlo (fun v H1 lc1 hp hlo => ?_)
      obtain ⟨rfl, hW, hFq, hzq⟩ := hp
      refine W.eq (g2 := F0 m 34 ls [.int (nI 0)]) rfl ?_
      have hFr := hFr.trans hFq
      refine W.widen (k := 0) (n := 0) (Nat.le_of_ble_eq_true rfl) (Nat.le_of_ble_eq_true rfl) ?_
      exact m_iret (Post := fun H v H2 => PM Γ mo (cd3 (inb (nI k) (qn σ)) (inR z (1 : Nat) (20 : Nat)) (qg σ ((nI k).toInt.toNat) = 0 ∧ (bJ σ ((nI k).toInt.toNat) z = none ∨ (thr σ (qn σ) < 12 ∧ qn σ ≤ 38)))) σ (bdS σ ((nI k).toInt.toNat) z) (bdV σ ((nI k).toInt.toNat) z) H v H2) hx hb hr hlk hlo dX2_bend_34 (PM.no (i := 1) (cd3_2 ((inb_nI (by omega)).mpr hk) (bP_0 c_2)) rfl ⟨_, _, hW⟩ hFr)
  · skip
    refine lv_aload_n hx hb dX2_bend_13 rfl (lv_at hl 0 rfl) ?_
    refine lv_iconst (v := nI 1) hx hb dX2_bend_14 (by decide +kernel) ?_
    refine m_V (rest := []) S hK (c_X2_no l Γ bs mo (nI 0) σ g1 g2 hI hbm 1) (cwV 1 hts gX2_bend_X2_no rfl rfl rfl (by decide +kernel) ⟨Nat.le_of_ble_eq_true rfl, Nat.le_of_ble_eq_true rfl⟩) (Ob.recv hK hW.1 rfl) hW rfl hl.1 rfl (Nat.le_of_ble_eq_true rfl) dX2_bend_15 ⟨Nat.le_of_ble_eq_true rfl, Nat.le_of_ble_eq_true rfl⟩ hlo (fun v H1 lc1 hp hlo => ?_)
    obtain ⟨rfl, hW, hFq, hzq⟩ := hp
    refine W.eq (g2 := F0 m 18 ls [.int (nI 0)]) rfl ?_
    have hFr := hFr.trans hFq
    refine W.widen (k := 0) (n := 0) (Nat.le_of_ble_eq_true rfl) (Nat.le_of_ble_eq_true rfl) ?_
    exact m_iret (Post := fun H v H2 => PM Γ mo (cd3 (inb y (qn σ)) (inR z (1 : Nat) (20 : Nat)) (qg σ (y.toInt.toNat) = 0 ∧ (bJ σ (y.toInt.toNat) z = none ∨ (thr σ (qn σ) < 12 ∧ qn σ ≤ 38)))) σ (bdS σ (y.toInt.toNat) z) (bdV σ (y.toInt.toNat) z) H v H2) hx hb hr hlk hlo dX2_bend_18 (PM.no (i := 0) (cd3_1 (bP_0 c_1)) rfl ⟨_, _, hW⟩ hFr)
