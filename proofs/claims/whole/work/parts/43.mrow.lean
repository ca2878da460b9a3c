theorem in_X2_row_X2 : ∀ w ∈ wsX20, w ∈ wsX2_row := by decide +kernel
set_option maxHeartbeats 4000000 in
set_option maxRecDepth 100000 in
theorem c_X2_row (l : Launch) (Γ : GG) (bs : Nat) (mo : Nat) (th : Int32) (σ : St) (hI : Iv σ) (hbm : bs ≤ mo) (y z : Int32)  : Mt l yX2_row wsX2_row ({ frames := 3, cells := 0, slots := 0, locals := 76 }) Γ bs [.ref mo, .int y, .int z] (MX Γ mo th σ) (fun H v H2 => PM Γ mo (cd3 (inb y (qn σ)) (inb z 3) (qg σ (y.toInt.toNat) = 0)) σ (σ) (nI (rw_ σ (y.toInt.toNat) (z.toInt.toNat) (qn σ))) H v H2) 0 0 := by
  refine Mt.of (cc := cX2_row) (maxL := 11) (ret := (some .int)) (by decide) rfl (Nat.le_of_ble_eq_true rfl) ?_
  intro p e s m below meth c S hr hlk hin hK hW ls hl
  obtain ⟨hx, hb, hml, hown, hts⟩ := id S
  obtain ⟨lc, elc⟩ : ∃ z : List Loc, z = [] := ⟨_, rfl⟩
  rw [← elc]
  have hlo : lo bs lc := by rw [elc]; exact lo.nil
  clear elc
  have hl : lv_has ls 11 [(0, .ref mo), (1, .int y), (2, .int z)] := hl
  have hn40 := hI.1
  have hFr : Fr mo (mo + 11) s.heap s.heap := Fr.rf
  obtain ⟨g1, g2, hW⟩ := hW
  refine lv_aload_n hx hb dX2_row_0 rfl (lv_at hl 0 rfl) ?_
  refine lv_iconst (v := nI 0) hx hb dX2_row_1 (by decide +kernel) ?_
  refine x_putX S in_X2_row_X2 tyX2 tyX2_ok nmX2 hK hW.1 rfl 0 (by decide) (by decide +kernel) rfl (Or.inl rfl) (tyX2_ok 0 (by decide)) rfl rfl (Nat.le_of_ble_eq_true rfl) hlo (by omega) dX2_row_2 (fun H1 lc1 hO1 hz1 ho1 hlo => ?_)
  have hO1 : Ob Γ 2 mo [.int (nI 0), .int (nI (qn σ)), .int (qb σ), .ref (mo + 1), .ref (mo + 2), .ref (mo + 3), .ref (mo + 4), .ref (mo + 5), .ref (mo + 6), .ref (mo + 7), .ref (mo + 8), .ref (mo + 9), .ref (mo + 10)] H1 := hO1
  have hFr := hFr.put hz1 ho1 (by omega) (by omega)
  have hW := MW.put (σ' := σ) hW hO1 ho1 rfl
  have hW : MW Γ mo (nI 0) σ g1 g2 H1 := hW
  refine lv_aload_n hx hb dX2_row_5 rfl (lv_at hl 0 rfl) ?_
  refine lv_iload_n hx hb dX2_row_6 rfl (lv_at hl 1 rfl) ?_
  refine ro_V (rest := []) S hK (c_X2_isStick l Γ mo (nI 0) σ g1 g2 hI y) (cwV 1 hts gX2_row_X2_isStick rfl rfl rfl (by decide +kernel) ⟨Nat.le_of_ble_eq_true rfl, Nat.le_of_ble_eq_true rfl⟩) (Ob.recv hK hW.1 rfl) hW rfl hl.1 rfl (Nat.le_of_ble_eq_true rfl) dX2_row_7 ⟨Nat.le_of_ble_eq_true rfl, Nat.le_of_ble_eq_true rfl⟩ ?_
  refine W.eq (g2 := F0 m 10 ls [.int (nI (bP (inb y (qn σ))))]) rfl ?_
  have hbb7 := bP_le (inb y (qn σ))
  refine x_ifne hx hb (by omega) (tgt := 19) dX2_row_10 (by decide) (fun c_1 => ?_) (fun c_1 => ?_)
  · skip
    obtain ⟨k, hk, rfl⟩ := inb_ex (bP_1 c_1)
    obtain ⟨hp0k, hp12k, hu3k, hg1k⟩ := hI.2.1 k hk
    refine lv_iload_n hx hb dX2_row_19 rfl (lv_at hl 2 rfl) ?_
    refine lv_iconst (v := nI 0) hx hb dX2_row_20 (by decide +kernel) ?_
    refine lv_iconst (v := nI 2) hx hb dX2_row_21 (by decide +kernel) ?_
    refine ro_S (rest := []) S hK (c_X2_isIn l Γ z (nI 0) (nI 2)) (cwS 3 hts gX2_row_X2_isIn rfl rfl rfl (by decide +kernel) ⟨Nat.le_of_ble_eq_true rfl, Nat.le_of_ble_eq_true rfl⟩) trivial rfl hl.1 rfl (Nat.le_of_ble_eq_true rfl) dX2_row_22 ⟨Nat.le_of_ble_eq_true rfl, Nat.le_of_ble_eq_true rfl⟩ ?_
    refine W.eq (g2 := F0 m 25 ls [.int (nI (bP (nI 0 ≤ z ∧ z ≤ nI 2)))]) rfl ?_
    refine x_e (show nI (bP (nI 0 ≤ z ∧ z ≤ nI 2)) = nI (bP (inb z 3)) by rw [bP_iff isin_3]) ?_
    have hbb22 := bP_le (inb z 3)
    refine x_ifne hx hb (by omega) (tgt := 34) dX2_row_25 (by decide) (fun c_2 => ?_) (fun c_2 => ?_)
    · skip
      obtain ⟨j, hj, rfl⟩ := inb_ex (bP_1 c_2)
      refine lv_aload_n hx hb dX2_row_34 rfl (lv_at hl 0 rfl) ?_
      refine x_get S in_X2_row_X2 hK hW.1 rfl 5 (by decide) (by decide +kernel) rfl rfl dX2_row_35 ?_
      refine lv_iload_n hx hb dX2_row_38 rfl (lv_at hl 1 rfl) ?_
      refine x_iald hx hb hK hW.2.2.2.1 (by omega) (by omega) dX2_row_39 ?_
      refine lv_iconst (v := nI 1) hx hb dX2_row_40 (by decide +kernel) ?_
      refine x_icne hx hb (by omega) (by omega) (tgt := 50) dX2_row_41 (by decide) (fun c_3 => ?_) (fun c_3 => ?_)
      · skip
        refine lv_lconst (v := 1) hx hb dX2_row_50 (by decide +kernel) ?_
        refine lv_iload_n hx hb dX2_row_51 rfl (lv_at hl 1 rfl) ?_
        refine lv_lshl (v := sh k) hx hb dX2_row_52 rfl ?_
        refine lv_lstore_n (lv' := [(3, .long (sh k)), (0, .ref mo), (1, .int (nI k)), (2, .int (nI j))]) hx hb dX2_row_53 rfl hl (by decide) rfl (fun ls hl => ?_)
        refine lv_iconst (v := nI 1) hx hb dX2_row_54 (by decide +kernel) ?_
        refine lv_istore (lv' := [(5, .int (nI 1)), (3, .long (sh k)), (0, .ref mo), (1, .int (nI k)), (2, .int (nI j))]) hx hb dX2_row_55 hl (by decide) rfl (fun ls hl => ?_)
        refine lv_iload_n hx hb dX2_row_57 rfl (lv_at hl 3 rfl) ?_
        refine lv_istore (lv' := [(6, .int (nI k)), (5, .int (nI 1)), (3, .long (sh k)), (0, .ref mo), (1, .int (nI k)), (2, .int (nI j))]) hx hb dX2_row_58 hl (by decide) rfl (fun ls hl => ?_)
        refine x_loopH (σ := Int64 × Option Nat × Nat) (fun u => [(0, .ref mo), (1, .int (nI k)), (2, .int (nI j)), (3, .long ((u.1))), (5, .int (nI ((u.2.2)))), (6, .int (oI (u.2.1)))]) (fun u H locs => Rw σ k j (u.1) (u.2.1) (u.2.2) ∧ (∃ g1 g2, MW Γ mo (nI 0) σ g1 g2 H) ∧ Fr mo (mo + 11) s.heap H ∧ lo bs locs) (fun u => 2 * (41 - (u.2.2)) + b01 ((u.2.1)).isSome) (fun u H locs hu ih ls hl => ?_) (sh k, some k, 1) ⟨Rw_0 (by omega) (by omega), ⟨_, _, hW⟩, hFr, hlo⟩ ls (x_hl (lv_sub (l' := [(0, .ref mo), (1, .int (nI k)), (2, .int (nI j)), (3, .long (sh k)), (5, .int (nI 1)), (6, .int (nI k))]) hl [3, 4, 5, 2, 1, 0] rfl) rfl)
        obtain ⟨xx, nw, mn⟩ := u
        have hl : lv_has ls 11 [(0, .ref mo), (1, .int (nI k)), (2, .int (nI j)), (3, .long xx), (5, .int (nI mn)), (6, .int (oI nw))] := hl
        obtain ⟨hR, ⟨g1, g2, hW⟩, hFr, hlo⟩ := hu
        have hR : Rw σ k j xx nw mn := hR
        have hmn : mn ≤ 41 := by rw [hR.2.2.1]; have := rwS_le xx k (qn σ); omega
        refine lv_iload hx hb dX2_row_60 (lv_at hl 5 rfl) ?_
        refine lv_iconst (v := (-1)) hx hb dX2_row_62 (by decide +kernel) ?_
        refine lv_icmp_eq (tgt := 177) hx hb dX2_row_63 (by decide) (fun c_4 => ?_) (fun c_4 => ?_)
        · skip
          have e1 : nw = none := oI_n c_4 (fun w h => by have := (hR.2.2.2.1 w h).1; omega)
          subst e1
          refine lv_iload hx hb dX2_row_177 (lv_at hl 4 rfl) ?_
          refine W.widen (k := 0) (n := 0) (Nat.le_of_ble_eq_true rfl) (Nat.le_of_ble_eq_true rfl) ?_
          exact m_iret (Post := fun H v H2 => PM Γ mo (cd3 (inb (nI k) (qn σ)) (inb (nI j) 3) (qg σ ((nI k).toInt.toNat) = 0)) σ (σ) (nI (rw_ σ ((nI k).toInt.toNat) ((nI j).toInt.toNat) (qn σ))) H v H2) hx hb hr hlk hlo dX2_row_179 (PM.ok (cd3_0 ((inb_nI (by omega)).mpr hk) ((inb_nI (by omega)).mpr hj) (by rw [toN (by omega)]; omega)) (by rw [toN (by omega), toN (by omega), ← Rw_done (by omega) hR]) ⟨_, _, hW⟩ hFr)
        · skip
          obtain ⟨w, rfl⟩ := oI_s c_4
          have hw9 := (hR.2.2.2.1 w rfl).1
          have hl : lv_has ls 11 [(0, .ref mo), (1, .int (nI k)), (2, .int (nI j)), (3, .long xx), (5, .int (nI mn)), (6, .int (nI w))] := x_hl hl rfl
          refine lv_iconst (v := (-1)) hx hb dX2_row_66 (by decide +kernel) ?_
          refine lv_istore (lv' := [(7, .int ((-1))), (0, .ref mo), (1, .int (nI k)), (2, .int (nI j)), (3, .long xx), (5, .int (nI mn)), (6, .int (nI w))]) hx hb dX2_row_67 hl (by decide) rfl (fun ls hl => ?_)
          refine lv_iconst (v := nI 0) hx hb dX2_row_69 (by decide +kernel) ?_
          refine lv_istore (lv' := [(8, .int (nI 0)), (7, .int ((-1))), (0, .ref mo), (1, .int (nI k)), (2, .int (nI j)), (3, .long xx), (5, .int (nI mn)), (6, .int (nI w))]) hx hb dX2_row_70 hl (by decide) rfl (fun ls hl => ?_)
          refine lv_iconst (v := nI 0) hx hb dX2_row_72 (by decide +kernel) ?_
          refine lv_istore (lv' := [(9, .int (nI 0)), (8, .int (nI 0)), (7, .int ((-1))), (0, .ref mo), (1, .int (nI k)), (2, .int (nI j)), (3, .long xx), (5, .int (nI mn)), (6, .int (nI w))]) hx hb dX2_row_73 hl (by decide) rfl (fun ls hl => ?_)
          refine x_loopH (σ := Nat × Option Nat × Nat) (fun u => [(0, .ref mo), (1, .int (nI k)), (2, .int (nI j)), (3, .long xx), (5, .int (nI mn)), (6, .int (nI w)), (7, .int (oI (u.2.1))), (8, .int (nI ((u.2.2)))), (9, .int (nI ((u.1))))]) (fun u H locs => (u.1) ≤ qn σ ∧ Gd σ w j xx (u.1) (u.2.1) (u.2.2) ∧ (∃ g1 g2, MW Γ mo (nI 0) σ g1 g2 H) ∧ Fr mo (mo + 11) s.heap H ∧ lo bs locs) (fun u => qn σ - (u.1)) (fun u H locs hu3 ih3 ls hl => ?_) (0, none, 0) ⟨Nat.zero_le _, Gd_0, ⟨_, _, hW⟩, hFr, hlo⟩ ls (x_hl (lv_sub (l' := [(0, .ref mo), (1, .int (nI k)), (2, .int (nI j)), (3, .long xx), (5, .int (nI mn)), (6, .int (nI w)), (7, .int ((-1))), (8, .int (nI 0)), (9, .int (nI 0))]) hl [3, 4, 5, 6, 7, 8, 2, 1, 0] rfl) rfl)
          obtain ⟨q, nx, ms⟩ := u
          have hl : lv_has ls 11 [(0, .ref mo), (1, .int (nI k)), (2, .int (nI j)), (3, .long xx), (5, .int (nI mn)), (6, .int (nI w)), (7, .int (oI nx)), (8, .int (nI ms)), (9, .int (nI q))] := hl
          obtain ⟨hq9, hG, ⟨g1, g2, hW⟩, hFr, hlo⟩ := hu3
          have hq9 : q ≤ qn σ := hq9
          have hG : Gd σ w j xx q nx ms := hG
          have hms := hG.1
          refine lv_iload hx hb dX2_row_75 (lv_at hl 8 rfl) ?_
          refine lv_aload_n hx hb dX2_row_77 rfl (lv_at hl 0 rfl) ?_
          refine x_get S in_X2_row_X2 hK hW.1 rfl 1 (by decide) (by decide +kernel) rfl rfl dX2_row_78 ?_
          refine x_icge hx hb (by omega) (by omega) (tgt := 151) dX2_row_81 (by decide) (fun c_5 => ?_) (fun c_5 => ?_)
          · skip
            have hG : Gd σ w j xx (qn σ) nx ms := by rw [show qn σ = q by omega]; exact hG
            refine lv_iload hx hb dX2_row_151 (lv_at hl 6 rfl) ?_
            refine lv_istore (lv' := [(6, .int (oI nx)), (0, .ref mo), (1, .int (nI k)), (2, .int (nI j)), (3, .long xx), (5, .int (nI mn)), (7, .int (oI nx)), (8, .int (nI ms)), (9, .int (nI q))]) hx hb dX2_row_153 hl (by decide) rfl (fun ls hl => ?_)
            refine lv_iload hx hb dX2_row_155 (lv_at hl 0 rfl) ?_
            refine lv_iconst (v := (-1)) hx hb dX2_row_157 (by decide +kernel) ?_
            refine lv_icmp_ne (tgt := 164) hx hb dX2_row_158 (by decide) (fun c_6 => ?_) (fun c_6 => ?_)
            · skip
              obtain ⟨v, rfl⟩ := oI_s c_6
              have hS := Rw_s (by omega) hR hG
              have hv9 := hS.2
              have hmn2 : mn + 1 ≤ 41 := by rw [hS.1.2.2.1]; have := rwS_le (xx ||| sh v) k (qn σ); omega
              have hl : lv_has ls 11 [(6, .int (nI v)), (0, .ref mo), (1, .int (nI k)), (2, .int (nI j)), (3, .long xx), (5, .int (nI mn)), (7, .int (nI v)), (8, .int (nI ms)), (9, .int (nI q))] := x_hl hl rfl
              refine lv_lload_n hx hb dX2_row_164 rfl (lv_at hl 4 rfl) ?_
              refine lv_lconst (v := 1) hx hb dX2_row_165 (by decide +kernel) ?_
              refine lv_iload hx hb dX2_row_166 (lv_at hl 0 rfl) ?_
              refine lv_lshl (v := sh v) hx hb dX2_row_168 rfl ?_
              refine lv_lor hx hb dX2_row_169 ?_
              refine lv_lstore_n (lv' := [(3, .long (xx ||| (sh v))), (6, .int (nI v)), (0, .ref mo), (1, .int (nI k)), (2, .int (nI j)), (5, .int (nI mn)), (7, .int (nI v)), (8, .int (nI ms)), (9, .int (nI q))]) hx hb dX2_row_170 rfl hl (by decide) rfl (fun ls hl => ?_)
              refine x_iinc (n := 1) (lv' := [(5, .int (nI (mn + 1))), (3, .long (xx ||| (sh v))), (6, .int (nI v)), (0, .ref mo), (1, .int (nI k)), (2, .int (nI j)), (7, .int (nI v)), (8, .int (nI ms)), (9, .int (nI q))]) hx hb dX2_row_171 hl (k := 5) rfl (by decide) rfl (fun ls hl => ?_)
              refine lv_goto (tgt := 60) hx hb dX2_row_174 (by decide) ?_
              exact ih (xx ||| sh v, some v, mn + 1) _ _ ⟨hS.1, ⟨_, _, hW⟩, hFr, hlo⟩ (by show 2 * (41 - (mn + 1)) + 1 < 2 * (41 - mn) + 1; omega) ls (lv_sub hl [3, 4, 5, 1, 0, 2] rfl)
            · skip
              have e1 : nx = none := oI_n c_6 (fun v h => by rcases hG.2 with ⟨h1, _⟩ | ⟨v2, h1, h2, _⟩; (rw [h1] at h; cases h); (rw [h1] at h; cases h; omega))
              subst e1
              refine lv_goto (tgt := 60) hx hb dX2_row_161 (by decide) ?_
              exact ih (xx, none, mn) _ _ ⟨Rw_end hR hG, ⟨_, _, hW⟩, hFr, hlo⟩ (by show 2 * (41 - mn) + 0 < 2 * (41 - mn) + 1; omega) ls (lv_sub hl [1, 2, 3, 4, 5, 0] rfl)
          · skip
            have hgq := (hI.2.1 q (by omega)).2.2.2
            refine lv_aload_n hx hb dX2_row_84 rfl (lv_at hl 0 rfl) ?_
            refine x_get S in_X2_row_X2 hK hW.1 rfl 5 (by decide) (by decide +kernel) rfl rfl dX2_row_85 ?_
            refine lv_iload hx hb dX2_row_88 (lv_at hl 8 rfl) ?_
            refine x_iald hx hb hK hW.2.2.2.1 (by omega) (by omega) dX2_row_90 ?_
            refine lv_iconst (v := nI 1) hx hb dX2_row_91 (by decide +kernel) ?_
            refine x_iceq hx hb (by omega) (by omega) (tgt := 145) dX2_row_92 (by decide) (fun c_7 => ?_) (fun c_7 => ?_)
            · skip
              refine x_iinc (n := 1) (lv' := [(9, .int (nI (q + 1))), (0, .ref mo), (1, .int (nI k)), (2, .int (nI j)), (3, .long xx), (5, .int (nI mn)), (6, .int (nI w)), (7, .int (oI nx)), (8, .int (nI ms))]) hx hb dX2_row_145 hl (k := 8) rfl (by decide) rfl (fun ls hl => ?_)
              refine lv_goto (tgt := 75) hx hb dX2_row_148 (by decide) ?_
              exact ih3 (q + 1, nx, ms) _ _ ⟨by dsimp only; omega, Gd_skip hG (Or.inl (by omega)), ⟨_, _, hW⟩, hFr, hlo⟩ (by dsimp only; omega) ls (lv_sub hl [1, 2, 3, 4, 5, 6, 7, 8, 0] rfl)
            · skip
              refine lv_lload_n hx hb dX2_row_95 rfl (lv_at hl 3 rfl) ?_
              refine lv_iload hx hb dX2_row_96 (lv_at hl 8 rfl) ?_
              refine lv_lshr (v := xx >>> ((nI q).toInt64 &&& 63)) hx hb dX2_row_98 rfl ?_
              refine lv_lconst (v := 1) hx hb dX2_row_99 (by decide +kernel) ?_
              refine lv_land hx hb dX2_row_100 ?_
              refine x_eL (bt_shr (by omega)) ?_
              refine lv_lconst (v := 1) hx hb dX2_row_101 (by decide +kernel) ?_
              cases hbt : bt xx q
              · skip
                refine x_lcmp (v := -1) hx hb dX2_row_102 (by decide +kernel) ?_
                refine lv_if_ne (tgt := 109) hx hb dX2_row_103 (by decide) (fun c9 => ?_) (fun c9 => absurd c9 (by decide +kernel))
                refine lv_aload_n hx hb dX2_row_109 rfl (lv_at hl 0 rfl) ?_
                refine lv_iload hx hb dX2_row_110 (lv_at hl 5 rfl) ?_
                refine lv_aload_n hx hb dX2_row_112 rfl (lv_at hl 0 rfl) ?_
                refine x_get S in_X2_row_X2 hK hW.1 rfl 4 (by decide) (by decide +kernel) rfl rfl dX2_row_113 ?_
                refine lv_iload hx hb dX2_row_116 (lv_at hl 5 rfl) ?_
                refine x_iald hx hb hK hW.2.2.1 (by omega) (by omega) dX2_row_118 ?_
                refine lv_iload hx hb dX2_row_119 (lv_at hl 8 rfl) ?_
                refine lv_iload_n hx hb dX2_row_121 rfl (lv_at hl 2 rfl) ?_
                refine m_V (rest := []) S hK (c_X2_rhymeOf l Γ bs mo (nI 0) σ g1 g2 hI hbm w (qu σ w) q j (by omega) (by omega) (by first | omega | exact (hI.2.1 _ (by omega)).2.2.1) (by omega)) (cwV 4 hts gX2_row_X2_rhymeOf rfl rfl rfl (by decide +kernel) ⟨Nat.le_of_ble_eq_true rfl, Nat.le_of_ble_eq_true rfl⟩) (Ob.recv hK hW.1 rfl) hW rfl hl.1 rfl (Nat.le_of_ble_eq_true rfl) dX2_row_122 ⟨Nat.le_of_ble_eq_true rfl, Nat.le_of_ble_eq_true rfl⟩ hlo (fun v H1 lc1 hp hlo => ?_)
                obtain ⟨rfl, ⟨g1, g2, hW⟩, hFq, hzq⟩ := hp
                refine W.eq (g2 := F0 m 125 ls [.int (nI (rhy σ w (qu σ w) q j))]) rfl ?_
                have hFr := hFr.trans hFq
                have hrl := rhy_le hI (a := w) (su := qu σ w) (b := q) (t := j) (by omega)
                refine lv_istore (lv' := [(10, .int (nI (rhy σ w (qu σ w) q j))), (0, .ref mo), (1, .int (nI k)), (2, .int (nI j)), (3, .long xx), (5, .int (nI mn)), (6, .int (nI w)), (7, .int (oI nx)), (8, .int (nI ms)), (9, .int (nI q))]) hx hb dX2_row_125 hl (by decide) rfl (fun ls hl => ?_)
                refine lv_iload hx hb dX2_row_127 (lv_at hl 0 rfl) ?_
                refine lv_iload hx hb dX2_row_129 (lv_at hl 8 rfl) ?_
                refine x_icgt hx hb (by omega) (by omega) (tgt := 137) dX2_row_131 (by decide) (fun c_8 => ?_) (fun c_8 => ?_)
                · skip
                  refine lv_iload hx hb dX2_row_137 (lv_at hl 0 rfl) ?_
                  refine lv_istore (lv' := [(8, .int (nI (rhy σ w (qu σ w) q j))), (10, .int (nI (rhy σ w (qu σ w) q j))), (0, .ref mo), (1, .int (nI k)), (2, .int (nI j)), (3, .long xx), (5, .int (nI mn)), (6, .int (nI w)), (7, .int (oI nx)), (9, .int (nI q))]) hx hb dX2_row_139 hl (by decide) rfl (fun ls hl => ?_)
                  refine lv_iload hx hb dX2_row_141 (lv_at hl 9 rfl) ?_
                  refine lv_istore (lv' := [(7, .int (nI q)), (8, .int (nI (rhy σ w (qu σ w) q j))), (10, .int (nI (rhy σ w (qu σ w) q j))), (0, .ref mo), (1, .int (nI k)), (2, .int (nI j)), (3, .long xx), (5, .int (nI mn)), (6, .int (nI w)), (9, .int (nI q))]) hx hb dX2_row_143 hl (by decide) rfl (fun ls hl => ?_)
                  refine x_iinc (n := 1) (lv' := [(9, .int (nI (q + 1))), (7, .int (nI q)), (8, .int (nI (rhy σ w (qu σ w) q j))), (10, .int (nI (rhy σ w (qu σ w) q j))), (0, .ref mo), (1, .int (nI k)), (2, .int (nI j)), (3, .long xx), (5, .int (nI mn)), (6, .int (nI w))]) hx hb dX2_row_145 hl (k := 9) rfl (by decide) rfl (fun ls hl => ?_)
                  refine lv_goto (tgt := 75) hx hb dX2_row_148 (by decide) ?_
                  exact ih3 (q + 1, some q, rhy σ w (qu σ w) q j) _ _ ⟨by dsimp only; omega, Gd_take hrl (by omega) hbt c_8, ⟨_, _, hW⟩, hFr, hlo⟩ (by dsimp only; omega) ls (lv_sub hl [4, 5, 6, 7, 8, 9, 1, 2, 0] rfl)
                · skip
                  refine lv_goto (tgt := 145) hx hb dX2_row_134 (by decide) ?_
                  refine x_iinc (n := 1) (lv' := [(9, .int (nI (q + 1))), (10, .int (nI (rhy σ w (qu σ w) q j))), (0, .ref mo), (1, .int (nI k)), (2, .int (nI j)), (3, .long xx), (5, .int (nI mn)), (6, .int (nI w)), (7, .int (oI nx)), (8, .int (nI ms))]) hx hb dX2_row_145 hl (k := 9) rfl (by decide) rfl (fun ls hl => ?_)
                  refine lv_goto (tgt := 75) hx hb dX2_row_148 (by decide) ?_
                  exact ih3 (q + 1, nx, ms) _ _ ⟨by dsimp only; omega, Gd_le hG c_8, ⟨_, _, hW⟩, hFr, hlo⟩ (by dsimp only; omega) ls (lv_sub hl [2, 3, 4, 5, 6, 7, 8, 9, 0] rfl)
              · skip
                refine x_lcmp (v := 0) hx hb dX2_row_102 (by decide +kernel) ?_
                refine lv_if_ne (tgt := 109) hx hb dX2_row_103 (by decide) (fun c9 => absurd rfl c9) (fun c9 => ?_)
                refine lv_goto (tgt := 145) hx hb dX2_row_106 (by decide) ?_
                refine x_iinc (n := 1) (lv' := [(9, .int (nI (q + 1))), (0, .ref mo), (1, .int (nI k)), (2, .int (nI j)), (3, .long xx), (5, .int (nI mn)), (6, .int (nI w)), (7, .int (oI nx)), (8, .int (nI ms))]) hx hb dX2_row_145 hl (k := 8) rfl (by decide) rfl (fun ls hl => ?_)
                refine lv_goto (tgt := 75) hx hb dX2_row_148 (by decide) ?_
                exact ih3 (q + 1, nx, ms) _ _ ⟨by dsimp only; omega, Gd_skip hG (Or.inr hbt), ⟨_, _, hW⟩, hFr, hlo⟩ (by dsimp only; omega) ls (lv_sub hl [1, 2, 3, 4, 5, 6, 7, 8, 0] rfl)
      · skip
        refine lv_aload_n hx hb dX2_row_44 rfl (lv_at hl 0 rfl) ?_
        refine lv_iconst (v := nI 3) hx hb dX2_row_45 (by decide +kernel) ?_
        refine m_V (rest := []) S hK (c_X2_no l Γ bs mo (nI 0) σ g1 g2 hI hbm 3) (cwV 1 hts gX2_row_X2_no rfl rfl rfl (by decide +kernel) ⟨Nat.le_of_ble_eq_true rfl, Nat.le_of_ble_eq_true rfl⟩) (Ob.recv hK hW.1 rfl) hW rfl hl.1 rfl (Nat.le_of_ble_eq_true rfl) dX2_row_46 ⟨Nat.le_of_ble_eq_true rfl, Nat.le_of_ble_eq_true rfl⟩ hlo (fun v H1 lc1 hp hlo => ?_)
        obtain ⟨rfl, hW, hFq, hzq⟩ := hp
        refine W.eq (g2 := F0 m 49 ls [.int (nI 0)]) rfl ?_
        have hFr := hFr.trans hFq
        refine W.widen (k := 0) (n := 0) (Nat.le_of_ble_eq_true rfl) (Nat.le_of_ble_eq_true rfl) ?_
        exact m_iret (Post := fun H v H2 => PM Γ mo (cd3 (inb (nI k) (qn σ)) (inb (nI j) 3) (qg σ ((nI k).toInt.toNat) = 0)) σ (σ) (nI (rw_ σ ((nI k).toInt.toNat) ((nI j).toInt.toNat) (qn σ))) H v H2) hx hb hr hlk hlo dX2_row_49 (PM.no (i := 2) (cd3_3 ((inb_nI (by omega)).mpr hk) ((inb_nI (by omega)).mpr hj) (fun q => by rw [toN (by omega)] at q; omega)) rfl ⟨_, _, hW⟩ hFr)
    · skip
      refine lv_aload_n hx hb dX2_row_28 rfl (lv_at hl 0 rfl) ?_
      refine lv_iconst (v := nI 2) hx hb dX2_row_29 (by decide +kernel) ?_
      refine m_V (rest := []) S hK (c_X2_no l Γ bs mo (nI 0) σ g1 g2 hI hbm 2) (cwV 1 hts gX2_row_X2_no rfl rfl rfl (by decide +kernel) ⟨Nat.le_of_ble_eq_true rfl, Nat.le_of_ble_eq_true rfl⟩) (Ob.recv hK hW.1 rfl) hW rfl hl.1 rfl (Nat.le_of_ble_eq_true rfl) dX2_row_30 ⟨Nat.le_of_ble_eq_true rfl, Nat.le_of_ble_eq_true rfl⟩ hlo (fun v H1 lc1 hp hlo => ?_)
      obtain ⟨rfl, hW, hFq, hzq⟩ := hp
      refine W.eq (g2 := F0 m 33 ls [.int (nI 0)]) rfl ?_
      have hFr := hFr.trans hFq
      refine W.widen (k := 0) (n := 0) (Nat.le_of_ble_eq_true rfl) (Nat.le_of_ble_eq_true rfl) ?_
      exact m_iret (Post := fun H v H2 => PM Γ mo (cd3 (inb (nI k) (qn σ)) (inb z 3) (qg σ ((nI k).toInt.toNat) = 0)) σ (σ) (nI (rw_ σ ((nI k).toInt.toNat) (z.toInt.toNat) (qn σ))) H v H2) hx hb hr hlk hlo dX2_row_33 (PM.no (i := 1) (cd3_2 ((inb_nI (by omega)).mpr hk) (bP_0 c_2)) rfl ⟨_, _, hW⟩ hFr)
  · skip
    refine lv_aload_n hx hb dX2_row_13 rfl (lv_at hl 0 rfl) ?_
    refine lv_iconst (v := nI 1) hx hb dX2_row_14 (by decide +kernel) ?_
    refine m_V (rest := []) S hK (c_X2_no l Γ bs mo (nI 0) σ g1 g2 hI hbm 1) (cwV 1 hts gX2_row_X2_no rfl rfl rfl (by decide +kernel) ⟨Nat.le_of_ble_eq_true rfl, Nat.le_of_ble_eq_true rfl⟩) (Ob.recv hK hW.1 rfl) hW rfl hl.1 rfl (Nat.le_of_ble_eq_true rfl) dX2_row_15 ⟨Nat.le_of_ble_eq_true rfl, Nat.le_of_ble_eq_true rfl⟩ hlo (fun v H1 lc1 hp hlo => ?_)
    obtain ⟨rfl, hW, hFq, hzq⟩ := hp
    refine W.eq (g2 := F0 m 18 ls [.int (nI 0)]) rfl ?_
    have hFr := hFr.trans hFq
    refine W.widen (k := 0) (n := 0) (Nat.le_of_ble_eq_true rfl) (Nat.le_of_ble_eq_true rfl) ?_
    exact m_iret (Post := fun H v H2 => PM Γ mo (cd3 (inb y (qn σ)) (inb z 3) (qg σ (y.toInt.toNat) = 0)) σ (σ) (nI (rw_ σ (y.toInt.toNat) (z.toInt.toNat) (qn σ))) H v H2) hx hb hr hlk hlo dX2_row_18 (PM.no (i := 0) (cd3_1 (bP_0 c_1)) rfl ⟨_, _, hW⟩ hFr)
