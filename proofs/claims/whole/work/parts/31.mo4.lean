def o_layJ (σ : St) (fr first to at_ tw c d : Nat) : St := (qn σ, qb σ, qp σ, qu σ, qg σ, qB σ, qE σ, layR (qr σ) fr first c to at_ tw, layB (qa σ) fr first d to at_, layB (ql σ) fr first d to at_)
section ML
variable {Γ : GG} {mo : Nat} {th : Int32} {σ : St} {g1 g2 : Nat → Int32} {H : Heap} {fr first to at_ tw c d c' d' i sd many q x : Nat} {v w : Int32}
theorem MW.layJe (h : MW Γ mo th (o_layJ σ fr first to at_ tw c d) g1 g2 H) (hc : c = c') (hd : d = d') : MW Γ mo th (o_layJ σ fr first to at_ tw c' d') g1 g2 H := by
  subst hc
  subst hd
  exact h
theorem MW.layJ0 (h : MW Γ mo th σ g1 g2 H) : MW Γ mo th (o_layJ σ fr first to at_ tw (3 * 0) 0) g1 g2 H := by
  have e : o_layJ σ fr first to at_ tw (3 * 0) 0 = σ := by unfold o_layJ; rw [Nat.mul_zero, layR_0, layB_0, layB_0]; rfl
  rw [e]
  exact h
theorem MW.layJR (h : MW Γ mo th (u_R (o_layJ σ fr first to at_ tw (3 * i + sd) d) q (qr σ (36 * fr + (3 * (first + i) + (sd + tw) % 3)))) g1 g2 H) (hs : sd < 3) (hq : q = 36 * to + 3 * at_ + (3 * i + sd)) : MW Γ mo th (o_layJ σ fr first to at_ tw (3 * i + (sd + 1)) d) g1 g2 H := by
  subst hq
  have e : o_layJ σ fr first to at_ tw (3 * i + (sd + 1)) d = u_R (o_layJ σ fr first to at_ tw (3 * i + sd) d) (36 * to + 3 * at_ + (3 * i + sd)) (qr σ (36 * fr + (3 * (first + i) + (sd + tw) % 3))) := by
    unfold o_layJ
    rw [← Nat.add_assoc (3 * i) sd 1, ← layR_s hs]
    rfl
  rw [e]
  exact h
theorem MW.layJA (h : MW Γ mo th (u_L (u_A (o_layJ σ fr first to at_ tw c d) q (qa σ (12 * fr + (first + d)))) q (ql σ (12 * fr + (first + d)))) g1 g2 H) (hq : q = 12 * to + at_ + d) : MW Γ mo th (o_layJ σ fr first to at_ tw c (d + 1)) g1 g2 H := by
  subst hq
  have e : o_layJ σ fr first to at_ tw c (d + 1) = u_L (u_A (o_layJ σ fr first to at_ tw c d) (12 * to + at_ + d) (qa σ (12 * fr + (first + d)))) (12 * to + at_ + d) (ql σ (12 * fr + (first + d))) := by
    unfold o_layJ
    rw [← layB_s, ← layB_s]
    rfl
  rw [e]
  exact h
theorem MW.layJd (h : MW Γ mo th (o_layJ σ fr first to at_ tw (3 * i) (min i (many - 1))) g1 g2 H) (hi : i = many) (h7 : 1 ≤ many) : MW Γ mo th (o_lay σ fr first many to at_ tw) g1 g2 H := by
  subst hi
  rw [show min i (i - 1) = i - 1 by omega] at h
  exact h
theorem layJ_r (h1 : ¬ fr = to) (h2 : first + i < 12) (h3 : at_ * 3 + c ≤ 36) : qr (o_layJ σ fr first to at_ tw c d) (3 * (12 * fr + (first + i)) + x % 3) = qr σ (36 * fr + (3 * (first + i) + x % 3)) := by
  show layR (qr σ) fr first c to at_ tw _ = _
  unfold layR
  rw [if_neg (by omega)]
  exact congrArg (qr σ) (by omega)
theorem layJ_a (h1 : ¬ fr = to) (h2 : first + i < 12 ∧ at_ + d ≤ 12) : qa (o_layJ σ fr first to at_ tw c d) (12 * fr + first + i) = qa σ (12 * fr + (first + i)) := by
  show layB (qa σ) fr first d to at_ _ = _
  unfold layB
  rw [if_neg (by omega), Nat.add_assoc]
theorem layJ_l (h1 : ¬ fr = to) (h2 : first + i < 12 ∧ at_ + d ≤ 12) : ql (u_A (o_layJ σ fr first to at_ tw c d) q v) (12 * fr + first + i) = ql σ (12 * fr + (first + i)) := by
  show layB (ql σ) fr first d to at_ _ = _
  unfold layB
  rw [if_neg (by omega), Nat.add_assoc]
end ML
theorem in_X2_lay_X2 : ∀ w ∈ wsX20, w ∈ wsX2_lay := by decide +kernel
set_option maxHeartbeats 4000000 in
set_option maxRecDepth 100000 in
theorem c_X2_lay (l : Launch) (Γ : GG) (bs : Nat) (mo : Nat) (th : Int32) (σ : St) (g1 g2 : Nat → Int32) (hI : Iv σ) (hbm : bs ≤ mo) (fr first many to at_ tw : Nat) (h1 : fr < 40) (h2 : to < 40) (h3 : ¬ fr = to) (h4 : first + many ≤ 12) (h5 : at_ + many ≤ 12) (h6 : tw < 3) (h7 : 1 ≤ many) : Mt l yX2_lay wsX2_lay ({ frames := 1, cells := 0, slots := 0, locals := 22 }) Γ bs [.ref mo, .int (nI fr), .int (nI first), .int (nI many), .int (nI to), .int (nI at_), .int (nI tw)] (MW Γ mo th σ g1 g2) (fun H v H2 => v = none ∧ MW Γ mo th (o_lay σ fr first many to at_ tw) g1 g2 H2 ∧ Fr mo (mo + 11) H H2 ∧ H2.size = H.size) 0 0 := by
  refine Mt.of (cc := cX2_lay) (maxL := 9) (ret := none) (by decide) rfl (Nat.le_of_ble_eq_true rfl) ?_
  intro p e s m below meth c S hr hlk hin hK hW ls hl
  obtain ⟨hx, hb, hml, hown, hts⟩ := id S
  obtain ⟨lc, elc⟩ : ∃ z : List Loc, z = [] := ⟨_, rfl⟩
  rw [← elc]
  have hlo : lo bs lc := by rw [elc]; exact lo.nil
  clear elc
  have hl : lv_has ls 9 [(0, .ref mo), (1, .int (nI fr)), (2, .int (nI first)), (3, .int (nI many)), (4, .int (nI to)), (5, .int (nI at_)), (6, .int (nI tw))] := hl
  have hn40 := hI.1
  have hFr : Fr mo (mo + 11) s.heap s.heap := Fr.rf
  refine lv_iconst (v := nI 0) hx hb dX2_lay_0 (by decide +kernel) ?_
  refine lv_istore (lv' := [(7, .int (nI 0)), (0, .ref mo), (1, .int (nI fr)), (2, .int (nI first)), (3, .int (nI many)), (4, .int (nI to)), (5, .int (nI at_)), (6, .int (nI tw))]) hx hb dX2_lay_1 hl (by decide) rfl (fun ls hl => ?_)
  refine x_loopH (σ := Nat) (fun u => [(0, .ref mo), (1, .int (nI fr)), (2, .int (nI first)), (3, .int (nI many)), (4, .int (nI to)), (5, .int (nI at_)), (6, .int (nI tw)), (7, .int (nI u))]) (fun u H locs => u ≤ many ∧ MW Γ mo th (o_layJ σ fr first to at_ tw (3 * u) (min u (many - 1))) g1 g2 H ∧ Fr mo (mo + 11) s.heap H ∧ lo bs locs ∧ H.size = s.heap.size) (fun u => many - u) (fun u H locs hu ih ls hl => ?_) 0 ⟨Nat.zero_le _, MW.layJe (MW.layJ0 hW) rfl (by omega), hFr, hlo, rfl⟩ ls (x_hl (lv_sub (l' := [(0, .ref mo), (1, .int (nI fr)), (2, .int (nI first)), (3, .int (nI many)), (4, .int (nI to)), (5, .int (nI at_)), (6, .int (nI tw)), (7, .int (nI 0))]) hl [1, 2, 3, 4, 5, 6, 7, 0] rfl) rfl)
  obtain ⟨i, rfl⟩ : ∃ z, z = u := ⟨_, rfl⟩
  have hl : lv_has ls 9 [(0, .ref mo), (1, .int (nI fr)), (2, .int (nI first)), (3, .int (nI many)), (4, .int (nI to)), (5, .int (nI at_)), (6, .int (nI tw)), (7, .int (nI i))] := hl
  obtain ⟨hi9, hW, hFr, hlo, hz⟩ := hu
  refine lv_iload hx hb dX2_lay_3 (lv_at hl 7 rfl) ?_
  refine lv_iload_n hx hb dX2_lay_5 rfl (lv_at hl 3 rfl) ?_
  refine x_icge hx hb (by omega) (by omega) (tgt := 138) dX2_lay_6 (by decide) (fun c_1 => ?_) (fun c_1 => ?_)
  · skip
    refine W.widen (k := 0) (n := 0) (Nat.le_of_ble_eq_true rfl) (Nat.le_of_ble_eq_true rfl) ?_
    exact m_vret (Post := fun H v H2 => v = none ∧ MW Γ mo th (o_lay σ fr first many to at_ tw) g1 g2 H2 ∧ Fr mo (mo + 11) H H2 ∧ H2.size = H.size) hx hb hr hlk hlo dX2_lay_138 ⟨rfl, MW.layJd hW (by omega) h7, hFr, hz⟩
  · skip
    refine lv_iconst (v := nI 0) hx hb dX2_lay_9 (by decide +kernel) ?_
    refine lv_istore (lv' := [(8, .int (nI 0)), (0, .ref mo), (1, .int (nI fr)), (2, .int (nI first)), (3, .int (nI many)), (4, .int (nI to)), (5, .int (nI at_)), (6, .int (nI tw)), (7, .int (nI i))]) hx hb dX2_lay_10 hl (by decide) rfl (fun ls hl => ?_)
    refine x_loopH (σ := Nat) (fun u => [(0, .ref mo), (1, .int (nI fr)), (2, .int (nI first)), (3, .int (nI many)), (4, .int (nI to)), (5, .int (nI at_)), (6, .int (nI tw)), (7, .int (nI i)), (8, .int (nI u))]) (fun u H locs => u ≤ 3 ∧ MW Γ mo th (o_layJ σ fr first to at_ tw (3 * i + u) (min i (many - 1))) g1 g2 H ∧ Fr mo (mo + 11) s.heap H ∧ lo bs locs ∧ H.size = s.heap.size) (fun u => 3 - u) (fun u H locs hu3 ih3 ls hl => ?_) 0 ⟨Nat.zero_le _, hW, hFr, hlo, hz⟩ ls (x_hl (lv_sub (l' := [(0, .ref mo), (1, .int (nI fr)), (2, .int (nI first)), (3, .int (nI many)), (4, .int (nI to)), (5, .int (nI at_)), (6, .int (nI tw)), (7, .int (nI i)), (8, .int (nI 0))]) hl [1, 2, 3, 4, 5, 6, 7, 8, 0] rfl) rfl)
    obtain ⟨sd, rfl⟩ : ∃ z, z = u := ⟨_, rfl⟩
    have hl : lv_has ls 9 [(0, .ref mo), (1, .int (nI fr)), (2, .int (nI first)), (3, .int (nI many)), (4, .int (nI to)), (5, .int (nI at_)), (6, .int (nI tw)), (7, .int (nI i)), (8, .int (nI sd))] := hl
    obtain ⟨hs9, hW, hFr, hlo, hz⟩ := hu3
    refine lv_iload hx hb dX2_lay_12 (lv_at hl 8 rfl) ?_
    refine lv_iconst (v := nI 3) hx hb dX2_lay_14 (by decide +kernel) ?_
    refine x_icge hx hb (by omega) (by omega) (tgt := 61) dX2_lay_15 (by decide) (fun c_2 => ?_) (fun c_2 => ?_)
    · skip
      refine lv_iload hx hb dX2_lay_61 (lv_at hl 7 rfl) ?_
      refine lv_iload_n hx hb dX2_lay_63 rfl (lv_at hl 3 rfl) ?_
      refine lv_iconst (v := nI 1) hx hb dX2_lay_64 (by decide +kernel) ?_
      refine x_sub hx hb (by omega) dX2_lay_65 ?_
      refine x_icne hx hb (by omega) (by omega) (tgt := 72) dX2_lay_66 (by decide) (fun c_3 => ?_) (fun c_3 => ?_)
      · skip
        have hW := MW.layJe hW rfl (show min i (many - 1) = i by omega)
        refine lv_aload_n hx hb dX2_lay_72 rfl (lv_at hl 0 rfl) ?_
        refine x_get S in_X2_lay_X2 hK (show Ob Γ 2 mo [.int th, .int (nI (qn σ)), .int (qb σ), .ref (mo + 1), .ref (mo + 2), .ref (mo + 3), .ref (mo + 4), .ref (mo + 5), .ref (mo + 6), .ref (mo + 7), .ref (mo + 8), .ref (mo + 9), .ref (mo + 10)] _ from hW.1) rfl 9 (by decide) (by decide +kernel) rfl rfl dX2_lay_73 ?_
        refine lv_bipush (v := nI 12) hx hb dX2_lay_76 (by decide +kernel) ?_
        refine lv_iload hx hb dX2_lay_78 (lv_at hl 4 rfl) ?_
        refine x_mul hx hb dX2_lay_80 ?_
        refine lv_iload hx hb dX2_lay_81 (lv_at hl 5 rfl) ?_
        refine x_add hx hb dX2_lay_83 ?_
        refine lv_iload hx hb dX2_lay_84 (lv_at hl 7 rfl) ?_
        refine x_add hx hb dX2_lay_86 ?_
        refine lv_aload_n hx hb dX2_lay_87 rfl (lv_at hl 0 rfl) ?_
        refine x_get S in_X2_lay_X2 hK (show Ob Γ 2 mo [.int th, .int (nI (qn σ)), .int (qb σ), .ref (mo + 1), .ref (mo + 2), .ref (mo + 3), .ref (mo + 4), .ref (mo + 5), .ref (mo + 6), .ref (mo + 7), .ref (mo + 8), .ref (mo + 9), .ref (mo + 10)] _ from hW.1) rfl 9 (by decide) (by decide +kernel) rfl rfl dX2_lay_88 ?_
        refine lv_bipush (v := nI 12) hx hb dX2_lay_91 (by decide +kernel) ?_
        refine lv_iload_n hx hb dX2_lay_93 rfl (lv_at hl 1 rfl) ?_
        refine x_mul hx hb dX2_lay_94 ?_
        refine lv_iload_n hx hb dX2_lay_95 rfl (lv_at hl 2 rfl) ?_
        refine x_add hx hb dX2_lay_96 ?_
        refine lv_iload hx hb dX2_lay_97 (lv_at hl 7 rfl) ?_
        refine x_add hx hb dX2_lay_99 ?_
        refine x_iald hx hb hK hW.2.2.2.2.2.2.2.1 (by omega) (by omega) dX2_lay_100 ?_
        refine x_e (layJ_a (by omega) (by omega)) ?_
        refine x_iast hx hb hK hW.2.2.2.2.2.2.2.1 (by omega) (by omega) hlo (by omega) dX2_lay_101 (fun H1 lc1 hA1 hz1 ho1 hlo => ?_)
        have hFr := hFr.put hz1 ho1 (by omega) (by omega)
        have hW := MW.sA (v := qa σ (12 * fr + (first + i))) hW hA1 ho1
        have hW : MW Γ mo th (u_A (o_layJ σ fr first to at_ tw (3 * i + sd) (i)) (((12 * to) + at_) + i) (qa σ (12 * fr + (first + i)))) g1 g2 H1 := hW
        have hz9 := hz1
        refine lv_aload_n hx hb dX2_lay_102 rfl (lv_at hl 0 rfl) ?_
        refine x_get S in_X2_lay_X2 hK (show Ob Γ 2 mo [.int th, .int (nI (qn σ)), .int (qb σ), .ref (mo + 1), .ref (mo + 2), .ref (mo + 3), .ref (mo + 4), .ref (mo + 5), .ref (mo + 6), .ref (mo + 7), .ref (mo + 8), .ref (mo + 9), .ref (mo + 10)] _ from hW.1) rfl 10 (by decide) (by decide +kernel) rfl rfl dX2_lay_103 ?_
        refine lv_bipush (v := nI 12) hx hb dX2_lay_106 (by decide +kernel) ?_
        refine lv_iload hx hb dX2_lay_108 (lv_at hl 4 rfl) ?_
        refine x_mul hx hb dX2_lay_110 ?_
        refine lv_iload hx hb dX2_lay_111 (lv_at hl 5 rfl) ?_
        refine x_add hx hb dX2_lay_113 ?_
        refine lv_iload hx hb dX2_lay_114 (lv_at hl 7 rfl) ?_
        refine x_add hx hb dX2_lay_116 ?_
        refine lv_aload_n hx hb dX2_lay_117 rfl (lv_at hl 0 rfl) ?_
        refine x_get S in_X2_lay_X2 hK (show Ob Γ 2 mo [.int th, .int (nI (qn σ)), .int (qb σ), .ref (mo + 1), .ref (mo + 2), .ref (mo + 3), .ref (mo + 4), .ref (mo + 5), .ref (mo + 6), .ref (mo + 7), .ref (mo + 8), .ref (mo + 9), .ref (mo + 10)] _ from hW.1) rfl 10 (by decide) (by decide +kernel) rfl rfl dX2_lay_118 ?_
        refine lv_bipush (v := nI 12) hx hb dX2_lay_121 (by decide +kernel) ?_
        refine lv_iload_n hx hb dX2_lay_123 rfl (lv_at hl 1 rfl) ?_
        refine x_mul hx hb dX2_lay_124 ?_
        refine lv_iload_n hx hb dX2_lay_125 rfl (lv_at hl 2 rfl) ?_
        refine x_add hx hb dX2_lay_126 ?_
        refine lv_iload hx hb dX2_lay_127 (lv_at hl 7 rfl) ?_
        refine x_add hx hb dX2_lay_129 ?_
        refine x_iald hx hb hK hW.2.2.2.2.2.2.2.2.1 (by omega) (by omega) dX2_lay_130 ?_
        refine x_e (layJ_l (by omega) (by omega)) ?_
        refine x_iast hx hb hK hW.2.2.2.2.2.2.2.2.1 (by omega) (by omega) hlo (by omega) dX2_lay_131 (fun H1 lc1 hA1 hz1 ho1 hlo => ?_)
        have hFr := hFr.put hz1 ho1 (by omega) (by omega)
        have hW := MW.sL (v := ql σ (12 * fr + (first + i))) hW hA1 ho1
        have hW : MW Γ mo th (u_L (u_A (o_layJ σ fr first to at_ tw (3 * i + sd) (i)) (((12 * to) + at_) + i) (qa σ (12 * fr + (first + i)))) (((12 * to) + at_) + i) (ql σ (12 * fr + (first + i)))) g1 g2 H1 := hW
        refine x_iinc (n := 1) (lv' := [(7, .int (nI (i + 1))), (0, .ref mo), (1, .int (nI fr)), (2, .int (nI first)), (3, .int (nI many)), (4, .int (nI to)), (5, .int (nI at_)), (6, .int (nI tw)), (8, .int (nI sd))]) hx hb dX2_lay_132 hl (k := 7) rfl (by decide) rfl (fun ls hl => ?_)
        refine lv_goto (tgt := 3) hx hb dX2_lay_135 (by decide) ?_
        exact ih (i + 1) _ _ ⟨by omega, MW.layJe (MW.layJA hW rfl) (by omega) (by omega), hFr, hlo, hz1.trans (hz9.trans hz)⟩ (by omega) ls (lv_sub hl [1, 2, 3, 4, 5, 6, 7, 0] rfl)
      · skip
        refine lv_goto (tgt := 132) hx hb dX2_lay_69 (by decide) ?_
        refine x_iinc (n := 1) (lv' := [(7, .int (nI (i + 1))), (0, .ref mo), (1, .int (nI fr)), (2, .int (nI first)), (3, .int (nI many)), (4, .int (nI to)), (5, .int (nI at_)), (6, .int (nI tw)), (8, .int (nI sd))]) hx hb dX2_lay_132 hl (k := 7) rfl (by decide) rfl (fun ls hl => ?_)
        refine lv_goto (tgt := 3) hx hb dX2_lay_135 (by decide) ?_
        exact ih (i + 1) _ _ ⟨by omega, MW.layJe hW (by omega) (by omega), hFr, hlo, hz⟩ (by omega) ls (lv_sub hl [1, 2, 3, 4, 5, 6, 7, 0] rfl)
    · skip
      refine lv_aload_n hx hb dX2_lay_18 rfl (lv_at hl 0 rfl) ?_
      refine x_get S in_X2_lay_X2 hK (show Ob Γ 2 mo [.int th, .int (nI (qn σ)), .int (qb σ), .ref (mo + 1), .ref (mo + 2), .ref (mo + 3), .ref (mo + 4), .ref (mo + 5), .ref (mo + 6), .ref (mo + 7), .ref (mo + 8), .ref (mo + 9), .ref (mo + 10)] _ from hW.1) rfl 8 (by decide) (by decide +kernel) rfl rfl dX2_lay_19 ?_
      refine lv_iload hx hb dX2_lay_22 (lv_at hl 4 rfl) ?_
      refine lv_iload hx hb dX2_lay_24 (lv_at hl 5 rfl) ?_
      refine lv_iload hx hb dX2_lay_26 (lv_at hl 7 rfl) ?_
      refine x_add hx hb dX2_lay_28 ?_
      refine lv_iload hx hb dX2_lay_29 (lv_at hl 8 rfl) ?_
      refine ro_S (rest := [.ref (mo + 6)]) S hK (c_X2_spot l Γ to (at_ + i) sd) (cwS 3 hts gX2_lay_X2_spot rfl rfl rfl (by decide +kernel) ⟨Nat.le_of_ble_eq_true rfl, Nat.le_of_ble_eq_true rfl⟩) trivial rfl hl.1 rfl (Nat.le_of_ble_eq_true rfl) dX2_lay_31 ⟨Nat.le_of_ble_eq_true rfl, Nat.le_of_ble_eq_true rfl⟩ ?_
      refine W.eq (g2 := F0 m 34 ls [.int (nI (3 * (12 * to + (at_ + i)) + sd)), .ref (mo + 6)]) rfl ?_
      refine lv_aload_n hx hb dX2_lay_34 rfl (lv_at hl 0 rfl) ?_
      refine x_get S in_X2_lay_X2 hK (show Ob Γ 2 mo [.int th, .int (nI (qn σ)), .int (qb σ), .ref (mo + 1), .ref (mo + 2), .ref (mo + 3), .ref (mo + 4), .ref (mo + 5), .ref (mo + 6), .ref (mo + 7), .ref (mo + 8), .ref (mo + 9), .ref (mo + 10)] _ from hW.1) rfl 8 (by decide) (by decide +kernel) rfl rfl dX2_lay_35 ?_
      refine lv_iload_n hx hb dX2_lay_38 rfl (lv_at hl 1 rfl) ?_
      refine lv_iload_n hx hb dX2_lay_39 rfl (lv_at hl 2 rfl) ?_
      refine lv_iload hx hb dX2_lay_40 (lv_at hl 7 rfl) ?_
      refine x_add hx hb dX2_lay_42 ?_
      refine lv_iload hx hb dX2_lay_43 (lv_at hl 8 rfl) ?_
      refine lv_iload hx hb dX2_lay_45 (lv_at hl 6 rfl) ?_
      refine x_add hx hb dX2_lay_47 ?_
      refine lv_iconst (v := nI 3) hx hb dX2_lay_48 (by decide +kernel) ?_
      refine x_rem hx hb (by omega) (by omega) (by omega) dX2_lay_49 ?_
      refine ro_S (rest := [.ref (mo + 6), .int (nI (3 * (12 * to + (at_ + i)) + sd)), .ref (mo + 6)]) S hK (c_X2_spot l Γ fr (first + i) ((sd + tw) % 3)) (cwS 3 hts gX2_lay_X2_spot rfl rfl rfl (by decide +kernel) ⟨Nat.le_of_ble_eq_true rfl, Nat.le_of_ble_eq_true rfl⟩) trivial rfl hl.1 rfl (Nat.le_of_ble_eq_true rfl) dX2_lay_50 ⟨Nat.le_of_ble_eq_true rfl, Nat.le_of_ble_eq_true rfl⟩ ?_
      refine W.eq (g2 := F0 m 53 ls [.int (nI (3 * (12 * fr + (first + i)) + ((sd + tw) % 3))), .ref (mo + 6), .int (nI (3 * (12 * to + (at_ + i)) + sd)), .ref (mo + 6)]) rfl ?_
      refine x_iald hx hb hK hW.2.2.2.2.2.2.1 (by omega) (by omega) dX2_lay_53 ?_
      refine x_e (congrArg (· + 1) (show qr (o_layJ σ fr first to at_ tw (3 * i + sd) (min i (many - 1))) (3 * (12 * fr + (first + i)) + (sd + tw) % 3) = qr σ (36 * fr + (3 * (first + i) + (sd + tw) % 3)) from layJ_r (by omega) (by omega) (by omega))) ?_
      refine x_iast hx hb hK hW.2.2.2.2.2.2.1 (by omega) (by omega) hlo (by omega) dX2_lay_54 (fun H1 lc1 hA1 hz1 ho1 hlo => ?_)
      have hFr := hFr.put hz1 ho1 (by omega) (by omega)
      have hW := MW.sR (v := qr σ (36 * fr + (3 * (first + i) + (sd + tw) % 3))) hW hA1 ho1
      have hW : MW Γ mo th (u_R (o_layJ σ fr first to at_ tw (3 * i + sd) (min i (many - 1))) (3 * (12 * to + (at_ + i)) + sd) (qr σ (36 * fr + (3 * (first + i) + (sd + tw) % 3)))) g1 g2 H1 := hW
      refine x_iinc (n := 1) (lv' := [(8, .int (nI (sd + 1))), (0, .ref mo), (1, .int (nI fr)), (2, .int (nI first)), (3, .int (nI many)), (4, .int (nI to)), (5, .int (nI at_)), (6, .int (nI tw)), (7, .int (nI i))]) hx hb dX2_lay_55 hl (k := 8) rfl (by decide) rfl (fun ls hl => ?_)
      refine lv_goto (tgt := 12) hx hb dX2_lay_58 (by decide) ?_
      exact ih3 (sd + 1) _ _ ⟨by omega, MW.layJR hW (by omega) (by omega), hFr, hlo, hz1.trans hz⟩ (by omega) ls (lv_sub hl [1, 2, 3, 4, 5, 6, 7, 8, 0] rfl)
theorem in_X2_stickTold_X2 : ∀ w ∈ wsX20, w ∈ wsX2_stickTold := by decide +kernel
set_option maxHeartbeats 4000000 in
set_option maxRecDepth 100000 in
theorem c_X2_stickTold (l : Launch) (Γ : GG) (bs : Nat) (mo : Nat) (th : Int32) (σ : St) (g1 g2 : Nat → Int32) (hI : Iv σ) (hbm : bs ≤ mo) (k u : Nat) (hk : k < qn σ) (hu : u < 7) : Mt l yX2_stickTold wsX2_stickTold ({ frames := 3, cells := 1, slots := 7, locals := 69 }) Γ bs [.ref mo, .int (nI k), .int (nI u)] (MW Γ mo th σ g1 g2) (fun H v H2 => v = some (.int (fk σ k u)) ∧ MW Γ mo th σ g1 g2 H2 ∧ Fr mo (mo + 11) H H2) 1 7 := by
  refine Mt.of (cc := cX2_stickTold) (maxL := 4) (ret := (some .int)) (by decide) rfl (Nat.le_of_ble_eq_true rfl) ?_
  intro p e s m below meth c S hr hlk hin hK hW ls hl
  obtain ⟨hx, hb, hml, hown, hts⟩ := id S
  obtain ⟨lc, elc⟩ : ∃ z : List Loc, z = [] := ⟨_, rfl⟩
  rw [← elc]
  have hlo : lo bs lc := by rw [elc]; exact lo.nil
  clear elc
  have hl : lv_has ls 4 [(0, .ref mo), (1, .int (nI k)), (2, .int (nI u))] := hl
  have hn40 := hI.1
  have hFr : Fr mo (mo + 11) s.heap s.heap := Fr.rf
  refine lv_bipush (v := nI 7) hx hb dX2_stickTold_0 (by decide +kernel) ?_
  refine x_newI hx hb hK (hts _ (by decide +kernel)) (by decide) (Nat.le_of_ble_eq_true rfl) (Nat.le_of_ble_eq_true rfl) dX2_stickTold_2 (fun H1 hA1 hz1 ho1 => ?_)
  obtain ⟨na, hna, hA7⟩ := x_ex hA1
  have hna0 : s.heap.size ≤ na := by rw [← hna]; exact hFr.1
  have hbn : mo + 11 ≤ na := by have := hW.lt; omega
  have hW := hW.kept (fun q q1 q2 => ho1 q (by have := hW.lt; omega))
  have hFr : Fr mo (mo + 11) s.heap H1 := hFr.trans ⟨by omega, fun q q1 _ => ho1 q q1⟩
  refine x_v (congrArg Value.ref hna) ?_
  refine lv_dup hx hb dX2_stickTold_4 rfl ?_
  refine lv_iconst (v := nI 0) hx hb dX2_stickTold_5 (by decide +kernel) ?_
  refine lv_aload_n hx hb dX2_stickTold_6 rfl (lv_at hl 0 rfl) ?_
  refine x_get S in_X2_stickTold_X2 hK hW.1 rfl 3 (by decide) (by decide +kernel) rfl rfl dX2_stickTold_7 ?_
  refine lv_iload_n hx hb dX2_stickTold_10 rfl (lv_at hl 1 rfl) ?_
  refine x_iald hx hb hK hW.2.1 (by omega) (by omega) dX2_stickTold_11 ?_
  refine x_iast hx hb hK hA7 (by omega) (by omega) hlo (by omega) dX2_stickTold_12 (fun H1 lc1 hA1 hz1 ho1 hlo => ?_)
  have hW := hW.kept (fun q q1 q2 => ho1 q (by omega))
  have hFr : Fr mo (mo + 11) s.heap H1 := ⟨by rw [hz1]; exact hFr.1, fun q q1 q2 => (ho1 q (by omega)).trans (hFr.2 q q1 q2)⟩
  have hA7 := hA1
  refine lv_dup hx hb dX2_stickTold_13 rfl ?_
  refine lv_iconst (v := nI 1) hx hb dX2_stickTold_14 (by decide +kernel) ?_
  refine lv_aload_n hx hb dX2_stickTold_15 rfl (lv_at hl 0 rfl) ?_
  refine x_get S in_X2_stickTold_X2 hK hW.1 rfl 4 (by decide) (by decide +kernel) rfl rfl dX2_stickTold_16 ?_
  refine lv_iload_n hx hb dX2_stickTold_19 rfl (lv_at hl 1 rfl) ?_
  refine x_iald hx hb hK hW.2.2.1 (by omega) (by omega) dX2_stickTold_20 ?_
  refine x_iast hx hb hK hA7 (by omega) (by omega) hlo (by omega) dX2_stickTold_21 (fun H1 lc1 hA1 hz1 ho1 hlo => ?_)
  have hW := hW.kept (fun q q1 q2 => ho1 q (by omega))
  have hFr : Fr mo (mo + 11) s.heap H1 := ⟨by rw [hz1]; exact hFr.1, fun q q1 q2 => (ho1 q (by omega)).trans (hFr.2 q q1 q2)⟩
  have hA7 := hA1
  refine lv_dup hx hb dX2_stickTold_22 rfl ?_
  refine lv_iconst (v := nI 2) hx hb dX2_stickTold_23 (by decide +kernel) ?_
  refine lv_aload_n hx hb dX2_stickTold_24 rfl (lv_at hl 0 rfl) ?_
  refine lv_iload_n hx hb dX2_stickTold_25 rfl (lv_at hl 1 rfl) ?_
  refine ro_V (rest := [.int (nI 2), .ref na, .ref na]) S hK (c_X2_runesOn l Γ mo th σ g1 g2 hI k (by omega)) (cwV 1 hts gX2_stickTold_X2_runesOn rfl rfl rfl (by decide +kernel) ⟨Nat.le_of_ble_eq_true rfl, Nat.le_of_ble_eq_true rfl⟩) (Ob.recv hK hW.1 rfl) hW rfl hl.1 rfl (Nat.le_of_ble_eq_true rfl) dX2_stickTold_26 ⟨Nat.le_of_ble_eq_true rfl, Nat.le_of_ble_eq_true rfl⟩ ?_
  refine W.eq (g2 := F0 m 29 ls [.int (nI (rT (rk σ k) (qp σ k))), .int (nI 2), .ref na, .ref na]) rfl ?_
  refine x_iast hx hb hK hA7 (by omega) (by omega) hlo (by omega) dX2_stickTold_29 (fun H1 lc1 hA1 hz1 ho1 hlo => ?_)
  have hW := hW.kept (fun q q1 q2 => ho1 q (by omega))
  have hFr : Fr mo (mo + 11) s.heap H1 := ⟨by rw [hz1]; exact hFr.1, fun q q1 q2 => (ho1 q (by omega)).trans (hFr.2 q q1 q2)⟩
  have hA7 := hA1
  refine lv_dup hx hb dX2_stickTold_30 rfl ?_
  refine lv_iconst (v := nI 3) hx hb dX2_stickTold_31 (by decide +kernel) ?_
  refine lv_aload_n hx hb dX2_stickTold_32 rfl (lv_at hl 0 rfl) ?_
  refine lv_iload_n hx hb dX2_stickTold_33 rfl (lv_at hl 1 rfl) ?_
  refine ro_V (rest := [.int (nI 3), .ref na, .ref na]) S hK (c_X2_glued l Γ mo th σ g1 g2 hI k (by omega)) (cwV 1 hts gX2_stickTold_X2_glued rfl rfl rfl (by decide +kernel) ⟨Nat.le_of_ble_eq_true rfl, Nat.le_of_ble_eq_true rfl⟩) (Ob.recv hK hW.1 rfl) hW rfl hl.1 rfl (Nat.le_of_ble_eq_true rfl) dX2_stickTold_34 ⟨Nat.le_of_ble_eq_true rfl, Nat.le_of_ble_eq_true rfl⟩ ?_
  refine W.eq (g2 := F0 m 37 ls [.int (nI (gT (lk σ k) (qp σ k - 1))), .int (nI 3), .ref na, .ref na]) rfl ?_
  refine x_iast hx hb hK hA7 (by omega) (by omega) hlo (by omega) dX2_stickTold_37 (fun H1 lc1 hA1 hz1 ho1 hlo => ?_)
  have hW := hW.kept (fun q q1 q2 => ho1 q (by omega))
  have hFr : Fr mo (mo + 11) s.heap H1 := ⟨by rw [hz1]; exact hFr.1, fun q q1 q2 => (ho1 q (by omega)).trans (hFr.2 q q1 q2)⟩
  have hA7 := hA1
  refine lv_dup hx hb dX2_stickTold_38 rfl ?_
  refine lv_iconst (v := nI 4) hx hb dX2_stickTold_39 (by decide +kernel) ?_
  refine lv_aload_n hx hb dX2_stickTold_40 rfl (lv_at hl 0 rfl) ?_
  refine x_get S in_X2_stickTold_X2 hK hW.1 rfl 6 (by decide) (by decide +kernel) rfl rfl dX2_stickTold_41 ?_
  refine lv_iload_n hx hb dX2_stickTold_44 rfl (lv_at hl 1 rfl) ?_
  refine x_iald hx hb hK hW.2.2.2.2.1 (by omega) (by omega) dX2_stickTold_45 ?_
  refine x_iast hx hb hK hA7 (by omega) (by omega) hlo (by omega) dX2_stickTold_46 (fun H1 lc1 hA1 hz1 ho1 hlo => ?_)
  have hW := hW.kept (fun q q1 q2 => ho1 q (by omega))
  have hFr : Fr mo (mo + 11) s.heap H1 := ⟨by rw [hz1]; exact hFr.1, fun q q1 q2 => (ho1 q (by omega)).trans (hFr.2 q q1 q2)⟩
  have hA7 := hA1
  refine lv_dup hx hb dX2_stickTold_47 rfl ?_
  refine lv_iconst (v := nI 5) hx hb dX2_stickTold_48 (by decide +kernel) ?_
  refine lv_aload_n hx hb dX2_stickTold_49 rfl (lv_at hl 0 rfl) ?_
  refine x_get S in_X2_stickTold_X2 hK hW.1 rfl 7 (by decide) (by decide +kernel) rfl rfl dX2_stickTold_50 ?_
  refine lv_iload_n hx hb dX2_stickTold_53 rfl (lv_at hl 1 rfl) ?_
  refine x_iald hx hb hK hW.2.2.2.2.2.1 (by omega) (by omega) dX2_stickTold_54 ?_
  refine x_iast hx hb hK hA7 (by omega) (by omega) hlo (by omega) dX2_stickTold_55 (fun H1 lc1 hA1 hz1 ho1 hlo => ?_)
  have hW := hW.kept (fun q q1 q2 => ho1 q (by omega))
  have hFr : Fr mo (mo + 11) s.heap H1 := ⟨by rw [hz1]; exact hFr.1, fun q q1 q2 => (ho1 q (by omega)).trans (hFr.2 q q1 q2)⟩
  have hA7 := hA1
  refine lv_dup hx hb dX2_stickTold_56 rfl ?_
  refine lv_bipush (v := nI 6) hx hb dX2_stickTold_57 (by decide +kernel) ?_
  refine lv_aload_n hx hb dX2_stickTold_59 rfl (lv_at hl 0 rfl) ?_
  refine x_get S in_X2_stickTold_X2 hK hW.1 rfl 5 (by decide) (by decide +kernel) rfl rfl dX2_stickTold_60 ?_
  refine lv_iload_n hx hb dX2_stickTold_63 rfl (lv_at hl 1 rfl) ?_
  refine x_iald hx hb hK hW.2.2.2.1 (by omega) (by omega) dX2_stickTold_64 ?_
  refine x_iast hx hb hK hA7 (by omega) (by omega) hlo (by omega) dX2_stickTold_65 (fun H1 lc1 hA1 hz1 ho1 hlo => ?_)
  have hW := hW.kept (fun q q1 q2 => ho1 q (by omega))
  have hFr : Fr mo (mo + 11) s.heap H1 := ⟨by rw [hz1]; exact hFr.1, fun q q1 q2 => (ho1 q (by omega)).trans (hFr.2 q q1 q2)⟩
  have hA7 := hA1
  refine lv_astore_n (lv' := [(3, .ref na), (0, .ref mo), (1, .int (nI k)), (2, .int (nI u))]) hx hb dX2_stickTold_66 rfl hl (by decide) rfl (fun ls hl => ?_)
  refine lv_aload_n hx hb dX2_stickTold_67 rfl (lv_at hl 0 rfl) ?_
  refine lv_iload_n hx hb dX2_stickTold_68 rfl (lv_at hl 3 rfl) ?_
  refine x_iald hx hb hK hA7 (by omega) (by omega) dX2_stickTold_69 ?_
  have h9 : u = 0 ∨ u = 1 ∨ u = 2 ∨ u = 3 ∨ u = 4 ∨ u = 5 ∨ u = 6 := by omega
  refine x_e (show (upd (upd (upd (upd (upd (upd (upd (fun _ => nI 0) 0 (nI (qp σ k))) 1 (nI (qu σ k))) 2 (nI (rT (rk σ k) (qp σ k)))) 3 (nI (gT (lk σ k) (qp σ k - 1)))) 4 (qB σ k)) 5 (qE σ k)) 6 (nI (qg σ k))) u = fk σ k u by rcases h9 with rfl | rfl | rfl | rfl | rfl | rfl | rfl <;> rfl) ?_
  refine W.widen (k := 1) (n := 7) (Nat.le_of_ble_eq_true rfl) (Nat.le_of_ble_eq_true rfl) ?_
  exact m_iret (Post := fun H v H2 => v = some (.int (fk σ k u)) ∧ MW Γ mo th σ g1 g2 H2 ∧ Fr mo (mo + 11) H H2) hx hb hr hlk hlo dX2_stickTold_70 ⟨rfl, hW, hFr⟩
