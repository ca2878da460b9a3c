def o_addJ (σ : St) (P U : Nat) (B E : Int32) (j : Nat) : St := (qn σ, qb σ, va_up (qp σ) (qn σ) P, va_up (qu σ) (qn σ) U, qg σ, upd (qB σ) (qn σ) B, upd (qE σ) (qn σ) E, qr σ, rngJ (qa σ) (qn σ) j (nI 12), rngJ (ql σ) (qn σ) j (nI 0))
theorem x_ex {Γ : GG} {a n : Nat} {f : Nat → Int32} {H : Heap} (h : Ai Γ a n f H) : ∃ z : Nat, a = z ∧ Ai Γ z n f H := ⟨a, rfl, h⟩
section MJ
variable {Γ : GG} {mo : Nat} {th : Int32} {σ : St} {g1 g2 : Nat → Int32} {H : Heap} {P U j : Nat} {B E : Int32}
theorem MW.addJ0 (h : MW Γ mo th (u_E (u_B (u_U (u_P σ (qn σ) P) (qn σ) U) (qn σ) B) (qn σ) E) g1 g2 H) : MW Γ mo th (o_addJ σ P U B E 0) g1 g2 H := by
  have e : o_addJ σ P U B E 0 = u_E (u_B (u_U (u_P σ (qn σ) P) (qn σ) U) (qn σ) B) (qn σ) E := by unfold o_addJ; rw [rngJ_0, rngJ_0]; rfl
  rw [e]
  exact h
theorem MW.addJs (h : MW Γ mo th (u_L (u_A (o_addJ σ P U B E j) (12 * qn σ + j) (nI 12)) (12 * qn σ + j) (nI 0)) g1 g2 H) : MW Γ mo th (o_addJ σ P U B E (j + 1)) g1 g2 H := by
  have e : o_addJ σ P U B E (j + 1) = u_L (u_A (o_addJ σ P U B E j) (12 * qn σ + j) (nI 12)) (12 * qn σ + j) (nI 0) := by unfold o_addJ; rw [← rngJ_s, ← rngJ_s]; rfl
  rw [e]
  exact h
theorem MW.addJe (h : MW Γ mo th (u_n (o_addJ σ P U B E j) (qn σ + 1)) g1 g2 H) (e : j = 12) : MW Γ mo th (o_add σ P U B E) g1 g2 H := by
  subst e
  exact h
end MJ
theorem in_X2_add_X2 : ∀ w ∈ wsX20, w ∈ wsX2_add := by decide +kernel
set_option maxHeartbeats 4000000 in
set_option maxRecDepth 100000 in
theorem c_X2_add (l : Launch) (Γ : GG) (bs : Nat) (mo : Nat) (th : Int32) (σ : St) (g1 g2 : Nat → Int32) (hI : Iv σ) (hbm : bs ≤ mo) (P U : Nat) (B E : Int32) (hn : qn σ < 40) : Mt l yX2_add wsX2_add ({ frames := 0, cells := 0, slots := 0, locals := 0 }) Γ bs [.ref mo, .int (nI P), .int (nI U), .int B, .int E] (MW Γ mo th σ g1 g2) (fun H v H2 => v = some (.int (nI (qn σ))) ∧ MW Γ mo th (o_add σ P U B E) g1 g2 H2 ∧ Fr mo (mo + 11) H H2 ∧ H2.size = H.size) 0 0 := by
  refine Mt.of (cc := cX2_add) (maxL := 6) (ret := (some .int)) (by decide) rfl (Nat.le_of_ble_eq_true rfl) ?_
  intro p e s m below meth c S hr hlk hin hK hW ls hl
  obtain ⟨hx, hb, hml, hown, hts⟩ := id S
  obtain ⟨lc, elc⟩ : ∃ z : List Loc, z = [] := ⟨_, rfl⟩
  rw [← elc]
  have hlo : lo bs lc := by rw [elc]; exact lo.nil
  clear elc
  have hl : lv_has ls 6 [(0, .ref mo), (1, .int (nI P)), (2, .int (nI U)), (3, .int B), (4, .int E)] := hl
  have hn40 := hI.1
  have hFr : Fr mo (mo + 11) s.heap s.heap := Fr.rf
  refine lv_aload_n hx hb dX2_add_0 rfl (lv_at hl 0 rfl) ?_
  refine x_get S in_X2_add_X2 hK hW.1 rfl 3 (by decide) (by decide +kernel) rfl rfl dX2_add_1 ?_
  refine lv_aload_n hx hb dX2_add_4 rfl (lv_at hl 0 rfl) ?_
  refine x_get S in_X2_add_X2 hK hW.1 rfl 1 (by decide) (by decide +kernel) rfl rfl dX2_add_5 ?_
  refine lv_iload_n hx hb dX2_add_8 rfl (lv_at hl 1 rfl) ?_
  refine x_iast hx hb hK hW.2.1 (by omega) (by omega) hlo (by omega) dX2_add_9 (fun H1 lc1 hA1 hz1 ho1 hlo => ?_)
  have hFr := hFr.put hz1 ho1 (by omega) (by omega)
  have hW := MW.sP (v := P) hW hA1 ho1
  have hW : MW Γ mo th (u_P σ (qn σ) P) g1 g2 H1 := hW
  have hz2 := hz1
  refine lv_aload_n hx hb dX2_add_10 rfl (lv_at hl 0 rfl) ?_
  refine x_get S in_X2_add_X2 hK (show Ob Γ 2 mo [.int th, .int (nI (qn σ)), .int (qb σ), .ref (mo + 1), .ref (mo + 2), .ref (mo + 3), .ref (mo + 4), .ref (mo + 5), .ref (mo + 6), .ref (mo + 7), .ref (mo + 8), .ref (mo + 9), .ref (mo + 10)] _ from hW.1) rfl 4 (by decide) (by decide +kernel) rfl rfl dX2_add_11 ?_
  refine lv_aload_n hx hb dX2_add_14 rfl (lv_at hl 0 rfl) ?_
  refine x_get S in_X2_add_X2 hK (show Ob Γ 2 mo [.int th, .int (nI (qn σ)), .int (qb σ), .ref (mo + 1), .ref (mo + 2), .ref (mo + 3), .ref (mo + 4), .ref (mo + 5), .ref (mo + 6), .ref (mo + 7), .ref (mo + 8), .ref (mo + 9), .ref (mo + 10)] _ from hW.1) rfl 1 (by decide) (by decide +kernel) rfl rfl dX2_add_15 ?_
  refine lv_iload_n hx hb dX2_add_18 rfl (lv_at hl 2 rfl) ?_
  refine x_iast hx hb hK hW.2.2.1 (by omega) (by omega) hlo (by omega) dX2_add_19 (fun H1 lc1 hA1 hz1 ho1 hlo => ?_)
  have hFr := hFr.put hz1 ho1 (by omega) (by omega)
  have hW := MW.sU (v := U) hW hA1 ho1
  have hW : MW Γ mo th (u_U (u_P σ (qn σ) P) (qn σ) U) g1 g2 H1 := hW
  have hz3 := hz1
  refine lv_aload_n hx hb dX2_add_20 rfl (lv_at hl 0 rfl) ?_
  refine x_get S in_X2_add_X2 hK (show Ob Γ 2 mo [.int th, .int (nI (qn σ)), .int (qb σ), .ref (mo + 1), .ref (mo + 2), .ref (mo + 3), .ref (mo + 4), .ref (mo + 5), .ref (mo + 6), .ref (mo + 7), .ref (mo + 8), .ref (mo + 9), .ref (mo + 10)] _ from hW.1) rfl 6 (by decide) (by decide +kernel) rfl rfl dX2_add_21 ?_
  refine lv_aload_n hx hb dX2_add_24 rfl (lv_at hl 0 rfl) ?_
  refine x_get S in_X2_add_X2 hK (show Ob Γ 2 mo [.int th, .int (nI (qn σ)), .int (qb σ), .ref (mo + 1), .ref (mo + 2), .ref (mo + 3), .ref (mo + 4), .ref (mo + 5), .ref (mo + 6), .ref (mo + 7), .ref (mo + 8), .ref (mo + 9), .ref (mo + 10)] _ from hW.1) rfl 1 (by decide) (by decide +kernel) rfl rfl dX2_add_25 ?_
  refine lv_iload_n hx hb dX2_add_28 rfl (lv_at hl 3 rfl) ?_
  refine x_iast hx hb hK hW.2.2.2.2.1 (by omega) (by omega) hlo (by omega) dX2_add_29 (fun H1 lc1 hA1 hz1 ho1 hlo => ?_)
  have hFr := hFr.put hz1 ho1 (by omega) (by omega)
  have hW := MW.sB (v := B) hW hA1 ho1
  have hW : MW Γ mo th (u_B (u_U (u_P σ (qn σ) P) (qn σ) U) (qn σ) B) g1 g2 H1 := hW
  have hz4 := hz1
  refine lv_aload_n hx hb dX2_add_30 rfl (lv_at hl 0 rfl) ?_
  refine x_get S in_X2_add_X2 hK (show Ob Γ 2 mo [.int th, .int (nI (qn σ)), .int (qb σ), .ref (mo + 1), .ref (mo + 2), .ref (mo + 3), .ref (mo + 4), .ref (mo + 5), .ref (mo + 6), .ref (mo + 7), .ref (mo + 8), .ref (mo + 9), .ref (mo + 10)] _ from hW.1) rfl 7 (by decide) (by decide +kernel) rfl rfl dX2_add_31 ?_
  refine lv_aload_n hx hb dX2_add_34 rfl (lv_at hl 0 rfl) ?_
  refine x_get S in_X2_add_X2 hK (show Ob Γ 2 mo [.int th, .int (nI (qn σ)), .int (qb σ), .ref (mo + 1), .ref (mo + 2), .ref (mo + 3), .ref (mo + 4), .ref (mo + 5), .ref (mo + 6), .ref (mo + 7), .ref (mo + 8), .ref (mo + 9), .ref (mo + 10)] _ from hW.1) rfl 1 (by decide) (by decide +kernel) rfl rfl dX2_add_35 ?_
  refine lv_iload hx hb dX2_add_38 (lv_at hl 4 rfl) ?_
  refine x_iast hx hb hK hW.2.2.2.2.2.1 (by omega) (by omega) hlo (by omega) dX2_add_40 (fun H1 lc1 hA1 hz1 ho1 hlo => ?_)
  have hFr := hFr.put hz1 ho1 (by omega) (by omega)
  have hW := MW.sE (v := E) hW hA1 ho1
  have hW : MW Γ mo th (u_E (u_B (u_U (u_P σ (qn σ) P) (qn σ) U) (qn σ) B) (qn σ) E) g1 g2 H1 := hW
  refine lv_iconst (v := nI 0) hx hb dX2_add_41 (by decide +kernel) ?_
  refine lv_istore (lv' := [(5, .int (nI 0)), (0, .ref mo), (1, .int (nI P)), (2, .int (nI U)), (3, .int B), (4, .int E)]) hx hb dX2_add_42 hl (by decide) rfl (fun ls hl => ?_)
  refine x_loopH (σ := Nat) (fun u => [(0, .ref mo), (5, .int (nI u))]) (fun u H locs => u ≤ 12 ∧ MW Γ mo th (o_addJ σ P U B E u) g1 g2 H ∧ Fr mo (mo + 11) s.heap H ∧ lo bs locs ∧ H.size = s.heap.size) (fun u => 12 - u) (fun u H locs hu ih ls hl => ?_) 0 ⟨Nat.zero_le _, MW.addJ0 hW, hFr, hlo, hz1.trans (hz4.trans (hz3.trans hz2))⟩ ls (x_hl (lv_sub (l' := [(0, .ref mo), (5, .int (nI 0))]) hl [1, 0] rfl) rfl)
  obtain ⟨j, rfl⟩ : ∃ z, z = u := ⟨_, rfl⟩
  have hl : lv_has ls 6 [(0, .ref mo), (5, .int (nI j))] := hl
  obtain ⟨hj9, hW, hFr, hlo, hz⟩ := hu
  refine lv_iload hx hb dX2_add_44 (lv_at hl 1 rfl) ?_
  refine lv_bipush (v := nI 12) hx hb dX2_add_46 (by decide +kernel) ?_
  refine x_icge hx hb (by omega) (by omega) (tgt := 90) dX2_add_48 (by decide) (fun c_1 => ?_) (fun c_1 => ?_)
  · skip
    refine lv_aload_n hx hb dX2_add_90 rfl (lv_at hl 0 rfl) ?_
    refine lv_dup hx hb dX2_add_91 rfl ?_
    refine x_get S in_X2_add_X2 hK (show Ob Γ 2 mo [.int th, .int (nI (qn σ)), .int (qb σ), .ref (mo + 1), .ref (mo + 2), .ref (mo + 3), .ref (mo + 4), .ref (mo + 5), .ref (mo + 6), .ref (mo + 7), .ref (mo + 8), .ref (mo + 9), .ref (mo + 10)] _ from hW.1) rfl 1 (by decide) (by decide +kernel) rfl rfl dX2_add_92 ?_
    refine lv_iconst (v := nI 1) hx hb dX2_add_95 (by decide +kernel) ?_
    refine x_add hx hb dX2_add_96 ?_
    refine x_putX S in_X2_add_X2 tyX2 tyX2_ok nmX2 hK (show Ob Γ 2 mo [.int th, .int (nI (qn σ)), .int (qb σ), .ref (mo + 1), .ref (mo + 2), .ref (mo + 3), .ref (mo + 4), .ref (mo + 5), .ref (mo + 6), .ref (mo + 7), .ref (mo + 8), .ref (mo + 9), .ref (mo + 10)] _ from hW.1) rfl 1 (by decide) (by decide +kernel) rfl (Or.inl rfl) (tyX2_ok 1 (by decide)) rfl rfl (Nat.le_of_ble_eq_true rfl) hlo (by omega) dX2_add_97 (fun H1 lc1 hO1 hz1 ho1 hlo => ?_)
    have hO1 : Ob Γ 2 mo [.int th, .int (nI ((qn σ) + 1)), .int (qb σ), .ref (mo + 1), .ref (mo + 2), .ref (mo + 3), .ref (mo + 4), .ref (mo + 5), .ref (mo + 6), .ref (mo + 7), .ref (mo + 8), .ref (mo + 9), .ref (mo + 10)] H1 := hO1
    have hFr := hFr.put hz1 ho1 (by omega) (by omega)
    have hW := MW.put (σ' := u_n (o_addJ σ P U B E j) ((qn σ) + 1)) hW hO1 ho1 rfl
    have hW : MW Γ mo th (u_n (o_addJ σ P U B E j) ((qn σ) + 1)) g1 g2 H1 := hW
    refine lv_aload_n hx hb dX2_add_100 rfl (lv_at hl 0 rfl) ?_
    refine x_get S in_X2_add_X2 hK (show Ob Γ 2 mo [.int th, .int (nI ((qn σ) + 1)), .int (qb σ), .ref (mo + 1), .ref (mo + 2), .ref (mo + 3), .ref (mo + 4), .ref (mo + 5), .ref (mo + 6), .ref (mo + 7), .ref (mo + 8), .ref (mo + 9), .ref (mo + 10)] _ from hW.1) rfl 1 (by decide) (by decide +kernel) rfl rfl dX2_add_101 ?_
    refine lv_iconst (v := nI 1) hx hb dX2_add_104 (by decide +kernel) ?_
    refine x_sub hx hb (by omega) dX2_add_105 ?_
    refine W.widen (k := 0) (n := 0) (Nat.le_of_ble_eq_true rfl) (Nat.le_of_ble_eq_true rfl) ?_
    exact m_iret (Post := fun H v H2 => v = some (.int (nI (qn σ))) ∧ MW Γ mo th (o_add σ P U B E) g1 g2 H2 ∧ Fr mo (mo + 11) H H2 ∧ H2.size = H.size) hx hb hr hlk hlo dX2_add_106 ⟨rfl, MW.addJe hW (by omega), hFr, hz1.trans hz⟩
  · skip
    refine lv_aload_n hx hb dX2_add_51 rfl (lv_at hl 0 rfl) ?_
    refine x_get S in_X2_add_X2 hK (show Ob Γ 2 mo [.int th, .int (nI (qn σ)), .int (qb σ), .ref (mo + 1), .ref (mo + 2), .ref (mo + 3), .ref (mo + 4), .ref (mo + 5), .ref (mo + 6), .ref (mo + 7), .ref (mo + 8), .ref (mo + 9), .ref (mo + 10)] _ from hW.1) rfl 9 (by decide) (by decide +kernel) rfl rfl dX2_add_52 ?_
    refine lv_bipush (v := nI 12) hx hb dX2_add_55 (by decide +kernel) ?_
    refine lv_aload_n hx hb dX2_add_57 rfl (lv_at hl 0 rfl) ?_
    refine x_get S in_X2_add_X2 hK (show Ob Γ 2 mo [.int th, .int (nI (qn σ)), .int (qb σ), .ref (mo + 1), .ref (mo + 2), .ref (mo + 3), .ref (mo + 4), .ref (mo + 5), .ref (mo + 6), .ref (mo + 7), .ref (mo + 8), .ref (mo + 9), .ref (mo + 10)] _ from hW.1) rfl 1 (by decide) (by decide +kernel) rfl rfl dX2_add_58 ?_
    refine x_mul hx hb dX2_add_61 ?_
    refine lv_iload hx hb dX2_add_62 (lv_at hl 1 rfl) ?_
    refine x_add hx hb dX2_add_64 ?_
    refine lv_bipush (v := nI 12) hx hb dX2_add_65 (by decide +kernel) ?_
    refine x_iast hx hb hK hW.2.2.2.2.2.2.2.1 (by omega) (by omega) hlo (by omega) dX2_add_67 (fun H1 lc1 hA1 hz1 ho1 hlo => ?_)
    have hFr := hFr.put hz1 ho1 (by omega) (by omega)
    have hW := MW.sA (v := nI 12) hW hA1 ho1
    have hW : MW Γ mo th (u_A (o_addJ σ P U B E j) ((12 * (qn σ)) + j) (nI 12)) g1 g2 H1 := hW
    have hz9 := hz1
    refine lv_aload_n hx hb dX2_add_68 rfl (lv_at hl 0 rfl) ?_
    refine x_get S in_X2_add_X2 hK (show Ob Γ 2 mo [.int th, .int (nI (qn σ)), .int (qb σ), .ref (mo + 1), .ref (mo + 2), .ref (mo + 3), .ref (mo + 4), .ref (mo + 5), .ref (mo + 6), .ref (mo + 7), .ref (mo + 8), .ref (mo + 9), .ref (mo + 10)] _ from hW.1) rfl 10 (by decide) (by decide +kernel) rfl rfl dX2_add_69 ?_
    refine lv_bipush (v := nI 12) hx hb dX2_add_72 (by decide +kernel) ?_
    refine lv_aload_n hx hb dX2_add_74 rfl (lv_at hl 0 rfl) ?_
    refine x_get S in_X2_add_X2 hK (show Ob Γ 2 mo [.int th, .int (nI (qn σ)), .int (qb σ), .ref (mo + 1), .ref (mo + 2), .ref (mo + 3), .ref (mo + 4), .ref (mo + 5), .ref (mo + 6), .ref (mo + 7), .ref (mo + 8), .ref (mo + 9), .ref (mo + 10)] _ from hW.1) rfl 1 (by decide) (by decide +kernel) rfl rfl dX2_add_75 ?_
    refine x_mul hx hb dX2_add_78 ?_
    refine lv_iload hx hb dX2_add_79 (lv_at hl 1 rfl) ?_
    refine x_add hx hb dX2_add_81 ?_
    refine lv_iconst (v := nI 0) hx hb dX2_add_82 (by decide +kernel) ?_
    refine x_iast hx hb hK hW.2.2.2.2.2.2.2.2.1 (by omega) (by omega) hlo (by omega) dX2_add_83 (fun H1 lc1 hA1 hz1 ho1 hlo => ?_)
    have hFr := hFr.put hz1 ho1 (by omega) (by omega)
    have hW := MW.sL (v := nI 0) hW hA1 ho1
    have hW : MW Γ mo th (u_L (u_A (o_addJ σ P U B E j) ((12 * (qn σ)) + j) (nI 12)) ((12 * (qn σ)) + j) (nI 0)) g1 g2 H1 := hW
    refine x_iinc (n := 1) (lv' := [(5, .int (nI (j + 1))), (0, .ref mo)]) hx hb dX2_add_84 hl (k := 1) rfl (by decide) rfl (fun ls hl => ?_)
    refine lv_goto (tgt := 44) hx hb dX2_add_87 (by decide) ?_
    exact ih (j + 1) _ _ ⟨by omega, MW.addJs hW, hFr, hlo, hz1.trans (hz9.trans hz)⟩ (by omega) ls (lv_sub hl [1, 0] rfl)
