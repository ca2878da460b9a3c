theorem tS_0 (σ : St) (g : Nat → Int32) : tS σ g 0 = nI 0 := rfl
theorem fA_0 (σ : St) : fA σ 0 = 0 := rfl
theorem in_X2_counted_X2 : ∀ w ∈ wsX20, w ∈ wsX2_counted := by decide +kernel
set_option maxHeartbeats 4000000 in
set_option maxRecDepth 100000 in
theorem c_X2_counted (l : Launch) (Γ : GG) (bs : Nat) (mo : Nat) (th : Int32) (σ : St) (g1 g2 : Nat → Int32) (hI : Iv σ) (hbm : bs ≤ mo) (wh : Nat) (hu : wh < 7) : Mt l yX2_counted wsX2_counted ({ frames := 3, cells := 1, slots := 7, locals := 69 }) Γ bs [.ref mo, .int (nI wh)] (MW Γ mo th σ g1 g2) (fun H v H2 => v = some (.int (tot σ wh)) ∧ MW Γ mo th σ g1 g2 H2 ∧ Fr mo (mo + 11) H H2) 1 7 := by
  refine Mt.of (cc := cX2_counted) (maxL := 8) (ret := (some .int)) (by decide) rfl (Nat.le_of_ble_eq_true rfl) ?_
  intro p e s m below meth c S hr hlk hin hK hW ls hl
  obtain ⟨hx, hb, hml, hown, hts⟩ := id S
  obtain ⟨lc, elc⟩ : ∃ z : List Loc, z = [] := ⟨_, rfl⟩
  rw [← elc]
  have hlo : lo bs lc := by rw [elc]; exact lo.nil
  clear elc
  have hl : lv_has ls 8 [(0, .ref mo), (1, .int (nI wh))] := hl
  have hn40 := hI.1
  have hFr : Fr mo (mo + 11) s.heap s.heap := Fr.rf
  refine lv_iconst (v := nI 0) hx hb dX2_counted_0 (by decide +kernel) ?_
  refine lv_istore_n (lv' := [(2, .int (nI 0)), (0, .ref mo), (1, .int (nI wh))]) hx hb dX2_counted_1 rfl hl (by decide) rfl (fun ls hl => ?_)
  refine lv_iconst (v := nI 0) hx hb dX2_counted_2 (by decide +kernel) ?_
  refine lv_istore_n (lv' := [(3, .int (nI 0)), (2, .int (nI 0)), (0, .ref mo), (1, .int (nI wh))]) hx hb dX2_counted_3 rfl hl (by decide) rfl (fun ls hl => ?_)
  refine lv_iconst (v := nI 0) hx hb dX2_counted_4 (by decide +kernel) ?_
  refine lv_istore (lv' := [(4, .int (nI 0)), (3, .int (nI 0)), (2, .int (nI 0)), (0, .ref mo), (1, .int (nI wh))]) hx hb dX2_counted_5 hl (by decide) rfl (fun ls hl => ?_)
  refine lv_iconst (v := nI 0) hx hb dX2_counted_7 (by decide +kernel) ?_
  refine lv_istore (lv' := [(5, .int (nI 0)), (4, .int (nI 0)), (3, .int (nI 0)), (2, .int (nI 0)), (0, .ref mo), (1, .int (nI wh))]) hx hb dX2_counted_8 hl (by decide) rfl (fun ls hl => ?_)
  refine lv_iconst (v := nI 0) hx hb dX2_counted_10 (by decide +kernel) ?_
  refine lv_istore (lv' := [(6, .int (nI 0)), (5, .int (nI 0)), (4, .int (nI 0)), (3, .int (nI 0)), (2, .int (nI 0)), (0, .ref mo), (1, .int (nI wh))]) hx hb dX2_counted_11 hl (by decide) rfl (fun ls hl => ?_)
  have hl : lv_has ls 8 [(6, .int (nI 0)), (5, .int (nI (fA σ 0))), (4, .int (tS σ (fun k => fk σ k 0) 0)), (3, .int (tS σ (fun k => fk σ k 3) 0)), (2, .int (tS σ (fun k => fk σ k 2) 0)), (0, .ref mo), (1, .int (nI wh))] := x_hl hl (by rw [tS_0, tS_0, tS_0, fA_0])
  refine x_loop (σ := Nat) (fun u => [(0, .ref mo), (1, .int (nI wh)), (2, .int (tS σ (fun k => fk σ k 2) u)), (3, .int (tS σ (fun k => fk σ k 3) u)), (4, .int (tS σ (fun k => fk σ k 0) u)), (5, .int (nI (fA σ u))), (6, .int (nI u))]) (fun u => u ≤ qn σ) (fun u => qn σ - u) (fun u hu ih ls hl => ?_) 0 (by omega) ls (x_hl (lv_sub (l' := [(0, .ref mo), (1, .int (nI wh)), (2, .int (tS σ (fun k => fk σ k 2) 0)), (3, .int (tS σ (fun k => fk σ k 3) 0)), (4, .int (tS σ (fun k => fk σ k 0) 0)), (5, .int (nI (fA σ 0))), (6, .int (nI 0))]) hl [5, 6, 4, 3, 2, 1, 0] rfl) rfl)
  obtain ⟨a, rfl⟩ : ∃ z, z = u := ⟨_, rfl⟩
  have hu : a ≤ qn σ := hu
  have hl : lv_has ls 8 [(0, .ref mo), (1, .int (nI wh)), (2, .int (tS σ (fun k => fk σ k 2) a)), (3, .int (tS σ (fun k => fk σ k 3) a)), (4, .int (tS σ (fun k => fk σ k 0) a)), (5, .int (nI (fA σ a))), (6, .int (nI a))] := hl
  refine lv_iload hx hb dX2_counted_13 (lv_at hl 6 rfl) ?_
  refine lv_aload_n hx hb dX2_counted_15 rfl (lv_at hl 0 rfl) ?_
  refine x_get S in_X2_counted_X2 hK hW.1 rfl 1 (by decide) (by decide +kernel) rfl rfl dX2_counted_16 ?_
  refine x_icge hx hb (by omega) (by omega) (tgt := 111) dX2_counted_19 (by decide) (fun c_1 => ?_) (fun c_1 => ?_)
  · skip
    refine lv_bipush (v := nI 7) hx hb dX2_counted_111 (by decide +kernel) ?_
    refine x_newI hx hb hK (hts _ (by decide +kernel)) (by decide) (Nat.le_of_ble_eq_true rfl) (Nat.le_of_ble_eq_true rfl) dX2_counted_113 (fun H1 hA1 hz1 ho1 => ?_)
    obtain ⟨na, hna, hA7⟩ := x_ex hA1
    have hna0 : s.heap.size ≤ na := by rw [← hna]; exact hFr.1
    have hbn : mo + 11 ≤ na := by have := hW.lt; omega
    have hW := hW.kept (fun q q1 q2 => ho1 q (by have := hW.lt; omega))
    have hFr : Fr mo (mo + 11) s.heap H1 := hFr.trans ⟨by omega, fun q q1 _ => ho1 q q1⟩
    refine x_v (congrArg Value.ref hna) ?_
    refine lv_dup hx hb dX2_counted_115 rfl ?_
    refine lv_iconst (v := nI 0) hx hb dX2_counted_116 (by decide +kernel) ?_
    refine lv_aload_n hx hb dX2_counted_117 rfl (lv_at hl 0 rfl) ?_
    refine ro_V (rest := [.int (nI 0), .ref na, .ref na]) S hK (c_X2_there l Γ mo th σ g1 g2 hI ) (cwV 0 hts gX2_counted_X2_there rfl rfl rfl (by decide +kernel) ⟨Nat.le_of_ble_eq_true rfl, Nat.le_of_ble_eq_true rfl⟩) (Ob.recv hK hW.1 rfl) hW rfl hl.1 rfl (Nat.le_of_ble_eq_true rfl) dX2_counted_118 ⟨Nat.le_of_ble_eq_true rfl, Nat.le_of_ble_eq_true rfl⟩ ?_
    refine W.eq (g2 := F0 m 121 ls [.int (nI (thr σ (qn σ))), .int (nI 0), .ref na, .ref na]) rfl ?_
    refine x_iast hx hb hK hA7 (by omega) (by omega) hlo (by omega) dX2_counted_121 (fun H1 lc1 hA1 hz1 ho1 hlo => ?_)
    have hW := hW.kept (fun q q1 q2 => ho1 q (by omega))
    have hFr : Fr mo (mo + 11) s.heap H1 := ⟨by rw [hz1]; exact hFr.1, fun q q1 q2 => (ho1 q (by omega)).trans (hFr.2 q q1 q2)⟩
    have hA7 := hA1
    refine lv_dup hx hb dX2_counted_122 rfl ?_
    refine lv_iconst (v := nI 1) hx hb dX2_counted_123 (by decide +kernel) ?_
    refine lv_aload_n hx hb dX2_counted_124 rfl (lv_at hl 0 rfl) ?_
    refine x_get S in_X2_counted_X2 hK hW.1 rfl 1 (by decide) (by decide +kernel) rfl rfl dX2_counted_125 ?_
    refine x_iast hx hb hK hA7 (by omega) (by omega) hlo (by omega) dX2_counted_128 (fun H1 lc1 hA1 hz1 ho1 hlo => ?_)
    have hW := hW.kept (fun q q1 q2 => ho1 q (by omega))
    have hFr : Fr mo (mo + 11) s.heap H1 := ⟨by rw [hz1]; exact hFr.1, fun q q1 q2 => (ho1 q (by omega)).trans (hFr.2 q q1 q2)⟩
    have hA7 := hA1
    refine lv_dup hx hb dX2_counted_129 rfl ?_
    refine lv_iconst (v := nI 2) hx hb dX2_counted_130 (by decide +kernel) ?_
    refine lv_iload_n hx hb dX2_counted_131 rfl (lv_at hl 2 rfl) ?_
    refine x_iast hx hb hK hA7 (by omega) (by omega) hlo (by omega) dX2_counted_132 (fun H1 lc1 hA1 hz1 ho1 hlo => ?_)
    have hW := hW.kept (fun q q1 q2 => ho1 q (by omega))
    have hFr : Fr mo (mo + 11) s.heap H1 := ⟨by rw [hz1]; exact hFr.1, fun q q1 q2 => (ho1 q (by omega)).trans (hFr.2 q q1 q2)⟩
    have hA7 := hA1
    refine lv_dup hx hb dX2_counted_133 rfl ?_
    refine lv_iconst (v := nI 3) hx hb dX2_counted_134 (by decide +kernel) ?_
    refine lv_aload_n hx hb dX2_counted_135 rfl (lv_at hl 0 rfl) ?_
    refine x_get S in_X2_counted_X2 hK hW.1 rfl 2 (by decide) (by decide +kernel) rfl rfl dX2_counted_136 ?_
    refine x_iast hx hb hK hA7 (by omega) (by omega) hlo (by omega) dX2_counted_139 (fun H1 lc1 hA1 hz1 ho1 hlo => ?_)
    have hW := hW.kept (fun q q1 q2 => ho1 q (by omega))
    have hFr : Fr mo (mo + 11) s.heap H1 := ⟨by rw [hz1]; exact hFr.1, fun q q1 q2 => (ho1 q (by omega)).trans (hFr.2 q q1 q2)⟩
    have hA7 := hA1
    refine lv_dup hx hb dX2_counted_140 rfl ?_
    refine lv_iconst (v := nI 4) hx hb dX2_counted_141 (by decide +kernel) ?_
    refine lv_iload_n hx hb dX2_counted_142 rfl (lv_at hl 3 rfl) ?_
    refine x_iast hx hb hK hA7 (by omega) (by omega) hlo (by omega) dX2_counted_143 (fun H1 lc1 hA1 hz1 ho1 hlo => ?_)
    have hW := hW.kept (fun q q1 q2 => ho1 q (by omega))
    have hFr : Fr mo (mo + 11) s.heap H1 := ⟨by rw [hz1]; exact hFr.1, fun q q1 q2 => (ho1 q (by omega)).trans (hFr.2 q q1 q2)⟩
    have hA7 := hA1
    refine lv_dup hx hb dX2_counted_144 rfl ?_
    refine lv_iconst (v := nI 5) hx hb dX2_counted_145 (by decide +kernel) ?_
    refine lv_iload hx hb dX2_counted_146 (lv_at hl 4 rfl) ?_
    refine x_iast hx hb hK hA7 (by omega) (by omega) hlo (by omega) dX2_counted_148 (fun H1 lc1 hA1 hz1 ho1 hlo => ?_)
    have hW := hW.kept (fun q q1 q2 => ho1 q (by omega))
    have hFr : Fr mo (mo + 11) s.heap H1 := ⟨by rw [hz1]; exact hFr.1, fun q q1 q2 => (ho1 q (by omega)).trans (hFr.2 q q1 q2)⟩
    have hA7 := hA1
    refine lv_dup hx hb dX2_counted_149 rfl ?_
    refine lv_bipush (v := nI 6) hx hb dX2_counted_150 (by decide +kernel) ?_
    refine lv_iload hx hb dX2_counted_152 (lv_at hl 5 rfl) ?_
    refine x_iast hx hb hK hA7 (by omega) (by omega) hlo (by omega) dX2_counted_154 (fun H1 lc1 hA1 hz1 ho1 hlo => ?_)
    have hW := hW.kept (fun q q1 q2 => ho1 q (by omega))
    have hFr : Fr mo (mo + 11) s.heap H1 := ⟨by rw [hz1]; exact hFr.1, fun q q1 q2 => (ho1 q (by omega)).trans (hFr.2 q q1 q2)⟩
    have hA7 := hA1
    refine lv_astore (lv' := [(6, .ref na), (0, .ref mo), (1, .int (nI wh)), (2, .int (tS σ (fun k => fk σ k 2) a)), (3, .int (tS σ (fun k => fk σ k 3) a)), (4, .int (tS σ (fun k => fk σ k 0) a)), (5, .int (nI (fA σ a)))]) hx hb dX2_counted_155 hl (by decide) rfl (fun ls hl => ?_)
    refine lv_aload hx hb dX2_counted_157 (lv_at hl 0 rfl) ?_
    refine lv_iload_n hx hb dX2_counted_159 rfl (lv_at hl 2 rfl) ?_
    refine x_iald hx hb hK hA7 (by omega) (by omega) dX2_counted_160 ?_
    have h9 : wh = 0 ∨ wh = 1 ∨ wh = 2 ∨ wh = 3 ∨ wh = 4 ∨ wh = 5 ∨ wh = 6 := by omega
    have e9 : a = qn σ := by omega
    refine x_e (show (upd (upd (upd (upd (upd (upd (upd (fun _ => nI 0) 0 (nI (thr σ (qn σ)))) 1 (nI (qn σ))) 2 (tS σ (fun k => fk σ k 2) a)) 3 (qb σ)) 4 (tS σ (fun k => fk σ k 3) a)) 5 (tS σ (fun k => fk σ k 0) a)) 6 (nI (fA σ a))) wh = tot σ wh by rw [e9]; rcases h9 with rfl | rfl | rfl | rfl | rfl | rfl | rfl <;> rfl) ?_
    refine W.widen (k := 1) (n := 7) (Nat.le_of_ble_eq_true rfl) (Nat.le_of_ble_eq_true rfl) ?_
    exact m_iret (Post := fun H v H2 => v = some (.int (tot σ wh)) ∧ MW Γ mo th σ g1 g2 H2 ∧ Fr mo (mo + 11) H H2) hx hb hr hlk hlo dX2_counted_161 ⟨rfl, hW, hFr⟩
  · skip
    refine lv_aload_n hx hb dX2_counted_22 rfl (lv_at hl 0 rfl) ?_
    refine x_get S in_X2_counted_X2 hK hW.1 rfl 5 (by decide) (by decide +kernel) rfl rfl dX2_counted_23 ?_
    refine lv_iload hx hb dX2_counted_26 (lv_at hl 6 rfl) ?_
    refine x_iald hx hb hK hW.2.2.2.1 (by omega) (by omega) dX2_counted_28 ?_
    refine lv_iconst (v := nI 1) hx hb dX2_counted_29 (by decide +kernel) ?_
    have hga := (hI.2.1 a (by omega)).2.2.2
    refine x_icne hx hb (by omega) (by omega) (tgt := 36) dX2_counted_30 (by decide) (fun c_2 => ?_) (fun c_2 => ?_)
    · skip
      refine lv_iload_n hx hb dX2_counted_36 rfl (lv_at hl 2 rfl) ?_
      refine lv_aload_n hx hb dX2_counted_37 rfl (lv_at hl 0 rfl) ?_
      refine lv_iload hx hb dX2_counted_38 (lv_at hl 6 rfl) ?_
      refine ro_V (rest := [.int (tS σ (fun k => fk σ k 2) a)]) S hK (c_X2_runesOn l Γ mo th σ g1 g2 hI a (by omega)) (cwV 1 hts gX2_counted_X2_runesOn rfl rfl rfl (by decide +kernel) ⟨Nat.le_of_ble_eq_true rfl, Nat.le_of_ble_eq_true rfl⟩) (Ob.recv hK hW.1 rfl) hW rfl hl.1 rfl (Nat.le_of_ble_eq_true rfl) dX2_counted_40 ⟨Nat.le_of_ble_eq_true rfl, Nat.le_of_ble_eq_true rfl⟩ ?_
      refine W.eq (g2 := F0 m 43 ls [.int (nI (rT (rk σ a) (qp σ a))), .int (tS σ (fun k => fk σ k 2) a)]) rfl ?_
      refine lv_iadd hx hb dX2_counted_43 ?_
      refine lv_istore_n (lv' := [(2, .int ((tS σ (fun k => fk σ k 2) a) + (nI (rT (rk σ a) (qp σ a))))), (0, .ref mo), (1, .int (nI wh)), (3, .int (tS σ (fun k => fk σ k 3) a)), (4, .int (tS σ (fun k => fk σ k 0) a)), (5, .int (nI (fA σ a))), (6, .int (nI a))]) hx hb dX2_counted_44 rfl hl (by decide) rfl (fun ls hl => ?_)
      refine lv_iload_n hx hb dX2_counted_45 rfl (lv_at hl 3 rfl) ?_
      refine lv_aload_n hx hb dX2_counted_46 rfl (lv_at hl 1 rfl) ?_
      refine lv_iload hx hb dX2_counted_47 (lv_at hl 6 rfl) ?_
      refine ro_V (rest := [.int (tS σ (fun k => fk σ k 3) a)]) S hK (c_X2_glued l Γ mo th σ g1 g2 hI a (by omega)) (cwV 1 hts gX2_counted_X2_glued rfl rfl rfl (by decide +kernel) ⟨Nat.le_of_ble_eq_true rfl, Nat.le_of_ble_eq_true rfl⟩) (Ob.recv hK hW.1 rfl) hW rfl hl.1 rfl (Nat.le_of_ble_eq_true rfl) dX2_counted_49 ⟨Nat.le_of_ble_eq_true rfl, Nat.le_of_ble_eq_true rfl⟩ ?_
      refine W.eq (g2 := F0 m 52 ls [.int (nI (gT (lk σ a) (qp σ a - 1))), .int (tS σ (fun k => fk σ k 3) a)]) rfl ?_
      refine lv_iadd hx hb dX2_counted_52 ?_
      refine lv_istore_n (lv' := [(3, .int ((tS σ (fun k => fk σ k 3) a) + (nI (gT (lk σ a) (qp σ a - 1))))), (2, .int ((tS σ (fun k => fk σ k 2) a) + (nI (rT (rk σ a) (qp σ a))))), (0, .ref mo), (1, .int (nI wh)), (4, .int (tS σ (fun k => fk σ k 0) a)), (5, .int (nI (fA σ a))), (6, .int (nI a))]) hx hb dX2_counted_53 rfl hl (by decide) rfl (fun ls hl => ?_)
      refine lv_iload hx hb dX2_counted_54 (lv_at hl 4 rfl) ?_
      refine lv_aload_n hx hb dX2_counted_56 rfl (lv_at hl 2 rfl) ?_
      refine x_get S in_X2_counted_X2 hK hW.1 rfl 3 (by decide) (by decide +kernel) rfl rfl dX2_counted_57 ?_
      refine lv_iload hx hb dX2_counted_60 (lv_at hl 6 rfl) ?_
      refine x_iald hx hb hK hW.2.1 (by omega) (by omega) dX2_counted_62 ?_
      refine lv_iadd hx hb dX2_counted_63 ?_
      refine lv_istore (lv' := [(4, .int ((tS σ (fun k => fk σ k 0) a) + (nI (qp σ a)))), (3, .int ((tS σ (fun k => fk σ k 3) a) + (nI (gT (lk σ a) (qp σ a - 1))))), (2, .int ((tS σ (fun k => fk σ k 2) a) + (nI (rT (rk σ a) (qp σ a))))), (0, .ref mo), (1, .int (nI wh)), (5, .int (nI (fA σ a))), (6, .int (nI a))]) hx hb dX2_counted_64 hl (by decide) rfl (fun ls hl => ?_)
      refine lv_iconst (v := nI 0) hx hb dX2_counted_66 (by decide +kernel) ?_
      refine lv_istore (lv' := [(7, .int (nI 0)), (4, .int ((tS σ (fun k => fk σ k 0) a) + (nI (qp σ a)))), (3, .int ((tS σ (fun k => fk σ k 3) a) + (nI (gT (lk σ a) (qp σ a - 1))))), (2, .int ((tS σ (fun k => fk σ k 2) a) + (nI (rT (rk σ a) (qp σ a))))), (0, .ref mo), (1, .int (nI wh)), (5, .int (nI (fA σ a))), (6, .int (nI a))]) hx hb dX2_counted_67 hl (by decide) rfl (fun ls hl => ?_)
      have hl : lv_has ls 8 [(7, .int (nI 0)), (4, .int ((tS σ (fun k => fk σ k 0) a) + (nI (qp σ a)))), (3, .int ((tS σ (fun k => fk σ k 3) a) + (nI (gT (lk σ a) (qp σ a - 1))))), (2, .int ((tS σ (fun k => fk σ k 2) a) + (nI (rT (rk σ a) (qp σ a))))), (0, .ref mo), (1, .int (nI wh)), (5, .int (nI (fA σ a + fB σ a 0))), (6, .int (nI a))] := x_hl hl rfl
      refine x_loop (σ := Nat) (fun u => [(0, .ref mo), (1, .int (nI wh)), (2, .int (tS σ (fun k => fk σ k 2) a + nI (rT (rk σ a) (qp σ a)))), (3, .int (tS σ (fun k => fk σ k 3) a + nI (gT (lk σ a) (qp σ a - 1)))), (4, .int (tS σ (fun k => fk σ k 0) a + nI (qp σ a))), (5, .int (nI (fA σ a + fB σ a u))), (6, .int (nI a)), (7, .int (nI u))]) (fun u => u ≤ qn σ) (fun u => qn σ - u) (fun u hu3 ih3 ls hl => ?_) 0 (by omega) ls (x_hl (lv_sub (l' := [(0, .ref mo), (1, .int (nI wh)), (2, .int ((tS σ (fun k => fk σ k 2) a) + (nI (rT (rk σ a) (qp σ a))))), (3, .int ((tS σ (fun k => fk σ k 3) a) + (nI (gT (lk σ a) (qp σ a - 1))))), (4, .int ((tS σ (fun k => fk σ k 0) a) + (nI (qp σ a)))), (5, .int (nI (fA σ a + fB σ a 0))), (6, .int (nI a)), (7, .int (nI 0))]) hl [4, 5, 3, 2, 1, 6, 7, 0] rfl) rfl)
      obtain ⟨b, rfl⟩ : ∃ z, z = u := ⟨_, rfl⟩
      have hu3 : b ≤ qn σ := hu3
      have hl : lv_has ls 8 [(0, .ref mo), (1, .int (nI wh)), (2, .int (tS σ (fun k => fk σ k 2) a + nI (rT (rk σ a) (qp σ a)))), (3, .int (tS σ (fun k => fk σ k 3) a + nI (gT (lk σ a) (qp σ a - 1)))), (4, .int (tS σ (fun k => fk σ k 0) a + nI (qp σ a))), (5, .int (nI (fA σ a + fB σ a b))), (6, .int (nI a)), (7, .int (nI b))] := hl
      refine lv_iload hx hb dX2_counted_69 (lv_at hl 7 rfl) ?_
      refine lv_aload_n hx hb dX2_counted_71 rfl (lv_at hl 0 rfl) ?_
      refine x_get S in_X2_counted_X2 hK hW.1 rfl 1 (by decide) (by decide +kernel) rfl rfl dX2_counted_72 ?_
      refine x_icge hx hb (by omega) (by omega) (tgt := 105) dX2_counted_75 (by decide) (fun c_3 => ?_) (fun c_3 => ?_)
      · skip
        refine x_iinc (n := 1) (lv' := [(6, .int (nI (a + 1))), (0, .ref mo), (1, .int (nI wh)), (2, .int (tS σ (fun k => fk σ k 2) a + nI (rT (rk σ a) (qp σ a)))), (3, .int (tS σ (fun k => fk σ k 3) a + nI (gT (lk σ a) (qp σ a - 1)))), (4, .int (tS σ (fun k => fk σ k 0) a + nI (qp σ a))), (5, .int (nI (fA σ a + fB σ a b))), (7, .int (nI b))]) hx hb dX2_counted_105 hl (k := 6) rfl (by decide) rfl (fun ls hl => ?_)
        refine lv_goto (tgt := 13) hx hb dX2_counted_108 (by decide) ?_
        have hg0 : qg σ a = 0 := by omega
        have hl : lv_has ls 8 [(6, .int (nI (a + 1))), (0, .ref mo), (1, .int (nI wh)), (2, .int (tS σ (fun k => fk σ k 2) (a + 1))), (3, .int (tS σ (fun k => fk σ k 3) a + nI (gT (lk σ a) (qp σ a - 1)))), (4, .int (tS σ (fun k => fk σ k 0) a + nI (qp σ a))), (5, .int (nI (fA σ a + fB σ a b))), (7, .int (nI b))] := x_hl hl (by rw [show tS σ (fun k => fk σ k 2) a + nI (rT (rk σ a) (qp σ a)) = tS σ (fun k => fk σ k 2) (a + 1) from (tS_y (g := fun k => fk σ k 2) hg0).symm])
        have hl : lv_has ls 8 [(6, .int (nI (a + 1))), (0, .ref mo), (1, .int (nI wh)), (2, .int (tS σ (fun k => fk σ k 2) (a + 1))), (3, .int (tS σ (fun k => fk σ k 3) (a + 1))), (4, .int (tS σ (fun k => fk σ k 0) a + nI (qp σ a))), (5, .int (nI (fA σ a + fB σ a b))), (7, .int (nI b))] := x_hl hl (by rw [show tS σ (fun k => fk σ k 3) a + nI (gT (lk σ a) (qp σ a - 1)) = tS σ (fun k => fk σ k 3) (a + 1) from (tS_y (g := fun k => fk σ k 3) hg0).symm])
        have hl : lv_has ls 8 [(6, .int (nI (a + 1))), (0, .ref mo), (1, .int (nI wh)), (2, .int (tS σ (fun k => fk σ k 2) (a + 1))), (3, .int (tS σ (fun k => fk σ k 3) (a + 1))), (4, .int (tS σ (fun k => fk σ k 0) (a + 1))), (5, .int (nI (fA σ a + fB σ a b))), (7, .int (nI b))] := x_hl hl (by rw [show tS σ (fun k => fk σ k 0) a + nI (qp σ a) = tS σ (fun k => fk σ k 0) (a + 1) from (tS_y (g := fun k => fk σ k 0) hg0).symm])
        have hl : lv_has ls 8 [(6, .int (nI (a + 1))), (0, .ref mo), (1, .int (nI wh)), (2, .int (tS σ (fun k => fk σ k 2) (a + 1))), (3, .int (tS σ (fun k => fk σ k 3) (a + 1))), (4, .int (tS σ (fun k => fk σ k 0) (a + 1))), (5, .int (nI (fA σ (a + 1)))), (7, .int (nI b))] := x_hl hl (by rw [show fA σ a + fB σ a b = fA σ (a + 1) by rw [fA_s, show b = qn σ by omega]])
        exact ih (a + 1) (by omega) (by omega) ls (lv_sub hl [1, 2, 3, 4, 5, 6, 0] rfl)
      · skip
        refine lv_iload hx hb dX2_counted_78 (lv_at hl 5 rfl) ?_
        refine lv_aload_n hx hb dX2_counted_80 rfl (lv_at hl 0 rfl) ?_
        refine lv_iload hx hb dX2_counted_81 (lv_at hl 6 rfl) ?_
        refine lv_iload hx hb dX2_counted_83 (lv_at hl 7 rfl) ?_
        refine ro_V (rest := [.int (nI (fA σ a + fB σ a b))]) S hK (c_X2_fit l Γ mo th σ g1 g2 hI a b (by omega) (by omega)) (cwV 2 hts gX2_counted_X2_fit rfl rfl rfl (by decide +kernel) ⟨Nat.le_of_ble_eq_true rfl, Nat.le_of_ble_eq_true rfl⟩) (Ob.recv hK hW.1 rfl) hW rfl hl.1 rfl (Nat.le_of_ble_eq_true rfl) dX2_counted_85 ⟨Nat.le_of_ble_eq_true rfl, Nat.le_of_ble_eq_true rfl⟩ ?_
        refine W.eq (g2 := F0 m 88 ls [.int (nI (bP (fitP σ a b))), .int (nI (fA σ a + fB σ a b))]) rfl ?_
        have hbb := bP_le (fitP σ a b)
        refine x_ifeq hx hb (by omega) (tgt := 95) dX2_counted_88 (by decide) (fun c_4 => ?_) (fun c_4 => ?_)
        · skip
          refine lv_iconst (v := nI 0) hx hb dX2_counted_95 (by decide +kernel) ?_
          refine x_add hx hb dX2_counted_96 ?_
          refine lv_istore (lv' := [(5, .int (nI ((fA σ a + fB σ a b) + 0))), (0, .ref mo), (1, .int (nI wh)), (2, .int (tS σ (fun k => fk σ k 2) a + nI (rT (rk σ a) (qp σ a)))), (3, .int (tS σ (fun k => fk σ k 3) a + nI (gT (lk σ a) (qp σ a - 1)))), (4, .int (tS σ (fun k => fk σ k 0) a + nI (qp σ a))), (6, .int (nI a)), (7, .int (nI b))]) hx hb dX2_counted_97 hl (by decide) rfl (fun ls hl => ?_)
          refine x_iinc (n := 1) (lv' := [(7, .int (nI (b + 1))), (5, .int (nI ((fA σ a + fB σ a b) + 0))), (0, .ref mo), (1, .int (nI wh)), (2, .int (tS σ (fun k => fk σ k 2) a + nI (rT (rk σ a) (qp σ a)))), (3, .int (tS σ (fun k => fk σ k 3) a + nI (gT (lk σ a) (qp σ a - 1)))), (4, .int (tS σ (fun k => fk σ k 0) a + nI (qp σ a))), (6, .int (nI a))]) hx hb dX2_counted_99 hl (k := 7) rfl (by decide) rfl (fun ls hl => ?_)
          refine lv_goto (tgt := 69) hx hb dX2_counted_102 (by decide) ?_
          have hl : lv_has ls 8 [(7, .int (nI (b + 1))), (5, .int (nI (fA σ a + fB σ a (b + 1)))), (0, .ref mo), (1, .int (nI wh)), (2, .int (tS σ (fun k => fk σ k 2) a + nI (rT (rk σ a) (qp σ a)))), (3, .int (tS σ (fun k => fk σ k 3) a + nI (gT (lk σ a) (qp σ a - 1)))), (4, .int (tS σ (fun k => fk σ k 0) a + nI (qp σ a))), (6, .int (nI a))] := x_hl hl (by rw [show fA σ a + fB σ a b + 0 = fA σ a + fB σ a (b + 1) by rw [fB_s, bP_f (bP_0 c_4)]; rfl])
          exact ih3 (b + 1) (by omega) (by omega) ls (lv_sub hl [2, 3, 4, 5, 6, 1, 7, 0] rfl)
        · skip
          refine lv_iconst (v := nI 1) hx hb dX2_counted_91 (by decide +kernel) ?_
          refine lv_goto (tgt := 96) hx hb dX2_counted_92 (by decide) ?_
          refine x_add hx hb dX2_counted_96 ?_
          refine lv_istore (lv' := [(5, .int (nI ((fA σ a + fB σ a b) + 1))), (0, .ref mo), (1, .int (nI wh)), (2, .int (tS σ (fun k => fk σ k 2) a + nI (rT (rk σ a) (qp σ a)))), (3, .int (tS σ (fun k => fk σ k 3) a + nI (gT (lk σ a) (qp σ a - 1)))), (4, .int (tS σ (fun k => fk σ k 0) a + nI (qp σ a))), (6, .int (nI a)), (7, .int (nI b))]) hx hb dX2_counted_97 hl (by decide) rfl (fun ls hl => ?_)
          refine x_iinc (n := 1) (lv' := [(7, .int (nI (b + 1))), (5, .int (nI ((fA σ a + fB σ a b) + 1))), (0, .ref mo), (1, .int (nI wh)), (2, .int (tS σ (fun k => fk σ k 2) a + nI (rT (rk σ a) (qp σ a)))), (3, .int (tS σ (fun k => fk σ k 3) a + nI (gT (lk σ a) (qp σ a - 1)))), (4, .int (tS σ (fun k => fk σ k 0) a + nI (qp σ a))), (6, .int (nI a))]) hx hb dX2_counted_99 hl (k := 7) rfl (by decide) rfl (fun ls hl => ?_)
          refine lv_goto (tgt := 69) hx hb dX2_counted_102 (by decide) ?_
          have hl : lv_has ls 8 [(7, .int (nI (b + 1))), (5, .int (nI (fA σ a + fB σ a (b + 1)))), (0, .ref mo), (1, .int (nI wh)), (2, .int (tS σ (fun k => fk σ k 2) a + nI (rT (rk σ a) (qp σ a)))), (3, .int (tS σ (fun k => fk σ k 3) a + nI (gT (lk σ a) (qp σ a - 1)))), (4, .int (tS σ (fun k => fk σ k 0) a + nI (qp σ a))), (6, .int (nI a))] := x_hl hl (by rw [show fA σ a + fB σ a b + 1 = fA σ a + fB σ a (b + 1) by rw [fB_s, bP_t (bP_1 c_4), Nat.add_assoc]])
          exact ih3 (b + 1) (by omega) (by omega) ls (lv_sub hl [2, 3, 4, 5, 6, 1, 7, 0] rfl)
    · skip
      refine lv_goto (tgt := 105) hx hb dX2_counted_33 (by decide) ?_
      refine x_iinc (n := 1) (lv' := [(6, .int (nI (a + 1))), (0, .ref mo), (1, .int (nI wh)), (2, .int (tS σ (fun k => fk σ k 2) a)), (3, .int (tS σ (fun k => fk σ k 3) a)), (4, .int (tS σ (fun k => fk σ k 0) a)), (5, .int (nI (fA σ a)))]) hx hb dX2_counted_105 hl (k := 6) rfl (by decide) rfl (fun ls hl => ?_)
      refine lv_goto (tgt := 13) hx hb dX2_counted_108 (by decide) ?_
      have hg0 : 0 < qg σ a := by omega
      have hl : lv_has ls 8 [(6, .int (nI (a + 1))), (0, .ref mo), (1, .int (nI wh)), (2, .int (tS σ (fun k => fk σ k 2) (a + 1))), (3, .int (tS σ (fun k => fk σ k 3) a)), (4, .int (tS σ (fun k => fk σ k 0) a)), (5, .int (nI (fA σ a)))] := x_hl hl (by rw [← tS_n (g := fun k => fk σ k 2) hg0])
      have hl : lv_has ls 8 [(6, .int (nI (a + 1))), (0, .ref mo), (1, .int (nI wh)), (2, .int (tS σ (fun k => fk σ k 2) (a + 1))), (3, .int (tS σ (fun k => fk σ k 3) (a + 1))), (4, .int (tS σ (fun k => fk σ k 0) a)), (5, .int (nI (fA σ a)))] := x_hl hl (by rw [← tS_n (g := fun k => fk σ k 3) hg0])
      have hl : lv_has ls 8 [(6, .int (nI (a + 1))), (0, .ref mo), (1, .int (nI wh)), (2, .int (tS σ (fun k => fk σ k 2) (a + 1))), (3, .int (tS σ (fun k => fk σ k 3) (a + 1))), (4, .int (tS σ (fun k => fk σ k 0) (a + 1))), (5, .int (nI (fA σ a)))] := x_hl hl (by rw [← tS_n (g := fun k => fk σ k 0) hg0])
      have hl : lv_has ls 8 [(6, .int (nI (a + 1))), (0, .ref mo), (1, .int (nI wh)), (2, .int (tS σ (fun k => fk σ k 2) (a + 1))), (3, .int (tS σ (fun k => fk σ k 3) (a + 1))), (4, .int (tS σ (fun k => fk σ k 0) (a + 1))), (5, .int (nI (fA σ (a + 1))))] := x_hl hl (by rw [show fA σ a = fA σ (a + 1) by rw [fA_s, fB_gone hg0, Nat.add_zero]])
      exact ih (a + 1) (by omega) (by omega) ls (lv_sub hl [1, 2, 3, 4, 5, 6, 0] rfl)
