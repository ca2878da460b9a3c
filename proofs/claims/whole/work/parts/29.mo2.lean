theorem in_X2_no_X2 : ∀ w ∈ wsX20, w ∈ wsX2_no := by decide +kernel
set_option maxHeartbeats 4000000 in
set_option maxRecDepth 100000 in
theorem c_X2_no (l : Launch) (Γ : GG) (bs : Nat) (mo : Nat) (th : Int32) (σ : St) (g1 g2 : Nat → Int32) (hI : Iv σ) (hbm : bs ≤ mo) (c9 : Nat)  : Mt l yX2_no wsX2_no ({ frames := 0, cells := 0, slots := 0, locals := 0 }) Γ bs [.ref mo, .int (nI c9)] (MW Γ mo th σ g1 g2) (fun H v H2 => v = some (.int (nI 0)) ∧ MW Γ mo (nI c9) σ g1 g2 H2 ∧ Fr mo (mo + 11) H H2 ∧ H2.size = H.size) 0 0 := by
  refine Mt.of (cc := cX2_no) (maxL := 2) (ret := (some .int)) (by decide) rfl (Nat.le_of_ble_eq_true rfl) ?_
  intro p e s m below meth c S hr hlk hin hK hW ls hl
  obtain ⟨hx, hb, hml, hown, hts⟩ := id S
  obtain ⟨lc, elc⟩ : ∃ z : List Loc, z = [] := ⟨_, rfl⟩
  rw [← elc]
  have hlo : lo bs lc := by rw [elc]; exact lo.nil
  clear elc
  have hl : lv_has ls 2 [(0, .ref mo), (1, .int (nI c9))] := hl
  have hn40 := hI.1
  have hFr : Fr mo (mo + 11) s.heap s.heap := Fr.rf
  refine lv_aload_n hx hb dX2_no_0 rfl (lv_at hl 0 rfl) ?_
  refine lv_iload_n hx hb dX2_no_1 rfl (lv_at hl 1 rfl) ?_
  refine x_putX S in_X2_no_X2 tyX2 tyX2_ok nmX2 hK hW.1 rfl 0 (by decide) (by decide +kernel) rfl (Or.inl rfl) (tyX2_ok 0 (by decide)) rfl rfl (Nat.le_of_ble_eq_true rfl) hlo (by omega) dX2_no_2 (fun H1 lc1 hO1 hz1 ho1 hlo => ?_)
  have hO1 : Ob Γ 2 mo [.int (nI c9), .int (nI (qn σ)), .int (qb σ), .ref (mo + 1), .ref (mo + 2), .ref (mo + 3), .ref (mo + 4), .ref (mo + 5), .ref (mo + 6), .ref (mo + 7), .ref (mo + 8), .ref (mo + 9), .ref (mo + 10)] H1 := hO1
  have hFr := hFr.put hz1 ho1 (by omega) (by omega)
  have hW := MW.put (σ' := σ) hW hO1 ho1 rfl
  have hW : MW Γ mo (nI c9) σ g1 g2 H1 := hW
  refine lv_iconst (v := nI 0) hx hb dX2_no_5 (by decide +kernel) ?_
  refine W.widen (k := 0) (n := 0) (Nat.le_of_ble_eq_true rfl) (Nat.le_of_ble_eq_true rfl) ?_
  exact m_iret (Post := fun H v H2 => v = some (.int (nI 0)) ∧ MW Γ mo (nI c9) σ g1 g2 H2 ∧ Fr mo (mo + 11) H H2 ∧ H2.size = H.size) hx hb hr hlk hlo dX2_no_6 ⟨rfl, hW, hFr, hz1⟩
theorem in_X2_read_X2 : ∀ w ∈ wsX20, w ∈ wsX2_read := by decide +kernel
set_option maxHeartbeats 4000000 in
set_option maxRecDepth 100000 in
theorem c_X2_read1 (l : Launch) (Γ : GG) (bs : Nat) (mo : Nat) (th : Int32) (σ : St) (g1 g2 : Nat → Int32) (hI : Iv σ) (hbm : bs ≤ mo) (k su t : Nat) (hk : k < qn σ) (hsu : su < 3) (ht : t < 3) : Mt l yX2_read wsX2_read ({ frames := 1, cells := 0, slots := 0, locals := 22 }) Γ bs [.ref mo, .int (nI k), .int (nI su), .int (nI t), .ref (mo + 9)] (MW Γ mo th σ g1 g2) (fun H v H2 => v = some (.int (nI (cU (rd (rk σ k) su t) (qp σ k)))) ∧ MW Γ mo th σ (rdA (rd (rk σ k) su t) g1 (qp σ k)) g2 H2 ∧ Fr mo (mo + 11) H H2 ∧ H2.size = H.size) 0 0 := by
  refine Mt.of (cc := cX2_read) (maxL := 8) (ret := (some .int)) (by decide) rfl (Nat.le_of_ble_eq_true rfl) ?_
  intro p e s m below meth c S hr hlk hin hK hW ls hl
  obtain ⟨hx, hb, hml, hown, hts⟩ := id S
  obtain ⟨lc, elc⟩ : ∃ z : List Loc, z = [] := ⟨_, rfl⟩
  rw [← elc]
  have hlo : lo bs lc := by rw [elc]; exact lo.nil
  clear elc
  have hl : lv_has ls 8 [(0, .ref mo), (1, .int (nI k)), (2, .int (nI su)), (3, .int (nI t)), (4, .ref (mo + 9))] := hl
  have hn40 := hI.1
  have hFr : Fr mo (mo + 11) s.heap s.heap := Fr.rf
  refine lv_iconst (v := nI 0) hx hb dX2_read_0 (by decide +kernel) ?_
  refine lv_istore (lv' := [(5, .int (nI 0)), (0, .ref mo), (1, .int (nI k)), (2, .int (nI su)), (3, .int (nI t)), (4, .ref (mo + 9))]) hx hb dX2_read_1 hl (by decide) rfl (fun ls hl => ?_)
  refine lv_iconst (v := nI 0) hx hb dX2_read_3 (by decide +kernel) ?_
  refine lv_istore (lv' := [(6, .int (nI 0)), (5, .int (nI 0)), (0, .ref mo), (1, .int (nI k)), (2, .int (nI su)), (3, .int (nI t)), (4, .ref (mo + 9))]) hx hb dX2_read_4 hl (by decide) rfl (fun ls hl => ?_)
  refine x_loopH (σ := Nat) (fun u => [(0, .ref mo), (1, .int (nI k)), (2, .int (nI su)), (3, .int (nI t)), (4, .ref (mo + 9)), (5, .int (nI (cU (rd (rk σ k) su t) u))), (6, .int (nI u))]) (fun u H locs => u ≤ qp σ k ∧ MW Γ mo th σ (rdA (rd (rk σ k) su t) g1 u) g2 H ∧ Fr mo (mo + 11) s.heap H ∧ lo bs locs ∧ H.size = s.heap.size) (fun u => qp σ k - u) (fun u H locs hu ih ls hl => ?_) 0 ⟨Nat.zero_le _, hW, hFr, hlo, rfl⟩ ls (x_hl (lv_sub (l' := [(0, .ref mo), (1, .int (nI k)), (2, .int (nI su)), (3, .int (nI t)), (4, .ref (mo + 9)), (5, .int (nI 0)), (6, .int (nI 0))]) hl [2, 3, 4, 5, 6, 1, 0] rfl) rfl)
  obtain ⟨i, rfl⟩ : ∃ z, z = u := ⟨_, rfl⟩
  have hl : lv_has ls 8 [(0, .ref mo), (1, .int (nI k)), (2, .int (nI su)), (3, .int (nI t)), (4, .ref (mo + 9)), (5, .int (nI (cU (rd (rk σ k) su t) i))), (6, .int (nI i))] := hl
  obtain ⟨hi9, hW, hFr, hlo, hz⟩ := hu
  obtain ⟨hp0, hp12, hu3, hg1⟩ := hI.2.1 k hk
  have hcu := cU_le (rd (rk σ k) su t) i
  refine lv_iload hx hb dX2_read_6 (lv_at hl 6 rfl) ?_
  refine lv_aload_n hx hb dX2_read_8 rfl (lv_at hl 0 rfl) ?_
  refine x_get S in_X2_read_X2 hK hW.1 rfl 3 (by decide) (by decide +kernel) rfl rfl dX2_read_9 ?_
  refine lv_iload_n hx hb dX2_read_12 rfl (lv_at hl 1 rfl) ?_
  refine x_iald hx hb hK hW.2.1 (by omega) (by omega) dX2_read_13 ?_
  refine x_icge hx hb (by omega) (by omega) (tgt := 64) dX2_read_14 (by decide) (fun c_1 => ?_) (fun c_1 => ?_)
  · skip
    refine lv_iload hx hb dX2_read_64 (lv_at hl 5 rfl) ?_
    refine W.widen (k := 0) (n := 0) (Nat.le_of_ble_eq_true rfl) (Nat.le_of_ble_eq_true rfl) ?_
    exact m_iret (Post := fun H v H2 => v = some (.int (nI (cU (rd (rk σ k) su t) (qp σ k)))) ∧ MW Γ mo th σ (rdA (rd (rk σ k) su t) g1 (qp σ k)) g2 H2 ∧ Fr mo (mo + 11) H H2 ∧ H2.size = H.size) hx hb hr hlk hlo dX2_read_66 ⟨by rw [show qp σ k = i by omega], by rw [show qp σ k = i by omega]; exact hW, hFr, hz⟩
  · skip
    have hm : i * t < 40 := Nat.lt_of_le_of_lt (Nat.mul_le_mul (show i ≤ 12 by omega) (show t ≤ 3 by omega)) (by decide)
    refine lv_aload_n hx hb dX2_read_17 rfl (lv_at hl 0 rfl) ?_
    refine x_get S in_X2_read_X2 hK hW.1 rfl 8 (by decide) (by decide +kernel) rfl rfl dX2_read_18 ?_
    refine lv_iload_n hx hb dX2_read_21 rfl (lv_at hl 1 rfl) ?_
    refine lv_iload hx hb dX2_read_22 (lv_at hl 6 rfl) ?_
    refine lv_iload_n hx hb dX2_read_24 rfl (lv_at hl 2 rfl) ?_
    refine lv_iload hx hb dX2_read_25 (lv_at hl 6 rfl) ?_
    refine lv_iload_n hx hb dX2_read_27 rfl (lv_at hl 3 rfl) ?_
    refine x_mul hx hb dX2_read_28 ?_
    refine x_add hx hb dX2_read_29 ?_
    refine lv_iconst (v := nI 3) hx hb dX2_read_30 (by decide +kernel) ?_
    refine x_rem hx hb (by omega) (by omega) (by omega) dX2_read_31 ?_
    refine ro_S (rest := [.ref (mo + 6)]) S hK (c_X2_spot l Γ k i ((su + (i * t)) % 3)) (cwS 3 hts gX2_read_X2_spot rfl rfl rfl (by decide +kernel) ⟨Nat.le_of_ble_eq_true rfl, Nat.le_of_ble_eq_true rfl⟩) trivial rfl hl.1 rfl (Nat.le_of_ble_eq_true rfl) dX2_read_32 ⟨Nat.le_of_ble_eq_true rfl, Nat.le_of_ble_eq_true rfl⟩ ?_
    refine W.eq (g2 := F0 m 35 ls [.int (nI (3 * (12 * k + i) + ((su + (i * t)) % 3))), .ref (mo + 6)]) rfl ?_
    refine x_iald hx hb hK hW.2.2.2.2.2.2.1 (by omega) (by omega) dX2_read_35 ?_
    refine x_e (show qr σ (3 * (12 * k + i) + (su + i * t) % 3) + 1 = rd (rk σ k) su t i + 1 by rw [rk_at]; rfl) ?_
    refine lv_istore (lv' := [(7, .int (rd (rk σ k) su t i + 1)), (0, .ref mo), (1, .int (nI k)), (2, .int (nI su)), (3, .int (nI t)), (4, .ref (mo + 9)), (5, .int (nI (cU (rd (rk σ k) su t) i))), (6, .int (nI i))]) hx hb dX2_read_36 hl (by decide) rfl (fun ls hl => ?_)
    refine lv_iload hx hb dX2_read_38 (lv_at hl 0 rfl) ?_
    refine lv_if_ne (tgt := 46) hx hb dX2_read_40 (by decide) (fun c_2 => ?_) (fun c_2 => ?_)
    · skip
      refine lv_aload hx hb dX2_read_46 (lv_at hl 5 rfl) ?_
      refine lv_iload hx hb dX2_read_48 (lv_at hl 6 rfl) ?_
      refine lv_iload hx hb dX2_read_50 (lv_at hl 0 rfl) ?_
      refine lv_iconst (v := nI 1) hx hb dX2_read_52 (by decide +kernel) ?_
      refine lv_isub hx hb dX2_read_53 ?_
      refine x_e (add1_sub1 _) ?_
      refine x_iast hx hb hK hW.2.2.2.2.2.2.2.2.2.1 (by omega) (by omega) hlo (by omega) dX2_read_54 (fun H1 lc1 hA1 hz1 ho1 hlo => ?_)
      have hFr := hFr.put hz1 ho1 (by omega) (by omega)
      have hW := MW.g1 hW hA1 ho1
      have hW : MW Γ mo th σ (upd (rdA (rd (rk σ k) su t) g1 i) (cU (rd (rk σ k) su t) i) (rd (rk σ k) su t i)) g2 H1 := hW
      refine x_iinc (n := 1) (lv' := [(5, .int (nI (cU (rd (rk σ k) su t) i + 1))), (7, .int (rd (rk σ k) su t i + 1)), (0, .ref mo), (1, .int (nI k)), (2, .int (nI su)), (3, .int (nI t)), (4, .ref (mo + 9)), (6, .int (nI i))]) hx hb dX2_read_55 hl (k := 6) rfl (by decide) rfl (fun ls hl => ?_)
      refine x_iinc (n := 1) (lv' := [(6, .int (nI (i + 1))), (5, .int (nI (cU (rd (rk σ k) su t) i + 1))), (7, .int (rd (rk σ k) su t i + 1)), (0, .ref mo), (1, .int (nI k)), (2, .int (nI su)), (3, .int (nI t)), (4, .ref (mo + 9))]) hx hb dX2_read_58 hl (k := 7) rfl (by decide) rfl (fun ls hl => ?_)
      refine lv_goto (tgt := 6) hx hb dX2_read_61 (by decide) ?_
      have hl : lv_has ls 8 [(6, .int (nI (i + 1))), (5, .int (nI (cU (rd (rk σ k) su t) (i + 1)))), (7, .int (rd (rk σ k) su t i + 1)), (0, .ref mo), (1, .int (nI k)), (2, .int (nI su)), (3, .int (nI t)), (4, .ref (mo + 9))] := x_hl hl (by rw [← cU_y (f := rd (rk σ k) su t) (n := i) (okR_nz c_2)])
      exact ih (i + 1) _ _ ⟨by omega, by rw [rdA_y (okR_nz c_2)]; exact hW, hFr, hlo, hz1.trans hz⟩ (by omega) ls (lv_sub hl [3, 4, 5, 6, 7, 1, 0] rfl)
    · skip
      refine lv_goto (tgt := 58) hx hb dX2_read_43 (by decide) ?_
      refine x_iinc (n := 1) (lv' := [(6, .int (nI (i + 1))), (7, .int (rd (rk σ k) su t i + 1)), (0, .ref mo), (1, .int (nI k)), (2, .int (nI su)), (3, .int (nI t)), (4, .ref (mo + 9)), (5, .int (nI (cU (rd (rk σ k) su t) i)))]) hx hb dX2_read_58 hl (k := 7) rfl (by decide) rfl (fun ls hl => ?_)
      refine lv_goto (tgt := 6) hx hb dX2_read_61 (by decide) ?_
      have hl : lv_has ls 8 [(6, .int (nI (i + 1))), (7, .int (rd (rk σ k) su t i + 1)), (0, .ref mo), (1, .int (nI k)), (2, .int (nI su)), (3, .int (nI t)), (4, .ref (mo + 9)), (5, .int (nI (cU (rd (rk σ k) su t) (i + 1))))] := x_hl hl (by rw [← cU_n (f := rd (rk σ k) su t) (n := i) (okR_z c_2)])
      exact ih (i + 1) _ _ ⟨by omega, by rw [rdA_n (okR_z c_2)]; exact hW, hFr, hlo, hz⟩ (by omega) ls (lv_sub hl [2, 3, 4, 5, 6, 7, 0] rfl)
set_option maxHeartbeats 4000000 in
set_option maxRecDepth 100000 in
theorem c_X2_read2 (l : Launch) (Γ : GG) (bs : Nat) (mo : Nat) (th : Int32) (σ : St) (g1 g2 : Nat → Int32) (hI : Iv σ) (hbm : bs ≤ mo) (k su t : Nat) (hk : k < qn σ) (hsu : su < 3) (ht : t < 3) : Mt l yX2_read wsX2_read ({ frames := 1, cells := 0, slots := 0, locals := 22 }) Γ bs [.ref mo, .int (nI k), .int (nI su), .int (nI t), .ref (mo + 10)] (MW Γ mo th σ g1 g2) (fun H v H2 => v = some (.int (nI (cU (rd (rk σ k) su t) (qp σ k)))) ∧ MW Γ mo th σ g1 (rdA (rd (rk σ k) su t) g2 (qp σ k)) H2 ∧ Fr mo (mo + 11) H H2 ∧ H2.size = H.size) 0 0 := by
  refine Mt.of (cc := cX2_read) (maxL := 8) (ret := (some .int)) (by decide) rfl (Nat.le_of_ble_eq_true rfl) ?_
  intro p e s m below meth c S hr hlk hin hK hW ls hl
  obtain ⟨hx, hb, hml, hown, hts⟩ := id S
  obtain ⟨lc, elc⟩ : ∃ z : List Loc, z = [] := ⟨_, rfl⟩
  rw [← elc]
  have hlo : lo bs lc := by rw [elc]; exact lo.nil
  clear elc
  have hl : lv_has ls 8 [(0, .ref mo), (1, .int (nI k)), (2, .int (nI su)), (3, .int (nI t)), (4, .ref (mo + 10))] := hl
  have hn40 := hI.1
  have hFr : Fr mo (mo + 11) s.heap s.heap := Fr.rf
  refine lv_iconst (v := nI 0) hx hb dX2_read_0 (by decide +kernel) ?_
  refine lv_istore (lv' := [(5, .int (nI 0)), (0, .ref mo), (1, .int (nI k)), (2, .int (nI su)), (3, .int (nI t)), (4, .ref (mo + 10))]) hx hb dX2_read_1 hl (by decide) rfl (fun ls hl => ?_)
  refine lv_iconst (v := nI 0) hx hb dX2_read_3 (by decide +kernel) ?_
  refine lv_istore (lv' := [(6, .int (nI 0)), (5, .int (nI 0)), (0, .ref mo), (1, .int (nI k)), (2, .int (nI su)), (3, .int (nI t)), (4, .ref (mo + 10))]) hx hb dX2_read_4 hl (by decide) rfl (fun ls hl => ?_)
  refine x_loopH (σ := Nat) (fun u => [(0, .ref mo), (1, .int (nI k)), (2, .int (nI su)), (3, .int (nI t)), (4, .ref (mo + 10)), (5, .int (nI (cU (rd (rk σ k) su t) u))), (6, .int (nI u))]) (fun u H locs => u ≤ qp σ k ∧ MW Γ mo th σ g1 (rdA (rd (rk σ k) su t) g2 u) H ∧ Fr mo (mo + 11) s.heap H ∧ lo bs locs ∧ H.size = s.heap.size) (fun u => qp σ k - u) (fun u H locs hu ih ls hl => ?_) 0 ⟨Nat.zero_le _, hW, hFr, hlo, rfl⟩ ls (x_hl (lv_sub (l' := [(0, .ref mo), (1, .int (nI k)), (2, .int (nI su)), (3, .int (nI t)), (4, .ref (mo + 10)), (5, .int (nI 0)), (6, .int (nI 0))]) hl [2, 3, 4, 5, 6, 1, 0] rfl) rfl)
  obtain ⟨i, rfl⟩ : ∃ z, z = u := ⟨_, rfl⟩
  have hl : lv_has ls 8 [(0, .ref mo), (1, .int (nI k)), (2, .int (nI su)), (3, .int (nI t)), (4, .ref (mo + 10)), (5, .int (nI (cU (rd (rk σ k) su t) i))), (6, .int (nI i))] := hl
  obtain ⟨hi9, hW, hFr, hlo, hz⟩ := hu
  obtain ⟨hp0, hp12, hu3, hg1⟩ := hI.2.1 k hk
  have hcu := cU_le (rd (rk σ k) su t) i
  refine lv_iload hx hb dX2_read_6 (lv_at hl 6 rfl) ?_
  refine lv_aload_n hx hb dX2_read_8 rfl (lv_at hl 0 rfl) ?_
  refine x_get S in_X2_read_X2 hK hW.1 rfl 3 (by decide) (by decide +kernel) rfl rfl dX2_read_9 ?_
  refine lv_iload_n hx hb dX2_read_12 rfl (lv_at hl 1 rfl) ?_
  refine x_iald hx hb hK hW.2.1 (by omega) (by omega) dX2_read_13 ?_
  refine x_icge hx hb (by omega) (by omega) (tgt := 64) dX2_read_14 (by decide) (fun c_1 => ?_) (fun c_1 => ?_)
  · skip
    refine lv_iload hx hb dX2_read_64 (lv_at hl 5 rfl) ?_
    refine W.widen (k := 0) (n := 0) (Nat.le_of_ble_eq_true rfl) (Nat.le_of_ble_eq_true rfl) ?_
    exact m_iret (Post := fun H v H2 => v = some (.int (nI (cU (rd (rk σ k) su t) (qp σ k)))) ∧ MW Γ mo th σ g1 (rdA (rd (rk σ k) su t) g2 (qp σ k)) H2 ∧ Fr mo (mo + 11) H H2 ∧ H2.size = H.size) hx hb hr hlk hlo dX2_read_66 ⟨by rw [show qp σ k = i by omega], by rw [show qp σ k = i by omega]; exact hW, hFr, hz⟩
  · skip
    have hm : i * t < 40 := Nat.lt_of_le_of_lt (Nat.mul_le_mul (show i ≤ 12 by omega) (show t ≤ 3 by omega)) (by decide)
    refine lv_aload_n hx hb dX2_read_17 rfl (lv_at hl 0 rfl) ?_
    refine x_get S in_X2_read_X2 hK hW.1 rfl 8 (by decide) (by decide +kernel) rfl rfl dX2_read_18 ?_
    refine lv_iload_n hx hb dX2_read_21 rfl (lv_at hl 1 rfl) ?_
    refine lv_iload hx hb dX2_read_22 (lv_at hl 6 rfl) ?_
    refine lv_iload_n hx hb dX2_read_24 rfl (lv_at hl 2 rfl) ?_
    refine lv_iload hx hb dX2_read_25 (lv_at hl 6 rfl) ?_
    refine lv_iload_n hx hb dX2_read_27 rfl (lv_at hl 3 rfl) ?_
    refine x_mul hx hb dX2_read_28 ?_
    refine x_add hx hb dX2_read_29 ?_
    refine lv_iconst (v := nI 3) hx hb dX2_read_30 (by decide +kernel) ?_
    refine x_rem hx hb (by omega) (by omega) (by omega) dX2_read_31 ?_
    refine ro_S (rest := [.ref (mo + 6)]) S hK (c_X2_spot l Γ k i ((su + (i * t)) % 3)) (cwS 3 hts gX2_read_X2_spot rfl rfl rfl (by decide +kernel) ⟨Nat.le_of_ble_eq_true rfl, Nat.le_of_ble_eq_true rfl⟩) trivial rfl hl.1 rfl (Nat.le_of_ble_eq_true rfl) dX2_read_32 ⟨Nat.le_of_ble_eq_true rfl, Nat.le_of_ble_eq_true rfl⟩ ?_
    refine W.eq (g2 := F0 m 35 ls [.int (nI (3 * (12 * k + i) + ((su + (i * t)) % 3))), .ref (mo + 6)]) rfl ?_
    refine x_iald hx hb hK hW.2.2.2.2.2.2.1 (by omega) (by omega) dX2_read_35 ?_
    refine x_e (show qr σ (3 * (12 * k + i) + (su + i * t) % 3) + 1 = rd (rk σ k) su t i + 1 by rw [rk_at]; rfl) ?_
    refine lv_istore (lv' := [(7, .int (rd (rk σ k) su t i + 1)), (0, .ref mo), (1, .int (nI k)), (2, .int (nI su)), (3, .int (nI t)), (4, .ref (mo + 10)), (5, .int (nI (cU (rd (rk σ k) su t) i))), (6, .int (nI i))]) hx hb dX2_read_36 hl (by decide) rfl (fun ls hl => ?_)
    refine lv_iload hx hb dX2_read_38 (lv_at hl 0 rfl) ?_
    refine lv_if_ne (tgt := 46) hx hb dX2_read_40 (by decide) (fun c_2 => ?_) (fun c_2 => ?_)
    · skip
      refine lv_aload hx hb dX2_read_46 (lv_at hl 5 rfl) ?_
      refine lv_iload hx hb dX2_read_48 (lv_at hl 6 rfl) ?_
      refine lv_iload hx hb dX2_read_50 (lv_at hl 0 rfl) ?_
      refine lv_iconst (v := nI 1) hx hb dX2_read_52 (by decide +kernel) ?_
      refine lv_isub hx hb dX2_read_53 ?_
      refine x_e (add1_sub1 _) ?_
      refine x_iast hx hb hK hW.2.2.2.2.2.2.2.2.2.2 (by omega) (by omega) hlo (by omega) dX2_read_54 (fun H1 lc1 hA1 hz1 ho1 hlo => ?_)
      have hFr := hFr.put hz1 ho1 (by omega) (by omega)
      have hW := MW.g2 hW hA1 ho1
      have hW : MW Γ mo th σ g1 (upd (rdA (rd (rk σ k) su t) g2 i) (cU (rd (rk σ k) su t) i) (rd (rk σ k) su t i)) H1 := hW
      refine x_iinc (n := 1) (lv' := [(5, .int (nI (cU (rd (rk σ k) su t) i + 1))), (7, .int (rd (rk σ k) su t i + 1)), (0, .ref mo), (1, .int (nI k)), (2, .int (nI su)), (3, .int (nI t)), (4, .ref (mo + 10)), (6, .int (nI i))]) hx hb dX2_read_55 hl (k := 6) rfl (by decide) rfl (fun ls hl => ?_)
      refine x_iinc (n := 1) (lv' := [(6, .int (nI (i + 1))), (5, .int (nI (cU (rd (rk σ k) su t) i + 1))), (7, .int (rd (rk σ k) su t i + 1)), (0, .ref mo), (1, .int (nI k)), (2, .int (nI su)), (3, .int (nI t)), (4, .ref (mo + 10))]) hx hb dX2_read_58 hl (k := 7) rfl (by decide) rfl (fun ls hl => ?_)
      refine lv_goto (tgt := 6) hx hb dX2_read_61 (by decide) ?_
      have hl : lv_has ls 8 [(6, .int (nI (i + 1))), (5, .int (nI (cU (rd (rk σ k) su t) (i + 1)))), (7, .int (rd (rk σ k) su t i + 1)), (0, .ref mo), (1, .int (nI k)), (2, .int (nI su)), (3, .int (nI t)), (4, .ref (mo + 10))] := x_hl hl (by rw [← cU_y (f := rd (rk σ k) su t) (n := i) (okR_nz c_2)])
      exact ih (i + 1) _ _ ⟨by omega, by rw [rdA_y (okR_nz c_2)]; exact hW, hFr, hlo, hz1.trans hz⟩ (by omega) ls (lv_sub hl [3, 4, 5, 6, 7, 1, 0] rfl)
    · skip
      refine lv_goto (tgt := 58) hx hb dX2_read_43 (by decide) ?_
      refine x_iinc (n := 1) (lv' := [(6, .int (nI (i + 1))), (7, .int (rd (rk σ k) su t i + 1)), (0, .ref mo), (1, .int (nI k)), (2, .int (nI su)), (3, .int (nI t)), (4, .ref (mo + 10)), (5, .int (nI (cU (rd (rk σ k) su t) i)))]) hx hb dX2_read_58 hl (k := 7) rfl (by decide) rfl (fun ls hl => ?_)
      refine lv_goto (tgt := 6) hx hb dX2_read_61 (by decide) ?_
      have hl : lv_has ls 8 [(6, .int (nI (i + 1))), (7, .int (rd (rk σ k) su t i + 1)), (0, .ref mo), (1, .int (nI k)), (2, .int (nI su)), (3, .int (nI t)), (4, .ref (mo + 10)), (5, .int (nI (cU (rd (rk σ k) su t) (i + 1))))] := x_hl hl (by rw [← cU_n (f := rd (rk σ k) su t) (n := i) (okR_z c_2)])
      exact ih (i + 1) _ _ ⟨by omega, by rw [rdA_n (okR_z c_2)]; exact hW, hFr, hlo, hz⟩ (by omega) ls (lv_sub hl [2, 3, 4, 5, 6, 7, 0] rfl)
