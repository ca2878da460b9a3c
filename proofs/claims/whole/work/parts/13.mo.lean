theorem in_X2_thrown_X2 : ∀ w ∈ wsX20, w ∈ wsX2_thrown := by decide +kernel
set_option maxHeartbeats 4000000 in
set_option maxRecDepth 100000 in
theorem c_X2_thrown (l : Launch) (Γ : GG) (mo : Nat) (th : Int32) (σ : St) (g1 g2 : Nat → Int32) (hI : Iv σ)   : Ro l yX2_thrown wsX2_thrown ({ frames := 0, cells := 0, slots := 0, locals := 0 }) Γ [.ref mo] (MW Γ mo th σ g1 g2) (some (.int th)) := by
  refine Ro.of (cc := cX2_thrown) (maxL := 1) (ret := some .int) (by decide) rfl (Nat.le_of_ble_eq_true rfl) ?_
  intro p e s m below meth c S hr hlk hK hW ls hl
  obtain ⟨hx, hb, hml, hown, hts⟩ := id S
  have hl : lv_has ls 1 [(0, .ref mo)] := hl
  refine lv_aload_n hx hb dX2_thrown_0 rfl (lv_at hl 0 rfl) ?_
  refine x_get S in_X2_thrown_X2 hK hW.1 rfl 0 (by decide) (by decide +kernel) rfl rfl dX2_thrown_1 ?_
  exact ro_iret hx hb hr hlk dX2_thrown_4
set_option maxHeartbeats 4000000 in
set_option maxRecDepth 100000 in
theorem c_X2_isIn (l : Launch) (Γ : GG)   (y a b : Int32)  : Ro l yX2_isIn wsX2_isIn ({ frames := 0, cells := 0, slots := 0, locals := 0 }) Γ [.int y, .int a, .int b] (fun _ => True) (some (.int (nI (bP (a ≤ y ∧ y ≤ b))))) := by
  refine Ro.of (cc := cX2_isIn) (maxL := 3) (ret := some .boolean) (by decide) rfl (Nat.le_of_ble_eq_true rfl) ?_
  intro p e s m below meth c S hr hlk hK hW ls hl
  obtain ⟨hx, hb, hml, hown, hts⟩ := id S
  have hl : lv_has ls 3 [(0, .int y), (1, .int a), (2, .int b)] := hl
  refine lv_iload_n hx hb dX2_isIn_0 rfl (lv_at hl 0 rfl) ?_
  refine lv_iload_n hx hb dX2_isIn_1 rfl (lv_at hl 1 rfl) ?_
  refine lv_icmp_lt (tgt := 14) hx hb dX2_isIn_2 (by decide) (fun c_1 => ?_) (fun c_1 => ?_)
  · skip
    refine lv_iconst (v := nI 0) hx hb dX2_isIn_14 (by decide +kernel) ?_
    refine x_e (show nI 0 = nI (bP (a ≤ y ∧ y ≤ b)) by rw [bP_f (fun q => absurd c_1 (Int32.not_lt.mpr q.1))]) ?_
    exact ro_zret (bP_le _) hx hb hr hlk dX2_isIn_15
  · skip
    refine lv_iload_n hx hb dX2_isIn_5 rfl (lv_at hl 0 rfl) ?_
    refine lv_iload_n hx hb dX2_isIn_6 rfl (lv_at hl 2 rfl) ?_
    refine lv_icmp_gt (tgt := 14) hx hb dX2_isIn_7 (by decide) (fun c_2 => ?_) (fun c_2 => ?_)
    · skip
      refine lv_iconst (v := nI 0) hx hb dX2_isIn_14 (by decide +kernel) ?_
      refine x_e (show nI 0 = nI (bP (a ≤ y ∧ y ≤ b)) by rw [bP_f (fun q => absurd c_2 (Int32.not_lt.mpr q.2))]) ?_
      exact ro_zret (bP_le _) hx hb hr hlk dX2_isIn_15
    · skip
      refine lv_iconst (v := nI 1) hx hb dX2_isIn_10 (by decide +kernel) ?_
      refine lv_goto (tgt := 15) hx hb dX2_isIn_11 (by decide) ?_
      refine x_e (show nI 1 = nI (bP (a ≤ y ∧ y ≤ b)) by rw [bP_t ⟨Int32.not_lt.mp c_1, Int32.not_lt.mp c_2⟩]) ?_
      exact ro_zret (bP_le _) hx hb hr hlk dX2_isIn_15
theorem in_X2_isStick_X2 : ∀ w ∈ wsX20, w ∈ wsX2_isStick := by decide +kernel
set_option maxHeartbeats 4000000 in
set_option maxRecDepth 100000 in
theorem c_X2_isStick (l : Launch) (Γ : GG) (mo : Nat) (th : Int32) (σ : St) (g1 g2 : Nat → Int32) (hI : Iv σ) (y : Int32)  : Ro l yX2_isStick wsX2_isStick ({ frames := 1, cells := 0, slots := 0, locals := 22 }) Γ [.ref mo, .int y] (MW Γ mo th σ g1 g2) (some (.int (nI (bP (inb y (qn σ)))))) := by
  refine Ro.of (cc := cX2_isStick) (maxL := 2) (ret := some .boolean) (by decide) rfl (Nat.le_of_ble_eq_true rfl) ?_
  intro p e s m below meth c S hr hlk hK hW ls hl
  obtain ⟨hx, hb, hml, hown, hts⟩ := id S
  have hl : lv_has ls 2 [(0, .ref mo), (1, .int y)] := hl
  have hn40 := hI.1
  refine lv_iload_n hx hb dX2_isStick_0 rfl (lv_at hl 1 rfl) ?_
  refine lv_iconst (v := nI 0) hx hb dX2_isStick_1 (by decide +kernel) ?_
  refine lv_aload_n hx hb dX2_isStick_2 rfl (lv_at hl 0 rfl) ?_
  refine x_get S in_X2_isStick_X2 hK hW.1 rfl 1 (by decide) (by decide +kernel) rfl rfl dX2_isStick_3 ?_
  refine lv_iconst (v := nI 1) hx hb dX2_isStick_6 (by decide +kernel) ?_
  refine lv_isub hx hb dX2_isStick_7 ?_
  refine x_e (pn_sub (qn σ)) ?_
  refine ro_S (rest := []) S hK (c_X2_isIn l Γ y (nI 0) (pn (qn σ))) (cwS 3 hts gX2_isStick_X2_isIn rfl rfl rfl (by decide +kernel) ⟨Nat.le_of_ble_eq_true rfl, Nat.le_of_ble_eq_true rfl⟩) trivial rfl hl.1 rfl (Nat.le_of_ble_eq_true rfl) dX2_isStick_8 ⟨Nat.zero_le _, Nat.zero_le _⟩ ?_
  refine W.eq (g2 := F0 m 11 ls [.int (nI (bP (nI 0 ≤ y ∧ y ≤ pn (qn σ))))]) rfl ?_
  refine x_e (show nI (bP (nI 0 ≤ y ∧ y ≤ pn (qn σ))) = nI (bP (inb y (qn σ))) by rw [bP_iff (isin_pn (by omega))]) ?_
  exact ro_zret (bP_le _) hx hb hr hlk dX2_isStick_11
set_option maxHeartbeats 4000000 in
set_option maxRecDepth 100000 in
theorem c_X2_isSide (l : Launch) (Γ : GG)   (y : Int32)  : Ro l yX2_isSide wsX2_isSide ({ frames := 1, cells := 0, slots := 0, locals := 22 }) Γ [.int y] (fun _ => True) (some (.int (nI (bP (inb y 3))))) := by
  refine Ro.of (cc := cX2_isSide) (maxL := 1) (ret := some .boolean) (by decide) rfl (Nat.le_of_ble_eq_true rfl) ?_
  intro p e s m below meth c S hr hlk hK hW ls hl
  obtain ⟨hx, hb, hml, hown, hts⟩ := id S
  have hl : lv_has ls 1 [(0, .int y)] := hl
  refine lv_iload_n hx hb dX2_isSide_0 rfl (lv_at hl 0 rfl) ?_
  refine lv_iconst (v := nI 0) hx hb dX2_isSide_1 (by decide +kernel) ?_
  refine lv_iconst (v := nI 2) hx hb dX2_isSide_2 (by decide +kernel) ?_
  refine ro_S (rest := []) S hK (c_X2_isIn l Γ y (nI 0) (nI 2)) (cwS 3 hts gX2_isSide_X2_isIn rfl rfl rfl (by decide +kernel) ⟨Nat.le_of_ble_eq_true rfl, Nat.le_of_ble_eq_true rfl⟩) trivial rfl hl.1 rfl (Nat.le_of_ble_eq_true rfl) dX2_isSide_3 ⟨Nat.zero_le _, Nat.zero_le _⟩ ?_
  refine W.eq (g2 := F0 m 6 ls [.int (nI (bP (nI 0 ≤ y ∧ y ≤ nI 2)))]) rfl ?_
  refine x_e (show nI (bP (nI 0 ≤ y ∧ y ≤ nI 2)) = nI (bP (inb y 3)) by rw [bP_iff isin_3]) ?_
  exact ro_zret (bP_le _) hx hb hr hlk dX2_isSide_6
set_option maxHeartbeats 4000000 in
set_option maxRecDepth 100000 in
theorem c_X2_isRune (l : Launch) (Γ : GG)   (y : Int32)  : Ro l yX2_isRune wsX2_isRune ({ frames := 1, cells := 0, slots := 0, locals := 22 }) Γ [.int y] (fun _ => True) (some (.int (nI (bP (inb y 24))))) := by
  refine Ro.of (cc := cX2_isRune) (maxL := 1) (ret := some .boolean) (by decide) rfl (Nat.le_of_ble_eq_true rfl) ?_
  intro p e s m below meth c S hr hlk hK hW ls hl
  obtain ⟨hx, hb, hml, hown, hts⟩ := id S
  have hl : lv_has ls 1 [(0, .int y)] := hl
  refine lv_iload_n hx hb dX2_isRune_0 rfl (lv_at hl 0 rfl) ?_
  refine lv_iconst (v := nI 0) hx hb dX2_isRune_1 (by decide +kernel) ?_
  refine lv_bipush (v := nI 23) hx hb dX2_isRune_2 (by decide +kernel) ?_
  refine ro_S (rest := []) S hK (c_X2_isIn l Γ y (nI 0) (nI 23)) (cwS 3 hts gX2_isRune_X2_isIn rfl rfl rfl (by decide +kernel) ⟨Nat.le_of_ble_eq_true rfl, Nat.le_of_ble_eq_true rfl⟩) trivial rfl hl.1 rfl (Nat.le_of_ble_eq_true rfl) dX2_isRune_4 ⟨Nat.zero_le _, Nat.zero_le _⟩ ?_
  refine W.eq (g2 := F0 m 7 ls [.int (nI (bP (nI 0 ≤ y ∧ y ≤ nI 23)))]) rfl ?_
  refine x_e (show nI (bP (nI 0 ≤ y ∧ y ≤ nI 23)) = nI (bP (inb y 24)) by rw [bP_iff isin_24]) ?_
  exact ro_zret (bP_le _) hx hb hr hlk dX2_isRune_7
set_option maxHeartbeats 4000000 in
set_option maxRecDepth 100000 in
theorem c_X2_spot (l : Launch) (Γ : GG)   (k pl sd : Nat)  : Ro l yX2_spot wsX2_spot ({ frames := 0, cells := 0, slots := 0, locals := 0 }) Γ [.int (nI k), .int (nI pl), .int (nI sd)] (fun _ => True) (some (.int (nI (3 * (12 * k + pl) + sd)))) := by
  refine Ro.of (cc := cX2_spot) (maxL := 3) (ret := some .int) (by decide) rfl (Nat.le_of_ble_eq_true rfl) ?_
  intro p e s m below meth c S hr hlk hK hW ls hl
  obtain ⟨hx, hb, hml, hown, hts⟩ := id S
  have hl : lv_has ls 3 [(0, .int (nI k)), (1, .int (nI pl)), (2, .int (nI sd))] := hl
  refine lv_iconst (v := nI 3) hx hb dX2_spot_0 (by decide +kernel) ?_
  refine lv_bipush (v := nI 12) hx hb dX2_spot_1 (by decide +kernel) ?_
  refine lv_iload_n hx hb dX2_spot_3 rfl (lv_at hl 0 rfl) ?_
  refine x_mul hx hb dX2_spot_4 ?_
  refine lv_iload_n hx hb dX2_spot_5 rfl (lv_at hl 1 rfl) ?_
  refine x_add hx hb dX2_spot_6 ?_
  refine x_mul hx hb dX2_spot_7 ?_
  refine lv_iload_n hx hb dX2_spot_8 rfl (lv_at hl 2 rfl) ?_
  refine x_add hx hb dX2_spot_9 ?_
  exact ro_iret hx hb hr hlk dX2_spot_10
theorem in_X2_isSpot_X2 : ∀ w ∈ wsX20, w ∈ wsX2_isSpot := by decide +kernel
set_option maxHeartbeats 4000000 in
set_option maxRecDepth 100000 in
theorem c_X2_isSpot (l : Launch) (Γ : GG) (mo : Nat) (th : Int32) (σ : St) (g1 g2 : Nat → Int32) (hI : Iv σ) (y z v : Int32)  : Ro l yX2_isSpot wsX2_isSpot ({ frames := 2, cells := 0, slots := 0, locals := 43 }) Γ [.ref mo, .int y, .int z, .int v] (MW Γ mo th σ g1 g2) (some (.int (nI (bP (spotP σ y z v))))) := by
  refine Ro.of (cc := cX2_isSpot) (maxL := 4) (ret := some .boolean) (by decide) rfl (Nat.le_of_ble_eq_true rfl) ?_
  intro p e s m below meth c S hr hlk hK hW ls hl
  obtain ⟨hx, hb, hml, hown, hts⟩ := id S
  have hl : lv_has ls 4 [(0, .ref mo), (1, .int y), (2, .int z), (3, .int v)] := hl
  have hn40 := hI.1
  refine lv_aload_n hx hb dX2_isSpot_0 rfl (lv_at hl 0 rfl) ?_
  refine lv_iload_n hx hb dX2_isSpot_1 rfl (lv_at hl 1 rfl) ?_
  refine ro_V (rest := []) S hK (c_X2_isStick l Γ mo th σ g1 g2 hI y) (cwV 1 hts gX2_isSpot_X2_isStick rfl rfl rfl (by decide +kernel) ⟨Nat.le_of_ble_eq_true rfl, Nat.le_of_ble_eq_true rfl⟩) (Ob.recv hK hW.1 rfl) hW rfl hl.1 rfl (Nat.le_of_ble_eq_true rfl) dX2_isSpot_2 ⟨Nat.zero_le _, Nat.zero_le _⟩ ?_
  refine W.eq (g2 := F0 m 5 ls [.int (nI (bP (inb y (qn σ))))]) rfl ?_
  have hbb5 := bP_le ((inb y (qn σ)))
  refine x_ifeq hx hb (by omega) (tgt := 35) dX2_isSpot_5 (by decide) (fun c_1 => ?_) (fun c_1 => ?_)
  · skip
    refine lv_iconst (v := nI 0) hx hb dX2_isSpot_35 (by decide +kernel) ?_
    refine x_e (show nI 0 = nI (bP (spotP σ y z v)) by rw [bP_f (fun q => bP_0 c_1 q.1)]) ?_
    exact ro_zret (bP_le _) hx hb hr hlk dX2_isSpot_36
  · skip
    obtain ⟨k, hk, rfl⟩ := inb_ex (bP_1 c_1)
    obtain ⟨hp0, hp12, hu3, hg1⟩ := hI.2.1 k hk
    refine lv_iload_n hx hb dX2_isSpot_8 rfl (lv_at hl 2 rfl) ?_
    refine ro_S (rest := []) S hK (c_X2_isSide l Γ z) (cwS 1 hts gX2_isSpot_X2_isSide rfl rfl rfl (by decide +kernel) ⟨Nat.le_of_ble_eq_true rfl, Nat.le_of_ble_eq_true rfl⟩) trivial rfl hl.1 rfl (Nat.le_of_ble_eq_true rfl) dX2_isSpot_9 ⟨Nat.zero_le _, Nat.zero_le _⟩ ?_
    refine W.eq (g2 := F0 m 12 ls [.int (nI (bP (inb z 3)))]) rfl ?_
    have hbb12 := bP_le ((inb z 3))
    refine x_ifeq hx hb (by omega) (tgt := 35) dX2_isSpot_12 (by decide) (fun c_2 => ?_) (fun c_2 => ?_)
    · skip
      refine lv_iconst (v := nI 0) hx hb dX2_isSpot_35 (by decide +kernel) ?_
      refine x_e (show nI 0 = nI (bP (spotP σ (nI k) z v)) by rw [bP_f (fun q => bP_0 c_2 q.2.1)]) ?_
      exact ro_zret (bP_le _) hx hb hr hlk dX2_isSpot_36
    · skip
      refine lv_iload_n hx hb dX2_isSpot_15 rfl (lv_at hl 3 rfl) ?_
      refine lv_iconst (v := nI 0) hx hb dX2_isSpot_16 (by decide +kernel) ?_
      refine lv_aload_n hx hb dX2_isSpot_17 rfl (lv_at hl 0 rfl) ?_
      refine x_get S in_X2_isSpot_X2 hK hW.1 rfl 3 (by decide) (by decide +kernel) rfl rfl dX2_isSpot_18 ?_
      refine lv_iload_n hx hb dX2_isSpot_21 rfl (lv_at hl 1 rfl) ?_
      refine x_iald hx hb hK hW.2.1 (by omega) (by omega) dX2_isSpot_22 ?_
      refine lv_iconst (v := nI 1) hx hb dX2_isSpot_23 (by decide +kernel) ?_
      refine x_sub hx hb (by omega) dX2_isSpot_24 ?_
      refine ro_S (rest := []) S hK (c_X2_isIn l Γ v (nI 0) (nI ((qp σ k) - 1))) (cwS 3 hts gX2_isSpot_X2_isIn rfl rfl rfl (by decide +kernel) ⟨Nat.le_of_ble_eq_true rfl, Nat.le_of_ble_eq_true rfl⟩) trivial rfl hl.1 rfl (Nat.le_of_ble_eq_true rfl) dX2_isSpot_25 ⟨Nat.zero_le _, Nat.zero_le _⟩ ?_
      refine W.eq (g2 := F0 m 28 ls [.int (nI (bP (nI 0 ≤ v ∧ v ≤ nI ((qp σ k) - 1))))]) rfl ?_
      have hbb28 := bP_le ((nI 0 ≤ v ∧ v ≤ nI ((qp σ k) - 1)))
      refine x_ifeq hx hb (by omega) (tgt := 35) dX2_isSpot_28 (by decide) (fun c_3 => ?_) (fun c_3 => ?_)
      · skip
        refine lv_iconst (v := nI 0) hx hb dX2_isSpot_35 (by decide +kernel) ?_
        refine x_e (show nI 0 = nI (bP (spotP σ (nI k) z v)) by rw [bP_f (fun q => bP_0 c_3 ((isin_N (by omega) hp0).mpr (by have := q.2.2; rw [toN (by omega)] at this; exact this)))]) ?_
        exact ro_zret (bP_le _) hx hb hr hlk dX2_isSpot_36
      · skip
        refine lv_iconst (v := nI 1) hx hb dX2_isSpot_31 (by decide +kernel) ?_
        refine lv_goto (tgt := 36) hx hb dX2_isSpot_32 (by decide) ?_
        refine x_e (show nI 1 = nI (bP (spotP σ (nI k) z v)) by rw [bP_t ⟨(inb_nI (by omega)).mpr hk, bP_1 c_2, by rw [toN (by omega)]; exact (isin_N (by omega) hp0).mp (bP_1 c_3)⟩]) ?_
        exact ro_zret (bP_le _) hx hb hr hlk dX2_isSpot_36
theorem in_X2_there_X2 : ∀ w ∈ wsX20, w ∈ wsX2_there := by decide +kernel
set_option maxHeartbeats 4000000 in
set_option maxRecDepth 100000 in
theorem c_X2_there (l : Launch) (Γ : GG) (mo : Nat) (th : Int32) (σ : St) (g1 g2 : Nat → Int32) (hI : Iv σ)   : Ro l yX2_there wsX2_there ({ frames := 0, cells := 0, slots := 0, locals := 0 }) Γ [.ref mo] (MW Γ mo th σ g1 g2) (some (.int (nI (thr σ (qn σ))))) := by
  refine Ro.of (cc := cX2_there) (maxL := 3) (ret := some .int) (by decide) rfl (Nat.le_of_ble_eq_true rfl) ?_
  intro p e s m below meth c S hr hlk hK hW ls hl
  obtain ⟨hx, hb, hml, hown, hts⟩ := id S
  have hl : lv_has ls 3 [(0, .ref mo)] := hl
  have hn40 := hI.1
  refine lv_iconst (v := nI 0) hx hb dX2_there_0 (by decide +kernel) ?_
  refine lv_istore_n (lv' := [(1, .int (nI 0)), (0, .ref mo)]) hx hb dX2_there_1 rfl hl (by decide) rfl (fun ls hl => ?_)
  refine lv_iconst (v := nI 0) hx hb dX2_there_2 (by decide +kernel) ?_
  refine lv_istore_n (lv' := [(2, .int (nI 0)), (1, .int (nI 0)), (0, .ref mo)]) hx hb dX2_there_3 rfl hl (by decide) rfl (fun ls hl => ?_)
  refine x_loop (σ := Nat) (fun u => [(0, .ref mo), (1, .int (nI (thr σ u))), (2, .int (nI u))]) (fun u => u ≤ qn σ) (fun u => qn σ - u) (fun u hu ih ls hl => ?_) 0 (by omega) ls (x_hl (lv_sub (l' := [(0, .ref mo), (1, .int (nI 0)), (2, .int (nI 0))]) hl [2, 1, 0] rfl) rfl)
  obtain ⟨i, rfl⟩ : ∃ z, z = u := ⟨_, rfl⟩
  have hu : i ≤ qn σ := hu
  have hl : lv_has ls 3 [(0, .ref mo), (1, .int (nI (thr σ i))), (2, .int (nI i))] := hl
  refine lv_iload_n hx hb dX2_there_4 rfl (lv_at hl 2 rfl) ?_
  refine lv_aload_n hx hb dX2_there_5 rfl (lv_at hl 0 rfl) ?_
  refine x_get S in_X2_there_X2 hK hW.1 rfl 1 (by decide) (by decide +kernel) rfl rfl dX2_there_6 ?_
  refine x_icge hx hb (by omega) (by omega) (tgt := 29) dX2_there_9 (by decide) (fun c_1 => ?_) (fun c_1 => ?_)
  · skip
    refine lv_iload_n hx hb dX2_there_29 rfl (lv_at hl 1 rfl) ?_
    refine x_e (show nI (thr σ i) = nI (thr σ (qn σ)) by rw [show i = qn σ by omega]) ?_
    exact ro_iret hx hb hr hlk dX2_there_30
  · skip
    have hg1 := (hI.2.1 i (by omega)).2.2.2
    refine lv_iload_n hx hb dX2_there_12 rfl (lv_at hl 1 rfl) ?_
    refine lv_iconst (v := nI 1) hx hb dX2_there_13 (by decide +kernel) ?_
    refine lv_aload_n hx hb dX2_there_14 rfl (lv_at hl 0 rfl) ?_
    refine x_get S in_X2_there_X2 hK hW.1 rfl 5 (by decide) (by decide +kernel) rfl rfl dX2_there_15 ?_
    refine lv_iload_n hx hb dX2_there_18 rfl (lv_at hl 2 rfl) ?_
    refine x_iald hx hb hK hW.2.2.2.1 (by omega) (by omega) dX2_there_19 ?_
    refine x_sub hx hb (by omega) dX2_there_20 ?_
    refine x_add hx hb dX2_there_21 ?_
    refine lv_istore_n (lv' := [(1, .int (nI ((thr σ i) + (1 - (qg σ i))))), (0, .ref mo), (2, .int (nI i))]) hx hb dX2_there_22 rfl hl (by decide) rfl (fun ls hl => ?_)
    refine x_iinc (n := 1) (lv' := [(2, .int (nI (i + 1))), (1, .int (nI ((thr σ i) + (1 - (qg σ i))))), (0, .ref mo)]) hx hb dX2_there_23 hl (k := 2) rfl (by decide) rfl (fun ls hl => ?_)
    refine lv_goto (tgt := 4) hx hb dX2_there_26 (by decide) ?_
    have hl : lv_has ls 3 [(2, .int (nI (i + 1))), (1, .int (nI (thr σ (i + 1)))), (0, .ref mo)] := x_hl hl (by rw [← thr_m hg1])
    exact ih (i + 1) (by omega) (by omega) ls (lv_sub hl [2, 1, 0] rfl)
theorem in_X2_runesAt_X2 : ∀ w ∈ wsX20, w ∈ wsX2_runesAt := by decide +kernel
set_option maxHeartbeats 4000000 in
set_option maxRecDepth 100000 in
theorem c_X2_runesAt (l : Launch) (Γ : GG) (mo : Nat) (th : Int32) (σ : St) (g1 g2 : Nat → Int32) (hI : Iv σ) (k pl : Nat) (hk : k < qn σ) (h1 : pl < 12) : Ro l yX2_runesAt wsX2_runesAt ({ frames := 1, cells := 0, slots := 0, locals := 22 }) Γ [.ref mo, .int (nI k), .int (nI pl)] (MW Γ mo th σ g1 g2) (some (.int (nI (rc (rk σ k) pl)))) := by
  refine Ro.of (cc := cX2_runesAt) (maxL := 5) (ret := some .int) (by decide) rfl (Nat.le_of_ble_eq_true rfl) ?_
  intro p e s m below meth c S hr hlk hK hW ls hl
  obtain ⟨hx, hb, hml, hown, hts⟩ := id S
  have hl : lv_has ls 5 [(0, .ref mo), (1, .int (nI k)), (2, .int (nI pl))] := hl
  have hn40 := hI.1
  refine lv_iconst (v := nI 0) hx hb dX2_runesAt_0 (by decide +kernel) ?_
  refine lv_istore_n (lv' := [(3, .int (nI 0)), (0, .ref mo), (1, .int (nI k)), (2, .int (nI pl))]) hx hb dX2_runesAt_1 rfl hl (by decide) rfl (fun ls hl => ?_)
  refine lv_iconst (v := nI 0) hx hb dX2_runesAt_2 (by decide +kernel) ?_
  refine lv_istore (lv' := [(4, .int (nI 0)), (3, .int (nI 0)), (0, .ref mo), (1, .int (nI k)), (2, .int (nI pl))]) hx hb dX2_runesAt_3 hl (by decide) rfl (fun ls hl => ?_)
  refine x_loop (σ := Nat) (fun u => [(0, .ref mo), (1, .int (nI k)), (2, .int (nI pl)), (3, .int (nI (cU (fun s => rk σ k (3 * pl + s)) u))), (4, .int (nI u))]) (fun u => u ≤ 3) (fun u => 3 - u) (fun u hu ih ls hl => ?_) 0 (by omega) ls (x_hl (lv_sub (l' := [(0, .ref mo), (1, .int (nI k)), (2, .int (nI pl)), (3, .int (nI 0)), (4, .int (nI 0))]) hl [2, 3, 4, 1, 0] rfl) rfl)
  obtain ⟨i, rfl⟩ : ∃ z, z = u := ⟨_, rfl⟩
  have hu : i ≤ 3 := hu
  have hl : lv_has ls 5 [(0, .ref mo), (1, .int (nI k)), (2, .int (nI pl)), (3, .int (nI (cU (fun s => rk σ k (3 * pl + s)) i))), (4, .int (nI i))] := hl
  refine lv_iload hx hb dX2_runesAt_5 (lv_at hl 4 rfl) ?_
  refine lv_iconst (v := nI 3) hx hb dX2_runesAt_7 (by decide +kernel) ?_
  refine x_icge hx hb (by omega) (by omega) (tgt := 40) dX2_runesAt_8 (by decide) (fun c_1 => ?_) (fun c_1 => ?_)
  · skip
    refine lv_iload_n hx hb dX2_runesAt_40 rfl (lv_at hl 3 rfl) ?_
    refine x_e (show nI (cU (fun s => rk σ k (3 * pl + s)) i) = nI (rc (rk σ k) pl) by rw [show i = 3 by omega]; rfl) ?_
    exact ro_iret hx hb hr hlk dX2_runesAt_41
  · skip
    refine lv_iload_n hx hb dX2_runesAt_11 rfl (lv_at hl 3 rfl) ?_
    refine lv_aload_n hx hb dX2_runesAt_12 rfl (lv_at hl 0 rfl) ?_
    refine x_get S in_X2_runesAt_X2 hK hW.1 rfl 8 (by decide) (by decide +kernel) rfl rfl dX2_runesAt_13 ?_
    refine lv_iload_n hx hb dX2_runesAt_16 rfl (lv_at hl 1 rfl) ?_
    refine lv_iload_n hx hb dX2_runesAt_17 rfl (lv_at hl 2 rfl) ?_
    refine lv_iload hx hb dX2_runesAt_18 (lv_at hl 4 rfl) ?_
    refine ro_S (rest := [.ref (mo + 6), .int (nI (cU (fun s => rk σ k (3 * pl + s)) i))]) S hK (c_X2_spot l Γ k pl i) (cwS 3 hts gX2_runesAt_X2_spot rfl rfl rfl (by decide +kernel) ⟨Nat.le_of_ble_eq_true rfl, Nat.le_of_ble_eq_true rfl⟩) trivial rfl hl.1 rfl (Nat.le_of_ble_eq_true rfl) dX2_runesAt_20 ⟨Nat.zero_le _, Nat.zero_le _⟩ ?_
    refine W.eq (g2 := F0 m 23 ls [.int (nI (3 * (12 * k + pl) + i)), .ref (mo + 6), .int (nI (cU (fun s => rk σ k (3 * pl + s)) i))]) rfl ?_
    refine x_iald hx hb hK hW.2.2.2.2.2.2.1 (by omega) (by omega) dX2_runesAt_23 ?_
    refine lv_if_le (tgt := 31) hx hb dX2_runesAt_24 (by decide) (fun c_2 => ?_) (fun c_2 => ?_)
    · skip
      refine lv_iconst (v := nI 0) hx hb dX2_runesAt_31 (by decide +kernel) ?_
      refine x_add hx hb dX2_runesAt_32 ?_
      refine lv_istore_n (lv' := [(3, .int (nI ((cU (fun s => rk σ k (3 * pl + s)) i) + 0))), (0, .ref mo), (1, .int (nI k)), (2, .int (nI pl)), (4, .int (nI i))]) hx hb dX2_runesAt_33 rfl hl (by decide) rfl (fun ls hl => ?_)
      refine x_iinc (n := 1) (lv' := [(4, .int (nI (i + 1))), (3, .int (nI ((cU (fun s => rk σ k (3 * pl + s)) i) + 0))), (0, .ref mo), (1, .int (nI k)), (2, .int (nI pl))]) hx hb dX2_runesAt_34 hl (k := 4) rfl (by decide) rfl (fun ls hl => ?_)
      refine lv_goto (tgt := 5) hx hb dX2_runesAt_37 (by decide) ?_
      have hl : lv_has ls 5 [(4, .int (nI (i + 1))), (3, .int (nI (cU (fun s => rk σ k (3 * pl + s)) (i + 1)))), (0, .ref mo), (1, .int (nI k)), (2, .int (nI pl))] := x_hl hl (by rw [show cU (fun s => rk σ k (3 * pl + s)) i + 0 = cU (fun s => rk σ k (3 * pl + s)) (i + 1) by rw [cU_n (f := fun s => rk σ k (3 * pl + s)) (n := i) (by rw [← rk_at]; exact okR_t (hI.2.2.2.1 _) c_2), Nat.add_zero]])
      exact ih (i + 1) (by omega) (by omega) ls (lv_sub hl [2, 3, 4, 1, 0] rfl)
    · skip
      refine lv_iconst (v := nI 1) hx hb dX2_runesAt_27 (by decide +kernel) ?_
      refine lv_goto (tgt := 32) hx hb dX2_runesAt_28 (by decide) ?_
      refine x_add hx hb dX2_runesAt_32 ?_
      refine lv_istore_n (lv' := [(3, .int (nI ((cU (fun s => rk σ k (3 * pl + s)) i) + 1))), (0, .ref mo), (1, .int (nI k)), (2, .int (nI pl)), (4, .int (nI i))]) hx hb dX2_runesAt_33 rfl hl (by decide) rfl (fun ls hl => ?_)
      refine x_iinc (n := 1) (lv' := [(4, .int (nI (i + 1))), (3, .int (nI ((cU (fun s => rk σ k (3 * pl + s)) i) + 1))), (0, .ref mo), (1, .int (nI k)), (2, .int (nI pl))]) hx hb dX2_runesAt_34 hl (k := 4) rfl (by decide) rfl (fun ls hl => ?_)
      refine lv_goto (tgt := 5) hx hb dX2_runesAt_37 (by decide) ?_
      have hl : lv_has ls 5 [(4, .int (nI (i + 1))), (3, .int (nI (cU (fun s => rk σ k (3 * pl + s)) (i + 1)))), (0, .ref mo), (1, .int (nI k)), (2, .int (nI pl))] := x_hl hl (by rw [show cU (fun s => rk σ k (3 * pl + s)) i + 1 = cU (fun s => rk σ k (3 * pl + s)) (i + 1) by rw [cU_y (f := fun s => rk σ k (3 * pl + s)) (n := i) (by rw [← rk_at]; exact okR_f c_2)]])
      exact ih (i + 1) (by omega) (by omega) ls (lv_sub hl [2, 3, 4, 1, 0] rfl)
theorem in_X2_strong_X2 : ∀ w ∈ wsX20, w ∈ wsX2_strong := by decide +kernel
set_option maxHeartbeats 4000000 in
set_option maxRecDepth 100000 in
theorem c_X2_strong (l : Launch) (Γ : GG) (mo : Nat) (th : Int32) (σ : St) (g1 g2 : Nat → Int32) (hI : Iv σ) (k j : Nat) (hk : k < qn σ) (h1 : j < 11) : Ro l yX2_strong wsX2_strong ({ frames := 2, cells := 0, slots := 0, locals := 46 }) Γ [.ref mo, .int (nI k), .int (nI j)] (MW Γ mo th σ g1 g2) (some (.int (stn (rk σ k) (ak σ k) j))) := by
  refine Ro.of (cc := cX2_strong) (maxL := 3) (ret := some .int) (by decide) rfl (Nat.le_of_ble_eq_true rfl) ?_
  intro p e s m below meth c S hr hlk hK hW ls hl
  obtain ⟨hx, hb, hml, hown, hts⟩ := id S
  have hl : lv_has ls 3 [(0, .ref mo), (1, .int (nI k)), (2, .int (nI j))] := hl
  have hn40 := hI.1
  refine lv_iconst (v := nI 0) hx hb dX2_strong_0 (by decide +kernel) ?_
  refine lv_aload_n hx hb dX2_strong_1 rfl (lv_at hl 0 rfl) ?_
  refine x_get S in_X2_strong_X2 hK hW.1 rfl 9 (by decide) (by decide +kernel) rfl rfl dX2_strong_2 ?_
  refine lv_bipush (v := nI 12) hx hb dX2_strong_5 (by decide +kernel) ?_
  refine lv_iload_n hx hb dX2_strong_7 rfl (lv_at hl 1 rfl) ?_
  refine x_mul hx hb dX2_strong_8 ?_
  refine lv_iload_n hx hb dX2_strong_9 rfl (lv_at hl 2 rfl) ?_
  refine x_add hx hb dX2_strong_10 ?_
  refine x_iald hx hb hK hW.2.2.2.2.2.2.2.1 (by omega) (by omega) dX2_strong_11 ?_
  refine lv_aload_n hx hb dX2_strong_12 rfl (lv_at hl 0 rfl) ?_
  refine lv_iload_n hx hb dX2_strong_13 rfl (lv_at hl 1 rfl) ?_
  refine lv_iload_n hx hb dX2_strong_14 rfl (lv_at hl 2 rfl) ?_
  refine ro_V (rest := [.int (qa σ ((12 * k) + j)), .int (nI 0)]) S hK (c_X2_runesAt l Γ mo th σ g1 g2 hI k j (by omega) (by omega)) (cwV 2 hts gX2_strong_X2_runesAt rfl rfl rfl (by decide +kernel) ⟨Nat.le_of_ble_eq_true rfl, Nat.le_of_ble_eq_true rfl⟩) (Ob.recv hK hW.1 rfl) hW rfl hl.1 rfl (Nat.le_of_ble_eq_true rfl) dX2_strong_15 ⟨Nat.zero_le _, Nat.zero_le _⟩ ?_
  refine W.eq (g2 := F0 m 18 ls [.int (nI (rc (rk σ k) j)), .int (qa σ ((12 * k) + j)), .int (nI 0)]) rfl ?_
  refine lv_isub hx hb dX2_strong_18 ?_
  refine lv_aload_n hx hb dX2_strong_19 rfl (lv_at hl 0 rfl) ?_
  refine lv_iload_n hx hb dX2_strong_20 rfl (lv_at hl 1 rfl) ?_
  refine lv_iload_n hx hb dX2_strong_21 rfl (lv_at hl 2 rfl) ?_
  refine lv_iconst (v := nI 1) hx hb dX2_strong_22 (by decide +kernel) ?_
  refine x_add hx hb dX2_strong_23 ?_
  refine ro_V (rest := [.int ((qa σ ((12 * k) + j)) - (nI (rc (rk σ k) j))), .int (nI 0)]) S hK (c_X2_runesAt l Γ mo th σ g1 g2 hI k (j + 1) (by omega) (by omega)) (cwV 2 hts gX2_strong_X2_runesAt rfl rfl rfl (by decide +kernel) ⟨Nat.le_of_ble_eq_true rfl, Nat.le_of_ble_eq_true rfl⟩) (Ob.recv hK hW.1 rfl) hW rfl hl.1 rfl (Nat.le_of_ble_eq_true rfl) dX2_strong_24 ⟨Nat.zero_le _, Nat.zero_le _⟩ ?_
  refine W.eq (g2 := F0 m 27 ls [.int (nI (rc (rk σ k) (j + 1))), .int ((qa σ ((12 * k) + j)) - (nI (rc (rk σ k) j))), .int (nI 0)]) rfl ?_
  refine lv_isub hx hb dX2_strong_27 ?_
  refine va_mmax hx hb (hml.trans hl.1.symm) hown (hts _ (by decide +kernel)) (hts _ (by decide +kernel)) (hts _ (by decide +kernel)) (hts _ (by decide +kernel)) (Nat.le_of_ble_eq_true rfl) (Nat.le_of_ble_eq_true rfl) (Nat.zero_le _) (Nat.zero_le _) dX2_strong_28 ?_
  refine W.eq (g2 := F0 m 31 ls [.int (if nI 0 < ((qa σ ((12 * k) + j)) - (nI (rc (rk σ k) j))) - (nI (rc (rk σ k) (j + 1))) then ((qa σ ((12 * k) + j)) - (nI (rc (rk σ k) j))) - (nI (rc (rk σ k) (j + 1))) else nI 0)]) rfl ?_
  refine x_e rfl ?_
  exact ro_iret hx hb hr hlk dX2_strong_31
theorem in_X2_weakest_X2 : ∀ w ∈ wsX20, w ∈ wsX2_weakest := by decide +kernel
set_option maxHeartbeats 4000000 in
set_option maxRecDepth 100000 in
theorem c_X2_weakest (l : Launch) (Γ : GG) (mo : Nat) (th : Int32) (σ : St) (g1 g2 : Nat → Int32) (hI : Iv σ) (k : Nat) (hk : k < qn σ) : Ro l yX2_weakest wsX2_weakest ({ frames := 3, cells := 0, slots := 0, locals := 68 }) Γ [.ref mo, .int (nI k)] (MW Γ mo th σ g1 g2) (some (.int (oI (wk (stn (rk σ k) (ak σ k)) (qp σ k - 1))))) := by
  refine Ro.of (cc := cX2_weakest) (maxL := 4) (ret := some .int) (by decide) rfl (Nat.le_of_ble_eq_true rfl) ?_
  intro p e s m below meth c S hr hlk hK hW ls hl
  obtain ⟨hx, hb, hml, hown, hts⟩ := id S
  have hl : lv_has ls 4 [(0, .ref mo), (1, .int (nI k))] := hl
  have hn40 := hI.1
  obtain ⟨hp0, hp12, hu3, hg1⟩ := hI.2.1 k hk
  refine lv_iconst (v := (-1)) hx hb dX2_weakest_0 (by decide +kernel) ?_
  refine lv_istore_n (lv' := [(2, .int ((-1))), (0, .ref mo), (1, .int (nI k))]) hx hb dX2_weakest_1 rfl hl (by decide) rfl (fun ls hl => ?_)
  refine lv_iconst (v := nI 0) hx hb dX2_weakest_2 (by decide +kernel) ?_
  refine lv_istore_n (lv' := [(3, .int (nI 0)), (2, .int ((-1))), (0, .ref mo), (1, .int (nI k))]) hx hb dX2_weakest_3 rfl hl (by decide) rfl (fun ls hl => ?_)
  refine x_loop (σ := Nat) (fun u => [(0, .ref mo), (1, .int (nI k)), (2, .int (oI (wk (stn (rk σ k) (ak σ k)) u))), (3, .int (nI u))]) (fun u => u ≤ qp σ k - 1) (fun u => qp σ k - u) (fun u hu ih ls hl => ?_) 0 (by omega) ls (x_hl (lv_sub (l' := [(0, .ref mo), (1, .int (nI k)), (2, .int ((-1))), (3, .int (nI 0))]) hl [2, 3, 1, 0] rfl) rfl)
  obtain ⟨i, rfl⟩ : ∃ z, z = u := ⟨_, rfl⟩
  have hu : i ≤ qp σ k - 1 := hu
  have hl : lv_has ls 4 [(0, .ref mo), (1, .int (nI k)), (2, .int (oI (wk (stn (rk σ k) (ak σ k)) i))), (3, .int (nI i))] := hl
  refine lv_iload_n hx hb dX2_weakest_4 rfl (lv_at hl 3 rfl) ?_
  refine lv_aload_n hx hb dX2_weakest_5 rfl (lv_at hl 0 rfl) ?_
  refine x_get S in_X2_weakest_X2 hK hW.1 rfl 3 (by decide) (by decide +kernel) rfl rfl dX2_weakest_6 ?_
  refine lv_iload_n hx hb dX2_weakest_9 rfl (lv_at hl 1 rfl) ?_
  refine x_iald hx hb hK hW.2.1 (by omega) (by omega) dX2_weakest_10 ?_
  refine lv_iconst (v := nI 1) hx hb dX2_weakest_11 (by decide +kernel) ?_
  refine x_sub hx hb (by omega) dX2_weakest_12 ?_
  refine x_icge hx hb (by omega) (by omega) (tgt := 44) dX2_weakest_13 (by decide) (fun c_1 => ?_) (fun c_1 => ?_)
  · skip
    refine lv_iload_n hx hb dX2_weakest_44 rfl (lv_at hl 2 rfl) ?_
    refine x_e (show oI (wk (stn (rk σ k) (ak σ k)) i) = oI (wk (stn (rk σ k) (ak σ k)) (qp σ k - 1)) by rw [show i = qp σ k - 1 by omega]) ?_
    exact ro_iret hx hb hr hlk dX2_weakest_45
  · skip
    refine lv_iload_n hx hb dX2_weakest_16 rfl (lv_at hl 2 rfl) ?_
    refine lv_iconst (v := (-1)) hx hb dX2_weakest_17 (by decide +kernel) ?_
    refine lv_icmp_eq (tgt := 36) hx hb dX2_weakest_18 (by decide) (fun c_2 => ?_) (fun c_2 => ?_)
    · skip
      have e1 : wk (stn (rk σ k) (ak σ k)) i = none := oI_n c_2 (fun w h => by have := wk_lt _ _ _ h; omega)
      refine lv_iload_n hx hb dX2_weakest_36 rfl (lv_at hl 3 rfl) ?_
      refine lv_istore_n (lv' := [(2, .int (nI i)), (0, .ref mo), (1, .int (nI k)), (3, .int (nI i))]) hx hb dX2_weakest_37 rfl hl (by decide) rfl (fun ls hl => ?_)
      refine x_iinc (n := 1) (lv' := [(3, .int (nI (i + 1))), (2, .int (nI i)), (0, .ref mo), (1, .int (nI k))]) hx hb dX2_weakest_38 hl (k := 3) rfl (by decide) rfl (fun ls hl => ?_)
      refine lv_goto (tgt := 4) hx hb dX2_weakest_41 (by decide) ?_
      have hl : lv_has ls 4 [(3, .int (nI (i + 1))), (2, .int (oI (wk (stn (rk σ k) (ak σ k)) (i + 1)))), (0, .ref mo), (1, .int (nI k))] := x_hl hl (by rw [show nI i = oI (wk (stn (rk σ k) (ak σ k)) (i + 1)) by rw [wk_0 e1]; rfl])
      exact ih (i + 1) (by omega) (by omega) ls (lv_sub hl [2, 3, 1, 0] rfl)
    · skip
      obtain ⟨v, ev⟩ := oI_s c_2
      have hv := wk_lt _ _ _ ev
      have hl : lv_has ls 4 [(0, .ref mo), (1, .int (nI k)), (2, .int (nI v)), (3, .int (nI i))] := x_hl hl (by rw [ev]; rfl)
      refine lv_aload_n hx hb dX2_weakest_21 rfl (lv_at hl 0 rfl) ?_
      refine lv_iload_n hx hb dX2_weakest_22 rfl (lv_at hl 1 rfl) ?_
      refine lv_iload_n hx hb dX2_weakest_23 rfl (lv_at hl 3 rfl) ?_
      refine ro_V (rest := []) S hK (c_X2_strong l Γ mo th σ g1 g2 hI k i (by omega) (by omega)) (cwV 2 hts gX2_weakest_X2_strong rfl rfl rfl (by decide +kernel) ⟨Nat.le_of_ble_eq_true rfl, Nat.le_of_ble_eq_true rfl⟩) (Ob.recv hK hW.1 rfl) hW rfl hl.1 rfl (Nat.le_of_ble_eq_true rfl) dX2_weakest_24 ⟨Nat.zero_le _, Nat.zero_le _⟩ ?_
      refine W.eq (g2 := F0 m 27 ls [.int (stn (rk σ k) (ak σ k) i)]) rfl ?_
      refine lv_aload_n hx hb dX2_weakest_27 rfl (lv_at hl 0 rfl) ?_
      refine lv_iload_n hx hb dX2_weakest_28 rfl (lv_at hl 1 rfl) ?_
      refine lv_iload_n hx hb dX2_weakest_29 rfl (lv_at hl 2 rfl) ?_
      refine ro_V (rest := [.int (stn (rk σ k) (ak σ k) i)]) S hK (c_X2_strong l Γ mo th σ g1 g2 hI k v (by omega) (by omega)) (cwV 2 hts gX2_weakest_X2_strong rfl rfl rfl (by decide +kernel) ⟨Nat.le_of_ble_eq_true rfl, Nat.le_of_ble_eq_true rfl⟩) (Ob.recv hK hW.1 rfl) hW rfl hl.1 rfl (Nat.le_of_ble_eq_true rfl) dX2_weakest_30 ⟨Nat.zero_le _, Nat.zero_le _⟩ ?_
      refine W.eq (g2 := F0 m 33 ls [.int (stn (rk σ k) (ak σ k) v), .int (stn (rk σ k) (ak σ k) i)]) rfl ?_
      refine lv_icmp_ge (tgt := 38) hx hb dX2_weakest_33 (by decide) (fun c_3 => ?_) (fun c_3 => ?_)
      · skip
        refine x_iinc (n := 1) (lv' := [(3, .int (nI (i + 1))), (0, .ref mo), (1, .int (nI k)), (2, .int (nI v))]) hx hb dX2_weakest_38 hl (k := 3) rfl (by decide) rfl (fun ls hl => ?_)
        refine lv_goto (tgt := 4) hx hb dX2_weakest_41 (by decide) ?_
        have hl : lv_has ls 4 [(3, .int (nI (i + 1))), (0, .ref mo), (1, .int (nI k)), (2, .int (oI (wk (stn (rk σ k) (ak σ k)) (i + 1))))] := x_hl hl (by rw [show nI v = oI (wk (stn (rk σ k) (ak σ k)) (i + 1)) by rw [wk_n ev (Int32.not_lt.mpr c_3)]; rfl])
        exact ih (i + 1) (by omega) (by omega) ls (lv_sub hl [1, 2, 3, 0] rfl)
      · skip
        refine lv_iload_n hx hb dX2_weakest_36 rfl (lv_at hl 3 rfl) ?_
        refine lv_istore_n (lv' := [(2, .int (nI i)), (0, .ref mo), (1, .int (nI k)), (3, .int (nI i))]) hx hb dX2_weakest_37 rfl hl (by decide) rfl (fun ls hl => ?_)
        refine x_iinc (n := 1) (lv' := [(3, .int (nI (i + 1))), (2, .int (nI i)), (0, .ref mo), (1, .int (nI k))]) hx hb dX2_weakest_38 hl (k := 3) rfl (by decide) rfl (fun ls hl => ?_)
        refine lv_goto (tgt := 4) hx hb dX2_weakest_41 (by decide) ?_
        have hl : lv_has ls 4 [(3, .int (nI (i + 1))), (2, .int (oI (wk (stn (rk σ k) (ak σ k)) (i + 1)))), (0, .ref mo), (1, .int (nI k))] := x_hl hl (by rw [show nI i = oI (wk (stn (rk σ k) (ak σ k)) (i + 1)) by rw [wk_y ev (Int32.not_le.mp c_3)]; rfl])
        exact ih (i + 1) (by omega) (by omega) ls (lv_sub hl [2, 3, 1, 0] rfl)
theorem in_X2_fit_X2 : ∀ w ∈ wsX20, w ∈ wsX2_fit := by decide +kernel
set_option maxHeartbeats 4000000 in
set_option maxRecDepth 100000 in
theorem c_X2_fit (l : Launch) (Γ : GG) (mo : Nat) (th : Int32) (σ : St) (g1 g2 : Nat → Int32) (hI : Iv σ) (a b : Nat) (ha : a < qn σ) (hb9 : b < qn σ) : Ro l yX2_fit wsX2_fit ({ frames := 0, cells := 0, slots := 0, locals := 0 }) Γ [.ref mo, .int (nI a), .int (nI b)] (MW Γ mo th σ g1 g2) (some (.int (nI (bP (fitP σ a b))))) := by
  refine Ro.of (cc := cX2_fit) (maxL := 3) (ret := some .boolean) (by decide) rfl (Nat.le_of_ble_eq_true rfl) ?_
  intro p e s m below meth c S hr hlk hK hW ls hl
  obtain ⟨hx, hb, hml, hown, hts⟩ := id S
  have hl : lv_has ls 3 [(0, .ref mo), (1, .int (nI a)), (2, .int (nI b))] := hl
  have hn40 := hI.1
  have hga1 := (hI.2.1 a ha).2.2.2
  have hgb1 := (hI.2.1 b hb9).2.2.2
  refine lv_iload_n hx hb dX2_fit_0 rfl (lv_at hl 1 rfl) ?_
  refine lv_iload_n hx hb dX2_fit_1 rfl (lv_at hl 2 rfl) ?_
  refine x_iceq hx hb (by omega) (by omega) (tgt := 50) dX2_fit_2 (by decide) (fun c_1 => ?_) (fun c_1 => ?_)
  · skip
    refine lv_iconst (v := nI 0) hx hb dX2_fit_50 (by decide +kernel) ?_
    refine x_e (show nI 0 = nI (bP (fitP σ a b)) by rw [bP_f (fun q => q.1 c_1)]) ?_
    exact ro_zret (bP_le _) hx hb hr hlk dX2_fit_51
  · skip
    refine lv_aload_n hx hb dX2_fit_5 rfl (lv_at hl 0 rfl) ?_
    refine x_get S in_X2_fit_X2 hK hW.1 rfl 5 (by decide) (by decide +kernel) rfl rfl dX2_fit_6 ?_
    refine lv_iload_n hx hb dX2_fit_9 rfl (lv_at hl 1 rfl) ?_
    refine x_iald hx hb hK hW.2.2.2.1 (by omega) (by omega) dX2_fit_10 ?_
    refine lv_aload_n hx hb dX2_fit_11 rfl (lv_at hl 0 rfl) ?_
    refine x_get S in_X2_fit_X2 hK hW.1 rfl 5 (by decide) (by decide +kernel) rfl rfl dX2_fit_12 ?_
    refine lv_iload_n hx hb dX2_fit_15 rfl (lv_at hl 2 rfl) ?_
    refine x_iald hx hb hK hW.2.2.2.1 (by omega) (by omega) dX2_fit_16 ?_
    refine x_add hx hb dX2_fit_17 ?_
    refine x_ifne hx hb (by omega) (tgt := 50) dX2_fit_18 (by decide) (fun c_2 => ?_) (fun c_2 => ?_)
    · skip
      refine lv_iconst (v := nI 0) hx hb dX2_fit_50 (by decide +kernel) ?_
      refine x_e (show nI 0 = nI (bP (fitP σ a b)) by rw [bP_f (fun q => by have := q.2.1; have := q.2.2.1; have := c_2; omega)]) ?_
      exact ro_zret (bP_le _) hx hb hr hlk dX2_fit_51
    · skip
      refine lv_aload_n hx hb dX2_fit_21 rfl (lv_at hl 0 rfl) ?_
      refine x_get S in_X2_fit_X2 hK hW.1 rfl 7 (by decide) (by decide +kernel) rfl rfl dX2_fit_22 ?_
      refine lv_iload_n hx hb dX2_fit_25 rfl (lv_at hl 1 rfl) ?_
      refine x_iald hx hb hK hW.2.2.2.2.2.1 (by omega) (by omega) dX2_fit_26 ?_
      refine lv_iconst (v := (-1)) hx hb dX2_fit_27 (by decide +kernel) ?_
      refine lv_icmp_eq (tgt := 50) hx hb dX2_fit_28 (by decide) (fun c_3 => ?_) (fun c_3 => ?_)
      · skip
        refine lv_iconst (v := nI 0) hx hb dX2_fit_50 (by decide +kernel) ?_
        refine x_e (show nI 0 = nI (bP (fitP σ a b)) by rw [bP_f (fun q => q.2.2.2.1 c_3)]) ?_
        exact ro_zret (bP_le _) hx hb hr hlk dX2_fit_51
      · skip
        refine lv_aload_n hx hb dX2_fit_31 rfl (lv_at hl 0 rfl) ?_
        refine x_get S in_X2_fit_X2 hK hW.1 rfl 7 (by decide) (by decide +kernel) rfl rfl dX2_fit_32 ?_
        refine lv_iload_n hx hb dX2_fit_35 rfl (lv_at hl 1 rfl) ?_
        refine x_iald hx hb hK hW.2.2.2.2.2.1 (by omega) (by omega) dX2_fit_36 ?_
        refine lv_aload_n hx hb dX2_fit_37 rfl (lv_at hl 0 rfl) ?_
        refine x_get S in_X2_fit_X2 hK hW.1 rfl 6 (by decide) (by decide +kernel) rfl rfl dX2_fit_38 ?_
        refine lv_iload_n hx hb dX2_fit_41 rfl (lv_at hl 2 rfl) ?_
        refine x_iald hx hb hK hW.2.2.2.2.1 (by omega) (by omega) dX2_fit_42 ?_
        refine lv_icmp_ne (tgt := 50) hx hb dX2_fit_43 (by decide) (fun c_4 => ?_) (fun c_4 => ?_)
        · skip
          refine lv_iconst (v := nI 0) hx hb dX2_fit_50 (by decide +kernel) ?_
          refine x_e (show nI 0 = nI (bP (fitP σ a b)) by rw [bP_f (fun q => c_4 q.2.2.2.2)]) ?_
          exact ro_zret (bP_le _) hx hb hr hlk dX2_fit_51
        · skip
          refine lv_iconst (v := nI 1) hx hb dX2_fit_46 (by decide +kernel) ?_
          refine lv_goto (tgt := 51) hx hb dX2_fit_47 (by decide) ?_
          refine x_e (show nI 1 = nI (bP (fitP σ a b)) by rw [bP_t ⟨c_1, by omega, by omega, c_3, c_4⟩]) ?_
          exact ro_zret (bP_le _) hx hb hr hlk dX2_fit_51
theorem in_X2_runesOn_X2 : ∀ w ∈ wsX20, w ∈ wsX2_runesOn := by decide +kernel
set_option maxHeartbeats 4000000 in
set_option maxRecDepth 100000 in
theorem c_X2_runesOn (l : Launch) (Γ : GG) (mo : Nat) (th : Int32) (σ : St) (g1 g2 : Nat → Int32) (hI : Iv σ) (k : Nat) (hk : k < qn σ) : Ro l yX2_runesOn wsX2_runesOn ({ frames := 2, cells := 0, slots := 0, locals := 46 }) Γ [.ref mo, .int (nI k)] (MW Γ mo th σ g1 g2) (some (.int (nI (rT (rk σ k) (qp σ k))))) := by
  refine Ro.of (cc := cX2_runesOn) (maxL := 4) (ret := some .int) (by decide) rfl (Nat.le_of_ble_eq_true rfl) ?_
  intro p e s m below meth c S hr hlk hK hW ls hl
  obtain ⟨hx, hb, hml, hown, hts⟩ := id S
  have hl : lv_has ls 4 [(0, .ref mo), (1, .int (nI k))] := hl
  have hn40 := hI.1
  obtain ⟨hp0, hp12, hu3, hg1⟩ := hI.2.1 k hk
  refine lv_iconst (v := nI 0) hx hb dX2_runesOn_0 (by decide +kernel) ?_
  refine lv_istore_n (lv' := [(2, .int (nI 0)), (0, .ref mo), (1, .int (nI k))]) hx hb dX2_runesOn_1 rfl hl (by decide) rfl (fun ls hl => ?_)
  refine lv_iconst (v := nI 0) hx hb dX2_runesOn_2 (by decide +kernel) ?_
  refine lv_istore_n (lv' := [(3, .int (nI 0)), (2, .int (nI 0)), (0, .ref mo), (1, .int (nI k))]) hx hb dX2_runesOn_3 rfl hl (by decide) rfl (fun ls hl => ?_)
  refine x_loop (σ := Nat) (fun u => [(0, .ref mo), (1, .int (nI k)), (2, .int (nI (sN (rc (rk σ k)) u))), (3, .int (nI u))]) (fun u => u ≤ qp σ k) (fun u => qp σ k - u) (fun u hu ih ls hl => ?_) 0 (by omega) ls (x_hl (lv_sub (l' := [(0, .ref mo), (1, .int (nI k)), (2, .int (nI 0)), (3, .int (nI 0))]) hl [2, 3, 1, 0] rfl) rfl)
  obtain ⟨i, rfl⟩ : ∃ z, z = u := ⟨_, rfl⟩
  have hu : i ≤ qp σ k := hu
  have hl : lv_has ls 4 [(0, .ref mo), (1, .int (nI k)), (2, .int (nI (sN (rc (rk σ k)) i))), (3, .int (nI i))] := hl
  refine lv_iload_n hx hb dX2_runesOn_4 rfl (lv_at hl 3 rfl) ?_
  refine lv_aload_n hx hb dX2_runesOn_5 rfl (lv_at hl 0 rfl) ?_
  refine x_get S in_X2_runesOn_X2 hK hW.1 rfl 3 (by decide) (by decide +kernel) rfl rfl dX2_runesOn_6 ?_
  refine lv_iload_n hx hb dX2_runesOn_9 rfl (lv_at hl 1 rfl) ?_
  refine x_iald hx hb hK hW.2.1 (by omega) (by omega) dX2_runesOn_10 ?_
  refine x_icge hx hb (by omega) (by omega) (tgt := 29) dX2_runesOn_11 (by decide) (fun c_1 => ?_) (fun c_1 => ?_)
  · skip
    refine lv_iload_n hx hb dX2_runesOn_29 rfl (lv_at hl 2 rfl) ?_
    refine x_e (show nI (sN (rc (rk σ k)) i) = nI (rT (rk σ k) (qp σ k)) by rw [show i = qp σ k by omega]; rfl) ?_
    exact ro_iret hx hb hr hlk dX2_runesOn_30
  · skip
    refine lv_iload_n hx hb dX2_runesOn_14 rfl (lv_at hl 2 rfl) ?_
    refine lv_aload_n hx hb dX2_runesOn_15 rfl (lv_at hl 0 rfl) ?_
    refine lv_iload_n hx hb dX2_runesOn_16 rfl (lv_at hl 1 rfl) ?_
    refine lv_iload_n hx hb dX2_runesOn_17 rfl (lv_at hl 3 rfl) ?_
    refine ro_V (rest := [.int (nI (sN (rc (rk σ k)) i))]) S hK (c_X2_runesAt l Γ mo th σ g1 g2 hI k i (by omega) (by omega)) (cwV 2 hts gX2_runesOn_X2_runesAt rfl rfl rfl (by decide +kernel) ⟨Nat.le_of_ble_eq_true rfl, Nat.le_of_ble_eq_true rfl⟩) (Ob.recv hK hW.1 rfl) hW rfl hl.1 rfl (Nat.le_of_ble_eq_true rfl) dX2_runesOn_18 ⟨Nat.zero_le _, Nat.zero_le _⟩ ?_
    refine W.eq (g2 := F0 m 21 ls [.int (nI (rc (rk σ k) i)), .int (nI (sN (rc (rk σ k)) i))]) rfl ?_
    refine x_add hx hb dX2_runesOn_21 ?_
    refine lv_istore_n (lv' := [(2, .int (nI ((sN (rc (rk σ k)) i) + (rc (rk σ k) i)))), (0, .ref mo), (1, .int (nI k)), (3, .int (nI i))]) hx hb dX2_runesOn_22 rfl hl (by decide) rfl (fun ls hl => ?_)
    refine x_iinc (n := 1) (lv' := [(3, .int (nI (i + 1))), (2, .int (nI ((sN (rc (rk σ k)) i) + (rc (rk σ k) i)))), (0, .ref mo), (1, .int (nI k))]) hx hb dX2_runesOn_23 hl (k := 3) rfl (by decide) rfl (fun ls hl => ?_)
    refine lv_goto (tgt := 4) hx hb dX2_runesOn_26 (by decide) ?_
    have hl : lv_has ls 4 [(3, .int (nI (i + 1))), (2, .int (nI (sN (rc (rk σ k)) (i + 1)))), (0, .ref mo), (1, .int (nI k))] := x_hl hl (by rw [← sN_s (rc (rk σ k)) i])
    exact ih (i + 1) (by omega) (by omega) ls (lv_sub hl [2, 3, 1, 0] rfl)
theorem in_X2_glued_X2 : ∀ w ∈ wsX20, w ∈ wsX2_glued := by decide +kernel
set_option maxHeartbeats 4000000 in
set_option maxRecDepth 100000 in
theorem c_X2_glued (l : Launch) (Γ : GG) (mo : Nat) (th : Int32) (σ : St) (g1 g2 : Nat → Int32) (hI : Iv σ) (k : Nat) (hk : k < qn σ) : Ro l yX2_glued wsX2_glued ({ frames := 0, cells := 0, slots := 0, locals := 0 }) Γ [.ref mo, .int (nI k)] (MW Γ mo th σ g1 g2) (some (.int (nI (gT (lk σ k) (qp σ k - 1))))) := by
  refine Ro.of (cc := cX2_glued) (maxL := 4) (ret := some .int) (by decide) rfl (Nat.le_of_ble_eq_true rfl) ?_
  intro p e s m below meth c S hr hlk hK hW ls hl
  obtain ⟨hx, hb, hml, hown, hts⟩ := id S
  have hl : lv_has ls 4 [(0, .ref mo), (1, .int (nI k))] := hl
  have hn40 := hI.1
  obtain ⟨hp0, hp12, hu3, hg1⟩ := hI.2.1 k hk
  refine lv_iconst (v := nI 0) hx hb dX2_glued_0 (by decide +kernel) ?_
  refine lv_istore_n (lv' := [(2, .int (nI 0)), (0, .ref mo), (1, .int (nI k))]) hx hb dX2_glued_1 rfl hl (by decide) rfl (fun ls hl => ?_)
  refine lv_iconst (v := nI 0) hx hb dX2_glued_2 (by decide +kernel) ?_
  refine lv_istore_n (lv' := [(3, .int (nI 0)), (2, .int (nI 0)), (0, .ref mo), (1, .int (nI k))]) hx hb dX2_glued_3 rfl hl (by decide) rfl (fun ls hl => ?_)
  refine x_loop (σ := Nat) (fun u => [(0, .ref mo), (1, .int (nI k)), (2, .int (nI (gT (lk σ k) u))), (3, .int (nI u))]) (fun u => u ≤ qp σ k - 1) (fun u => qp σ k - u) (fun u hu ih ls hl => ?_) 0 (by omega) ls (x_hl (lv_sub (l' := [(0, .ref mo), (1, .int (nI k)), (2, .int (nI 0)), (3, .int (nI 0))]) hl [2, 3, 1, 0] rfl) rfl)
  obtain ⟨i, rfl⟩ : ∃ z, z = u := ⟨_, rfl⟩
  have hu : i ≤ qp σ k - 1 := hu
  have hl : lv_has ls 4 [(0, .ref mo), (1, .int (nI k)), (2, .int (nI (gT (lk σ k) i))), (3, .int (nI i))] := hl
  refine lv_iload_n hx hb dX2_glued_4 rfl (lv_at hl 3 rfl) ?_
  refine lv_aload_n hx hb dX2_glued_5 rfl (lv_at hl 0 rfl) ?_
  refine x_get S in_X2_glued_X2 hK hW.1 rfl 3 (by decide) (by decide +kernel) rfl rfl dX2_glued_6 ?_
  refine lv_iload_n hx hb dX2_glued_9 rfl (lv_at hl 1 rfl) ?_
  refine x_iald hx hb hK hW.2.1 (by omega) (by omega) dX2_glued_10 ?_
  refine lv_iconst (v := nI 1) hx hb dX2_glued_11 (by decide +kernel) ?_
  refine x_sub hx hb (by omega) dX2_glued_12 ?_
  refine x_icge hx hb (by omega) (by omega) (tgt := 36) dX2_glued_13 (by decide) (fun c_1 => ?_) (fun c_1 => ?_)
  · skip
    refine lv_iload_n hx hb dX2_glued_36 rfl (lv_at hl 2 rfl) ?_
    refine x_e (show nI (gT (lk σ k) i) = nI (gT (lk σ k) (qp σ k - 1)) by rw [show i = qp σ k - 1 by omega]) ?_
    exact ro_iret hx hb hr hlk dX2_glued_37
  · skip
    refine lv_iload_n hx hb dX2_glued_16 rfl (lv_at hl 2 rfl) ?_
    refine lv_aload_n hx hb dX2_glued_17 rfl (lv_at hl 0 rfl) ?_
    refine x_get S in_X2_glued_X2 hK hW.1 rfl 10 (by decide) (by decide +kernel) rfl rfl dX2_glued_18 ?_
    refine lv_bipush (v := nI 12) hx hb dX2_glued_21 (by decide +kernel) ?_
    refine lv_iload_n hx hb dX2_glued_23 rfl (lv_at hl 1 rfl) ?_
    refine x_mul hx hb dX2_glued_24 ?_
    refine lv_iload_n hx hb dX2_glued_25 rfl (lv_at hl 3 rfl) ?_
    refine x_add hx hb dX2_glued_26 ?_
    refine x_iald hx hb hK hW.2.2.2.2.2.2.2.2.1 (by omega) (by omega) dX2_glued_27 ?_
    refine lv_iadd hx hb dX2_glued_28 ?_
    refine lv_istore_n (lv' := [(2, .int ((nI (gT (lk σ k) i)) + (ql σ ((12 * k) + i)))), (0, .ref mo), (1, .int (nI k)), (3, .int (nI i))]) hx hb dX2_glued_29 rfl hl (by decide) rfl (fun ls hl => ?_)
    refine x_iinc (n := 1) (lv' := [(3, .int (nI (i + 1))), (2, .int ((nI (gT (lk σ k) i)) + (ql σ ((12 * k) + i)))), (0, .ref mo), (1, .int (nI k))]) hx hb dX2_glued_30 hl (k := 3) rfl (by decide) rfl (fun ls hl => ?_)
    refine lv_goto (tgt := 4) hx hb dX2_glued_33 (by decide) ?_
    have hl : lv_has ls 4 [(3, .int (nI (i + 1))), (2, .int (nI (gT (lk σ k) (i + 1)))), (0, .ref mo), (1, .int (nI k))] := x_hl hl (by rw [show nI (gT (lk σ k) i) + ql σ (12 * k + i) = nI (gT (lk σ k) (i + 1)) from gT_add (Gl := lk σ k) (hI.2.2.2.2.2.1 _)])
    exact ih (i + 1) (by omega) (by omega) ls (lv_sub hl [2, 3, 1, 0] rfl)
