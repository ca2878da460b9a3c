set_option maxRecDepth 100000 in
theorem ix_X1_needRune_IA : ∀ w ∈ (vx_atS RX1 26 eIA nmT).filter goodWord, w ∈ wsX1_needRune := by decide +kernel
set_option maxHeartbeats 4000000 in
set_option maxRecDepth 100000 in
theorem c_X1_needRune (l : Launch) (hfl : l.stackTraces = false) (Γ : GG) (bs : Nat)   (y : Int32)  : Tx l yX1_needRune wsX1_needRune ({ frames := 6, cells := 1, slots := 6, locals := 82 }) Γ bs [.int y] (fun _ => True) (fun H v H2 => (inb y 24) ∧ v = none ∧ H2 = H) (fun E => ¬ (inb y 24) ∧ E = eIA) 1 6 := by
  refine Tx.of (cc := cX1_needRune) (maxL := 1) (ret := none) (by decide) rfl (Nat.le_of_ble_eq_true rfl) ?_
  intro p e s m below meth c S hr hlk hno hK hT hW ls hl
  obtain ⟨hx, hb, hml, hown, hts⟩ := id S
  obtain ⟨lc, elc⟩ : ∃ z : List Loc, z = [] := ⟨_, rfl⟩
  rw [← elc]
  have hlo : lo bs lc := by rw [elc]; exact lo.nil
  clear elc
  have hl : lv_has ls 1 [(0, .int y)] := hl
  refine lv_iload_n hx hb dX1_needRune_0 rfl (lv_at hl 0 rfl) ?_
  refine lv_if_lt (tgt := 10) hx hb dX1_needRune_1 (by decide) (fun c_1 => ?_) (fun c_1 => ?_)
  · skip
    exact t_throw (is := 185) (text := "a rune is 0 to 23") S hfl (by decide +kernel) (by decide +kernel) (by decide +kernel) ix_X1_needRune_IA xb_IA og_IA (by decide +kernel) hT hlo hl.1 dX1_needRune_10 dX1_needRune_13 dX1_needRune_14 dX1_needRune_16 dX1_needRune_19 hno hlk (Nat.le_of_ble_eq_true rfl) (Nat.le_of_ble_eq_true rfl) (Nat.le_of_ble_eq_true rfl) (Nat.le_of_ble_eq_true rfl) (Nat.le_of_ble_eq_true rfl) (Nat.le_of_ble_eq_true rfl) ⟨fun q => inb_lt0 c_1 q, rfl⟩
  · skip
    refine lv_iload_n hx hb dX1_needRune_4 rfl (lv_at hl 0 rfl) ?_
    refine lv_bipush (v := nI 24) hx hb dX1_needRune_5 (by decide +kernel) ?_
    refine lv_icmp_lt (tgt := 20) hx hb dX1_needRune_7 (by decide) (fun c_2 => ?_) (fun c_2 => ?_)
    · skip
      refine W.widen (k := 1) (n := 6) (Nat.le_of_ble_eq_true rfl) (Nat.le_of_ble_eq_true rfl) (vx_ret ?_)
      exact m_vret (Post := fun H v H2 => (inb y 24) ∧ v = none ∧ H2 = H) hx hb hr hlk hlo dX1_needRune_20 ⟨inb_of2 c_1 c_2 (by decide), rfl, rfl⟩
    · skip
      exact t_throw (is := 185) (text := "a rune is 0 to 23") S hfl (by decide +kernel) (by decide +kernel) (by decide +kernel) ix_X1_needRune_IA xb_IA og_IA (by decide +kernel) hT hlo hl.1 dX1_needRune_10 dX1_needRune_13 dX1_needRune_14 dX1_needRune_16 dX1_needRune_19 hno hlk (Nat.le_of_ble_eq_true rfl) (Nat.le_of_ble_eq_true rfl) (Nat.le_of_ble_eq_true rfl) (Nat.le_of_ble_eq_true rfl) (Nat.le_of_ble_eq_true rfl) (Nat.le_of_ble_eq_true rfl) ⟨fun q => c_2 (inb_lt q (Nat.le_refl _) (by decide)), rfl⟩
set_option maxRecDepth 100000 in
theorem ix_X1_needTurn_IA : ∀ w ∈ (vx_atS RX1 26 eIA nmT).filter goodWord, w ∈ wsX1_needTurn := by decide +kernel
set_option maxHeartbeats 4000000 in
set_option maxRecDepth 100000 in
theorem c_X1_needTurn (l : Launch) (hfl : l.stackTraces = false) (Γ : GG) (bs : Nat)   (y : Int32)  : Tx l yX1_needTurn wsX1_needTurn ({ frames := 6, cells := 1, slots := 6, locals := 82 }) Γ bs [.int y] (fun _ => True) (fun H v H2 => (inb y 3) ∧ v = none ∧ H2 = H) (fun E => ¬ (inb y 3) ∧ E = eIA) 1 6 := by
  refine Tx.of (cc := cX1_needTurn) (maxL := 1) (ret := none) (by decide) rfl (Nat.le_of_ble_eq_true rfl) ?_
  intro p e s m below meth c S hr hlk hno hK hT hW ls hl
  obtain ⟨hx, hb, hml, hown, hts⟩ := id S
  obtain ⟨lc, elc⟩ : ∃ z : List Loc, z = [] := ⟨_, rfl⟩
  rw [← elc]
  have hlo : lo bs lc := by rw [elc]; exact lo.nil
  clear elc
  have hl : lv_has ls 1 [(0, .int y)] := hl
  refine lv_iload_n hx hb dX1_needTurn_0 rfl (lv_at hl 0 rfl) ?_
  refine lv_if_lt (tgt := 9) hx hb dX1_needTurn_1 (by decide) (fun c_1 => ?_) (fun c_1 => ?_)
  · skip
    exact t_throw (is := 187) (text := "a turn is 0 to 2") S hfl (by decide +kernel) (by decide +kernel) (by decide +kernel) ix_X1_needTurn_IA xb_IA og_IA (by decide +kernel) hT hlo hl.1 dX1_needTurn_9 dX1_needTurn_12 dX1_needTurn_13 dX1_needTurn_15 dX1_needTurn_18 hno hlk (Nat.le_of_ble_eq_true rfl) (Nat.le_of_ble_eq_true rfl) (Nat.le_of_ble_eq_true rfl) (Nat.le_of_ble_eq_true rfl) (Nat.le_of_ble_eq_true rfl) (Nat.le_of_ble_eq_true rfl) ⟨fun q => inb_lt0 c_1 q, rfl⟩
  · skip
    refine lv_iload_n hx hb dX1_needTurn_4 rfl (lv_at hl 0 rfl) ?_
    refine lv_iconst (v := nI 3) hx hb dX1_needTurn_5 (by decide +kernel) ?_
    refine lv_icmp_lt (tgt := 19) hx hb dX1_needTurn_6 (by decide) (fun c_2 => ?_) (fun c_2 => ?_)
    · skip
      refine W.widen (k := 1) (n := 6) (Nat.le_of_ble_eq_true rfl) (Nat.le_of_ble_eq_true rfl) (vx_ret ?_)
      exact m_vret (Post := fun H v H2 => (inb y 3) ∧ v = none ∧ H2 = H) hx hb hr hlk hlo dX1_needTurn_19 ⟨inb_of2 c_1 c_2 (by decide), rfl, rfl⟩
    · skip
      exact t_throw (is := 187) (text := "a turn is 0 to 2") S hfl (by decide +kernel) (by decide +kernel) (by decide +kernel) ix_X1_needTurn_IA xb_IA og_IA (by decide +kernel) hT hlo hl.1 dX1_needTurn_9 dX1_needTurn_12 dX1_needTurn_13 dX1_needTurn_15 dX1_needTurn_18 hno hlk (Nat.le_of_ble_eq_true rfl) (Nat.le_of_ble_eq_true rfl) (Nat.le_of_ble_eq_true rfl) (Nat.le_of_ble_eq_true rfl) (Nat.le_of_ble_eq_true rfl) (Nat.le_of_ble_eq_true rfl) ⟨fun q => c_2 (inb_lt q (Nat.le_refl _) (by decide)), rfl⟩
set_option maxRecDepth 100000 in
theorem ix_X1_needForce_IA : ∀ w ∈ (vx_atS RX1 26 eIA nmT).filter goodWord, w ∈ wsX1_needForce := by decide +kernel
set_option maxHeartbeats 4000000 in
set_option maxRecDepth 100000 in
theorem c_X1_needForce (l : Launch) (hfl : l.stackTraces = false) (Γ : GG) (bs : Nat)   (y : Int32)  : Tx l yX1_needForce wsX1_needForce ({ frames := 6, cells := 1, slots := 6, locals := 82 }) Γ bs [.int y] (fun _ => True) (fun H v H2 => (inR y (1 : Nat) (20 : Nat)) ∧ v = none ∧ H2 = H) (fun E => ¬ (inR y (1 : Nat) (20 : Nat)) ∧ E = eIA) 1 6 := by
  refine Tx.of (cc := cX1_needForce) (maxL := 1) (ret := none) (by decide) rfl (Nat.le_of_ble_eq_true rfl) ?_
  intro p e s m below meth c S hr hlk hno hK hT hW ls hl
  obtain ⟨hx, hb, hml, hown, hts⟩ := id S
  obtain ⟨lc, elc⟩ : ∃ z : List Loc, z = [] := ⟨_, rfl⟩
  rw [← elc]
  have hlo : lo bs lc := by rw [elc]; exact lo.nil
  clear elc
  have hl : lv_has ls 1 [(0, .int y)] := hl
  refine lv_iload_n hx hb dX1_needForce_0 rfl (lv_at hl 0 rfl) ?_
  refine lv_iconst (v := nI 1) hx hb dX1_needForce_1 (by decide +kernel) ?_
  refine lv_icmp_lt (tgt := 11) hx hb dX1_needForce_2 (by decide) (fun c_1 => ?_) (fun c_1 => ?_)
  · skip
    exact t_throw (is := 189) (text := "a force is 1 to 20") S hfl (by decide +kernel) (by decide +kernel) (by decide +kernel) ix_X1_needForce_IA xb_IA og_IA (by decide +kernel) hT hlo hl.1 dX1_needForce_11 dX1_needForce_14 dX1_needForce_15 dX1_needForce_17 dX1_needForce_20 hno hlk (Nat.le_of_ble_eq_true rfl) (Nat.le_of_ble_eq_true rfl) (Nat.le_of_ble_eq_true rfl) (Nat.le_of_ble_eq_true rfl) (Nat.le_of_ble_eq_true rfl) (Nat.le_of_ble_eq_true rfl) ⟨fun q => inR_lt (by decide) c_1 q, rfl⟩
  · skip
    refine lv_iload_n hx hb dX1_needForce_5 rfl (lv_at hl 0 rfl) ?_
    refine lv_bipush (v := nI 20) hx hb dX1_needForce_6 (by decide +kernel) ?_
    refine lv_icmp_le (tgt := 21) hx hb dX1_needForce_8 (by decide) (fun c_2 => ?_) (fun c_2 => ?_)
    · skip
      refine W.widen (k := 1) (n := 6) (Nat.le_of_ble_eq_true rfl) (Nat.le_of_ble_eq_true rfl) (vx_ret ?_)
      exact m_vret (Post := fun H v H2 => (inR y (1 : Nat) (20 : Nat)) ∧ v = none ∧ H2 = H) hx hb hr hlk hlo dX1_needForce_21 ⟨inR_of (by decide) (by decide) c_1 c_2, rfl, rfl⟩
    · skip
      exact t_throw (is := 189) (text := "a force is 1 to 20") S hfl (by decide +kernel) (by decide +kernel) (by decide +kernel) ix_X1_needForce_IA xb_IA og_IA (by decide +kernel) hT hlo hl.1 dX1_needForce_11 dX1_needForce_14 dX1_needForce_15 dX1_needForce_17 dX1_needForce_20 hno hlk (Nat.le_of_ble_eq_true rfl) (Nat.le_of_ble_eq_true rfl) (Nat.le_of_ble_eq_true rfl) (Nat.le_of_ble_eq_true rfl) (Nat.le_of_ble_eq_true rfl) (Nat.le_of_ble_eq_true rfl) ⟨fun q => inR_gt (by decide) c_2 q, rfl⟩
theorem in_X1_needThere_X0 : ∀ w ∈ wsX00, w ∈ wsX1_needThere := by decide +kernel
set_option maxRecDepth 100000 in
theorem ix_X1_needThere_IS : ∀ w ∈ (vx_atS RX1 37 eIS nmT).filter goodWord, w ∈ wsX1_needThere := by decide +kernel
set_option maxHeartbeats 4000000 in
set_option maxRecDepth 100000 in
theorem c_X1_needThere (l : Launch) (hfl : l.stackTraces = false) (Γ : GG) (bs : Nat) (a P U : Nat) (B E : Int32) (G : Nat) (R Bs Gl : Nat → Int32) (hG : G ≤ 1)   : Tx l yX1_needThere wsX1_needThere ({ frames := 6, cells := 1, slots := 6, locals := 82 }) Γ bs [.ref a] (SW Γ a P U B E G R Bs Gl) (fun H v H2 => (G = 0) ∧ v = none ∧ H2 = H) (fun E => ¬ (G = 0) ∧ E = eIS) 1 6 := by
  refine Tx.of (cc := cX1_needThere) (maxL := 1) (ret := none) (by decide) rfl (Nat.le_of_ble_eq_true rfl) ?_
  intro p e s m below meth c S hr hlk hno hK hT hW ls hl
  obtain ⟨hx, hb, hml, hown, hts⟩ := id S
  obtain ⟨lc, elc⟩ : ∃ z : List Loc, z = [] := ⟨_, rfl⟩
  rw [← elc]
  have hlo : lo bs lc := by rw [elc]; exact lo.nil
  clear elc
  have hl : lv_has ls 1 [(0, .ref a)] := hl
  refine lv_aload_n hx hb dX1_needThere_0 rfl (lv_at hl 0 rfl) ?_
  refine x_get S in_X1_needThere_X0 hK hW.1 rfl 4 (by decide) (by decide +kernel) rfl rfl dX1_needThere_1 ?_
  refine x_ifeq hx hb (by omega) (tgt := 17) dX1_needThere_4 (by decide) (fun c_1 => ?_) (fun c_1 => ?_)
  · skip
    refine W.widen (k := 1) (n := 6) (Nat.le_of_ble_eq_true rfl) (Nat.le_of_ble_eq_true rfl) (vx_ret ?_)
    exact m_vret (Post := fun H v H2 => (G = 0) ∧ v = none ∧ H2 = H) hx hb hr hlk hlo dX1_needThere_17 ⟨c_1, rfl, rfl⟩
  · skip
    exact t_throw (is := 177) (text := "the stick is gone") S hfl (by decide +kernel) (by decide +kernel) (by decide +kernel) ix_X1_needThere_IS xb_IS og_IS (by decide +kernel) hT hlo hl.1 dX1_needThere_7 dX1_needThere_10 dX1_needThere_11 dX1_needThere_13 dX1_needThere_16 hno hlk (Nat.le_of_ble_eq_true rfl) (Nat.le_of_ble_eq_true rfl) (Nat.le_of_ble_eq_true rfl) (Nat.le_of_ble_eq_true rfl) (Nat.le_of_ble_eq_true rfl) (Nat.le_of_ble_eq_true rfl) ⟨by omega, rfl⟩
set_option maxRecDepth 100000 in
theorem ix_X1_needPlace_IO : ∀ w ∈ (vx_atS RX1 111 eIO nmT).filter goodWord, w ∈ wsX1_needPlace := by decide +kernel
set_option maxHeartbeats 4000000 in
set_option maxRecDepth 100000 in
theorem c_X1_needPlace (l : Launch) (hfl : l.stackTraces = false) (Γ : GG) (bs : Nat) (a P U : Nat) (B E : Int32) (G : Nat) (R Bs Gl : Nat → Int32) (hP0 : 1 ≤ P) (hP : P ≤ 12) (y z : Int32)  : Tx l yX1_needPlace wsX1_needPlace ({ frames := 6, cells := 1, slots := 6, locals := 82 }) Γ bs [.ref a, .int y, .int z] (SW Γ a P U B E G R Bs Gl) (fun H v H2 => (inb y 3 ∧ inb z P) ∧ v = none ∧ H2 = H) (fun E => ¬ (inb y 3 ∧ inb z P) ∧ E = eIO) 1 6 := by
  refine Tx.of (cc := cX1_needPlace) (maxL := 3) (ret := none) (by decide) rfl (Nat.le_of_ble_eq_true rfl) ?_
  intro p e s m below meth c S hr hlk hno hK hT hW ls hl
  obtain ⟨hx, hb, hml, hown, hts⟩ := id S
  obtain ⟨lc, elc⟩ : ∃ z : List Loc, z = [] := ⟨_, rfl⟩
  rw [← elc]
  have hlo : lo bs lc := by rw [elc]; exact lo.nil
  clear elc
  have hl : lv_has ls 3 [(0, .ref a), (1, .int y), (2, .int z)] := hl
  refine lv_aload_n hx hb dX1_needPlace_0 rfl (lv_at hl 0 rfl) ?_
  refine lv_iload_n hx hb dX1_needPlace_1 rfl (lv_at hl 1 rfl) ?_
  refine lv_iload_n hx hb dX1_needPlace_2 rfl (lv_at hl 2 rfl) ?_
  refine ro_V (rest := []) S hK (c_X0_hasPlace l Γ a P U B E G R Bs Gl hP0 hP (y) (z)) (cwV 2 hts gX1_needPlace_X0_hasPlace rfl rfl rfl (by decide +kernel) ⟨Nat.le_of_ble_eq_true rfl, Nat.le_of_ble_eq_true rfl⟩) (Ob.recv hK hW.1 rfl) hW rfl hl.1 rfl (Nat.le_of_ble_eq_true rfl) dX1_needPlace_3 ⟨Nat.le_of_ble_eq_true rfl, Nat.le_of_ble_eq_true rfl⟩ ?_
  refine W.eq (g2 := F0 m 6 ls [.int (nI (bP (inb y 3 ∧ inb z P)))]) rfl ?_
  have hbb6 := bP_le ((inb y 3 ∧ inb z P))
  refine x_ifne hx hb (by omega) (tgt := 19) dX1_needPlace_6 (by decide) (fun c_1 => ?_) (fun c_1 => ?_)
  · skip
    refine W.widen (k := 1) (n := 6) (Nat.le_of_ble_eq_true rfl) (Nat.le_of_ble_eq_true rfl) (vx_ret ?_)
    exact m_vret (Post := fun H v H2 => (inb y 3 ∧ inb z P) ∧ v = none ∧ H2 = H) hx hb hr hlk hlo dX1_needPlace_19 ⟨bP_1 c_1, rfl, rfl⟩
  · skip
    exact t_throw (is := 183) (text := "there is no such side or place") S hfl (by decide +kernel) (by decide +kernel) (by decide +kernel) ix_X1_needPlace_IO xb_IO og_IO (by decide +kernel) hT hlo hl.1 dX1_needPlace_9 dX1_needPlace_12 dX1_needPlace_13 dX1_needPlace_15 dX1_needPlace_18 hno hlk (Nat.le_of_ble_eq_true rfl) (Nat.le_of_ble_eq_true rfl) (Nat.le_of_ble_eq_true rfl) (Nat.le_of_ble_eq_true rfl) (Nat.le_of_ble_eq_true rfl) (Nat.le_of_ble_eq_true rfl) ⟨bP_0 c_1, rfl⟩
theorem in_X1_needNumbersLeft_X1 : ∀ w ∈ wsX10, w ∈ wsX1_needNumbersLeft := by decide +kernel
set_option maxRecDepth 100000 in
theorem ix_X1_needNumbersLeft_IS : ∀ w ∈ (vx_atS RX1 37 eIS nmT).filter goodWord, w ∈ wsX1_needNumbersLeft := by decide +kernel
set_option maxHeartbeats 4000000 in
set_option maxRecDepth 100000 in
theorem c_X1_needNumbersLeft (l : Launch) (hfl : l.stackTraces = false) (Γ : GG) (bs : Nat) (x : Nat) (σ : St) (ad : Nat → Nat) (hI : Iv σ) (j : Nat) (hj : j ≤ 40) : Tx l yX1_needNumbersLeft wsX1_needNumbersLeft ({ frames := 6, cells := 1, slots := 6, locals := 82 }) Γ bs [.ref x, .int (nI j)] (CW Γ x σ ad) (fun H v H2 => qn σ + j ≤ 40 ∧ v = none ∧ H2 = H) (fun E => ¬ qn σ + j ≤ 40 ∧ E = eIS) 1 6 := by
  refine Tx.of (cc := cX1_needNumbersLeft) (maxL := 2) (ret := none) (by decide) rfl (Nat.le_of_ble_eq_true rfl) ?_
  intro p e s m below meth c S hr hlk hno hK hT hW ls hl
  obtain ⟨hx, hb, hml, hown, hts⟩ := id S
  obtain ⟨lc, elc⟩ : ∃ z : List Loc, z = [] := ⟨_, rfl⟩
  rw [← elc]
  have hlo : lo bs lc := by rw [elc]; exact lo.nil
  clear elc
  have hl : lv_has ls 2 [(0, .ref x), (1, .int (nI j))] := hl
  have hn40 := hI.1
  refine lv_aload_n hx hb dX1_needNumbersLeft_0 rfl (lv_at hl 0 rfl) ?_
  refine x_get S in_X1_needNumbersLeft_X1 hK hW.1 rfl 1 (by decide) (by decide +kernel) rfl rfl dX1_needNumbersLeft_1 ?_
  refine lv_bipush (v := nI 40) hx hb dX1_needNumbersLeft_4 (by decide +kernel) ?_
  refine lv_iload_n hx hb dX1_needNumbersLeft_6 rfl (lv_at hl 1 rfl) ?_
  refine x_sub hx hb (by omega) dX1_needNumbersLeft_7 ?_
  refine x_icle hx hb (by omega) (by omega) (tgt := 21) dX1_needNumbersLeft_8 (by decide) (fun c_1 => ?_) (fun c_1 => ?_)
  · skip
    refine W.widen (k := 1) (n := 6) (Nat.le_of_ble_eq_true rfl) (Nat.le_of_ble_eq_true rfl) (vx_ret ?_)
    exact m_vret (Post := fun H v H2 => qn σ + j ≤ 40 ∧ v = none ∧ H2 = H) hx hb hr hlk hlo dX1_needNumbersLeft_21 ⟨by omega, rfl, rfl⟩
  · skip
    exact t_throw (is := 175) (text := "there were too many sticks") S hfl (by decide +kernel) (by decide +kernel) (by decide +kernel) ix_X1_needNumbersLeft_IS xb_IS og_IS (by decide +kernel) hT hlo hl.1 dX1_needNumbersLeft_11 dX1_needNumbersLeft_14 dX1_needNumbersLeft_15 dX1_needNumbersLeft_17 dX1_needNumbersLeft_20 hno hlk (Nat.le_of_ble_eq_true rfl) (Nat.le_of_ble_eq_true rfl) (Nat.le_of_ble_eq_true rfl) (Nat.le_of_ble_eq_true rfl) (Nat.le_of_ble_eq_true rfl) (Nat.le_of_ble_eq_true rfl) ⟨by omega, rfl⟩
set_option maxRecDepth 100000 in
theorem ix_X1_known_IO : ∀ w ∈ (vx_atS RX1 111 eIO nmT).filter goodWord, w ∈ wsX1_known := by decide +kernel
set_option maxHeartbeats 4000000 in
set_option maxRecDepth 100000 in
theorem c_X1_known (l : Launch) (hfl : l.stackTraces = false) (Γ : GG) (bs : Nat) (x : Nat) (σ : St) (ad : Nat → Nat) (hI : Iv σ) (y : Int32)  : Tx l yX1_known wsX1_known ({ frames := 6, cells := 1, slots := 6, locals := 82 }) Γ bs [.ref x, .int y] (CW Γ x σ ad) (fun H v H2 => inb y (qn σ) ∧ v = some (.ref (ad y.toInt.toNat)) ∧ H2 = H) (fun E => ¬ inb y (qn σ) ∧ E = eIO) 1 6 := by
  refine Tx.of (cc := cX1_known) (maxL := 3) (ret := (some (.object "RuneSticks$Stick"))) (by decide) rfl (Nat.le_of_ble_eq_true rfl) ?_
  intro p e s m below meth c S hr hlk hno hK hT hW ls hl
  obtain ⟨hx, hb, hml, hown, hts⟩ := id S
  obtain ⟨lc, elc⟩ : ∃ z : List Loc, z = [] := ⟨_, rfl⟩
  rw [← elc]
  have hlo : lo bs lc := by rw [elc]; exact lo.nil
  clear elc
  have hl : lv_has ls 3 [(0, .ref x), (1, .int y)] := hl
  have hn40 := hI.1
  refine lv_aload_n hx hb dX1_known_0 rfl (lv_at hl 0 rfl) ?_
  refine lv_iload_n hx hb dX1_known_1 rfl (lv_at hl 1 rfl) ?_
  refine ro_V (rest := []) S hK (c_X1_stickOrNull l Γ x σ ad hI y) (cwV 1 hts gX1_known_X1_stickOrNull rfl rfl rfl (by decide +kernel) ⟨Nat.le_of_ble_eq_true rfl, Nat.le_of_ble_eq_true rfl⟩) (Ob.recv hK hW.1 rfl) hW rfl hl.1 rfl (Nat.le_of_ble_eq_true rfl) dX1_known_2 ⟨Nat.le_of_ble_eq_true rfl, Nat.le_of_ble_eq_true rfl⟩ ?_
  refine W.eq (g2 := F0 m 5 ls [va_rf (sr σ ad y)]) rfl ?_
  by_cases hin : inb y (qn σ)
  · skip
    refine x_v (show va_rf (sr σ ad y) = .ref (ad y.toInt.toNat) by rw [sr_some hin]; rfl) ?_
    refine lv_astore_n (lv' := [(2, .ref (ad y.toInt.toNat)), (0, .ref x), (1, .int y)]) hx hb dX1_known_5 rfl hl (by decide) rfl (fun ls hl => ?_)
    refine lv_aload_n hx hb dX1_known_6 rfl (lv_at hl 0 rfl) ?_
    refine lv_ifnonnull (tgt := 20) hx hb dX1_known_7 (by decide) ?_
    refine lv_aload_n hx hb dX1_known_20 rfl (lv_at hl 0 rfl) ?_
    refine W.widen (k := 1) (n := 6) (Nat.le_of_ble_eq_true rfl) (Nat.le_of_ble_eq_true rfl) (vx_ret ?_)
    exact m_aret (Post := fun H v H2 => inb y (qn σ) ∧ v = some (.ref (ad y.toInt.toNat)) ∧ H2 = H) hx hb hr hlk hlo dX1_known_21 ⟨hin, rfl, rfl⟩
  · skip
    refine x_v (show va_rf (sr σ ad y) = .null by rw [sr_none hin]; rfl) ?_
    refine lv_astore_nN (lv' := [(2, .null), (0, .ref x), (1, .int y)]) hx hb dX1_known_5 rfl hl (by decide) rfl (fun ls hl => ?_)
    refine lv_aload_nN hx hb dX1_known_6 rfl (lv_at hl 0 rfl) ?_
    refine lv_ifnonnullN hx hb dX1_known_7 ?_
    exact t_throw (is := 173) (text := "there is no such stick") S hfl (by decide +kernel) (by decide +kernel) (by decide +kernel) ix_X1_known_IO xb_IO og_IO (by decide +kernel) hT hlo hl.1 dX1_known_10 dX1_known_13 dX1_known_14 dX1_known_16 dX1_known_19 hno hlk (Nat.le_of_ble_eq_true rfl) (Nat.le_of_ble_eq_true rfl) (Nat.le_of_ble_eq_true rfl) (Nat.le_of_ble_eq_true rfl) (Nat.le_of_ble_eq_true rfl) (Nat.le_of_ble_eq_true rfl) ⟨hin, rfl⟩
