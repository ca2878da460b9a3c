theorem in_X1_make_X0 : ∀ w ∈ wsX00, w ∈ wsX1_make := by decide +kernel
set_option maxRecDepth 100000 in
theorem ix_X1_make_IA : ∀ w ∈ (vx_atS RX1 26 eIA nmT).filter goodWord, w ∈ wsX1_make := by decide +kernel
set_option maxRecDepth 100000 in
theorem ix_X1_make_IS : ∀ w ∈ (vx_atS RX1 37 eIS nmT).filter goodWord, w ∈ wsX1_make := by decide +kernel
set_option maxHeartbeats 4000000 in
set_option maxRecDepth 100000 in
theorem c_X1_make (l : Launch) (hfl : l.stackTraces = false) (Γ : GG) (bs : Nat) (x : Nat) (σ : St) (ad : Nat → Nat) (hI : Iv σ) (b0 : Nat) (y : Int32) (hy : Ly b0 σ ad) (hb0 : x + 2 ≤ b0) (hbs : bs ≤ x) : Tx l yX1_make wsX1_make ({ frames := 7, cells := 6, slots := 78, locals := 103 }) Γ bs [.ref x, .int y] (fun H => CW Γ x σ ad H ∧ b0 ≤ H.size) (fun H v H2 => cd2 (inR y (1 : Nat) (12 : Nat)) (thr σ (qn σ) < 12 ∧ qn σ < 40) = 0 ∧ v = some (.int (nI (qn σ))) ∧ (∃ ad2, CW Γ x (sMake σ y.toInt.toNat) ad2 H2 ∧ Ly b0 (sMake σ y.toInt.toNat) ad2) ∧ FrC x σ ad H H2) (px (cd2 (inR y (1 : Nat) (12 : Nat)) (thr σ (qn σ) < 12 ∧ qn σ < 40)) [eIA, eIS]) 6 78 := by
  refine Tx.of (cc := cX1_make) (maxL := 2) (ret := (some .int)) (by decide) rfl (Nat.le_of_ble_eq_true rfl) ?_
  intro p e s m below meth c S hr hlk hno hK hT hW ls hl
  obtain ⟨hx, hb, hml, hown, hts⟩ := id S
  obtain ⟨lc, elc⟩ : ∃ z : List Loc, z = [] := ⟨_, rfl⟩
  rw [← elc]
  have hlo : lo bs lc := by rw [elc]; exact lo.nil
  clear elc
  have hl : lv_has ls 2 [(0, .ref x), (1, .int y)] := hl
  have hn40 := hI.1
  refine lv_iload_n hx hb dX1_make_0 rfl (lv_at hl 1 rfl) ?_
  refine lv_iconst (v := nI 1) hx hb dX1_make_1 (by decide +kernel) ?_
  refine lv_icmp_lt (tgt := 11) hx hb dX1_make_2 (by decide) (fun c_1 => ?_) (fun c_1 => ?_)
  · skip
    exact t_throw (is := 24) (text := "a stick has 1 to 12 places") S hfl (by decide +kernel) (by decide +kernel) (by decide +kernel) ix_X1_make_IA xb_IA og_IA (by decide +kernel) hT hlo hl.1 dX1_make_11 dX1_make_14 dX1_make_15 dX1_make_17 dX1_make_20 hno hlk (Nat.le_of_ble_eq_true rfl) (Nat.le_of_ble_eq_true rfl) (Nat.le_of_ble_eq_true rfl) (Nat.le_of_ble_eq_true rfl) (Nat.le_of_ble_eq_true rfl) (Nat.le_of_ble_eq_true rfl) ⟨0, rfl, cd2_1 (fun q => inR_lt (by decide) c_1 q)⟩
  · skip
    refine lv_iload_n hx hb dX1_make_5 rfl (lv_at hl 1 rfl) ?_
    refine lv_bipush (v := nI 12) hx hb dX1_make_6 (by decide +kernel) ?_
    refine lv_icmp_le (tgt := 21) hx hb dX1_make_8 (by decide) (fun c_2 => ?_) (fun c_2 => ?_)
    · skip
      have hq : inR y (1 : Nat) (12 : Nat) := inR_of (by decide) (by decide) c_1 c_2
      refine lv_aload_n hx hb dX1_make_21 rfl (lv_at hl 0 rfl) ?_
      refine ro_V (rest := []) S hK (c_X1_howManyThere l Γ x σ ad hI ) (cwV 0 hts gX1_make_X1_howManyThere rfl rfl rfl (by decide +kernel) ⟨Nat.le_of_ble_eq_true rfl, Nat.le_of_ble_eq_true rfl⟩) (Ob.recv hK hW.1.1 rfl) hW.1 rfl hl.1 rfl (Nat.le_of_ble_eq_true rfl) dX1_make_22 ⟨Nat.le_of_ble_eq_true rfl, Nat.le_of_ble_eq_true rfl⟩ ?_
      refine W.eq (g2 := F0 m 25 ls [.int (nI (thr σ (qn σ)))]) rfl ?_
      have hthr := thr_le σ (qn σ)
      refine lv_bipush (v := nI 12) hx hb dX1_make_25 (by decide +kernel) ?_
      refine x_iclt hx hb (by omega) (by omega) (tgt := 40) dX1_make_27 (by decide) (fun c_3 => ?_) (fun c_3 => ?_)
      · skip
        refine lv_aload_n hx hb dX1_make_40 rfl (lv_at hl 0 rfl) ?_
        refine lv_iconst (v := nI 1) hx hb dX1_make_41 (by decide +kernel) ?_
        refine t_V (rest := []) S hK hT (c_X1_needNumbersLeft l hfl Γ bs x σ ad hI 1 (by decide)) (cwV 1 hts gX1_make_X1_needNumbersLeft rfl rfl rfl (by decide +kernel) ⟨Nat.le_of_ble_eq_true rfl, Nat.le_of_ble_eq_true rfl⟩) (Ob.recv hK hW.1.1 rfl) hW.1 rfl hl.1 rfl (Nat.le_of_ble_eq_true rfl) dX1_make_42 ⟨Nat.le_of_ble_eq_true rfl, Nat.le_of_ble_eq_true rfl⟩ hlo hno hlk (fun E h => ⟨1, by rw [h.2]; rfl, cd2_2 hq (fun q => h.1 (by have := q.2; omega))⟩) (Nat.le_of_ble_eq_true rfl) (Nat.le_of_ble_eq_true rfl) (fun v H1 locs1 hp hlo => ?_)
        obtain ⟨hnn, rfl, rfl⟩ := hp
        refine W.eq (g2 := F0 m 45 ls []) rfl ?_
        refine lv_aload_n hx hb dX1_make_45 rfl (lv_at hl 0 rfl) ?_
        obtain ⟨k, hk1, hk12, rfl⟩ := inR_ex hq
        obtain ⟨a, ha⟩ : ∃ z : Nat, s.heap.size = z := ⟨_, rfl⟩
        have hb9 : b0 ≤ a := by rw [← ha]; exact hW.2
        refine x_new (ci := 0) (fs := [.int (nI 0), .int (nI 0), .int (nI 0), .int (nI 0), .int (nI 0), .null, .null, .null]) S in_X1_make_X0 tyX0 tyX0_ok (by decide +kernel) (by decide +kernel) (by decide +kernel) hK rfl (fun j hj => by rcases (show j = 0 ∨ j = 1 ∨ j = 2 ∨ j = 3 ∨ j = 4 ∨ j = 5 ∨ j = 6 ∨ j = 7 by omega) with rfl | rfl | rfl | rfl | rfl | rfl | rfl | rfl <;> rfl) (Nat.le_of_ble_eq_true rfl) (Nat.le_of_ble_eq_true rfl) dX1_make_46 (fun H1 hO1 hz1 ho1 => ?_)
        rw [ha] at hO1 hz1 ho1
        refine x_v (congrArg Value.ref ha) ?_
        have hlow : ∀ q : Nat, q < a → H1[q]? = s.heap[q]? := ho1
        refine lv_dup hx hb dX1_make_49 rfl ?_
        refine lv_iload_n hx hb dX1_make_50 rfl (lv_at hl 1 rfl) ?_
        refine m_I (rest := [.ref a, .ref x]) S hK (c_X0_init l Γ bs a k (by omega)) (cwI 1 hts gX1_make_X0_init rfl rfl rfl (hts (.initialized RX0) (by decide +kernel)) (hts (.methodLink RX1 42 yX0_init) (by decide +kernel)) (hts (.instanceMethod yX0_init) (by decide +kernel)) rfl (by decide +kernel) ⟨Nat.le_of_ble_eq_true rfl, Nat.le_of_ble_eq_true rfl⟩) ⟨hO1, hz1⟩ rfl hl.1 rfl (Nat.le_of_ble_eq_true rfl) dX1_make_51 ⟨Nat.le_of_ble_eq_true rfl, Nat.le_of_ble_eq_true rfl⟩ hlo (fun v H1 lc1 hp hlo => ?_)
        obtain ⟨rfl, hSW, hz1, ho1⟩ := hp
        refine W.eq (g2 := F0 m 54 ls [.ref a, .ref x]) rfl ?_
        have hlow : ∀ q : Nat, q < a → H1[q]? = s.heap[q]? := fun q hq => (ho1 q (by omega)).trans (hlow q hq)
        have hCW := hW.1.kept (fun q hq => hlow q (by omega))
        refine m_V (rest := []) S hK (c_X1_put l Γ bs x (qn σ) (qb σ) (fun k => if k < qn σ then some (ad k) else none) a _ (by omega) (by omega) (by omega)) (cwV 1 hts gX1_make_X1_put rfl rfl rfl (by decide +kernel) ⟨Nat.le_of_ble_eq_true rfl, Nat.le_of_ble_eq_true rfl⟩) (Ob.recv hK hCW.1 rfl) ⟨hCW.1, hCW.2.1, hSW.1⟩ rfl hl.1 rfl (Nat.le_of_ble_eq_true rfl) dX1_make_54 ⟨Nat.le_of_ble_eq_true rfl, Nat.le_of_ble_eq_true rfl⟩ hlo (fun v H1 lc1 hp hlo => ?_)
        obtain ⟨rfl, hOx, hQx, hz1, ho1⟩ := hp
        refine W.eq (g2 := F0 m 57 ls [.int (nI (qn σ))]) rfl ?_
        refine W.widen (k := 6) (n := 78) (Nat.le_of_ble_eq_true rfl) (Nat.le_of_ble_eq_true rfl) (vx_ret ?_)
        exact m_iret (Post := fun H v H2 => cd2 (inR (nI k) (1 : Nat) (12 : Nat)) (thr σ (qn σ) < 12 ∧ qn σ < 40) = 0 ∧ v = some (.int (nI (qn σ))) ∧ (∃ ad2, CW Γ x (sMake σ (nI k).toInt.toNat) ad2 H2 ∧ Ly b0 (sMake σ (nI k).toInt.toNat) ad2) ∧ FrC x σ ad H H2) hx hb hr hlk hlo dX1_make_57 ⟨cd2_0 hq ⟨by omega, by omega⟩, rfl, ⟨va_up ad (qn σ) a, by rw [toN (by omega)]; exact CW.add hI hOx hQx (fun i hi => (hCW.2.2 i hi).kept (fun q q1 q2 => ho1 q (by have := hy.1 i hi; omega) (by have := hy.1 i hi; omega))) (hSW.kept (fun q q1 q2 => ho1 q (by omega) (by omega))), hy.push rfl hb9 (fun i hi => by rw [← ha]; exact hW.1.lt hi)⟩, by omega, fun q q1 q2 q3 q4 => (ho1 q q2 q3).trans (hlow q (by omega))⟩
      · skip
        exact t_throw (is := 35) (text := "12 sticks are there") S hfl (by decide +kernel) (by decide +kernel) (by decide +kernel) ix_X1_make_IS xb_IS og_IS (by decide +kernel) hT hlo hl.1 dX1_make_30 dX1_make_33 dX1_make_34 dX1_make_36 dX1_make_39 hno hlk (Nat.le_of_ble_eq_true rfl) (Nat.le_of_ble_eq_true rfl) (Nat.le_of_ble_eq_true rfl) (Nat.le_of_ble_eq_true rfl) (Nat.le_of_ble_eq_true rfl) (Nat.le_of_ble_eq_true rfl) ⟨1, rfl, cd2_2 hq (fun q => by have := q.1; omega)⟩
    · skip
      exact t_throw (is := 24) (text := "a stick has 1 to 12 places") S hfl (by decide +kernel) (by decide +kernel) (by decide +kernel) ix_X1_make_IA xb_IA og_IA (by decide +kernel) hT hlo hl.1 dX1_make_11 dX1_make_14 dX1_make_15 dX1_make_17 dX1_make_20 hno hlk (Nat.le_of_ble_eq_true rfl) (Nat.le_of_ble_eq_true rfl) (Nat.le_of_ble_eq_true rfl) (Nat.le_of_ble_eq_true rfl) (Nat.le_of_ble_eq_true rfl) (Nat.le_of_ble_eq_true rfl) ⟨0, rfl, cd2_1 (fun q => inR_gt (by decide) c_2 q)⟩
