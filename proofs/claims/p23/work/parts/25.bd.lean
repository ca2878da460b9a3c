/-- the joint at which a stick breaks, bent with a force -/
def bJ (σ : St) (k : Nat) (z : Int32) : Option Nat := match wk (stn (rk σ k) (ak σ k)) (qp σ k - 1) with
  | none => none
  | some j => if stn (rk σ k) (ak σ k) j < z then some j else none
theorem bJ_n {σ : St} {k : Nat} {z : Int32} (h : wk (stn (rk σ k) (ak σ k)) (qp σ k - 1) = none) : bJ σ k z = none := by
  unfold bJ
  rw [h]
theorem bJ_h {σ : St} {k j : Nat} {z : Int32} (h : wk (stn (rk σ k) (ak σ k)) (qp σ k - 1) = some j) (h2 : ¬ stn (rk σ k) (ak σ k) j < z) : bJ σ k z = none := by
  unfold bJ
  rw [h]
  exact if_neg h2
theorem bJ_s {σ : St} {k j : Nat} {z : Int32} (h : wk (stn (rk σ k) (ak σ k)) (qp σ k - 1) = some j) (h2 : stn (rk σ k) (ak σ k) j < z) : bJ σ k z = some j := by
  unfold bJ
  rw [h]
  exact if_pos h2
theorem bJ_lt {σ : St} {k j : Nat} {z : Int32} (h : bJ σ k z = some j) : j < qp σ k - 1 := by
  unfold bJ at h
  split at h
  · cases h
  · rename_i w hw
    split at h
    · cases h
      exact wk_lt _ _ _ hw
    · cases h
def bdV (σ : St) (k : Nat) (z : Int32) : Int32 := match bJ σ k z with
  | none => -1
  | some _ => nI (qn σ)
def bdS (σ : St) (k : Nat) (z : Int32) : St := match bJ σ k z with
  | none => σ
  | some j => sBend σ k j
set_option maxRecDepth 100000 in
theorem ix_X1_bend_IS : ∀ w ∈ (vx_atS RX1 37 eIS nmT).filter goodWord, w ∈ wsX1_bend := by decide +kernel
set_option maxHeartbeats 4000000 in
set_option maxRecDepth 100000 in
theorem c_X1_bend (l : Launch) (hfl : l.stackTraces = false) (Γ : GG) (bs : Nat) (x : Nat) (σ : St) (ad : Nat → Nat) (hI : Iv σ) (b0 : Nat) (y z : Int32) (hy : Ly b0 σ ad) (hb0 : x + 2 ≤ b0) (hbs : bs ≤ x) : Tx l yX1_bend wsX1_bend ({ frames := 7, cells := 12, slots := 156, locals := 110 }) Γ bs [.ref x, .int y, .int z] (fun H => CW Γ x σ ad H ∧ b0 ≤ H.size) (fun H v H2 => cd3 (inb y (qn σ)) (inR z (1 : Nat) (20 : Nat)) (qg σ (y.toInt.toNat) = 0 ∧ (bJ σ (y.toInt.toNat) z = none ∨ (thr σ (qn σ) < 12 ∧ qn σ ≤ 38))) = 0 ∧ v = some (.int (bdV σ (y.toInt.toNat) z)) ∧ (∃ ad2, CW Γ x (bdS σ (y.toInt.toNat) z) ad2 H2 ∧ Ly b0 (bdS σ (y.toInt.toNat) z) ad2) ∧ FrC x σ ad H H2) (px (cd3 (inb y (qn σ)) (inR z (1 : Nat) (20 : Nat)) (qg σ (y.toInt.toNat) = 0 ∧ (bJ σ (y.toInt.toNat) z = none ∨ (thr σ (qn σ) < 12 ∧ qn σ ≤ 38)))) [eIO, eIA, eIS]) 12 156 := by
  refine Tx.of (cc := cX1_bend) (maxL := 5) (ret := (some .int)) (by decide) rfl (Nat.le_of_ble_eq_true rfl) ?_
  intro p e s m below meth c S hr hlk hno hK hT hW ls hl
  obtain ⟨hx, hb, hml, hown, hts⟩ := id S
  obtain ⟨lc, elc⟩ : ∃ z : List Loc, z = [] := ⟨_, rfl⟩
  rw [← elc]
  have hlo : lo bs lc := by rw [elc]; exact lo.nil
  clear elc
  have hl : lv_has ls 5 [(0, .ref x), (1, .int y), (2, .int z)] := hl
  have hn40 := hI.1
  obtain ⟨hW, hsz0⟩ := hW
  refine lv_aload_n hx hb dX1_bend_0 rfl (lv_at hl 0 rfl) ?_
  refine lv_iload_n hx hb dX1_bend_1 rfl (lv_at hl 1 rfl) ?_
  refine t_V (rest := []) S hK hT (c_X1_known l hfl Γ bs x σ ad hI y) (cwV 1 hts gX1_bend_X1_known rfl rfl rfl (by decide +kernel) ⟨Nat.le_of_ble_eq_true rfl, Nat.le_of_ble_eq_true rfl⟩) (Ob.recv hK hW.1 rfl) hW rfl hl.1 rfl (Nat.le_of_ble_eq_true rfl) dX1_bend_2 ⟨Nat.le_of_ble_eq_true rfl, Nat.le_of_ble_eq_true rfl⟩ hlo hno hlk (fun E h => ⟨0, by rw [h.2]; rfl, cd3_1 (fun q => h.1 q)⟩) (Nat.le_of_ble_eq_true rfl) (Nat.le_of_ble_eq_true rfl) (fun v H1 locs1 hp hlo => ?_)
  obtain ⟨hin, rfl, rfl⟩ := hp
  obtain ⟨k, hk, rfl⟩ := inb_ex hin
  obtain ⟨hp0k, hp12k, hu3k, hg1k⟩ := hI.2.1 k hk
  refine W.eq (g2 := F0 m 5 ls [.ref (ad (nI k).toInt.toNat)]) rfl ?_
  refine x_v (show Value.ref (ad (nI k).toInt.toNat) = .ref (ad k) by rw [toN (by omega)]) ?_
  refine lv_astore_n (lv' := [(3, .ref (ad k)), (0, .ref x), (1, .int (nI k)), (2, .int z)]) hx hb dX1_bend_5 rfl hl (by decide) rfl (fun ls hl => ?_)
  refine lv_iload_n hx hb dX1_bend_6 rfl (lv_at hl 3 rfl) ?_
  refine t_S (rest := []) S hK hT (c_X1_needForce l hfl Γ bs z) (cwS 1 hts gX1_bend_X1_needForce rfl rfl rfl (by decide +kernel) ⟨Nat.le_of_ble_eq_true rfl, Nat.le_of_ble_eq_true rfl⟩) trivial rfl hl.1 rfl (Nat.le_of_ble_eq_true rfl) dX1_bend_7 ⟨Nat.le_of_ble_eq_true rfl, Nat.le_of_ble_eq_true rfl⟩ hlo hno hlk (fun E h => ⟨1, by rw [h.2]; rfl, cd3_2 ((inb_nI (by omega)).mpr hk) (fun q => h.1 q)⟩) (Nat.le_of_ble_eq_true rfl) (Nat.le_of_ble_eq_true rfl) (fun v H1 locs1 hp hlo => ?_)
  obtain ⟨hfc, rfl, rfl⟩ := hp
  refine W.eq (g2 := F0 m 10 ls []) rfl ?_
  refine lv_aload_n hx hb dX1_bend_10 rfl (lv_at hl 0 rfl) ?_
  refine t_S (rest := []) S hK hT (c_X1_needThere l hfl Γ bs (ad k) (qp σ k) (qu σ k) (qB σ k) (qE σ k) (qg σ k) (rk σ k) (ak σ k) (lk σ k) (hI.2.1 k (by omega)).2.2.2) (cwS 1 hts gX1_bend_X1_needThere rfl rfl rfl (by decide +kernel) ⟨Nat.le_of_ble_eq_true rfl, Nat.le_of_ble_eq_true rfl⟩) (hW.2.2 k (by omega)) rfl hl.1 rfl (Nat.le_of_ble_eq_true rfl) dX1_bend_11 ⟨Nat.le_of_ble_eq_true rfl, Nat.le_of_ble_eq_true rfl⟩ hlo hno hlk (fun E h => ⟨2, by rw [h.2]; rfl, cd3_3 ((inb_nI (by omega)).mpr hk) hfc (fun q => h.1 (by have h9 := q.1; rw [toN (by omega)] at h9; exact h9))⟩) (Nat.le_of_ble_eq_true rfl) (Nat.le_of_ble_eq_true rfl) (fun v H1 locs1 hp hlo => ?_)
  obtain ⟨hthk, rfl, rfl⟩ := hp
  refine W.eq (g2 := F0 m 14 ls []) rfl ?_
  refine lv_aload_n hx hb dX1_bend_14 rfl (lv_at hl 0 rfl) ?_
  refine ro_V (rest := []) S hK (c_X0_firstWeakestJoint l Γ (ad k) (qp σ k) (qu σ k) (qB σ k) (qE σ k) (qg σ k) (rk σ k) (ak σ k) (lk σ k) (hI.2.1 k (by omega)).1 (hI.2.1 k (by omega)).2.1 ) (cwV 0 hts gX1_bend_X0_firstWeakestJoint rfl rfl rfl (by decide +kernel) ⟨Nat.le_of_ble_eq_true rfl, Nat.le_of_ble_eq_true rfl⟩) (Ob.recv hK (hW.2.2 k (by omega)).1 rfl) (hW.2.2 k (by omega)) rfl hl.1 rfl (Nat.le_of_ble_eq_true rfl) dX1_bend_15 ⟨Nat.le_of_ble_eq_true rfl, Nat.le_of_ble_eq_true rfl⟩ ?_
  refine W.eq (g2 := F0 m 18 ls [.int (oI (wk (stn (rk σ k) (ak σ k)) (qp σ k - 1)))]) rfl ?_
  refine lv_istore (lv' := [(4, .int (oI (wk (stn (rk σ k) (ak σ k)) (qp σ k - 1)))), (3, .ref (ad k)), (0, .ref x), (1, .int (nI k)), (2, .int z)]) hx hb dX1_bend_18 hl (by decide) rfl (fun ls hl => ?_)
  refine lv_iload hx hb dX1_bend_20 (lv_at hl 0 rfl) ?_
  refine lv_iconst (v := (-1)) hx hb dX1_bend_22 (by decide +kernel) ?_
  refine lv_icmp_eq (tgt := 36) hx hb dX1_bend_23 (by decide) (fun c_1 => ?_) (fun c_1 => ?_)
  · skip
    have e1 : wk (stn (rk σ k) (ak σ k)) (qp σ k - 1) = none := oI_n c_1 (fun w h => by have := wk_lt _ _ _ h; omega)
    have eJ : bJ σ k z = none := bJ_n e1
    refine lv_iconst (v := (-1)) hx hb dX1_bend_36 (by decide +kernel) ?_
    refine W.widen (k := 12) (n := 156) (Nat.le_of_ble_eq_true rfl) (Nat.le_of_ble_eq_true rfl) (vx_ret ?_)
    exact m_iret (Post := fun H v H2 => cd3 (inb (nI k) (qn σ)) (inR z (1 : Nat) (20 : Nat)) (qg σ ((nI k).toInt.toNat) = 0 ∧ (bJ σ ((nI k).toInt.toNat) z = none ∨ (thr σ (qn σ) < 12 ∧ qn σ ≤ 38))) = 0 ∧ v = some (.int (bdV σ ((nI k).toInt.toNat) z)) ∧ (∃ ad2, CW Γ x (bdS σ ((nI k).toInt.toNat) z) ad2 H2 ∧ Ly b0 (bdS σ ((nI k).toInt.toNat) z) ad2) ∧ FrC x σ ad H H2) hx hb hr hlk hlo dX1_bend_37 ⟨cd3_0 ((inb_nI (by omega)).mpr hk) hfc ⟨by rw [toN (by omega)]; exact hthk, by rw [toN (by omega), eJ]; exact Or.inl rfl⟩, by rw [toN (by omega)]; unfold bdV; rw [eJ], ⟨ad, by rw [toN (by omega)]; unfold bdS; rw [eJ]; exact hW, by rw [toN (by omega)]; unfold bdS; rw [eJ]; exact hy⟩, FrC.rf⟩
  · skip
    obtain ⟨j, e1⟩ := oI_s c_1
    have hj := wk_lt _ _ _ e1
    have hl : lv_has ls 5 [(4, .int (nI j)), (3, .ref (ad k)), (0, .ref x), (1, .int (nI k)), (2, .int z)] := x_hl hl (by rw [e1]; rfl)
    refine lv_aload_n hx hb dX1_bend_26 rfl (lv_at hl 1 rfl) ?_
    refine lv_iload hx hb dX1_bend_27 (lv_at hl 0 rfl) ?_
    refine ro_V (rest := []) S hK (c_X0_strengthAt l Γ (ad k) (qp σ k) (qu σ k) (qB σ k) (qE σ k) (qg σ k) (rk σ k) (ak σ k) (lk σ k) (hI.2.1 k (by omega)).1 (hI.2.1 k (by omega)).2.1 j (by omega)) (cwV 1 hts gX1_bend_X0_strengthAt rfl rfl rfl (by decide +kernel) ⟨Nat.le_of_ble_eq_true rfl, Nat.le_of_ble_eq_true rfl⟩) (Ob.recv hK (hW.2.2 k (by omega)).1 rfl) (hW.2.2 k (by omega)) rfl hl.1 rfl (Nat.le_of_ble_eq_true rfl) dX1_bend_29 ⟨Nat.le_of_ble_eq_true rfl, Nat.le_of_ble_eq_true rfl⟩ ?_
    refine W.eq (g2 := F0 m 32 ls [.int (stn (rk σ k) (ak σ k) j)]) rfl ?_
    refine lv_iload_n hx hb dX1_bend_32 rfl (lv_at hl 4 rfl) ?_
    refine lv_icmp_lt (tgt := 38) hx hb dX1_bend_33 (by decide) (fun c_2 => ?_) (fun c_2 => ?_)
    · skip
      have eJ : bJ σ k z = some j := bJ_s e1 c_2
      refine lv_aload_n hx hb dX1_bend_38 rfl (lv_at hl 2 rfl) ?_
      refine ro_V (rest := []) S hK (c_X1_howManyThere l Γ x σ ad hI ) (cwV 0 hts gX1_bend_X1_howManyThere rfl rfl rfl (by decide +kernel) ⟨Nat.le_of_ble_eq_true rfl, Nat.le_of_ble_eq_true rfl⟩) (Ob.recv hK hW.1 rfl) hW rfl hl.1 rfl (Nat.le_of_ble_eq_true rfl) dX1_bend_39 ⟨Nat.le_of_ble_eq_true rfl, Nat.le_of_ble_eq_true rfl⟩ ?_
      refine W.eq (g2 := F0 m 42 ls [.int (nI (thr σ (qn σ)))]) rfl ?_
      have hthr := thr_le σ (qn σ)
      refine lv_bipush (v := nI 12) hx hb dX1_bend_42 (by decide +kernel) ?_
      refine x_iclt hx hb (by omega) (by omega) (tgt := 57) dX1_bend_44 (by decide) (fun c_3 => ?_) (fun c_3 => ?_)
      · skip
        refine lv_aload_n hx hb dX1_bend_57 rfl (lv_at hl 2 rfl) ?_
        refine lv_iconst (v := nI 2) hx hb dX1_bend_58 (by decide +kernel) ?_
        refine t_V (rest := []) S hK hT (c_X1_needNumbersLeft l hfl Γ bs x σ ad hI 2 (by decide)) (cwV 1 hts gX1_bend_X1_needNumbersLeft rfl rfl rfl (by decide +kernel) ⟨Nat.le_of_ble_eq_true rfl, Nat.le_of_ble_eq_true rfl⟩) (Ob.recv hK hW.1 rfl) hW rfl hl.1 rfl (Nat.le_of_ble_eq_true rfl) dX1_bend_59 ⟨Nat.le_of_ble_eq_true rfl, Nat.le_of_ble_eq_true rfl⟩ hlo hno hlk (fun E h => ⟨2, by rw [h.2]; rfl, cd3_3 ((inb_nI (by omega)).mpr hk) hfc (fun q => by have h9 := q.2; rw [toN (by omega), eJ] at h9; rcases h9 with h9 | h9; exact absurd h9 (by simp); exact h.1 (by omega))⟩) (Nat.le_of_ble_eq_true rfl) (Nat.le_of_ble_eq_true rfl) (fun v H1 locs1 hp hlo => ?_)
        obtain ⟨hnn, rfl, rfl⟩ := hp
        refine W.eq (g2 := F0 m 62 ls []) rfl ?_
        refine lv_aload_n hx hb dX1_bend_62 rfl (lv_at hl 2 rfl) ?_
        refine lv_aload_n hx hb dX1_bend_63 rfl (lv_at hl 1 rfl) ?_
        refine lv_iload hx hb dX1_bend_64 (lv_at hl 0 rfl) ?_
        refine m_V (rest := []) S hK (c_X1_breakAt l Γ bs x σ ad hI b0 k j hk hj (by omega) hy hb0 hbs) (cwV 2 hts gX1_bend_X1_breakAt rfl rfl rfl (by decide +kernel) ⟨Nat.le_of_ble_eq_true rfl, Nat.le_of_ble_eq_true rfl⟩) (Ob.recv hK hW.1 rfl) ⟨hW, hsz0⟩ rfl hl.1 rfl (Nat.le_of_ble_eq_true rfl) dX1_bend_66 ⟨Nat.le_of_ble_eq_true rfl, Nat.le_of_ble_eq_true rfl⟩ hlo (fun v H1 lc1 hp hlo => ?_)
        obtain ⟨rfl, hCE, hFr⟩ := hp
        refine W.eq (g2 := F0 m 69 ls [.int (nI (qn σ))]) rfl ?_
        refine W.widen (k := 12) (n := 156) (Nat.le_of_ble_eq_true rfl) (Nat.le_of_ble_eq_true rfl) (vx_ret ?_)
        exact m_iret (Post := fun H v H2 => cd3 (inb (nI k) (qn σ)) (inR z (1 : Nat) (20 : Nat)) (qg σ ((nI k).toInt.toNat) = 0 ∧ (bJ σ ((nI k).toInt.toNat) z = none ∨ (thr σ (qn σ) < 12 ∧ qn σ ≤ 38))) = 0 ∧ v = some (.int (bdV σ ((nI k).toInt.toNat) z)) ∧ (∃ ad2, CW Γ x (bdS σ ((nI k).toInt.toNat) z) ad2 H2 ∧ Ly b0 (bdS σ ((nI k).toInt.toNat) z) ad2) ∧ FrC x σ ad H H2) hx hb hr hlk hlo dX1_bend_69 ⟨cd3_0 ((inb_nI (by omega)).mpr hk) hfc ⟨by rw [toN (by omega)]; exact hthk, by rw [toN (by omega), eJ]; exact Or.inr ⟨by omega, by omega⟩⟩, by rw [toN (by omega)]; unfold bdV; rw [eJ], by rw [toN (by omega)]; unfold bdS; rw [eJ]; exact hCE, hFr⟩
      · skip
        exact t_throw (is := 35) (text := "12 sticks are there") S hfl (by decide +kernel) (by decide +kernel) (by decide +kernel) ix_X1_bend_IS xb_IS og_IS (by decide +kernel) hT hlo hl.1 dX1_bend_47 dX1_bend_50 dX1_bend_51 dX1_bend_53 dX1_bend_56 hno hlk (Nat.le_of_ble_eq_true rfl) (Nat.le_of_ble_eq_true rfl) (Nat.le_of_ble_eq_true rfl) (Nat.le_of_ble_eq_true rfl) (Nat.le_of_ble_eq_true rfl) (Nat.le_of_ble_eq_true rfl) ⟨2, rfl, cd3_3 ((inb_nI (by omega)).mpr hk) hfc (fun q => by have h9 := q.2; rw [toN (by omega), eJ] at h9; rcases h9 with h9 | h9; exact absurd h9 (by simp); omega)⟩
    · skip
      have eJ : bJ σ k z = none := bJ_h e1 c_2
      refine lv_iconst (v := (-1)) hx hb dX1_bend_36 (by decide +kernel) ?_
      refine W.widen (k := 12) (n := 156) (Nat.le_of_ble_eq_true rfl) (Nat.le_of_ble_eq_true rfl) (vx_ret ?_)
      exact m_iret (Post := fun H v H2 => cd3 (inb (nI k) (qn σ)) (inR z (1 : Nat) (20 : Nat)) (qg σ ((nI k).toInt.toNat) = 0 ∧ (bJ σ ((nI k).toInt.toNat) z = none ∨ (thr σ (qn σ) < 12 ∧ qn σ ≤ 38))) = 0 ∧ v = some (.int (bdV σ ((nI k).toInt.toNat) z)) ∧ (∃ ad2, CW Γ x (bdS σ ((nI k).toInt.toNat) z) ad2 H2 ∧ Ly b0 (bdS σ ((nI k).toInt.toNat) z) ad2) ∧ FrC x σ ad H H2) hx hb hr hlk hlo dX1_bend_37 ⟨cd3_0 ((inb_nI (by omega)).mpr hk) hfc ⟨by rw [toN (by omega)]; exact hthk, by rw [toN (by omega), eJ]; exact Or.inl rfl⟩, by rw [toN (by omega)]; unfold bdV; rw [eJ], ⟨ad, by rw [toN (by omega)]; unfold bdS; rw [eJ]; exact hW, by rw [toN (by omega)]; unfold bdS; rw [eJ]; exact hy⟩, FrC.rf⟩
theorem in_X1_joinBoth_X0 : ∀ w ∈ wsX00, w ∈ wsX1_joinBoth := by decide +kernel
set_option maxHeartbeats 4000000 in
set_option maxRecDepth 100000 in
theorem c_X1_joinBoth (l : Launch) (Γ : GG) (bs : Nat) (x : Nat) (σ : St) (ad : Nat → Nat) (hI : Iv σ) (b0 k j tw base : Nat) (hk : k < qn σ) (hj : j < qn σ) (hkj : ¬ k = j) (hk0 : qg σ k = 0) (hj0 : qg σ j = 0) (hp9 : qp σ k + qp σ j ≤ 12) (hn39 : qn σ < 40) (htw : tw < 3) (hy : Ly b0 σ ad) (hb0 : x + 2 ≤ b0) (hbs : bs ≤ x) : Mt l yX1_joinBoth wsX1_joinBoth ({ frames := 3, cells := 4, slots := 66, locals := 72 }) Γ bs [.ref x, .ref (ad k), .ref (ad j), .int (nI tw), .int (nI base)] (fun H => CW Γ x σ ad H ∧ b0 ≤ H.size) (fun H v H2 => v = some (.int (nI (qn σ))) ∧ (∃ ad2, CW Γ x (sGlue σ k j tw base) ad2 H2 ∧ Ly b0 (sGlue σ k j tw base) ad2) ∧ FrC x σ ad H H2) 4 66 := by
  refine Mt.of (cc := cX1_joinBoth) (maxL := 7) (ret := (some .int)) (by decide) rfl (Nat.le_of_ble_eq_true rfl) ?_
  intro p e s m below meth c S hr hlk hin hK hW ls hl
  obtain ⟨hx, hb, hml, hown, hts⟩ := id S
  obtain ⟨lc, elc⟩ : ∃ z : List Loc, z = [] := ⟨_, rfl⟩
  rw [← elc]
  have hlo : lo bs lc := by rw [elc]; exact lo.nil
  clear elc
  have hl : lv_has ls 7 [(0, .ref x), (1, .ref (ad k)), (2, .ref (ad j)), (3, .int (nI tw)), (4, .int (nI base))] := hl
  have hn40 := hI.1
  obtain ⟨hp0, hp12, hu3, hg1⟩ := hI.2.1 k hk
  obtain ⟨hp0j, hp12j, hu3j, hg1j⟩ := hI.2.1 j hj
  have hak := hy.1 k hk
  have haj := hy.1 j hj
  have hltk := hW.1.lt hk
  have hltj := hW.1.lt hj
  obtain ⟨a, ha⟩ : ∃ z : Nat, s.heap.size = z := ⟨_, rfl⟩
  have hb9 : b0 ≤ a := by rw [← ha]; exact hW.2
  rw [ha] at hltk hltj
  have hlow : ∀ q : Nat, q < a → s.heap[q]? = s.heap[q]? := fun _ _ => rfl
  refine lv_iload_n hx hb dX1_joinBoth_0 rfl (lv_at hl 3 rfl) ?_
  refine x_ifne hx hb (by omega) (tgt := 16) dX1_joinBoth_1 (by decide) (fun c_1 => ?_) (fun c_1 => ?_)
  · skip
    refine lv_iconst (v := nI 0) hx hb dX1_joinBoth_16 (by decide +kernel) ?_
    refine x_e (show nI 0 = nI (more σ k j tw) by unfold more; rw [bP_f (fun q => by have := q.1; omega)]) ?_
    refine lv_istore (lv' := [(5, .int (nI (more σ k j tw))), (0, .ref x), (1, .ref (ad k)), (2, .ref (ad j)), (3, .int (nI tw)), (4, .int (nI base))]) hx hb dX1_joinBoth_17 hl (by decide) rfl (fun ls hl => ?_)
    refine x_new (ci := 0) (fs := [.int (nI 0), .int (nI 0), .int (nI 0), .int (nI 0), .int (nI 0), .null, .null, .null]) S in_X1_joinBoth_X0 tyX0 tyX0_ok (by decide +kernel) (by decide +kernel) (by decide +kernel) hK rfl (fun j hj => by rcases (show j = 0 ∨ j = 1 ∨ j = 2 ∨ j = 3 ∨ j = 4 ∨ j = 5 ∨ j = 6 ∨ j = 7 by omega) with rfl | rfl | rfl | rfl | rfl | rfl | rfl | rfl <;> rfl) (Nat.le_of_ble_eq_true rfl) (Nat.le_of_ble_eq_true rfl) dX1_joinBoth_19 (fun H1 hO1 hz1 ho1 => ?_)
    rw [ha] at hO1 hz1 ho1
    refine x_v (congrArg Value.ref ha) ?_
    have hlow : ∀ q : Nat, q < a → H1[q]? = s.heap[q]? := ho1
    refine lv_dup hx hb dX1_joinBoth_22 rfl ?_
    refine lv_aload_n hx hb dX1_joinBoth_23 rfl (lv_at hl 2 rfl) ?_
    refine x_get S in_X1_joinBoth_X0 hK ((hW.1.2.2 k (by omega)).1.kept (hlow _ (by omega))) rfl 0 (by decide) (by decide +kernel) rfl rfl dX1_joinBoth_24 ?_
    refine lv_aload_n hx hb dX1_joinBoth_27 rfl (lv_at hl 3 rfl) ?_
    refine x_get S in_X1_joinBoth_X0 hK ((hW.1.2.2 j (by omega)).1.kept (hlow _ (by omega))) rfl 0 (by decide) (by decide +kernel) rfl rfl dX1_joinBoth_28 ?_
    refine x_add hx hb dX1_joinBoth_31 ?_
    refine m_I (rest := [.ref a]) S hK (c_X0_init l Γ bs a ((qp σ k) + (qp σ j)) (by omega)) (cwI 1 hts gX1_joinBoth_X0_init rfl rfl rfl (hts (.initialized RX0) (by decide +kernel)) (hts (.methodLink RX1 42 yX0_init) (by decide +kernel)) (hts (.instanceMethod yX0_init) (by decide +kernel)) rfl (by decide +kernel) ⟨Nat.le_of_ble_eq_true rfl, Nat.le_of_ble_eq_true rfl⟩) ⟨hO1, hz1⟩ rfl hl.1 rfl (Nat.le_of_ble_eq_true rfl) dX1_joinBoth_32 ⟨Nat.le_of_ble_eq_true rfl, Nat.le_of_ble_eq_true rfl⟩ hlo (fun v H1 lc1 hp hlo => ?_)
    obtain ⟨rfl, hSn, hsz1, ho1⟩ := hp
    refine W.eq (g2 := F0 m 35 ls [.ref a]) rfl ?_
    have hlow : ∀ q : Nat, q < a → H1[q]? = s.heap[q]? := fun q hq => (ho1 q (by omega)).trans (hlow q hq)
    have hS1 := hSn
    refine lv_astore (lv' := [(6, .ref a), (5, .int (nI (more σ k j tw))), (0, .ref x), (1, .ref (ad k)), (2, .ref (ad j)), (3, .int (nI tw)), (4, .int (nI base))]) hx hb dX1_joinBoth_35 hl (by decide) rfl (fun ls hl => ?_)
    refine lv_aload hx hb dX1_joinBoth_37 (lv_at hl 0 rfl) ?_
    refine lv_aload_n hx hb dX1_joinBoth_39 rfl (lv_at hl 3 rfl) ?_
    refine lv_iconst (v := nI 0) hx hb dX1_joinBoth_40 (by decide +kernel) ?_
    refine lv_aload_n hx hb dX1_joinBoth_41 rfl (lv_at hl 3 rfl) ?_
    refine x_get S in_X1_joinBoth_X0 hK ((hW.1.2.2 k (by omega)).1.kept (hlow _ (by omega))) rfl 0 (by decide) (by decide +kernel) rfl rfl dX1_joinBoth_42 ?_
    refine lv_iconst (v := nI 0) hx hb dX1_joinBoth_45 (by decide +kernel) ?_
    refine lv_iconst (v := nI 0) hx hb dX1_joinBoth_46 (by decide +kernel) ?_
    refine m_V (rest := []) S hK (c_X0_takePlaces l Γ bs a ((qp σ k) + (qp σ j)) (0) (-1) (-1) 0 ((fun _ => -1)) ((fun _ => nI 12)) ((fun _ => nI 0)) (by omega) (by omega) (ad k) (qp σ k) (qu σ k) (qB σ k) (qE σ k) (qg σ k) (rk σ k) (ak σ k) (lk σ k) (hI.2.1 k (by omega)).1 (hI.2.1 k (by omega)).2.1 (fun q => hI.2.2.2.2.2.1 _) 0 (qp σ k) 0 0 (by omega) (by omega) (by omega) (by omega) (by have := hW.1.lt (k := k) (by omega); omega) (by omega)) (cwV 5 hts gX1_joinBoth_X0_takePlaces rfl rfl rfl (by decide +kernel) ⟨Nat.le_of_ble_eq_true rfl, Nat.le_of_ble_eq_true rfl⟩) (Ob.recv hK hS1.1 rfl) ⟨hS1, (hW.1.2.2 k (by omega)).kept (fun q q1 q2 => hlow q (by have := hW.1.lt (k := k) (by omega); omega))⟩ rfl hl.1 rfl (Nat.le_of_ble_eq_true rfl) dX1_joinBoth_47 ⟨Nat.le_of_ble_eq_true rfl, Nat.le_of_ble_eq_true rfl⟩ hlo (fun v H1 lc1 hp hlo => ?_)
    obtain ⟨rfl, hSn, hFq, hzq⟩ := hp
    refine W.eq (g2 := F0 m 50 ls []) rfl ?_
    have hlow : ∀ q : Nat, q < a → H1[q]? = s.heap[q]? := fun q hq => (hFq.2 q (by omega) (by omega)).trans (hlow q hq)
    have hS1 := hSn
    have hsz1 := hzq.trans hsz1
    refine lv_aload hx hb dX1_joinBoth_50 (lv_at hl 0 rfl) ?_
    refine lv_aload_n hx hb dX1_joinBoth_52 rfl (lv_at hl 4 rfl) ?_
    refine lv_iconst (v := nI 0) hx hb dX1_joinBoth_53 (by decide +kernel) ?_
    refine lv_aload_n hx hb dX1_joinBoth_54 rfl (lv_at hl 4 rfl) ?_
    refine x_get S in_X1_joinBoth_X0 hK ((hW.1.2.2 j (by omega)).1.kept (hlow _ (by omega))) rfl 0 (by decide) (by decide +kernel) rfl rfl dX1_joinBoth_55 ?_
    refine lv_aload_n hx hb dX1_joinBoth_58 rfl (lv_at hl 3 rfl) ?_
    refine x_get S in_X1_joinBoth_X0 hK ((hW.1.2.2 k (by omega)).1.kept (hlow _ (by omega))) rfl 0 (by decide) (by decide +kernel) rfl rfl dX1_joinBoth_59 ?_
    refine lv_iload_n hx hb dX1_joinBoth_62 rfl (lv_at hl 5 rfl) ?_
    refine m_V (rest := []) S hK (c_X0_takePlaces l Γ bs a ((qp σ k) + (qp σ j)) (0) (-1) (-1) 0 (tpR ((fun _ => -1)) (rk σ k) 0 0 0 (3 * (qp σ k))) (tpB ((fun _ => nI 12)) (ak σ k) 0 0 ((qp σ k) - 1)) (tpB ((fun _ => nI 0)) (lk σ k) 0 0 ((qp σ k) - 1)) (by omega) (by omega) (ad j) (qp σ j) (qu σ j) (qB σ j) (qE σ j) (qg σ j) (rk σ j) (ak σ j) (lk σ j) (hI.2.1 j (by omega)).1 (hI.2.1 j (by omega)).2.1 (fun q => hI.2.2.2.2.2.1 _) 0 (qp σ j) (qp σ k) tw (by omega) (by omega) (by omega) (by omega) (by have := hW.1.lt (k := j) (by omega); omega) (by omega)) (cwV 5 hts gX1_joinBoth_X0_takePlaces rfl rfl rfl (by decide +kernel) ⟨Nat.le_of_ble_eq_true rfl, Nat.le_of_ble_eq_true rfl⟩) (Ob.recv hK hS1.1 rfl) ⟨hS1, (hW.1.2.2 j (by omega)).kept (fun q q1 q2 => hlow q (by have := hW.1.lt (k := j) (by omega); omega))⟩ rfl hl.1 rfl (Nat.le_of_ble_eq_true rfl) dX1_joinBoth_63 ⟨Nat.le_of_ble_eq_true rfl, Nat.le_of_ble_eq_true rfl⟩ hlo (fun v H1 lc1 hp hlo => ?_)
    obtain ⟨rfl, hSn, hFq, hzq⟩ := hp
    refine W.eq (g2 := F0 m 66 ls []) rfl ?_
    have hlow : ∀ q : Nat, q < a → H1[q]? = s.heap[q]? := fun q hq => (hFq.2 q (by omega) (by omega)).trans (hlow q hq)
    have hS1 := hSn
    have hsz1 := hzq.trans hsz1
    refine lv_aload hx hb dX1_joinBoth_66 (lv_at hl 0 rfl) ?_
    refine lv_aload_n hx hb dX1_joinBoth_68 rfl (lv_at hl 3 rfl) ?_
    refine x_get S in_X1_joinBoth_X0 hK ((hW.1.2.2 k (by omega)).1.kept (hlow _ (by omega))) rfl 0 (by decide) (by decide +kernel) rfl rfl dX1_joinBoth_69 ?_
    refine lv_iconst (v := nI 1) hx hb dX1_joinBoth_72 (by decide +kernel) ?_
    refine x_sub hx hb (by omega) dX1_joinBoth_73 ?_
    refine lv_iload hx hb dX1_joinBoth_74 (lv_at hl 6 rfl) ?_
    refine lv_iload hx hb dX1_joinBoth_76 (lv_at hl 1 rfl) ?_
    refine x_add hx hb dX1_joinBoth_78 ?_
    refine lv_iconst (v := nI 1) hx hb dX1_joinBoth_79 (by decide +kernel) ?_
    refine m_V (rest := []) S hK (c_X0_putJoint l Γ bs a ((qp σ k) + (qp σ j)) (0) (-1) (-1) 0 (tpR (tpR ((fun _ => -1)) (rk σ k) 0 0 0 (3 * (qp σ k))) (rk σ j) 0 (qp σ k) tw (3 * (qp σ j))) (tpB (tpB ((fun _ => nI 12)) (ak σ k) 0 0 ((qp σ k) - 1)) (ak σ j) 0 (qp σ k) ((qp σ j) - 1)) (tpB (tpB ((fun _ => nI 0)) (lk σ k) 0 0 ((qp σ k) - 1)) (lk σ j) 0 (qp σ k) ((qp σ j) - 1)) (by omega) (by omega) ((qp σ k) - 1) (nI (base + (more σ k j tw))) (nI 1) (by omega) (by decide +kernel) (by omega)) (cwV 3 hts gX1_joinBoth_X0_putJoint rfl rfl rfl (by decide +kernel) ⟨Nat.le_of_ble_eq_true rfl, Nat.le_of_ble_eq_true rfl⟩) (Ob.recv hK hS1.1 rfl) hS1 rfl hl.1 rfl (Nat.le_of_ble_eq_true rfl) dX1_joinBoth_80 ⟨Nat.le_of_ble_eq_true rfl, Nat.le_of_ble_eq_true rfl⟩ hlo (fun v H1 lc1 hp hlo => ?_)
    obtain ⟨rfl, hSn, hz1, ho1⟩ := hp
    refine W.eq (g2 := F0 m 83 ls []) rfl ?_
    have hlow : ∀ q : Nat, q < a → H1[q]? = s.heap[q]? := fun q hq => (ho1 q (by omega) (by omega)).trans (hlow q hq)
    have hsz1 := hz1.trans hsz1
    have hS1 := hSn
    refine lv_aload hx hb dX1_joinBoth_83 (lv_at hl 0 rfl) ?_
    refine lv_aload_n hx hb dX1_joinBoth_85 rfl (lv_at hl 3 rfl) ?_
    refine x_get S in_X1_joinBoth_X0 hK ((hW.1.2.2 k (by omega)).1.kept (hlow _ (by omega))) rfl 1 (by decide) (by decide +kernel) rfl rfl dX1_joinBoth_86 ?_
    refine x_putX S in_X1_joinBoth_X0 tyX0 tyX0_ok nmX0 hK hS1.1 rfl 1 (by decide) (by decide +kernel) rfl (Or.inl rfl) (tyX0_ok 1 (by decide)) rfl rfl (Nat.le_of_ble_eq_true rfl) hlo (by omega) dX1_joinBoth_89 (fun H1 lc1 hO1 hz1 ho1 hlo => ?_)
    have hO1 : Ob Γ 0 a [.int (nI ((qp σ k) + (qp σ j))), .int (nI (qu σ k)), .int ((-1)), .int ((-1)), .int (nI 0), .ref (a + 1), .ref (a + 2), .ref (a + 3)] H1 := hO1
    have hlow : ∀ q : Nat, q < a → H1[q]? = s.heap[q]? := fun q hq => (ho1 q (by omega)).trans (hlow q hq)
    have hS1 := (⟨hO1, hS1.2.1.kept (ho1 _ (by omega)), hS1.2.2.1.kept (ho1 _ (by omega)), hS1.2.2.2.kept (ho1 _ (by omega))⟩ : _ ∧ _ ∧ _ ∧ _)
    have hsz1 := hz1.trans hsz1
    have hS1 : SW Γ a ((qp σ k) + (qp σ j)) (qu σ k) (-1) (-1) 0 (tpR (tpR ((fun _ => -1)) (rk σ k) 0 0 0 (3 * (qp σ k))) (rk σ j) 0 (qp σ k) tw (3 * (qp σ j))) (upd (tpB (tpB ((fun _ => nI 12)) (ak σ k) 0 0 ((qp σ k) - 1)) (ak σ j) 0 (qp σ k) ((qp σ j) - 1)) ((qp σ k) - 1) (nI (base + (more σ k j tw)))) (upd (tpB (tpB ((fun _ => nI 0)) (lk σ k) 0 0 ((qp σ k) - 1)) (lk σ j) 0 (qp σ k) ((qp σ j) - 1)) ((qp σ k) - 1) (nI 1)) H1 := hS1
    refine lv_aload hx hb dX1_joinBoth_92 (lv_at hl 0 rfl) ?_
    refine lv_aload_n hx hb dX1_joinBoth_94 rfl (lv_at hl 3 rfl) ?_
    refine x_get S in_X1_joinBoth_X0 hK ((hW.1.2.2 k (by omega)).1.kept (hlow _ (by omega))) rfl 2 (by decide) (by decide +kernel) rfl rfl dX1_joinBoth_95 ?_
    refine x_putX S in_X1_joinBoth_X0 tyX0 tyX0_ok nmX0 hK hS1.1 rfl 2 (by decide) (by decide +kernel) rfl (Or.inl rfl) (tyX0_ok 2 (by decide)) rfl rfl (Nat.le_of_ble_eq_true rfl) hlo (by omega) dX1_joinBoth_98 (fun H1 lc1 hO1 hz1 ho1 hlo => ?_)
    have hO1 : Ob Γ 0 a [.int (nI ((qp σ k) + (qp σ j))), .int (nI (qu σ k)), .int (qB σ k), .int ((-1)), .int (nI 0), .ref (a + 1), .ref (a + 2), .ref (a + 3)] H1 := hO1
    have hlow : ∀ q : Nat, q < a → H1[q]? = s.heap[q]? := fun q hq => (ho1 q (by omega)).trans (hlow q hq)
    have hS1 := (⟨hO1, hS1.2.1.kept (ho1 _ (by omega)), hS1.2.2.1.kept (ho1 _ (by omega)), hS1.2.2.2.kept (ho1 _ (by omega))⟩ : _ ∧ _ ∧ _ ∧ _)
    have hsz1 := hz1.trans hsz1
    have hS1 : SW Γ a ((qp σ k) + (qp σ j)) (qu σ k) (qB σ k) (-1) 0 (tpR (tpR ((fun _ => -1)) (rk σ k) 0 0 0 (3 * (qp σ k))) (rk σ j) 0 (qp σ k) tw (3 * (qp σ j))) (upd (tpB (tpB ((fun _ => nI 12)) (ak σ k) 0 0 ((qp σ k) - 1)) (ak σ j) 0 (qp σ k) ((qp σ j) - 1)) ((qp σ k) - 1) (nI (base + (more σ k j tw)))) (upd (tpB (tpB ((fun _ => nI 0)) (lk σ k) 0 0 ((qp σ k) - 1)) (lk σ j) 0 (qp σ k) ((qp σ j) - 1)) ((qp σ k) - 1) (nI 1)) H1 := hS1
    refine lv_aload hx hb dX1_joinBoth_101 (lv_at hl 0 rfl) ?_
    refine lv_aload_n hx hb dX1_joinBoth_103 rfl (lv_at hl 4 rfl) ?_
    refine x_get S in_X1_joinBoth_X0 hK ((hW.1.2.2 j (by omega)).1.kept (hlow _ (by omega))) rfl 3 (by decide) (by decide +kernel) rfl rfl dX1_joinBoth_104 ?_
    refine x_putX S in_X1_joinBoth_X0 tyX0 tyX0_ok nmX0 hK hS1.1 rfl 3 (by decide) (by decide +kernel) rfl (Or.inl rfl) (tyX0_ok 3 (by decide)) rfl rfl (Nat.le_of_ble_eq_true rfl) hlo (by omega) dX1_joinBoth_107 (fun H1 lc1 hO1 hz1 ho1 hlo => ?_)
    have hO1 : Ob Γ 0 a [.int (nI ((qp σ k) + (qp σ j))), .int (nI (qu σ k)), .int (qB σ k), .int (qE σ j), .int (nI 0), .ref (a + 1), .ref (a + 2), .ref (a + 3)] H1 := hO1
    have hlow : ∀ q : Nat, q < a → H1[q]? = s.heap[q]? := fun q hq => (ho1 q (by omega)).trans (hlow q hq)
    have hS1 := (⟨hO1, hS1.2.1.kept (ho1 _ (by omega)), hS1.2.2.1.kept (ho1 _ (by omega)), hS1.2.2.2.kept (ho1 _ (by omega))⟩ : _ ∧ _ ∧ _ ∧ _)
    have hsz1 := hz1.trans hsz1
    have hS1 : SW Γ a ((qp σ k) + (qp σ j)) (qu σ k) (qB σ k) (qE σ j) 0 (tpR (tpR ((fun _ => -1)) (rk σ k) 0 0 0 (3 * (qp σ k))) (rk σ j) 0 (qp σ k) tw (3 * (qp σ j))) (upd (tpB (tpB ((fun _ => nI 12)) (ak σ k) 0 0 ((qp σ k) - 1)) (ak σ j) 0 (qp σ k) ((qp σ j) - 1)) ((qp σ k) - 1) (nI (base + (more σ k j tw)))) (upd (tpB (tpB ((fun _ => nI 0)) (lk σ k) 0 0 ((qp σ k) - 1)) (lk σ j) 0 (qp σ k) ((qp σ j) - 1)) ((qp σ k) - 1) (nI 1)) H1 := hS1
    have hCW := hW.1.kept (fun q hq => hlow q (by omega))
    obtain ⟨hOx, hQx, hSs⟩ := hCW
    have hFx : ∀ q : Nat, q < s.heap.size → q ≠ x → q ≠ x + 1 → (∀ i, i < qn σ → q < ad i ∨ ad i + 4 ≤ q) → _ = s.heap[q]? := fun q q1 _ _ _ => hlow q (by omega)
    refine lv_aload_n hx hb dX1_joinBoth_110 rfl (lv_at hl 3 rfl) ?_
    refine lv_iconst (v := nI 1) hx hb dX1_joinBoth_111 (by decide +kernel) ?_
    refine x_putX S in_X1_joinBoth_X0 tyX0 tyX0_ok nmX0 hK (hSs k hk).1 rfl 4 (by decide) (by decide +kernel) rfl (Or.inl rfl) (tyX0_ok 4 (by decide)) (by decide +kernel) (by decide +kernel) (Nat.le_of_ble_eq_true rfl) hlo (by omega) dX1_joinBoth_112 (fun H1 lc1 hO1 hz1 ho1 hlo => ?_)
    have hO1 : Ob Γ 0 (ad k) [.int (nI (qp σ k)), .int (nI (qu σ k)), .int (qB σ k), .int (qE σ k), .int (nI 1), .ref (ad k + 1), .ref (ad k + 2), .ref (ad k + 3)] H1 := hO1
    have hsz1 := hz1.trans hsz1
    have hGn := (⟨hO1, (hSs k hk).2.1.kept (ho1 _ (by omega)), (hSs k hk).2.2.1.kept (ho1 _ (by omega)), (hSs k hk).2.2.2.kept (ho1 _ (by omega))⟩ : _ ∧ _ ∧ _ ∧ _)
    have hKn : SW Γ (ad k) (qp σ k) (qu σ k) (qB σ k) (qE σ k) 1 (rk σ k) (ak σ k) (lk σ k) H1 := hGn
    have hOx := hOx.kept (ho1 _ (by omega))
    have hQx := hQx.kept (ho1 _ (by omega))
    have hSs : ∀ i, i < qn σ → ¬ i = k → SK Γ σ i (ad i) H1 := fun i hi h0 => (hSs i hi ).kept (fun q q1 q2 => ho1 q (by rcases Nat.lt_or_gt_of_ne h0 with z | z; (have := hy.2 i k z hk; omega); (have := hy.2 k i z hi; omega)))
    have hS1 := hS1.kept (fun q q1 q2 => ho1 q (by omega))
    have hFx : ∀ q : Nat, q < s.heap.size → q ≠ x → q ≠ x + 1 → (∀ i, i < qn σ → q < ad i ∨ ad i + 4 ≤ q) → H1[q]? = s.heap[q]? := fun q q1 q2 q3 q4 => (ho1 q (by have := q4 k hk; have := q4 j hj; omega)).trans (hFx q q1 q2 q3 q4)
    refine lv_aload_n hx hb dX1_joinBoth_115 rfl (lv_at hl 4 rfl) ?_
    refine lv_iconst (v := nI 1) hx hb dX1_joinBoth_116 (by decide +kernel) ?_
    refine x_putX S in_X1_joinBoth_X0 tyX0 tyX0_ok nmX0 hK (hSs j hj (fun e => hkj e.symm)).1 rfl 4 (by decide) (by decide +kernel) rfl (Or.inl rfl) (tyX0_ok 4 (by decide)) (by decide +kernel) (by decide +kernel) (Nat.le_of_ble_eq_true rfl) hlo (by omega) dX1_joinBoth_117 (fun H1 lc1 hO1 hz1 ho1 hlo => ?_)
    have hO1 : Ob Γ 0 (ad j) [.int (nI (qp σ j)), .int (nI (qu σ j)), .int (qB σ j), .int (qE σ j), .int (nI 1), .ref (ad j + 1), .ref (ad j + 2), .ref (ad j + 3)] H1 := hO1
    have hsz1 := hz1.trans hsz1
    have hGn := (⟨hO1, (hSs j hj (fun e => hkj e.symm)).2.1.kept (ho1 _ (by omega)), (hSs j hj (fun e => hkj e.symm)).2.2.1.kept (ho1 _ (by omega)), (hSs j hj (fun e => hkj e.symm)).2.2.2.kept (ho1 _ (by omega))⟩ : _ ∧ _ ∧ _ ∧ _)
    have hJn : SW Γ (ad j) (qp σ j) (qu σ j) (qB σ j) (qE σ j) 1 (rk σ j) (ak σ j) (lk σ j) H1 := hGn
    have hKn := hKn.kept (fun q q1 q2 => ho1 q (by rcases Nat.lt_or_gt_of_ne hkj with z | z; (have := hy.2 k j z hj; omega); (have := hy.2 j k z hk; omega)))
    have hOx := hOx.kept (ho1 _ (by omega))
    have hQx := hQx.kept (ho1 _ (by omega))
    have hSs : ∀ i, i < qn σ → ¬ i = k → ¬ i = j → SK Γ σ i (ad i) H1 := fun i hi h0 h1 => (hSs i hi h0).kept (fun q q1 q2 => ho1 q (by rcases Nat.lt_or_gt_of_ne h1 with z | z; (have := hy.2 i j z hj; omega); (have := hy.2 j i z hi; omega)))
    have hS1 := hS1.kept (fun q q1 q2 => ho1 q (by omega))
    have hFx : ∀ q : Nat, q < s.heap.size → q ≠ x → q ≠ x + 1 → (∀ i, i < qn σ → q < ad i ∨ ad i + 4 ≤ q) → H1[q]? = s.heap[q]? := fun q q1 q2 q3 q4 => (ho1 q (by have := q4 k hk; have := q4 j hj; omega)).trans (hFx q q1 q2 q3 q4)
    refine lv_aload_n hx hb dX1_joinBoth_120 rfl (lv_at hl 2 rfl) ?_
    refine lv_aload hx hb dX1_joinBoth_121 (lv_at hl 0 rfl) ?_
    refine m_V (rest := []) S hK (c_X1_put l Γ bs x (qn σ) (qb σ) (fun k => if k < qn σ then some (ad k) else none) a _ (by omega) (by omega) (by omega)) (cwV 1 hts gX1_joinBoth_X1_put rfl rfl rfl (by decide +kernel) ⟨Nat.le_of_ble_eq_true rfl, Nat.le_of_ble_eq_true rfl⟩) (Ob.recv hK hOx rfl) ⟨hOx, hQx, hS1.1⟩ rfl hl.1 rfl (Nat.le_of_ble_eq_true rfl) dX1_joinBoth_123 ⟨Nat.le_of_ble_eq_true rfl, Nat.le_of_ble_eq_true rfl⟩ hlo (fun v H1 lc1 hp hlo => ?_)
    obtain ⟨rfl, hOx, hQx, hz1, ho1⟩ := hp
    refine W.eq (g2 := F0 m 126 ls [.int (nI (qn σ))]) rfl ?_
    have hS1 := hS1.kept (fun q q1 q2 => ho1 q (by omega) (by omega))
    have hKn := hKn.kept (fun q q1 q2 => ho1 q (by omega) (by omega))
    have hJn := hJn.kept (fun q q1 q2 => ho1 q (by omega) (by omega))
    have hSs : ∀ i, i < qn σ → ¬ i = k → ¬ i = j → SK Γ σ i (ad i) H1 := fun i hi h0 h1 => (hSs i hi h0 h1).kept (fun q q1 q2 => ho1 q (by have := hy.1 i hi; omega) (by have := hy.1 i hi; omega))
    have hFx : ∀ q : Nat, q < s.heap.size → q ≠ x → q ≠ x + 1 → (∀ i, i < qn σ → q < ad i ∨ ad i + 4 ≤ q) → H1[q]? = s.heap[q]? := fun q q1 q2 q3 q4 => (ho1 q q2 q3).trans (hFx q q1 q2 q3 q4)
    have hsz1 := hz1.trans hsz1
    refine W.widen (k := 4) (n := 66) (Nat.le_of_ble_eq_true rfl) (Nat.le_of_ble_eq_true rfl) ?_
    exact m_iret (Post := fun H v H2 => v = some (.int (nI (qn σ))) ∧ (∃ ad2, CW Γ x (sGlue σ k j tw base) ad2 H2 ∧ Ly b0 (sGlue σ k j tw base) ad2) ∧ FrC x σ ad H H2) hx hb hr hlk hlo dX1_joinBoth_126 ⟨rfl, ⟨va_up ad (qn σ) a, CW.glue hI hk hj hp9 hOx hQx hSs hKn hJn hS1, hy.push rfl hb9 (fun i hi => by have := hW.1.lt hi; omega)⟩, by omega, hFx⟩
  · skip
    refine lv_aload_n hx hb dX1_joinBoth_4 rfl (lv_at hl 1 rfl) ?_
    refine lv_aload_n hx hb dX1_joinBoth_5 rfl (lv_at hl 2 rfl) ?_
    refine ro_V (rest := []) S hK (c_X0_fitsAheadOf l Γ (ad k) (qp σ k) (qu σ k) (qB σ k) (qE σ k) (qg σ k) (rk σ k) (ak σ k) (lk σ k) (hI.2.1 k (by omega)).1 (hI.2.1 k (by omega)).2.1 (ad j) (qp σ j) (qu σ j) (qB σ j) (qE σ j) (qg σ j) (ad j + 1) (ad j + 2) (ad j + 3)) (cwV 1 hts gX1_joinBoth_X0_fitsAheadOf rfl rfl rfl (by decide +kernel) ⟨Nat.le_of_ble_eq_true rfl, Nat.le_of_ble_eq_true rfl⟩) (Ob.recv hK (hW.1.2.2 k (by omega)).1 rfl) ⟨hW.1.2.2 k (by omega), (hW.1.2.2 j (by omega)).1⟩ rfl hl.1 rfl (Nat.le_of_ble_eq_true rfl) dX1_joinBoth_6 ⟨Nat.le_of_ble_eq_true rfl, Nat.le_of_ble_eq_true rfl⟩ ?_
    refine W.eq (g2 := F0 m 9 ls [.int (nI (bP (¬ ad k = ad j ∧ ¬ qE σ k = -1 ∧ qE σ k = qB σ j)))]) rfl ?_
    have hbb := bP_le (¬ ad k = ad j ∧ ¬ qE σ k = -1 ∧ qE σ k = qB σ j)
    refine x_ifeq hx hb (by omega) (tgt := 16) dX1_joinBoth_9 (by decide) (fun c_2 => ?_) (fun c_2 => ?_)
    · skip
      refine lv_iconst (v := nI 0) hx hb dX1_joinBoth_16 (by decide +kernel) ?_
      refine x_e (show nI 0 = nI (more σ k j tw) by unfold more; rw [bP_f (fun q => bP_0 c_2 ⟨fun z => q.2.1 (hy.ne hk hj z), q.2.2.2.2⟩)]) ?_
      refine lv_istore (lv' := [(5, .int (nI (more σ k j tw))), (0, .ref x), (1, .ref (ad k)), (2, .ref (ad j)), (3, .int (nI tw)), (4, .int (nI base))]) hx hb dX1_joinBoth_17 hl (by decide) rfl (fun ls hl => ?_)
      refine x_new (ci := 0) (fs := [.int (nI 0), .int (nI 0), .int (nI 0), .int (nI 0), .int (nI 0), .null, .null, .null]) S in_X1_joinBoth_X0 tyX0 tyX0_ok (by decide +kernel) (by decide +kernel) (by decide +kernel) hK rfl (fun j hj => by rcases (show j = 0 ∨ j = 1 ∨ j = 2 ∨ j = 3 ∨ j = 4 ∨ j = 5 ∨ j = 6 ∨ j = 7 by omega) with rfl | rfl | rfl | rfl | rfl | rfl | rfl | rfl <;> rfl) (Nat.le_of_ble_eq_true rfl) (Nat.le_of_ble_eq_true rfl) dX1_joinBoth_19 (fun H1 hO1 hz1 ho1 => ?_)
      rw [ha] at hO1 hz1 ho1
      refine x_v (congrArg Value.ref ha) ?_
      have hlow : ∀ q : Nat, q < a → H1[q]? = s.heap[q]? := ho1
      refine lv_dup hx hb dX1_joinBoth_22 rfl ?_
      refine lv_aload_n hx hb dX1_joinBoth_23 rfl (lv_at hl 2 rfl) ?_
      refine x_get S in_X1_joinBoth_X0 hK ((hW.1.2.2 k (by omega)).1.kept (hlow _ (by omega))) rfl 0 (by decide) (by decide +kernel) rfl rfl dX1_joinBoth_24 ?_
      refine lv_aload_n hx hb dX1_joinBoth_27 rfl (lv_at hl 3 rfl) ?_
      refine x_get S in_X1_joinBoth_X0 hK ((hW.1.2.2 j (by omega)).1.kept (hlow _ (by omega))) rfl 0 (by decide) (by decide +kernel) rfl rfl dX1_joinBoth_28 ?_
      refine x_add hx hb dX1_joinBoth_31 ?_
      refine m_I (rest := [.ref a]) S hK (c_X0_init l Γ bs a ((qp σ k) + (qp σ j)) (by omega)) (cwI 1 hts gX1_joinBoth_X0_init rfl rfl rfl (hts (.initialized RX0) (by decide +kernel)) (hts (.methodLink RX1 42 yX0_init) (by decide +kernel)) (hts (.instanceMethod yX0_init) (by decide +kernel)) rfl (by decide +kernel) ⟨Nat.le_of_ble_eq_true rfl, Nat.le_of_ble_eq_true rfl⟩) ⟨hO1, hz1⟩ rfl hl.1 rfl (Nat.le_of_ble_eq_true rfl) dX1_joinBoth_32 ⟨Nat.le_of_ble_eq_true rfl, Nat.le_of_ble_eq_true rfl⟩ hlo (fun v H1 lc1 hp hlo => ?_)
      obtain ⟨rfl, hSn, hsz1, ho1⟩ := hp
      refine W.eq (g2 := F0 m 35 ls [.ref a]) rfl ?_
      have hlow : ∀ q : Nat, q < a → H1[q]? = s.heap[q]? := fun q hq => (ho1 q (by omega)).trans (hlow q hq)
      have hS1 := hSn
      refine lv_astore (lv' := [(6, .ref a), (5, .int (nI (more σ k j tw))), (0, .ref x), (1, .ref (ad k)), (2, .ref (ad j)), (3, .int (nI tw)), (4, .int (nI base))]) hx hb dX1_joinBoth_35 hl (by decide) rfl (fun ls hl => ?_)
      refine lv_aload hx hb dX1_joinBoth_37 (lv_at hl 0 rfl) ?_
      refine lv_aload_n hx hb dX1_joinBoth_39 rfl (lv_at hl 3 rfl) ?_
      refine lv_iconst (v := nI 0) hx hb dX1_joinBoth_40 (by decide +kernel) ?_
      refine lv_aload_n hx hb dX1_joinBoth_41 rfl (lv_at hl 3 rfl) ?_
      refine x_get S in_X1_joinBoth_X0 hK ((hW.1.2.2 k (by omega)).1.kept (hlow _ (by omega))) rfl 0 (by decide) (by decide +kernel) rfl rfl dX1_joinBoth_42 ?_
      refine lv_iconst (v := nI 0) hx hb dX1_joinBoth_45 (by decide +kernel) ?_
      refine lv_iconst (v := nI 0) hx hb dX1_joinBoth_46 (by decide +kernel) ?_
      refine m_V (rest := []) S hK (c_X0_takePlaces l Γ bs a ((qp σ k) + (qp σ j)) (0) (-1) (-1) 0 ((fun _ => -1)) ((fun _ => nI 12)) ((fun _ => nI 0)) (by omega) (by omega) (ad k) (qp σ k) (qu σ k) (qB σ k) (qE σ k) (qg σ k) (rk σ k) (ak σ k) (lk σ k) (hI.2.1 k (by omega)).1 (hI.2.1 k (by omega)).2.1 (fun q => hI.2.2.2.2.2.1 _) 0 (qp σ k) 0 0 (by omega) (by omega) (by omega) (by omega) (by have := hW.1.lt (k := k) (by omega); omega) (by omega)) (cwV 5 hts gX1_joinBoth_X0_takePlaces rfl rfl rfl (by decide +kernel) ⟨Nat.le_of_ble_eq_true rfl, Nat.le_of_ble_eq_true rfl⟩) (Ob.recv hK hS1.1 rfl) ⟨hS1, (hW.1.2.2 k (by omega)).kept (fun q q1 q2 => hlow q (by have := hW.1.lt (k := k) (by omega); omega))⟩ rfl hl.1 rfl (Nat.le_of_ble_eq_true rfl) dX1_joinBoth_47 ⟨Nat.le_of_ble_eq_true rfl, Nat.le_of_ble_eq_true rfl⟩ hlo (fun v H1 lc1 hp hlo => ?_)
      obtain ⟨rfl, hSn, hFq, hzq⟩ := hp
      refine W.eq (g2 := F0 m 50 ls []) rfl ?_
      have hlow : ∀ q : Nat, q < a → H1[q]? = s.heap[q]? := fun q hq => (hFq.2 q (by omega) (by omega)).trans (hlow q hq)
      have hS1 := hSn
      have hsz1 := hzq.trans hsz1
      refine lv_aload hx hb dX1_joinBoth_50 (lv_at hl 0 rfl) ?_
      refine lv_aload_n hx hb dX1_joinBoth_52 rfl (lv_at hl 4 rfl) ?_
      refine lv_iconst (v := nI 0) hx hb dX1_joinBoth_53 (by decide +kernel) ?_
      refine lv_aload_n hx hb dX1_joinBoth_54 rfl (lv_at hl 4 rfl) ?_
      refine x_get S in_X1_joinBoth_X0 hK ((hW.1.2.2 j (by omega)).1.kept (hlow _ (by omega))) rfl 0 (by decide) (by decide +kernel) rfl rfl dX1_joinBoth_55 ?_
      refine lv_aload_n hx hb dX1_joinBoth_58 rfl (lv_at hl 3 rfl) ?_
      refine x_get S in_X1_joinBoth_X0 hK ((hW.1.2.2 k (by omega)).1.kept (hlow _ (by omega))) rfl 0 (by decide) (by decide +kernel) rfl rfl dX1_joinBoth_59 ?_
      refine lv_iload_n hx hb dX1_joinBoth_62 rfl (lv_at hl 5 rfl) ?_
      refine m_V (rest := []) S hK (c_X0_takePlaces l Γ bs a ((qp σ k) + (qp σ j)) (0) (-1) (-1) 0 (tpR ((fun _ => -1)) (rk σ k) 0 0 0 (3 * (qp σ k))) (tpB ((fun _ => nI 12)) (ak σ k) 0 0 ((qp σ k) - 1)) (tpB ((fun _ => nI 0)) (lk σ k) 0 0 ((qp σ k) - 1)) (by omega) (by omega) (ad j) (qp σ j) (qu σ j) (qB σ j) (qE σ j) (qg σ j) (rk σ j) (ak σ j) (lk σ j) (hI.2.1 j (by omega)).1 (hI.2.1 j (by omega)).2.1 (fun q => hI.2.2.2.2.2.1 _) 0 (qp σ j) (qp σ k) tw (by omega) (by omega) (by omega) (by omega) (by have := hW.1.lt (k := j) (by omega); omega) (by omega)) (cwV 5 hts gX1_joinBoth_X0_takePlaces rfl rfl rfl (by decide +kernel) ⟨Nat.le_of_ble_eq_true rfl, Nat.le_of_ble_eq_true rfl⟩) (Ob.recv hK hS1.1 rfl) ⟨hS1, (hW.1.2.2 j (by omega)).kept (fun q q1 q2 => hlow q (by have := hW.1.lt (k := j) (by omega); omega))⟩ rfl hl.1 rfl (Nat.le_of_ble_eq_true rfl) dX1_joinBoth_63 ⟨Nat.le_of_ble_eq_true rfl, Nat.le_of_ble_eq_true rfl⟩ hlo (fun v H1 lc1 hp hlo => ?_)
      obtain ⟨rfl, hSn, hFq, hzq⟩ := hp
      refine W.eq (g2 := F0 m 66 ls []) rfl ?_
      have hlow : ∀ q : Nat, q < a → H1[q]? = s.heap[q]? := fun q hq => (hFq.2 q (by omega) (by omega)).trans (hlow q hq)
      have hS1 := hSn
      have hsz1 := hzq.trans hsz1
      refine lv_aload hx hb dX1_joinBoth_66 (lv_at hl 0 rfl) ?_
      refine lv_aload_n hx hb dX1_joinBoth_68 rfl (lv_at hl 3 rfl) ?_
      refine x_get S in_X1_joinBoth_X0 hK ((hW.1.2.2 k (by omega)).1.kept (hlow _ (by omega))) rfl 0 (by decide) (by decide +kernel) rfl rfl dX1_joinBoth_69 ?_
      refine lv_iconst (v := nI 1) hx hb dX1_joinBoth_72 (by decide +kernel) ?_
      refine x_sub hx hb (by omega) dX1_joinBoth_73 ?_
      refine lv_iload hx hb dX1_joinBoth_74 (lv_at hl 6 rfl) ?_
      refine lv_iload hx hb dX1_joinBoth_76 (lv_at hl 1 rfl) ?_
      refine x_add hx hb dX1_joinBoth_78 ?_
      refine lv_iconst (v := nI 1) hx hb dX1_joinBoth_79 (by decide +kernel) ?_
      refine m_V (rest := []) S hK (c_X0_putJoint l Γ bs a ((qp σ k) + (qp σ j)) (0) (-1) (-1) 0 (tpR (tpR ((fun _ => -1)) (rk σ k) 0 0 0 (3 * (qp σ k))) (rk σ j) 0 (qp σ k) tw (3 * (qp σ j))) (tpB (tpB ((fun _ => nI 12)) (ak σ k) 0 0 ((qp σ k) - 1)) (ak σ j) 0 (qp σ k) ((qp σ j) - 1)) (tpB (tpB ((fun _ => nI 0)) (lk σ k) 0 0 ((qp σ k) - 1)) (lk σ j) 0 (qp σ k) ((qp σ j) - 1)) (by omega) (by omega) ((qp σ k) - 1) (nI (base + (more σ k j tw))) (nI 1) (by omega) (by decide +kernel) (by omega)) (cwV 3 hts gX1_joinBoth_X0_putJoint rfl rfl rfl (by decide +kernel) ⟨Nat.le_of_ble_eq_true rfl, Nat.le_of_ble_eq_true rfl⟩) (Ob.recv hK hS1.1 rfl) hS1 rfl hl.1 rfl (Nat.le_of_ble_eq_true rfl) dX1_joinBoth_80 ⟨Nat.le_of_ble_eq_true rfl, Nat.le_of_ble_eq_true rfl⟩ hlo (fun v H1 lc1 hp hlo => ?_)
      obtain ⟨rfl, hSn, hz1, ho1⟩ := hp
      refine W.eq (g2 := F0 m 83 ls []) rfl ?_
      have hlow : ∀ q : Nat, q < a → H1[q]? = s.heap[q]? := fun q hq => (ho1 q (by omega) (by omega)).trans (hlow q hq)
      have hsz1 := hz1.trans hsz1
      have hS1 := hSn
      refine lv_aload hx hb dX1_joinBoth_83 (lv_at hl 0 rfl) ?_
      refine lv_aload_n hx hb dX1_joinBoth_85 rfl (lv_at hl 3 rfl) ?_
      refine x_get S in_X1_joinBoth_X0 hK ((hW.1.2.2 k (by omega)).1.kept (hlow _ (by omega))) rfl 1 (by decide) (by decide +kernel) rfl rfl dX1_joinBoth_86 ?_
      refine x_putX S in_X1_joinBoth_X0 tyX0 tyX0_ok nmX0 hK hS1.1 rfl 1 (by decide) (by decide +kernel) rfl (Or.inl rfl) (tyX0_ok 1 (by decide)) rfl rfl (Nat.le_of_ble_eq_true rfl) hlo (by omega) dX1_joinBoth_89 (fun H1 lc1 hO1 hz1 ho1 hlo => ?_)
      have hO1 : Ob Γ 0 a [.int (nI ((qp σ k) + (qp σ j))), .int (nI (qu σ k)), .int ((-1)), .int ((-1)), .int (nI 0), .ref (a + 1), .ref (a + 2), .ref (a + 3)] H1 := hO1
      have hlow : ∀ q : Nat, q < a → H1[q]? = s.heap[q]? := fun q hq => (ho1 q (by omega)).trans (hlow q hq)
      have hS1 := (⟨hO1, hS1.2.1.kept (ho1 _ (by omega)), hS1.2.2.1.kept (ho1 _ (by omega)), hS1.2.2.2.kept (ho1 _ (by omega))⟩ : _ ∧ _ ∧ _ ∧ _)
      have hsz1 := hz1.trans hsz1
      have hS1 : SW Γ a ((qp σ k) + (qp σ j)) (qu σ k) (-1) (-1) 0 (tpR (tpR ((fun _ => -1)) (rk σ k) 0 0 0 (3 * (qp σ k))) (rk σ j) 0 (qp σ k) tw (3 * (qp σ j))) (upd (tpB (tpB ((fun _ => nI 12)) (ak σ k) 0 0 ((qp σ k) - 1)) (ak σ j) 0 (qp σ k) ((qp σ j) - 1)) ((qp σ k) - 1) (nI (base + (more σ k j tw)))) (upd (tpB (tpB ((fun _ => nI 0)) (lk σ k) 0 0 ((qp σ k) - 1)) (lk σ j) 0 (qp σ k) ((qp σ j) - 1)) ((qp σ k) - 1) (nI 1)) H1 := hS1
      refine lv_aload hx hb dX1_joinBoth_92 (lv_at hl 0 rfl) ?_
      refine lv_aload_n hx hb dX1_joinBoth_94 rfl (lv_at hl 3 rfl) ?_
      refine x_get S in_X1_joinBoth_X0 hK ((hW.1.2.2 k (by omega)).1.kept (hlow _ (by omega))) rfl 2 (by decide) (by decide +kernel) rfl rfl dX1_joinBoth_95 ?_
      refine x_putX S in_X1_joinBoth_X0 tyX0 tyX0_ok nmX0 hK hS1.1 rfl 2 (by decide) (by decide +kernel) rfl (Or.inl rfl) (tyX0_ok 2 (by decide)) rfl rfl (Nat.le_of_ble_eq_true rfl) hlo (by omega) dX1_joinBoth_98 (fun H1 lc1 hO1 hz1 ho1 hlo => ?_)
      have hO1 : Ob Γ 0 a [.int (nI ((qp σ k) + (qp σ j))), .int (nI (qu σ k)), .int (qB σ k), .int ((-1)), .int (nI 0), .ref (a + 1), .ref (a + 2), .ref (a + 3)] H1 := hO1
      have hlow : ∀ q : Nat, q < a → H1[q]? = s.heap[q]? := fun q hq => (ho1 q (by omega)).trans (hlow q hq)
      have hS1 := (⟨hO1, hS1.2.1.kept (ho1 _ (by omega)), hS1.2.2.1.kept (ho1 _ (by omega)), hS1.2.2.2.kept (ho1 _ (by omega))⟩ : _ ∧ _ ∧ _ ∧ _)
      have hsz1 := hz1.trans hsz1
      have hS1 : SW Γ a ((qp σ k) + (qp σ j)) (qu σ k) (qB σ k) (-1) 0 (tpR (tpR ((fun _ => -1)) (rk σ k) 0 0 0 (3 * (qp σ k))) (rk σ j) 0 (qp σ k) tw (3 * (qp σ j))) (upd (tpB (tpB ((fun _ => nI 12)) (ak σ k) 0 0 ((qp σ k) - 1)) (ak σ j) 0 (qp σ k) ((qp σ j) - 1)) ((qp σ k) - 1) (nI (base + (more σ k j tw)))) (upd (tpB (tpB ((fun _ => nI 0)) (lk σ k) 0 0 ((qp σ k) - 1)) (lk σ j) 0 (qp σ k) ((qp σ j) - 1)) ((qp σ k) - 1) (nI 1)) H1 := hS1
      refine lv_aload hx hb dX1_joinBoth_101 (lv_at hl 0 rfl) ?_
      refine lv_aload_n hx hb dX1_joinBoth_103 rfl (lv_at hl 4 rfl) ?_
      refine x_get S in_X1_joinBoth_X0 hK ((hW.1.2.2 j (by omega)).1.kept (hlow _ (by omega))) rfl 3 (by decide) (by decide +kernel) rfl rfl dX1_joinBoth_104 ?_
      refine x_putX S in_X1_joinBoth_X0 tyX0 tyX0_ok nmX0 hK hS1.1 rfl 3 (by decide) (by decide +kernel) rfl (Or.inl rfl) (tyX0_ok 3 (by decide)) rfl rfl (Nat.le_of_ble_eq_true rfl) hlo (by omega) dX1_joinBoth_107 (fun H1 lc1 hO1 hz1 ho1 hlo => ?_)
      have hO1 : Ob Γ 0 a [.int (nI ((qp σ k) + (qp σ j))), .int (nI (qu σ k)), .int (qB σ k), .int (qE σ j), .int (nI 0), .ref (a + 1), .ref (a + 2), .ref (a + 3)] H1 := hO1
      have hlow : ∀ q : Nat, q < a → H1[q]? = s.heap[q]? := fun q hq => (ho1 q (by omega)).trans (hlow q hq)
      have hS1 := (⟨hO1, hS1.2.1.kept (ho1 _ (by omega)), hS1.2.2.1.kept (ho1 _ (by omega)), hS1.2.2.2.kept (ho1 _ (by omega))⟩ : _ ∧ _ ∧ _ ∧ _)
      have hsz1 := hz1.trans hsz1
      have hS1 : SW Γ a ((qp σ k) + (qp σ j)) (qu σ k) (qB σ k) (qE σ j) 0 (tpR (tpR ((fun _ => -1)) (rk σ k) 0 0 0 (3 * (qp σ k))) (rk σ j) 0 (qp σ k) tw (3 * (qp σ j))) (upd (tpB (tpB ((fun _ => nI 12)) (ak σ k) 0 0 ((qp σ k) - 1)) (ak σ j) 0 (qp σ k) ((qp σ j) - 1)) ((qp σ k) - 1) (nI (base + (more σ k j tw)))) (upd (tpB (tpB ((fun _ => nI 0)) (lk σ k) 0 0 ((qp σ k) - 1)) (lk σ j) 0 (qp σ k) ((qp σ j) - 1)) ((qp σ k) - 1) (nI 1)) H1 := hS1
      have hCW := hW.1.kept (fun q hq => hlow q (by omega))
      obtain ⟨hOx, hQx, hSs⟩ := hCW
      have hFx : ∀ q : Nat, q < s.heap.size → q ≠ x → q ≠ x + 1 → (∀ i, i < qn σ → q < ad i ∨ ad i + 4 ≤ q) → _ = s.heap[q]? := fun q q1 _ _ _ => hlow q (by omega)
      refine lv_aload_n hx hb dX1_joinBoth_110 rfl (lv_at hl 3 rfl) ?_
      refine lv_iconst (v := nI 1) hx hb dX1_joinBoth_111 (by decide +kernel) ?_
      refine x_putX S in_X1_joinBoth_X0 tyX0 tyX0_ok nmX0 hK (hSs k hk).1 rfl 4 (by decide) (by decide +kernel) rfl (Or.inl rfl) (tyX0_ok 4 (by decide)) (by decide +kernel) (by decide +kernel) (Nat.le_of_ble_eq_true rfl) hlo (by omega) dX1_joinBoth_112 (fun H1 lc1 hO1 hz1 ho1 hlo => ?_)
      have hO1 : Ob Γ 0 (ad k) [.int (nI (qp σ k)), .int (nI (qu σ k)), .int (qB σ k), .int (qE σ k), .int (nI 1), .ref (ad k + 1), .ref (ad k + 2), .ref (ad k + 3)] H1 := hO1
      have hsz1 := hz1.trans hsz1
      have hGn := (⟨hO1, (hSs k hk).2.1.kept (ho1 _ (by omega)), (hSs k hk).2.2.1.kept (ho1 _ (by omega)), (hSs k hk).2.2.2.kept (ho1 _ (by omega))⟩ : _ ∧ _ ∧ _ ∧ _)
      have hKn : SW Γ (ad k) (qp σ k) (qu σ k) (qB σ k) (qE σ k) 1 (rk σ k) (ak σ k) (lk σ k) H1 := hGn
      have hOx := hOx.kept (ho1 _ (by omega))
      have hQx := hQx.kept (ho1 _ (by omega))
      have hSs : ∀ i, i < qn σ → ¬ i = k → SK Γ σ i (ad i) H1 := fun i hi h0 => (hSs i hi ).kept (fun q q1 q2 => ho1 q (by rcases Nat.lt_or_gt_of_ne h0 with z | z; (have := hy.2 i k z hk; omega); (have := hy.2 k i z hi; omega)))
      have hS1 := hS1.kept (fun q q1 q2 => ho1 q (by omega))
      have hFx : ∀ q : Nat, q < s.heap.size → q ≠ x → q ≠ x + 1 → (∀ i, i < qn σ → q < ad i ∨ ad i + 4 ≤ q) → H1[q]? = s.heap[q]? := fun q q1 q2 q3 q4 => (ho1 q (by have := q4 k hk; have := q4 j hj; omega)).trans (hFx q q1 q2 q3 q4)
      refine lv_aload_n hx hb dX1_joinBoth_115 rfl (lv_at hl 4 rfl) ?_
      refine lv_iconst (v := nI 1) hx hb dX1_joinBoth_116 (by decide +kernel) ?_
      refine x_putX S in_X1_joinBoth_X0 tyX0 tyX0_ok nmX0 hK (hSs j hj (fun e => hkj e.symm)).1 rfl 4 (by decide) (by decide +kernel) rfl (Or.inl rfl) (tyX0_ok 4 (by decide)) (by decide +kernel) (by decide +kernel) (Nat.le_of_ble_eq_true rfl) hlo (by omega) dX1_joinBoth_117 (fun H1 lc1 hO1 hz1 ho1 hlo => ?_)
      have hO1 : Ob Γ 0 (ad j) [.int (nI (qp σ j)), .int (nI (qu σ j)), .int (qB σ j), .int (qE σ j), .int (nI 1), .ref (ad j + 1), .ref (ad j + 2), .ref (ad j + 3)] H1 := hO1
      have hsz1 := hz1.trans hsz1
      have hGn := (⟨hO1, (hSs j hj (fun e => hkj e.symm)).2.1.kept (ho1 _ (by omega)), (hSs j hj (fun e => hkj e.symm)).2.2.1.kept (ho1 _ (by omega)), (hSs j hj (fun e => hkj e.symm)).2.2.2.kept (ho1 _ (by omega))⟩ : _ ∧ _ ∧ _ ∧ _)
      have hJn : SW Γ (ad j) (qp σ j) (qu σ j) (qB σ j) (qE σ j) 1 (rk σ j) (ak σ j) (lk σ j) H1 := hGn
      have hKn := hKn.kept (fun q q1 q2 => ho1 q (by rcases Nat.lt_or_gt_of_ne hkj with z | z; (have := hy.2 k j z hj; omega); (have := hy.2 j k z hk; omega)))
      have hOx := hOx.kept (ho1 _ (by omega))
      have hQx := hQx.kept (ho1 _ (by omega))
      have hSs : ∀ i, i < qn σ → ¬ i = k → ¬ i = j → SK Γ σ i (ad i) H1 := fun i hi h0 h1 => (hSs i hi h0).kept (fun q q1 q2 => ho1 q (by rcases Nat.lt_or_gt_of_ne h1 with z | z; (have := hy.2 i j z hj; omega); (have := hy.2 j i z hi; omega)))
      have hS1 := hS1.kept (fun q q1 q2 => ho1 q (by omega))
      have hFx : ∀ q : Nat, q < s.heap.size → q ≠ x → q ≠ x + 1 → (∀ i, i < qn σ → q < ad i ∨ ad i + 4 ≤ q) → H1[q]? = s.heap[q]? := fun q q1 q2 q3 q4 => (ho1 q (by have := q4 k hk; have := q4 j hj; omega)).trans (hFx q q1 q2 q3 q4)
      refine lv_aload_n hx hb dX1_joinBoth_120 rfl (lv_at hl 2 rfl) ?_
      refine lv_aload hx hb dX1_joinBoth_121 (lv_at hl 0 rfl) ?_
      refine m_V (rest := []) S hK (c_X1_put l Γ bs x (qn σ) (qb σ) (fun k => if k < qn σ then some (ad k) else none) a _ (by omega) (by omega) (by omega)) (cwV 1 hts gX1_joinBoth_X1_put rfl rfl rfl (by decide +kernel) ⟨Nat.le_of_ble_eq_true rfl, Nat.le_of_ble_eq_true rfl⟩) (Ob.recv hK hOx rfl) ⟨hOx, hQx, hS1.1⟩ rfl hl.1 rfl (Nat.le_of_ble_eq_true rfl) dX1_joinBoth_123 ⟨Nat.le_of_ble_eq_true rfl, Nat.le_of_ble_eq_true rfl⟩ hlo (fun v H1 lc1 hp hlo => ?_)
      obtain ⟨rfl, hOx, hQx, hz1, ho1⟩ := hp
      refine W.eq (g2 := F0 m 126 ls [.int (nI (qn σ))]) rfl ?_
      have hS1 := hS1.kept (fun q q1 q2 => ho1 q (by omega) (by omega))
      have hKn := hKn.kept (fun q q1 q2 => ho1 q (by omega) (by omega))
      have hJn := hJn.kept (fun q q1 q2 => ho1 q (by omega) (by omega))
      have hSs : ∀ i, i < qn σ → ¬ i = k → ¬ i = j → SK Γ σ i (ad i) H1 := fun i hi h0 h1 => (hSs i hi h0 h1).kept (fun q q1 q2 => ho1 q (by have := hy.1 i hi; omega) (by have := hy.1 i hi; omega))
      have hFx : ∀ q : Nat, q < s.heap.size → q ≠ x → q ≠ x + 1 → (∀ i, i < qn σ → q < ad i ∨ ad i + 4 ≤ q) → H1[q]? = s.heap[q]? := fun q q1 q2 q3 q4 => (ho1 q q2 q3).trans (hFx q q1 q2 q3 q4)
      have hsz1 := hz1.trans hsz1
      refine W.widen (k := 4) (n := 66) (Nat.le_of_ble_eq_true rfl) (Nat.le_of_ble_eq_true rfl) ?_
      exact m_iret (Post := fun H v H2 => v = some (.int (nI (qn σ))) ∧ (∃ ad2, CW Γ x (sGlue σ k j tw base) ad2 H2 ∧ Ly b0 (sGlue σ k j tw base) ad2) ∧ FrC x σ ad H H2) hx hb hr hlk hlo dX1_joinBoth_126 ⟨rfl, ⟨va_up ad (qn σ) a, CW.glue hI hk hj hp9 hOx hQx hSs hKn hJn hS1, hy.push rfl hb9 (fun i hi => by have := hW.1.lt hi; omega)⟩, by omega, hFx⟩
    · skip
      refine lv_iconst (v := nI 3) hx hb dX1_joinBoth_12 (by decide +kernel) ?_
      refine lv_goto (tgt := 17) hx hb dX1_joinBoth_13 (by decide) ?_
      refine x_e (show nI 3 = nI (more σ k j tw) by unfold more; rw [bP_t ⟨c_1, fun z => (bP_1 c_2).1 (by rw [z]), hk0, hj0, (bP_1 c_2).2⟩]) ?_
      refine lv_istore (lv' := [(5, .int (nI (more σ k j tw))), (0, .ref x), (1, .ref (ad k)), (2, .ref (ad j)), (3, .int (nI tw)), (4, .int (nI base))]) hx hb dX1_joinBoth_17 hl (by decide) rfl (fun ls hl => ?_)
      refine x_new (ci := 0) (fs := [.int (nI 0), .int (nI 0), .int (nI 0), .int (nI 0), .int (nI 0), .null, .null, .null]) S in_X1_joinBoth_X0 tyX0 tyX0_ok (by decide +kernel) (by decide +kernel) (by decide +kernel) hK rfl (fun j hj => by rcases (show j = 0 ∨ j = 1 ∨ j = 2 ∨ j = 3 ∨ j = 4 ∨ j = 5 ∨ j = 6 ∨ j = 7 by omega) with rfl | rfl | rfl | rfl | rfl | rfl | rfl | rfl <;> rfl) (Nat.le_of_ble_eq_true rfl) (Nat.le_of_ble_eq_true rfl) dX1_joinBoth_19 (fun H1 hO1 hz1 ho1 => ?_)
      rw [ha] at hO1 hz1 ho1
      refine x_v (congrArg Value.ref ha) ?_
      have hlow : ∀ q : Nat, q < a → H1[q]? = s.heap[q]? := ho1
      refine lv_dup hx hb dX1_joinBoth_22 rfl ?_
      refine lv_aload_n hx hb dX1_joinBoth_23 rfl (lv_at hl 2 rfl) ?_
      refine x_get S in_X1_joinBoth_X0 hK ((hW.1.2.2 k (by omega)).1.kept (hlow _ (by omega))) rfl 0 (by decide) (by decide +kernel) rfl rfl dX1_joinBoth_24 ?_
      refine lv_aload_n hx hb dX1_joinBoth_27 rfl (lv_at hl 3 rfl) ?_
      refine x_get S in_X1_joinBoth_X0 hK ((hW.1.2.2 j (by omega)).1.kept (hlow _ (by omega))) rfl 0 (by decide) (by decide +kernel) rfl rfl dX1_joinBoth_28 ?_
      refine x_add hx hb dX1_joinBoth_31 ?_
      refine m_I (rest := [.ref a]) S hK (c_X0_init l Γ bs a ((qp σ k) + (qp σ j)) (by omega)) (cwI 1 hts gX1_joinBoth_X0_init rfl rfl rfl (hts (.initialized RX0) (by decide +kernel)) (hts (.methodLink RX1 42 yX0_init) (by decide +kernel)) (hts (.instanceMethod yX0_init) (by decide +kernel)) rfl (by decide +kernel) ⟨Nat.le_of_ble_eq_true rfl, Nat.le_of_ble_eq_true rfl⟩) ⟨hO1, hz1⟩ rfl hl.1 rfl (Nat.le_of_ble_eq_true rfl) dX1_joinBoth_32 ⟨Nat.le_of_ble_eq_true rfl, Nat.le_of_ble_eq_true rfl⟩ hlo (fun v H1 lc1 hp hlo => ?_)
      obtain ⟨rfl, hSn, hsz1, ho1⟩ := hp
      refine W.eq (g2 := F0 m 35 ls [.ref a]) rfl ?_
      have hlow : ∀ q : Nat, q < a → H1[q]? = s.heap[q]? := fun q hq => (ho1 q (by omega)).trans (hlow q hq)
      have hS1 := hSn
      refine lv_astore (lv' := [(6, .ref a), (5, .int (nI (more σ k j tw))), (0, .ref x), (1, .ref (ad k)), (2, .ref (ad j)), (3, .int (nI tw)), (4, .int (nI base))]) hx hb dX1_joinBoth_35 hl (by decide) rfl (fun ls hl => ?_)
      refine lv_aload hx hb dX1_joinBoth_37 (lv_at hl 0 rfl) ?_
      refine lv_aload_n hx hb dX1_joinBoth_39 rfl (lv_at hl 3 rfl) ?_
      refine lv_iconst (v := nI 0) hx hb dX1_joinBoth_40 (by decide +kernel) ?_
      refine lv_aload_n hx hb dX1_joinBoth_41 rfl (lv_at hl 3 rfl) ?_
      refine x_get S in_X1_joinBoth_X0 hK ((hW.1.2.2 k (by omega)).1.kept (hlow _ (by omega))) rfl 0 (by decide) (by decide +kernel) rfl rfl dX1_joinBoth_42 ?_
      refine lv_iconst (v := nI 0) hx hb dX1_joinBoth_45 (by decide +kernel) ?_
      refine lv_iconst (v := nI 0) hx hb dX1_joinBoth_46 (by decide +kernel) ?_
      refine m_V (rest := []) S hK (c_X0_takePlaces l Γ bs a ((qp σ k) + (qp σ j)) (0) (-1) (-1) 0 ((fun _ => -1)) ((fun _ => nI 12)) ((fun _ => nI 0)) (by omega) (by omega) (ad k) (qp σ k) (qu σ k) (qB σ k) (qE σ k) (qg σ k) (rk σ k) (ak σ k) (lk σ k) (hI.2.1 k (by omega)).1 (hI.2.1 k (by omega)).2.1 (fun q => hI.2.2.2.2.2.1 _) 0 (qp σ k) 0 0 (by omega) (by omega) (by omega) (by omega) (by have := hW.1.lt (k := k) (by omega); omega) (by omega)) (cwV 5 hts gX1_joinBoth_X0_takePlaces rfl rfl rfl (by decide +kernel) ⟨Nat.le_of_ble_eq_true rfl, Nat.le_of_ble_eq_true rfl⟩) (Ob.recv hK hS1.1 rfl) ⟨hS1, (hW.1.2.2 k (by omega)).kept (fun q q1 q2 => hlow q (by have := hW.1.lt (k := k) (by omega); omega))⟩ rfl hl.1 rfl (Nat.le_of_ble_eq_true rfl) dX1_joinBoth_47 ⟨Nat.le_of_ble_eq_true rfl, Nat.le_of_ble_eq_true rfl⟩ hlo (fun v H1 lc1 hp hlo => ?_)
      obtain ⟨rfl, hSn, hFq, hzq⟩ := hp
      refine W.eq (g2 := F0 m 50 ls []) rfl ?_
      have hlow : ∀ q : Nat, q < a → H1[q]? = s.heap[q]? := fun q hq => (hFq.2 q (by omega) (by omega)).trans (hlow q hq)
      have hS1 := hSn
      have hsz1 := hzq.trans hsz1
      refine lv_aload hx hb dX1_joinBoth_50 (lv_at hl 0 rfl) ?_
      refine lv_aload_n hx hb dX1_joinBoth_52 rfl (lv_at hl 4 rfl) ?_
      refine lv_iconst (v := nI 0) hx hb dX1_joinBoth_53 (by decide +kernel) ?_
      refine lv_aload_n hx hb dX1_joinBoth_54 rfl (lv_at hl 4 rfl) ?_
      refine x_get S in_X1_joinBoth_X0 hK ((hW.1.2.2 j (by omega)).1.kept (hlow _ (by omega))) rfl 0 (by decide) (by decide +kernel) rfl rfl dX1_joinBoth_55 ?_
      refine lv_aload_n hx hb dX1_joinBoth_58 rfl (lv_at hl 3 rfl) ?_
      refine x_get S in_X1_joinBoth_X0 hK ((hW.1.2.2 k (by omega)).1.kept (hlow _ (by omega))) rfl 0 (by decide) (by decide +kernel) rfl rfl dX1_joinBoth_59 ?_
      refine lv_iload_n hx hb dX1_joinBoth_62 rfl (lv_at hl 5 rfl) ?_
      refine m_V (rest := []) S hK (c_X0_takePlaces l Γ bs a ((qp σ k) + (qp σ j)) (0) (-1) (-1) 0 (tpR ((fun _ => -1)) (rk σ k) 0 0 0 (3 * (qp σ k))) (tpB ((fun _ => nI 12)) (ak σ k) 0 0 ((qp σ k) - 1)) (tpB ((fun _ => nI 0)) (lk σ k) 0 0 ((qp σ k) - 1)) (by omega) (by omega) (ad j) (qp σ j) (qu σ j) (qB σ j) (qE σ j) (qg σ j) (rk σ j) (ak σ j) (lk σ j) (hI.2.1 j (by omega)).1 (hI.2.1 j (by omega)).2.1 (fun q => hI.2.2.2.2.2.1 _) 0 (qp σ j) (qp σ k) tw (by omega) (by omega) (by omega) (by omega) (by have := hW.1.lt (k := j) (by omega); omega) (by omega)) (cwV 5 hts gX1_joinBoth_X0_takePlaces rfl rfl rfl (by decide +kernel) ⟨Nat.le_of_ble_eq_true rfl, Nat.le_of_ble_eq_true rfl⟩) (Ob.recv hK hS1.1 rfl) ⟨hS1, (hW.1.2.2 j (by omega)).kept (fun q q1 q2 => hlow q (by have := hW.1.lt (k := j) (by omega); omega))⟩ rfl hl.1 rfl (Nat.le_of_ble_eq_true rfl) dX1_joinBoth_63 ⟨Nat.le_of_ble_eq_true rfl, Nat.le_of_ble_eq_true rfl⟩ hlo (fun v H1 lc1 hp hlo => ?_)
      obtain ⟨rfl, hSn, hFq, hzq⟩ := hp
      refine W.eq (g2 := F0 m 66 ls []) rfl ?_
      have hlow : ∀ q : Nat, q < a → H1[q]? = s.heap[q]? := fun q hq => (hFq.2 q (by omega) (by omega)).trans (hlow q hq)
      have hS1 := hSn
      have hsz1 := hzq.trans hsz1
      refine lv_aload hx hb dX1_joinBoth_66 (lv_at hl 0 rfl) ?_
      refine lv_aload_n hx hb dX1_joinBoth_68 rfl (lv_at hl 3 rfl) ?_
      refine x_get S in_X1_joinBoth_X0 hK ((hW.1.2.2 k (by omega)).1.kept (hlow _ (by omega))) rfl 0 (by decide) (by decide +kernel) rfl rfl dX1_joinBoth_69 ?_
      refine lv_iconst (v := nI 1) hx hb dX1_joinBoth_72 (by decide +kernel) ?_
      refine x_sub hx hb (by omega) dX1_joinBoth_73 ?_
      refine lv_iload hx hb dX1_joinBoth_74 (lv_at hl 6 rfl) ?_
      refine lv_iload hx hb dX1_joinBoth_76 (lv_at hl 1 rfl) ?_
      refine x_add hx hb dX1_joinBoth_78 ?_
      refine lv_iconst (v := nI 1) hx hb dX1_joinBoth_79 (by decide +kernel) ?_
      refine m_V (rest := []) S hK (c_X0_putJoint l Γ bs a ((qp σ k) + (qp σ j)) (0) (-1) (-1) 0 (tpR (tpR ((fun _ => -1)) (rk σ k) 0 0 0 (3 * (qp σ k))) (rk σ j) 0 (qp σ k) tw (3 * (qp σ j))) (tpB (tpB ((fun _ => nI 12)) (ak σ k) 0 0 ((qp σ k) - 1)) (ak σ j) 0 (qp σ k) ((qp σ j) - 1)) (tpB (tpB ((fun _ => nI 0)) (lk σ k) 0 0 ((qp σ k) - 1)) (lk σ j) 0 (qp σ k) ((qp σ j) - 1)) (by omega) (by omega) ((qp σ k) - 1) (nI (base + (more σ k j tw))) (nI 1) (by omega) (by decide +kernel) (by omega)) (cwV 3 hts gX1_joinBoth_X0_putJoint rfl rfl rfl (by decide +kernel) ⟨Nat.le_of_ble_eq_true rfl, Nat.le_of_ble_eq_true rfl⟩) (Ob.recv hK hS1.1 rfl) hS1 rfl hl.1 rfl (Nat.le_of_ble_eq_true rfl) dX1_joinBoth_80 ⟨Nat.le_of_ble_eq_true rfl, Nat.le_of_ble_eq_true rfl⟩ hlo (fun v H1 lc1 hp hlo => ?_)
      obtain ⟨rfl, hSn, hz1, ho1⟩ := hp
      refine W.eq (g2 := F0 m 83 ls []) rfl ?_
      have hlow : ∀ q : Nat, q < a → H1[q]? = s.heap[q]? := fun q hq => (ho1 q (by omega) (by omega)).trans (hlow q hq)
      have hsz1 := hz1.trans hsz1
      have hS1 := hSn
      refine lv_aload hx hb dX1_joinBoth_83 (lv_at hl 0 rfl) ?_
      refine lv_aload_n hx hb dX1_joinBoth_85 rfl (lv_at hl 3 rfl) ?_
      refine x_get S in_X1_joinBoth_X0 hK ((hW.1.2.2 k (by omega)).1.kept (hlow _ (by omega))) rfl 1 (by decide) (by decide +kernel) rfl rfl dX1_joinBoth_86 ?_
      refine x_putX S in_X1_joinBoth_X0 tyX0 tyX0_ok nmX0 hK hS1.1 rfl 1 (by decide) (by decide +kernel) rfl (Or.inl rfl) (tyX0_ok 1 (by decide)) rfl rfl (Nat.le_of_ble_eq_true rfl) hlo (by omega) dX1_joinBoth_89 (fun H1 lc1 hO1 hz1 ho1 hlo => ?_)
      have hO1 : Ob Γ 0 a [.int (nI ((qp σ k) + (qp σ j))), .int (nI (qu σ k)), .int ((-1)), .int ((-1)), .int (nI 0), .ref (a + 1), .ref (a + 2), .ref (a + 3)] H1 := hO1
      have hlow : ∀ q : Nat, q < a → H1[q]? = s.heap[q]? := fun q hq => (ho1 q (by omega)).trans (hlow q hq)
      have hS1 := (⟨hO1, hS1.2.1.kept (ho1 _ (by omega)), hS1.2.2.1.kept (ho1 _ (by omega)), hS1.2.2.2.kept (ho1 _ (by omega))⟩ : _ ∧ _ ∧ _ ∧ _)
      have hsz1 := hz1.trans hsz1
      have hS1 : SW Γ a ((qp σ k) + (qp σ j)) (qu σ k) (-1) (-1) 0 (tpR (tpR ((fun _ => -1)) (rk σ k) 0 0 0 (3 * (qp σ k))) (rk σ j) 0 (qp σ k) tw (3 * (qp σ j))) (upd (tpB (tpB ((fun _ => nI 12)) (ak σ k) 0 0 ((qp σ k) - 1)) (ak σ j) 0 (qp σ k) ((qp σ j) - 1)) ((qp σ k) - 1) (nI (base + (more σ k j tw)))) (upd (tpB (tpB ((fun _ => nI 0)) (lk σ k) 0 0 ((qp σ k) - 1)) (lk σ j) 0 (qp σ k) ((qp σ j) - 1)) ((qp σ k) - 1) (nI 1)) H1 := hS1
      refine lv_aload hx hb dX1_joinBoth_92 (lv_at hl 0 rfl) ?_
      refine lv_aload_n hx hb dX1_joinBoth_94 rfl (lv_at hl 3 rfl) ?_
      refine x_get S in_X1_joinBoth_X0 hK ((hW.1.2.2 k (by omega)).1.kept (hlow _ (by omega))) rfl 2 (by decide) (by decide +kernel) rfl rfl dX1_joinBoth_95 ?_
      refine x_putX S in_X1_joinBoth_X0 tyX0 tyX0_ok nmX0 hK hS1.1 rfl 2 (by decide) (by decide +kernel) rfl (Or.inl rfl) (tyX0_ok 2 (by decide)) rfl rfl (Nat.le_of_ble_eq_true rfl) hlo (by omega) dX1_joinBoth_98 (fun H1 lc1 hO1 hz1 ho1 hlo => ?_)
      have hO1 : Ob Γ 0 a [.int (nI ((qp σ k) + (qp σ j))), .int (nI (qu σ k)), .int (qB σ k), .int ((-1)), .int (nI 0), .ref (a + 1), .ref (a + 2), .ref (a + 3)] H1 := hO1
      have hlow : ∀ q : Nat, q < a → H1[q]? = s.heap[q]? := fun q hq => (ho1 q (by omega)).trans (hlow q hq)
      have hS1 := (⟨hO1, hS1.2.1.kept (ho1 _ (by omega)), hS1.2.2.1.kept (ho1 _ (by omega)), hS1.2.2.2.kept (ho1 _ (by omega))⟩ : _ ∧ _ ∧ _ ∧ _)
      have hsz1 := hz1.trans hsz1
      have hS1 : SW Γ a ((qp σ k) + (qp σ j)) (qu σ k) (qB σ k) (-1) 0 (tpR (tpR ((fun _ => -1)) (rk σ k) 0 0 0 (3 * (qp σ k))) (rk σ j) 0 (qp σ k) tw (3 * (qp σ j))) (upd (tpB (tpB ((fun _ => nI 12)) (ak σ k) 0 0 ((qp σ k) - 1)) (ak σ j) 0 (qp σ k) ((qp σ j) - 1)) ((qp σ k) - 1) (nI (base + (more σ k j tw)))) (upd (tpB (tpB ((fun _ => nI 0)) (lk σ k) 0 0 ((qp σ k) - 1)) (lk σ j) 0 (qp σ k) ((qp σ j) - 1)) ((qp σ k) - 1) (nI 1)) H1 := hS1
      refine lv_aload hx hb dX1_joinBoth_101 (lv_at hl 0 rfl) ?_
      refine lv_aload_n hx hb dX1_joinBoth_103 rfl (lv_at hl 4 rfl) ?_
      refine x_get S in_X1_joinBoth_X0 hK ((hW.1.2.2 j (by omega)).1.kept (hlow _ (by omega))) rfl 3 (by decide) (by decide +kernel) rfl rfl dX1_joinBoth_104 ?_
      refine x_putX S in_X1_joinBoth_X0 tyX0 tyX0_ok nmX0 hK hS1.1 rfl 3 (by decide) (by decide +kernel) rfl (Or.inl rfl) (tyX0_ok 3 (by decide)) rfl rfl (Nat.le_of_ble_eq_true rfl) hlo (by omega) dX1_joinBoth_107 (fun H1 lc1 hO1 hz1 ho1 hlo => ?_)
      have hO1 : Ob Γ 0 a [.int (nI ((qp σ k) + (qp σ j))), .int (nI (qu σ k)), .int (qB σ k), .int (qE σ j), .int (nI 0), .ref (a + 1), .ref (a + 2), .ref (a + 3)] H1 := hO1
      have hlow : ∀ q : Nat, q < a → H1[q]? = s.heap[q]? := fun q hq => (ho1 q (by omega)).trans (hlow q hq)
      have hS1 := (⟨hO1, hS1.2.1.kept (ho1 _ (by omega)), hS1.2.2.1.kept (ho1 _ (by omega)), hS1.2.2.2.kept (ho1 _ (by omega))⟩ : _ ∧ _ ∧ _ ∧ _)
      have hsz1 := hz1.trans hsz1
      have hS1 : SW Γ a ((qp σ k) + (qp σ j)) (qu σ k) (qB σ k) (qE σ j) 0 (tpR (tpR ((fun _ => -1)) (rk σ k) 0 0 0 (3 * (qp σ k))) (rk σ j) 0 (qp σ k) tw (3 * (qp σ j))) (upd (tpB (tpB ((fun _ => nI 12)) (ak σ k) 0 0 ((qp σ k) - 1)) (ak σ j) 0 (qp σ k) ((qp σ j) - 1)) ((qp σ k) - 1) (nI (base + (more σ k j tw)))) (upd (tpB (tpB ((fun _ => nI 0)) (lk σ k) 0 0 ((qp σ k) - 1)) (lk σ j) 0 (qp σ k) ((qp σ j) - 1)) ((qp σ k) - 1) (nI 1)) H1 := hS1
      have hCW := hW.1.kept (fun q hq => hlow q (by omega))
      obtain ⟨hOx, hQx, hSs⟩ := hCW
      have hFx : ∀ q : Nat, q < s.heap.size → q ≠ x → q ≠ x + 1 → (∀ i, i < qn σ → q < ad i ∨ ad i + 4 ≤ q) → _ = s.heap[q]? := fun q q1 _ _ _ => hlow q (by omega)
      refine lv_aload_n hx hb dX1_joinBoth_110 rfl (lv_at hl 3 rfl) ?_
      refine lv_iconst (v := nI 1) hx hb dX1_joinBoth_111 (by decide +kernel) ?_
      refine x_putX S in_X1_joinBoth_X0 tyX0 tyX0_ok nmX0 hK (hSs k hk).1 rfl 4 (by decide) (by decide +kernel) rfl (Or.inl rfl) (tyX0_ok 4 (by decide)) (by decide +kernel) (by decide +kernel) (Nat.le_of_ble_eq_true rfl) hlo (by omega) dX1_joinBoth_112 (fun H1 lc1 hO1 hz1 ho1 hlo => ?_)
      have hO1 : Ob Γ 0 (ad k) [.int (nI (qp σ k)), .int (nI (qu σ k)), .int (qB σ k), .int (qE σ k), .int (nI 1), .ref (ad k + 1), .ref (ad k + 2), .ref (ad k + 3)] H1 := hO1
      have hsz1 := hz1.trans hsz1
      have hGn := (⟨hO1, (hSs k hk).2.1.kept (ho1 _ (by omega)), (hSs k hk).2.2.1.kept (ho1 _ (by omega)), (hSs k hk).2.2.2.kept (ho1 _ (by omega))⟩ : _ ∧ _ ∧ _ ∧ _)
      have hKn : SW Γ (ad k) (qp σ k) (qu σ k) (qB σ k) (qE σ k) 1 (rk σ k) (ak σ k) (lk σ k) H1 := hGn
      have hOx := hOx.kept (ho1 _ (by omega))
      have hQx := hQx.kept (ho1 _ (by omega))
      have hSs : ∀ i, i < qn σ → ¬ i = k → SK Γ σ i (ad i) H1 := fun i hi h0 => (hSs i hi ).kept (fun q q1 q2 => ho1 q (by rcases Nat.lt_or_gt_of_ne h0 with z | z; (have := hy.2 i k z hk; omega); (have := hy.2 k i z hi; omega)))
      have hS1 := hS1.kept (fun q q1 q2 => ho1 q (by omega))
      have hFx : ∀ q : Nat, q < s.heap.size → q ≠ x → q ≠ x + 1 → (∀ i, i < qn σ → q < ad i ∨ ad i + 4 ≤ q) → H1[q]? = s.heap[q]? := fun q q1 q2 q3 q4 => (ho1 q (by have := q4 k hk; have := q4 j hj; omega)).trans (hFx q q1 q2 q3 q4)
      refine lv_aload_n hx hb dX1_joinBoth_115 rfl (lv_at hl 4 rfl) ?_
      refine lv_iconst (v := nI 1) hx hb dX1_joinBoth_116 (by decide +kernel) ?_
      refine x_putX S in_X1_joinBoth_X0 tyX0 tyX0_ok nmX0 hK (hSs j hj (fun e => hkj e.symm)).1 rfl 4 (by decide) (by decide +kernel) rfl (Or.inl rfl) (tyX0_ok 4 (by decide)) (by decide +kernel) (by decide +kernel) (Nat.le_of_ble_eq_true rfl) hlo (by omega) dX1_joinBoth_117 (fun H1 lc1 hO1 hz1 ho1 hlo => ?_)
      have hO1 : Ob Γ 0 (ad j) [.int (nI (qp σ j)), .int (nI (qu σ j)), .int (qB σ j), .int (qE σ j), .int (nI 1), .ref (ad j + 1), .ref (ad j + 2), .ref (ad j + 3)] H1 := hO1
      have hsz1 := hz1.trans hsz1
      have hGn := (⟨hO1, (hSs j hj (fun e => hkj e.symm)).2.1.kept (ho1 _ (by omega)), (hSs j hj (fun e => hkj e.symm)).2.2.1.kept (ho1 _ (by omega)), (hSs j hj (fun e => hkj e.symm)).2.2.2.kept (ho1 _ (by omega))⟩ : _ ∧ _ ∧ _ ∧ _)
      have hJn : SW Γ (ad j) (qp σ j) (qu σ j) (qB σ j) (qE σ j) 1 (rk σ j) (ak σ j) (lk σ j) H1 := hGn
      have hKn := hKn.kept (fun q q1 q2 => ho1 q (by rcases Nat.lt_or_gt_of_ne hkj with z | z; (have := hy.2 k j z hj; omega); (have := hy.2 j k z hk; omega)))
      have hOx := hOx.kept (ho1 _ (by omega))
      have hQx := hQx.kept (ho1 _ (by omega))
      have hSs : ∀ i, i < qn σ → ¬ i = k → ¬ i = j → SK Γ σ i (ad i) H1 := fun i hi h0 h1 => (hSs i hi h0).kept (fun q q1 q2 => ho1 q (by rcases Nat.lt_or_gt_of_ne h1 with z | z; (have := hy.2 i j z hj; omega); (have := hy.2 j i z hi; omega)))
      have hS1 := hS1.kept (fun q q1 q2 => ho1 q (by omega))
      have hFx : ∀ q : Nat, q < s.heap.size → q ≠ x → q ≠ x + 1 → (∀ i, i < qn σ → q < ad i ∨ ad i + 4 ≤ q) → H1[q]? = s.heap[q]? := fun q q1 q2 q3 q4 => (ho1 q (by have := q4 k hk; have := q4 j hj; omega)).trans (hFx q q1 q2 q3 q4)
      refine lv_aload_n hx hb dX1_joinBoth_120 rfl (lv_at hl 2 rfl) ?_
      refine lv_aload hx hb dX1_joinBoth_121 (lv_at hl 0 rfl) ?_
      refine m_V (rest := []) S hK (c_X1_put l Γ bs x (qn σ) (qb σ) (fun k => if k < qn σ then some (ad k) else none) a _ (by omega) (by omega) (by omega)) (cwV 1 hts gX1_joinBoth_X1_put rfl rfl rfl (by decide +kernel) ⟨Nat.le_of_ble_eq_true rfl, Nat.le_of_ble_eq_true rfl⟩) (Ob.recv hK hOx rfl) ⟨hOx, hQx, hS1.1⟩ rfl hl.1 rfl (Nat.le_of_ble_eq_true rfl) dX1_joinBoth_123 ⟨Nat.le_of_ble_eq_true rfl, Nat.le_of_ble_eq_true rfl⟩ hlo (fun v H1 lc1 hp hlo => ?_)
      obtain ⟨rfl, hOx, hQx, hz1, ho1⟩ := hp
      refine W.eq (g2 := F0 m 126 ls [.int (nI (qn σ))]) rfl ?_
      have hS1 := hS1.kept (fun q q1 q2 => ho1 q (by omega) (by omega))
      have hKn := hKn.kept (fun q q1 q2 => ho1 q (by omega) (by omega))
      have hJn := hJn.kept (fun q q1 q2 => ho1 q (by omega) (by omega))
      have hSs : ∀ i, i < qn σ → ¬ i = k → ¬ i = j → SK Γ σ i (ad i) H1 := fun i hi h0 h1 => (hSs i hi h0 h1).kept (fun q q1 q2 => ho1 q (by have := hy.1 i hi; omega) (by have := hy.1 i hi; omega))
      have hFx : ∀ q : Nat, q < s.heap.size → q ≠ x → q ≠ x + 1 → (∀ i, i < qn σ → q < ad i ∨ ad i + 4 ≤ q) → H1[q]? = s.heap[q]? := fun q q1 q2 q3 q4 => (ho1 q q2 q3).trans (hFx q q1 q2 q3 q4)
      have hsz1 := hz1.trans hsz1
      refine W.widen (k := 4) (n := 66) (Nat.le_of_ble_eq_true rfl) (Nat.le_of_ble_eq_true rfl) ?_
      exact m_iret (Post := fun H v H2 => v = some (.int (nI (qn σ))) ∧ (∃ ad2, CW Γ x (sGlue σ k j tw base) ad2 H2 ∧ Ly b0 (sGlue σ k j tw base) ad2) ∧ FrC x σ ad H H2) hx hb hr hlk hlo dX1_joinBoth_126 ⟨rfl, ⟨va_up ad (qn σ) a, CW.glue hI hk hj hp9 hOx hQx hSs hKn hJn hS1, hy.push rfl hb9 (fun i hi => by have := hW.1.lt hi; omega)⟩, by omega, hFx⟩
theorem in_X1_glue_X0 : ∀ w ∈ wsX00, w ∈ wsX1_glue := by decide +kernel
set_option maxRecDepth 100000 in
theorem ix_X1_glue_IA : ∀ w ∈ (vx_atS RX1 26 eIA nmT).filter goodWord, w ∈ wsX1_glue := by decide +kernel
set_option maxRecDepth 100000 in
theorem ix_X1_glue_IS : ∀ w ∈ (vx_atS RX1 37 eIS nmT).filter goodWord, w ∈ wsX1_glue := by decide +kernel
set_option maxHeartbeats 4000000 in
set_option maxRecDepth 100000 in
theorem c_X1_glue (l : Launch) (hfl : l.stackTraces = false) (Γ : GG) (bs : Nat) (x : Nat) (σ : St) (ad : Nat → Nat) (hI : Iv σ) (b0 : Nat) (y z w r : Int32) (hy : Ly b0 σ ad) (hb0 : x + 2 ≤ b0) (hbs : bs ≤ x) : Tx l yX1_glue wsX1_glue ({ frames := 7, cells := 9, slots := 96, locals := 104 }) Γ bs [.ref x, .int y, .int z, .int w, .int r] (fun H => CW Γ x σ ad H ∧ b0 ≤ H.size) (fun H v H2 => cd3 (inb y (qn σ) ∧ inb z (qn σ)) (inb w 3 ∧ inR r (1 : Nat) (9 : Nat)) (qg σ (y.toInt.toNat) = 0 ∧ qg σ (z.toInt.toNat) = 0 ∧ ¬ y.toInt.toNat = z.toInt.toNat ∧ qp σ (y.toInt.toNat) + qp σ (z.toInt.toNat) ≤ 12 ∧ qn σ < 40) = 0 ∧ v = some (.int (nI (qn σ))) ∧ (∃ ad2, CW Γ x (sGlue σ (y.toInt.toNat) (z.toInt.toNat) w.toInt.toNat r.toInt.toNat) ad2 H2 ∧ Ly b0 (sGlue σ (y.toInt.toNat) (z.toInt.toNat) w.toInt.toNat r.toInt.toNat) ad2) ∧ FrC x σ ad H H2) (px (cd3 (inb y (qn σ) ∧ inb z (qn σ)) (inb w 3 ∧ inR r (1 : Nat) (9 : Nat)) (qg σ (y.toInt.toNat) = 0 ∧ qg σ (z.toInt.toNat) = 0 ∧ ¬ y.toInt.toNat = z.toInt.toNat ∧ qp σ (y.toInt.toNat) + qp σ (z.toInt.toNat) ≤ 12 ∧ qn σ < 40)) [eIO, eIA, eIS]) 9 96 := by
  refine Tx.of (cc := cX1_glue) (maxL := 7) (ret := (some .int)) (by decide) rfl (Nat.le_of_ble_eq_true rfl) ?_
  intro p e s m below meth c S hr hlk hno hK hT hW ls hl
  obtain ⟨hx, hb, hml, hown, hts⟩ := id S
  obtain ⟨lc, elc⟩ : ∃ z : List Loc, z = [] := ⟨_, rfl⟩
  rw [← elc]
  have hlo : lo bs lc := by rw [elc]; exact lo.nil
  clear elc
  have hl : lv_has ls 7 [(0, .ref x), (1, .int y), (2, .int z), (3, .int w), (4, .int r)] := hl
  have hn40 := hI.1
  obtain ⟨hW, hsz0⟩ := hW
  refine lv_aload_n hx hb dX1_glue_0 rfl (lv_at hl 0 rfl) ?_
  refine lv_iload_n hx hb dX1_glue_1 rfl (lv_at hl 1 rfl) ?_
  refine t_V (rest := []) S hK hT (c_X1_known l hfl Γ bs x σ ad hI y) (cwV 1 hts gX1_glue_X1_known rfl rfl rfl (by decide +kernel) ⟨Nat.le_of_ble_eq_true rfl, Nat.le_of_ble_eq_true rfl⟩) (Ob.recv hK hW.1 rfl) hW rfl hl.1 rfl (Nat.le_of_ble_eq_true rfl) dX1_glue_2 ⟨Nat.le_of_ble_eq_true rfl, Nat.le_of_ble_eq_true rfl⟩ hlo hno hlk (fun E h => ⟨0, by rw [h.2]; rfl, cd3_1 (fun q => h.1 q.1)⟩) (Nat.le_of_ble_eq_true rfl) (Nat.le_of_ble_eq_true rfl) (fun v H1 locs1 hp hlo => ?_)
  obtain ⟨hin, rfl, rfl⟩ := hp
  obtain ⟨k, hk, rfl⟩ := inb_ex hin
  obtain ⟨hp0k, hp12k, hu3k, hg1k⟩ := hI.2.1 k hk
  refine W.eq (g2 := F0 m 5 ls [.ref (ad (nI k).toInt.toNat)]) rfl ?_
  refine x_v (show Value.ref (ad (nI k).toInt.toNat) = .ref (ad k) by rw [toN (by omega)]) ?_
  refine lv_astore (lv' := [(5, .ref (ad k)), (0, .ref x), (1, .int (nI k)), (2, .int z), (3, .int w), (4, .int r)]) hx hb dX1_glue_5 hl (by decide) rfl (fun ls hl => ?_)
  refine lv_aload_n hx hb dX1_glue_7 rfl (lv_at hl 1 rfl) ?_
  refine lv_iload_n hx hb dX1_glue_8 rfl (lv_at hl 3 rfl) ?_
  refine t_V (rest := []) S hK hT (c_X1_known l hfl Γ bs x σ ad hI z) (cwV 1 hts gX1_glue_X1_known rfl rfl rfl (by decide +kernel) ⟨Nat.le_of_ble_eq_true rfl, Nat.le_of_ble_eq_true rfl⟩) (Ob.recv hK hW.1 rfl) hW rfl hl.1 rfl (Nat.le_of_ble_eq_true rfl) dX1_glue_9 ⟨Nat.le_of_ble_eq_true rfl, Nat.le_of_ble_eq_true rfl⟩ hlo hno hlk (fun E h => ⟨0, by rw [h.2]; rfl, cd3_1 (fun q => h.1 q.2)⟩) (Nat.le_of_ble_eq_true rfl) (Nat.le_of_ble_eq_true rfl) (fun v H1 locs1 hp hlo => ?_)
  obtain ⟨hin, rfl, rfl⟩ := hp
  obtain ⟨j, hj, rfl⟩ := inb_ex hin
  obtain ⟨hp0j, hp12j, hu3j, hg1j⟩ := hI.2.1 j hj
  refine W.eq (g2 := F0 m 12 ls [.ref (ad (nI j).toInt.toNat)]) rfl ?_
  refine x_v (show Value.ref (ad (nI j).toInt.toNat) = .ref (ad j) by rw [toN (by omega)]) ?_
  refine lv_astore (lv' := [(6, .ref (ad j)), (5, .ref (ad k)), (0, .ref x), (1, .int (nI k)), (2, .int (nI j)), (3, .int w), (4, .int r)]) hx hb dX1_glue_12 hl (by decide) rfl (fun ls hl => ?_)
  refine lv_iload_n hx hb dX1_glue_14 rfl (lv_at hl 5 rfl) ?_
  refine lv_if_lt (tgt := 23) hx hb dX1_glue_15 (by decide) (fun c_1 => ?_) (fun c_1 => ?_)
  · skip
    exact t_throw (is := 92) (text := "a twist is 0 to 2") S hfl (by decide +kernel) (by decide +kernel) (by decide +kernel) ix_X1_glue_IA xb_IA og_IA (by decide +kernel) hT hlo hl.1 dX1_glue_23 dX1_glue_26 dX1_glue_27 dX1_glue_29 dX1_glue_32 hno hlk (Nat.le_of_ble_eq_true rfl) (Nat.le_of_ble_eq_true rfl) (Nat.le_of_ble_eq_true rfl) (Nat.le_of_ble_eq_true rfl) (Nat.le_of_ble_eq_true rfl) (Nat.le_of_ble_eq_true rfl) ⟨1, rfl, cd3_2 ⟨((inb_nI (by omega)).mpr hk), ((inb_nI (by omega)).mpr hj)⟩ (fun q => inb_lt0 c_1 q.1)⟩
  · skip
    refine lv_iload_n hx hb dX1_glue_18 rfl (lv_at hl 5 rfl) ?_
    refine lv_iconst (v := nI 3) hx hb dX1_glue_19 (by decide +kernel) ?_
    refine lv_icmp_lt (tgt := 33) hx hb dX1_glue_20 (by decide) (fun c_2 => ?_) (fun c_2 => ?_)
    · skip
      obtain ⟨i2, hi2, rfl⟩ := inb_ex (inb_of2 c_1 c_2 (by decide))
      refine lv_iload hx hb dX1_glue_33 (lv_at hl 6 rfl) ?_
      refine lv_iconst (v := nI 1) hx hb dX1_glue_35 (by decide +kernel) ?_
      refine lv_icmp_lt (tgt := 46) hx hb dX1_glue_36 (by decide) (fun c_3 => ?_) (fun c_3 => ?_)
      · skip
        exact t_throw (is := 94) (text := "a base of glue is 1 to 9") S hfl (by decide +kernel) (by decide +kernel) (by decide +kernel) ix_X1_glue_IA xb_IA og_IA (by decide +kernel) hT hlo hl.1 dX1_glue_46 dX1_glue_49 dX1_glue_50 dX1_glue_52 dX1_glue_55 hno hlk (Nat.le_of_ble_eq_true rfl) (Nat.le_of_ble_eq_true rfl) (Nat.le_of_ble_eq_true rfl) (Nat.le_of_ble_eq_true rfl) (Nat.le_of_ble_eq_true rfl) (Nat.le_of_ble_eq_true rfl) ⟨1, rfl, cd3_2 ⟨((inb_nI (by omega)).mpr hk), ((inb_nI (by omega)).mpr hj)⟩ (fun q => inR_lt (by decide) c_3 q.2)⟩
      · skip
        refine lv_iload hx hb dX1_glue_39 (lv_at hl 6 rfl) ?_
        refine lv_bipush (v := nI 9) hx hb dX1_glue_41 (by decide +kernel) ?_
        refine lv_icmp_le (tgt := 56) hx hb dX1_glue_43 (by decide) (fun c_4 => ?_) (fun c_4 => ?_)
        · skip
          have hq : inR r (1 : Nat) (9 : Nat) := inR_of (by decide) (by decide) c_3 c_4
          refine lv_aload hx hb dX1_glue_56 (lv_at hl 1 rfl) ?_
          refine t_S (rest := []) S hK hT (c_X1_needThere l hfl Γ bs (ad k) (qp σ k) (qu σ k) (qB σ k) (qE σ k) (qg σ k) (rk σ k) (ak σ k) (lk σ k) (hI.2.1 k (by omega)).2.2.2) (cwS 1 hts gX1_glue_X1_needThere rfl rfl rfl (by decide +kernel) ⟨Nat.le_of_ble_eq_true rfl, Nat.le_of_ble_eq_true rfl⟩) (hW.2.2 k (by omega)) rfl hl.1 rfl (Nat.le_of_ble_eq_true rfl) dX1_glue_58 ⟨Nat.le_of_ble_eq_true rfl, Nat.le_of_ble_eq_true rfl⟩ hlo hno hlk (fun E h => ⟨2, by rw [h.2]; rfl, cd3_3 ⟨((inb_nI (by omega)).mpr hk), ((inb_nI (by omega)).mpr hj)⟩ ⟨(inb_nI (by omega)).mpr hi2, hq⟩ (fun q => h.1 (by have h9 := q.1; rw [toN (by omega)] at h9; exact h9))⟩) (Nat.le_of_ble_eq_true rfl) (Nat.le_of_ble_eq_true rfl) (fun v H1 locs1 hp hlo => ?_)
          obtain ⟨hthk, rfl, rfl⟩ := hp
          refine W.eq (g2 := F0 m 61 ls []) rfl ?_
          refine lv_aload hx hb dX1_glue_61 (lv_at hl 0 rfl) ?_
          refine t_S (rest := []) S hK hT (c_X1_needThere l hfl Γ bs (ad j) (qp σ j) (qu σ j) (qB σ j) (qE σ j) (qg σ j) (rk σ j) (ak σ j) (lk σ j) (hI.2.1 j (by omega)).2.2.2) (cwS 1 hts gX1_glue_X1_needThere rfl rfl rfl (by decide +kernel) ⟨Nat.le_of_ble_eq_true rfl, Nat.le_of_ble_eq_true rfl⟩) (hW.2.2 j (by omega)) rfl hl.1 rfl (Nat.le_of_ble_eq_true rfl) dX1_glue_63 ⟨Nat.le_of_ble_eq_true rfl, Nat.le_of_ble_eq_true rfl⟩ hlo hno hlk (fun E h => ⟨2, by rw [h.2]; rfl, cd3_3 ⟨((inb_nI (by omega)).mpr hk), ((inb_nI (by omega)).mpr hj)⟩ ⟨(inb_nI (by omega)).mpr hi2, hq⟩ (fun q => h.1 (by have h9 := q.2.1; rw [toN (by omega)] at h9; exact h9))⟩) (Nat.le_of_ble_eq_true rfl) (Nat.le_of_ble_eq_true rfl) (fun v H1 locs1 hp hlo => ?_)
          obtain ⟨hthj, rfl, rfl⟩ := hp
          refine W.eq (g2 := F0 m 66 ls []) rfl ?_
          refine lv_aload hx hb dX1_glue_66 (lv_at hl 1 rfl) ?_
          refine lv_aload hx hb dX1_glue_68 (lv_at hl 0 rfl) ?_
          refine lv_acmp_ne (rx := some (ad k)) (ry := some (ad j)) (tgt := 83) hx hb dX1_glue_70 (by decide) (fun c_5 => ?_) (fun c_5 => ?_)
          · skip
            have hkj : ¬ k = j := fun z => c_5 (by rw [z])
            refine lv_aload hx hb dX1_glue_83 (lv_at hl 1 rfl) ?_
            refine x_get S in_X1_glue_X0 hK (hW.2.2 k (by omega)).1 rfl 0 (by decide) (by decide +kernel) rfl rfl dX1_glue_85 ?_
            refine lv_aload hx hb dX1_glue_88 (lv_at hl 0 rfl) ?_
            refine x_get S in_X1_glue_X0 hK (hW.2.2 j (by omega)).1 rfl 0 (by decide) (by decide +kernel) rfl rfl dX1_glue_90 ?_
            refine x_add hx hb dX1_glue_93 ?_
            refine lv_bipush (v := nI 12) hx hb dX1_glue_94 (by decide +kernel) ?_
            refine x_icle hx hb (by omega) (by omega) (tgt := 109) dX1_glue_96 (by decide) (fun c_6 => ?_) (fun c_6 => ?_)
            · skip
              have hqq := hq
              obtain ⟨i3, hi31, hi39, rfl⟩ := inR_ex hqq
              refine lv_aload_n hx hb dX1_glue_109 rfl (lv_at hl 2 rfl) ?_
              refine lv_iconst (v := nI 1) hx hb dX1_glue_110 (by decide +kernel) ?_
              refine t_V (rest := []) S hK hT (c_X1_needNumbersLeft l hfl Γ bs x σ ad hI 1 (by decide)) (cwV 1 hts gX1_glue_X1_needNumbersLeft rfl rfl rfl (by decide +kernel) ⟨Nat.le_of_ble_eq_true rfl, Nat.le_of_ble_eq_true rfl⟩) (Ob.recv hK hW.1 rfl) hW rfl hl.1 rfl (Nat.le_of_ble_eq_true rfl) dX1_glue_111 ⟨Nat.le_of_ble_eq_true rfl, Nat.le_of_ble_eq_true rfl⟩ hlo hno hlk (fun E h => ⟨2, by rw [h.2]; rfl, cd3_3 ⟨((inb_nI (by omega)).mpr hk), ((inb_nI (by omega)).mpr hj)⟩ ⟨(inb_nI (by omega)).mpr hi2, hq⟩ (fun q => h.1 (by have h9 := q.2.2.2.2; omega))⟩) (Nat.le_of_ble_eq_true rfl) (Nat.le_of_ble_eq_true rfl) (fun v H1 locs1 hp hlo => ?_)
              obtain ⟨hnn, rfl, rfl⟩ := hp
              refine W.eq (g2 := F0 m 114 ls []) rfl ?_
              refine lv_aload_n hx hb dX1_glue_114 rfl (lv_at hl 2 rfl) ?_
              refine lv_aload hx hb dX1_glue_115 (lv_at hl 1 rfl) ?_
              refine lv_aload hx hb dX1_glue_117 (lv_at hl 0 rfl) ?_
              refine lv_iload_n hx hb dX1_glue_119 rfl (lv_at hl 5 rfl) ?_
              refine lv_iload hx hb dX1_glue_120 (lv_at hl 6 rfl) ?_
              refine m_V (rest := []) S hK (c_X1_joinBoth l Γ bs x σ ad hI b0 k j i2 i3 hk hj hkj hthk hthj (by omega) (by omega) hi2 hy hb0 hbs) (cwV 4 hts gX1_glue_X1_joinBoth rfl rfl rfl (by decide +kernel) ⟨Nat.le_of_ble_eq_true rfl, Nat.le_of_ble_eq_true rfl⟩) (Ob.recv hK hW.1 rfl) ⟨hW, hsz0⟩ rfl hl.1 rfl (Nat.le_of_ble_eq_true rfl) dX1_glue_122 ⟨Nat.le_of_ble_eq_true rfl, Nat.le_of_ble_eq_true rfl⟩ hlo (fun v H1 lc1 hp hlo => ?_)
              obtain ⟨rfl, hCE, hFr⟩ := hp
              refine W.eq (g2 := F0 m 125 ls [.int (nI (qn σ))]) rfl ?_
              refine W.widen (k := 9) (n := 96) (Nat.le_of_ble_eq_true rfl) (Nat.le_of_ble_eq_true rfl) (vx_ret ?_)
              exact m_iret (Post := fun H v H2 => cd3 (inb (nI k) (qn σ) ∧ inb (nI j) (qn σ)) (inb (nI i2) 3 ∧ inR (nI i3) (1 : Nat) (9 : Nat)) (qg σ ((nI k).toInt.toNat) = 0 ∧ qg σ ((nI j).toInt.toNat) = 0 ∧ ¬ (nI k).toInt.toNat = (nI j).toInt.toNat ∧ qp σ ((nI k).toInt.toNat) + qp σ ((nI j).toInt.toNat) ≤ 12 ∧ qn σ < 40) = 0 ∧ v = some (.int (nI (qn σ))) ∧ (∃ ad2, CW Γ x (sGlue σ ((nI k).toInt.toNat) ((nI j).toInt.toNat) (nI i2).toInt.toNat (nI i3).toInt.toNat) ad2 H2 ∧ Ly b0 (sGlue σ ((nI k).toInt.toNat) ((nI j).toInt.toNat) (nI i2).toInt.toNat (nI i3).toInt.toNat) ad2) ∧ FrC x σ ad H H2) hx hb hr hlk hlo dX1_glue_125 ⟨cd3_0 ⟨((inb_nI (by omega)).mpr hk), ((inb_nI (by omega)).mpr hj)⟩ ⟨(inb_nI (by omega)).mpr hi2, hq⟩ ⟨by rw [toN (by omega)]; exact hthk, by rw [toN (by omega)]; exact hthj, by rw [toN (by omega), toN (by omega)]; exact hkj, by rw [toN (by omega), toN (by omega)]; omega, by omega⟩, rfl, by rw [toN (by omega), toN (by omega), toN (by omega), toN (by omega)]; exact hCE, hFr⟩
            · skip
              exact t_throw (is := 101) (text := "both have more than 12 places together") S hfl (by decide +kernel) (by decide +kernel) (by decide +kernel) ix_X1_glue_IS xb_IS og_IS (by decide +kernel) hT hlo hl.1 dX1_glue_99 dX1_glue_102 dX1_glue_103 dX1_glue_105 dX1_glue_108 hno hlk (Nat.le_of_ble_eq_true rfl) (Nat.le_of_ble_eq_true rfl) (Nat.le_of_ble_eq_true rfl) (Nat.le_of_ble_eq_true rfl) (Nat.le_of_ble_eq_true rfl) (Nat.le_of_ble_eq_true rfl) ⟨2, rfl, cd3_3 ⟨((inb_nI (by omega)).mpr hk), ((inb_nI (by omega)).mpr hj)⟩ ⟨(inb_nI (by omega)).mpr hi2, hq⟩ (fun q => by have h9 := q.2.2.2.1; rw [toN (by omega), toN (by omega)] at h9; omega)⟩
          · skip
            exact t_throw (is := 96) (text := "a stick is not glued to itself") S hfl (by decide +kernel) (by decide +kernel) (by decide +kernel) ix_X1_glue_IS xb_IS og_IS (by decide +kernel) hT hlo hl.1 dX1_glue_73 dX1_glue_76 dX1_glue_77 dX1_glue_79 dX1_glue_82 hno hlk (Nat.le_of_ble_eq_true rfl) (Nat.le_of_ble_eq_true rfl) (Nat.le_of_ble_eq_true rfl) (Nat.le_of_ble_eq_true rfl) (Nat.le_of_ble_eq_true rfl) (Nat.le_of_ble_eq_true rfl) ⟨2, rfl, cd3_3 ⟨((inb_nI (by omega)).mpr hk), ((inb_nI (by omega)).mpr hj)⟩ ⟨(inb_nI (by omega)).mpr hi2, hq⟩ (fun q => q.2.2.1 (by rw [toN (by omega), toN (by omega)]; exact hy.ne hk hj (Option.some.inj c_5)))⟩
        · skip
          exact t_throw (is := 94) (text := "a base of glue is 1 to 9") S hfl (by decide +kernel) (by decide +kernel) (by decide +kernel) ix_X1_glue_IA xb_IA og_IA (by decide +kernel) hT hlo hl.1 dX1_glue_46 dX1_glue_49 dX1_glue_50 dX1_glue_52 dX1_glue_55 hno hlk (Nat.le_of_ble_eq_true rfl) (Nat.le_of_ble_eq_true rfl) (Nat.le_of_ble_eq_true rfl) (Nat.le_of_ble_eq_true rfl) (Nat.le_of_ble_eq_true rfl) (Nat.le_of_ble_eq_true rfl) ⟨1, rfl, cd3_2 ⟨((inb_nI (by omega)).mpr hk), ((inb_nI (by omega)).mpr hj)⟩ (fun q => inR_gt (by decide) c_4 q.2)⟩
    · skip
      exact t_throw (is := 92) (text := "a twist is 0 to 2") S hfl (by decide +kernel) (by decide +kernel) (by decide +kernel) ix_X1_glue_IA xb_IA og_IA (by decide +kernel) hT hlo hl.1 dX1_glue_23 dX1_glue_26 dX1_glue_27 dX1_glue_29 dX1_glue_32 hno hlk (Nat.le_of_ble_eq_true rfl) (Nat.le_of_ble_eq_true rfl) (Nat.le_of_ble_eq_true rfl) (Nat.le_of_ble_eq_true rfl) (Nat.le_of_ble_eq_true rfl) (Nat.le_of_ble_eq_true rfl) ⟨1, rfl, cd3_2 ⟨((inb_nI (by omega)).mpr hk), ((inb_nI (by omega)).mpr hj)⟩ (fun q => c_2 (inb_lt q.1 (Nat.le_refl _) (by decide)))⟩
