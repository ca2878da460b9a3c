/-! counts by numbers; bend and glue on them -/
def c2 (σ : St) (k : Nat) : Nat := rT (rk σ k) (qp σ k)
def c4 (σ : St) (k : Nat) : Nat := gT (lk σ k) (qp σ k - 1)
theorem tot_0 (σ : St) : tot σ 0 = nI (thr σ (qn σ)) := rfl
theorem tot_1 (σ : St) : tot σ 1 = nI (qn σ) := rfl
theorem tot_2 (σ : St) : tot σ 2 = nI (tN σ (c2 σ) (qn σ)) := tS_N (f := fun k => fk σ k 2) fun _ _ => rfl
theorem tot_3 (σ : St) : tot σ 3 = qb σ := rfl
theorem tot_4 (σ : St) : tot σ 4 = nI (tN σ (c4 σ) (qn σ)) := tS_N (f := fun k => fk σ k 3) fun _ _ => rfl
theorem tot_5 (σ : St) : tot σ 5 = nI (tN σ (qp σ) (qn σ)) := tS_N (f := fun k => fk σ k 0) fun _ _ => rfl
theorem tot_6 (σ : St) : tot σ 6 = nI (fA σ (qn σ)) := rfl
theorem c2_le {σ : St} (hI : Iv σ) {k : Nat} (hk : k < qn σ) : c2 σ k ≤ 36 := by
  have h := rT_le (rk σ k) (qp σ k)
  have hp := (hI.2.1 k hk).2.1
  unfold c2
  omega
theorem c4_le {σ : St} (hI : Iv σ) {k : Nat} (hk : k < qn σ) : c4 σ k ≤ 12 := by
  have h := gT_le (lk σ k) (qp σ k - 1)
  have hp := (hI.2.1 k hk).2.1
  unfold c4
  omega
theorem tN_small {σ : St} {g : Nat → Nat} (hI : Iv σ) (h : ∀ k, k < qn σ → g k ≤ 36) : tN σ g (qn σ) ≤ 432 := by
  have h1 := tN_le (σ := σ) (g := g) (c := 36) (n := qn σ) h
  have h2 := hI.2.2.2.2.2.2
  have h3 : 36 * thr σ (qn σ) ≤ 36 * 12 := Nat.mul_le_mul_left 36 h2
  omega
section BEND
variable {σ : St} {k j tw base : Nat}
theorem bd_p0 {i : Nat} (hi : i < qn σ) : qp (sBend σ k j) i = qp σ i := by
  show va_up (va_up (qp σ) (qn σ) _) (qn σ + 1) _ i = _
  rw [va_up_ne _ _ (by omega), va_up_ne _ _ (by omega)]
theorem bd_p1 : qp (sBend σ k j) (qn σ) = j + 1 := by
  show va_up (va_up (qp σ) (qn σ) _) (qn σ + 1) _ (qn σ) = _
  rw [va_up_ne _ _ (by omega), va_up_self]
theorem bd_p2 : qp (sBend σ k j) (qn σ + 1) = qp σ k - (j + 1) := by
  show va_up (va_up (qp σ) (qn σ) _) (qn σ + 1) _ (qn σ + 1) = _
  rw [va_up_self]
theorem bd_c2_0 (hI : Iv σ) (hk : k < qn σ) (hj : j < qp σ k - 1) {i : Nat} (hi : i < qn σ) : c2 (sBend σ k j) i = c2 σ i := by
  have hp := (hI.2.1 i hi).2.1
  unfold c2
  rw [bd_p0 hi]
  exact rT_cong fun q hq => bd_r0 hI hk hj hi (by omega)
theorem bd_c2 (hI : Iv σ) (hk : k < qn σ) (hj : j < qp σ k - 1) : c2 (sBend σ k j) (qn σ) + c2 (sBend σ k j) (qn σ + 1) = c2 σ k := by
  have e := sN_add (rc (rk σ k)) (j + 1) (qp σ k - (j + 1))
  rw [show (j + 1) + (qp σ k - (j + 1)) = qp σ k by omega] at e
  have e1 : rT (rk (sBend σ k j) (qn σ)) (j + 1) = sN (rc (rk σ k)) (j + 1) := rT_cong fun q hq => bd_r1 hI hk hj hq
  have e2 : rT (rk (sBend σ k j) (qn σ + 1)) (qp σ k - (j + 1)) = sN (fun i => rc (rk σ k) ((j + 1) + i)) (qp σ k - (j + 1)) := sN_cong fun p hp => cU_cong fun s hs => (bd_r2 hI hk hj (by omega)).trans (by congr 1; omega)
  unfold c2
  rw [bd_p1, bd_p2, e1, e2]
  exact e.symm
theorem bd_c4_0 (hI : Iv σ) (hk : k < qn σ) (hj : j < qp σ k - 1) {i : Nat} (hi : i < qn σ) : c4 (sBend σ k j) i = c4 σ i := by
  have hp := (hI.2.1 i hi).2.1
  unfold c4
  rw [bd_p0 hi]
  exact gT_cong fun q hq => bB_0 (f := ql σ) (x := nI 0) hI hk hj hi (by omega)
theorem bd_c4 (hI : Iv σ) (hk : k < qn σ) (hj : j < qp σ k - 1) : c4 (sBend σ k j) (qn σ) + (if lk σ k j = 0 then 0 else 1) + c4 (sBend σ k j) (qn σ + 1) = c4 σ k := by
  have e := sN_add (fun i => if lk σ k i = 0 then 0 else 1) j (1 + (qp σ k - (j + 1) - 1))
  have e3 := sN_add (fun i => (fun i => if lk σ k i = 0 then 0 else 1) (j + i)) 1 (qp σ k - (j + 1) - 1)
  rw [show j + (1 + (qp σ k - (j + 1) - 1)) = qp σ k - 1 by omega] at e
  have e1 : gT (lk (sBend σ k j) (qn σ)) (j + 1 - 1) = sN (fun i => if lk σ k i = 0 then 0 else 1) j := by
    rw [Nat.add_sub_cancel]
    exact gT_cong (R' := lk σ k) fun q hq => bB_1 (f := ql σ) (x := nI 0) hI hk hj hq
  have e2 : gT (lk (sBend σ k j) (qn σ + 1)) (qp σ k - (j + 1) - 1) = sN (fun i => (fun i => (fun i => if lk σ k i = 0 then 0 else 1) (j + i)) (1 + i)) (qp σ k - (j + 1) - 1) := sN_cong fun p hp => by
    have h := bB_2 (f := ql σ) (x := nI 0) hI hk hj hp
    show (if lk (sBend σ k j) (qn σ + 1) p = 0 then 0 else 1) = (if lk σ k (j + (1 + p)) = 0 then 0 else 1)
    rw [show lk (sBend σ k j) (qn σ + 1) p = lk σ k (j + (1 + p)) from h.trans (by show ql σ _ = ql σ _; congr 1; omega)]
  have e4 : sN (fun i => (fun i => if lk σ k i = 0 then 0 else 1) (j + i)) 1 = (if lk σ k j = 0 then 0 else 1) := Nat.zero_add _
  have e5 : gT (lk σ k) (qp σ k - 1) = sN (fun i => if lk σ k i = 0 then 0 else 1) (qp σ k - 1) := rfl
  unfold c4
  rw [bd_p1, bd_p2, e1, e2, e5, e, e3, e4, Nat.add_assoc]
theorem bd_s1 (hI : Iv σ) (hk : k < qn σ) (hj : j < qp σ k - 1) {i : Nat} (hi : i < j) : stn (rk (sBend σ k j) (qn σ)) (ak (sBend σ k j) (qn σ)) i = stn (rk σ k) (ak σ k) i :=
  stn_cong (bB_1 (f := qa σ) (x := nI 12) hI hk hj hi) (rc_cong fun s hs => bd_r1 hI hk hj (by omega)) (rc_cong fun s hs => bd_r1 hI hk hj (by omega))
theorem bd_s2 (hI : Iv σ) (hk : k < qn σ) (hj : j < qp σ k - 1) {i : Nat} (hi : i < qp σ k - (j + 1) - 1) : stn (rk (sBend σ k j) (qn σ + 1)) (ak (sBend σ k j) (qn σ + 1)) i = stn (rk σ k) (ak σ k) (j + 1 + i) :=
  stn_cong (bB_2 (f := qa σ) (x := nI 12) hI hk hj hi) (rc_cong fun s hs => (bd_r2 hI hk hj (by omega)).trans (by congr 1; omega)) (rc_cong fun s hs => (bd_r2 hI hk hj (by omega)).trans (by congr 1; omega))
theorem bd_pc (hI : Iv σ) (hk : k < qn σ) (hj : j < qp σ k - 1) {z : Int32} (hz : stn (rk σ k) (ak σ k) j < z) :
    cW (stn (rk (sBend σ k j) (qn σ)) (ak (sBend σ k j) (qn σ))) z (j + 1 - 1) + 1 + cW (stn (rk (sBend σ k j) (qn σ + 1)) (ak (sBend σ k j) (qn σ + 1))) z (qp σ k - (j + 1) - 1) = cW (stn (rk σ k) (ak σ k)) z (qp σ k - 1) := by
  rw [Nat.add_sub_cancel, cW_sN, cW_sN, cW_sN]
  have e := sN_add (fun i => if stn (rk σ k) (ak σ k) i < z then 1 else 0) j (1 + (qp σ k - (j + 1) - 1))
  have e3 := sN_add (fun i => (fun i => if stn (rk σ k) (ak σ k) i < z then 1 else 0) (j + i)) 1 (qp σ k - (j + 1) - 1)
  rw [show j + (1 + (qp σ k - (j + 1) - 1)) = qp σ k - 1 by omega] at e
  have e4 : sN (fun i => (fun i => if stn (rk σ k) (ak σ k) i < z then 1 else 0) (j + i)) 1 = 1 := by
    show 0 + (if stn (rk σ k) (ak σ k) (j + 0) < z then 1 else 0) = 1
    rw [Nat.add_zero, if_pos hz]
  have e1 : sN (fun i => if stn (rk (sBend σ k j) (qn σ)) (ak (sBend σ k j) (qn σ)) i < z then 1 else 0) j = sN (fun i => if stn (rk σ k) (ak σ k) i < z then 1 else 0) j := sN_cong fun i hi => by
    show (if stn (rk (sBend σ k j) (qn σ)) (ak (sBend σ k j) (qn σ)) i < z then 1 else 0) = (if stn (rk σ k) (ak σ k) i < z then 1 else 0)
    rw [bd_s1 hI hk hj hi]
  have e2 : sN (fun i => if stn (rk (sBend σ k j) (qn σ + 1)) (ak (sBend σ k j) (qn σ + 1)) i < z then 1 else 0) (qp σ k - (j + 1) - 1) = sN (fun i => (fun i => (fun i => if stn (rk σ k) (ak σ k) i < z then 1 else 0) (j + i)) (1 + i)) (qp σ k - (j + 1) - 1) := sN_cong fun i hi => by
    show (if stn (rk (sBend σ k j) (qn σ + 1)) (ak (sBend σ k j) (qn σ + 1)) i < z then 1 else 0) = (if stn (rk σ k) (ak σ k) (j + (1 + i)) < z then 1 else 0)
    rw [bd_s2 hI hk hj hi, show j + 1 + i = j + (1 + i) by omega]
  rw [e1, e2, e, e3, e4]
  exact Nat.add_assoc _ _ _
theorem gl_p0 {i : Nat} (hi : i < qn σ) : qp (sGlue σ k j tw base) i = qp σ i := by
  show va_up (qp σ) (qn σ) _ i = _
  rw [va_up_ne _ _ (by omega)]
theorem gl_p1 : qp (sGlue σ k j tw base) (qn σ) = qp σ k + qp σ j := by
  show va_up (qp σ) (qn σ) _ (qn σ) = _
  rw [va_up_self]
theorem gl_c2_0 (hI : Iv σ) (hk : k < qn σ) (hj : j < qn σ) (hp : qp σ k + qp σ j ≤ 12) {i : Nat} (hi : i < qn σ) : c2 (sGlue σ k j tw base) i = c2 σ i := by
  have hp9 := (hI.2.1 i hi).2.1
  unfold c2
  rw [gl_p0 hi]
  exact rT_cong fun q hq => gl_r0 hk hj hp hi (by omega)
theorem gl_c2 (hk : k < qn σ) (hj : j < qn σ) (hp : qp σ k + qp σ j ≤ 12) (htw : tw < 3) : c2 (sGlue σ k j tw base) (qn σ) = c2 σ k + c2 σ j := by
  have e := sN_add (rc (rk (sGlue σ k j tw base) (qn σ))) (qp σ k) (qp σ j)
  have e1 : sN (rc (rk (sGlue σ k j tw base) (qn σ))) (qp σ k) = rT (rk σ k) (qp σ k) := rT_cong (R := rk (sGlue σ k j tw base) (qn σ)) fun q hq => gl_r1 hk hj hp hq
  have e2 : sN (fun i => rc (rk (sGlue σ k j tw base) (qn σ)) (qp σ k + i)) (qp σ j) = rT (rk σ j) (qp σ j) := sN_cong fun p hp9 => (cU_cong fun s hs => gl_r2 hk hj hp hp9 hs).trans (rc_turn (rk σ j) p tw htw)
  unfold c2
  rw [gl_p1, ← e1, ← e2]
  exact e
theorem gl_c4_0 (hI : Iv σ) (hk : k < qn σ) (hj : j < qn σ) (hp : qp σ k + qp σ j ≤ 12) {i : Nat} (hi : i < qn σ) : c4 (sGlue σ k j tw base) i = c4 σ i := by
  have hp9 := (hI.2.1 i hi).2.1
  unfold c4
  rw [gl_p0 hi]
  exact gT_cong fun q hq => gBs_0 (f := ql σ) (x := nI 0) (y := nI 1) hk hj hp hi (by omega)
theorem gl_c4 (hI : Iv σ) (hk : k < qn σ) (hj : j < qn σ) (hp : qp σ k + qp σ j ≤ 12) : c4 (sGlue σ k j tw base) (qn σ) = c4 σ k + 1 + c4 σ j := by
  have h1 := (hI.2.1 k hk).1
  have h2 := (hI.2.1 j hj).1
  have e := sN_add (fun i => if lk (sGlue σ k j tw base) (qn σ) i = 0 then 0 else 1) (qp σ k - 1) (1 + (qp σ j - 1))
  have e3 := sN_add (fun i => (fun i => if lk (sGlue σ k j tw base) (qn σ) i = 0 then 0 else 1) (qp σ k - 1 + i)) 1 (qp σ j - 1)
  rw [show qp σ k - 1 + (1 + (qp σ j - 1)) = qp σ k + qp σ j - 1 by omega] at e
  have e4 : sN (fun i => (fun i => if lk (sGlue σ k j tw base) (qn σ) i = 0 then 0 else 1) (qp σ k - 1 + i)) 1 = 1 := by
    have h := gBs_2 (σ := σ) (k := k) (j := j) (f := ql σ) (x := nI 0) (y := nI 1)
    have h9 : lk (sGlue σ k j tw base) (qn σ) (qp σ k - 1) = nI 1 := h
    show 0 + (if lk (sGlue σ k j tw base) (qn σ) (qp σ k - 1 + 0) = 0 then 0 else 1) = 1
    rw [Nat.add_zero, h9, if_neg (by decide +kernel)]
  have e1 : sN (fun i => if lk (sGlue σ k j tw base) (qn σ) i = 0 then 0 else 1) (qp σ k - 1) = gT (lk σ k) (qp σ k - 1) := gT_cong (R := lk (sGlue σ k j tw base) (qn σ)) fun q hq => gBs_1 (f := ql σ) (x := nI 0) (y := nI 1) hk hj hp hq
  have e2 : sN (fun i => (fun i => (fun i => if lk (sGlue σ k j tw base) (qn σ) i = 0 then 0 else 1) (qp σ k - 1 + i)) (1 + i)) (qp σ j - 1) = gT (lk σ j) (qp σ j - 1) := sN_cong fun p hp9 => by
    have h := gBs_3 (f := ql σ) (x := nI 0) (y := nI 1) hk hj hp h1 hp9
    have h9 : lk (sGlue σ k j tw base) (qn σ) (qp σ k + p) = lk σ j p := h
    show (if lk (sGlue σ k j tw base) (qn σ) (qp σ k - 1 + (1 + p)) = 0 then 0 else 1) = (if lk σ j p = 0 then 0 else 1)
    rw [show qp σ k - 1 + (1 + p) = qp σ k + p by omega, h9]
  have e5 : gT (lk (sGlue σ k j tw base) (qn σ)) (qp σ k + qp σ j - 1) = sN (fun i => if lk (sGlue σ k j tw base) (qn σ) i = 0 then 0 else 1) (qp σ k + qp σ j - 1) := rfl
  unfold c4
  rw [gl_p1, e5, e, e3, e1, e2, e4, Nat.add_assoc]
end BEND
/-! counts behind bend, glue, make, carve -/
theorem n2_bend {σ : St} {k j : Nat} (hI : Iv σ) (hk : k < qn σ) (h0 : qg σ k = 0) (hj : j < qp σ k - 1) : tN (sBend σ k j) (c2 (sBend σ k j)) (qn σ + 1 + 1) = tN σ (c2 σ) (qn σ) := by
  have h := tN_bend (j := j) (g := c2 σ) (g' := c2 (sBend σ k j)) hI hk h0 (fun i hi => bd_c2_0 hI hk hj hi)
  have h2 := bd_c2 hI hk hj
  omega
theorem n5_bend {σ : St} {k j : Nat} (hI : Iv σ) (hk : k < qn σ) (h0 : qg σ k = 0) (hj : j < qp σ k - 1) : tN (sBend σ k j) (qp (sBend σ k j)) (qn σ + 1 + 1) = tN σ (qp σ) (qn σ) := by
  have h := tN_bend (j := j) (g := qp σ) (g' := qp (sBend σ k j)) hI hk h0 (fun i hi => bd_p0 hi)
  have h1 := bd_p1 (σ := σ) (k := k) (j := j)
  have h2 := bd_p2 (σ := σ) (k := k) (j := j)
  omega
theorem n4_bend {σ : St} {k j : Nat} (hI : Iv σ) (hk : k < qn σ) (h0 : qg σ k = 0) (hj : j < qp σ k - 1) : tN (sBend σ k j) (c4 (sBend σ k j)) (qn σ + 1 + 1) ≤ tN σ (c4 σ) (qn σ) ∧ tN σ (c4 σ) (qn σ) ≤ tN (sBend σ k j) (c4 (sBend σ k j)) (qn σ + 1 + 1) + 1 := by
  have h := tN_bend (j := j) (g := c4 σ) (g' := c4 (sBend σ k j)) hI hk h0 (fun i hi => bd_c4_0 hI hk hj hi)
  have h2 := bd_c4 hI hk hj
  have h3 : (if lk σ k j = 0 then 0 else 1) ≤ 1 := by split <;> omega
  omega
section GL
variable {σ : St} {k j tw base : Nat}
theorem n2_glue (hI : Iv σ) (hk : k < qn σ) (hj : j < qn σ) (hkj : ¬ k = j) (h0 : qg σ k = 0) (h1 : qg σ j = 0) (hp : qp σ k + qp σ j ≤ 12) (htw : tw < 3) : tN (sGlue σ k j tw base) (c2 (sGlue σ k j tw base)) (qn σ + 1) = tN σ (c2 σ) (qn σ) := by
  have h := tN_glue (tw := tw) (base := base) (g := c2 σ) (g' := c2 (sGlue σ k j tw base)) hI hk hj hkj h0 h1 (fun i hi => gl_c2_0 hI hk hj hp hi)
  have h2 := gl_c2 (base := base) hk hj hp htw
  omega
theorem n5_glue (hI : Iv σ) (hk : k < qn σ) (hj : j < qn σ) (hkj : ¬ k = j) (h0 : qg σ k = 0) (h1 : qg σ j = 0) : tN (sGlue σ k j tw base) (qp (sGlue σ k j tw base)) (qn σ + 1) = tN σ (qp σ) (qn σ) := by
  have h := tN_glue (tw := tw) (base := base) (g := qp σ) (g' := qp (sGlue σ k j tw base)) hI hk hj hkj h0 h1 (fun i hi => gl_p0 hi)
  have h2 := gl_p1 (σ := σ) (k := k) (j := j) (tw := tw) (base := base)
  omega
theorem n4_glue (hI : Iv σ) (hk : k < qn σ) (hj : j < qn σ) (hkj : ¬ k = j) (h0 : qg σ k = 0) (h1 : qg σ j = 0) (hp : qp σ k + qp σ j ≤ 12) : tN (sGlue σ k j tw base) (c4 (sGlue σ k j tw base)) (qn σ + 1) = tN σ (c4 σ) (qn σ) + 1 := by
  have h := tN_glue (tw := tw) (base := base) (g := c4 σ) (g' := c4 (sGlue σ k j tw base)) hI hk hj hkj h0 h1 (fun i hi => gl_c4_0 hI hk hj hp hi)
  have h2 := gl_c4 (tw := tw) (base := base) hI hk hj hp
  omega
end GL
theorem rT_upd {R : Nat → Int32} {P w d r : Nat} (hw : w < P) (hd : d < 3) (hr : r < 24) : rT (upd R (3 * w + d) (nI r)) P = rT R P + (if R (3 * w + d) = -1 then 1 else 0) := by
  have hr1 : ¬ nI r = -1 := fun h => by
    have h1 := nI_toInt (show r < 2 ^ 31 by omega)
    rw [h] at h1
    have h2 : (-1 : Int32).toInt = -1 := by decide +kernel
    omega
  have hrc : rc (upd R (3 * w + d) (nI r)) w = rc R w + (if R (3 * w + d) = -1 then 1 else 0) := by
    have hz : ∀ x : Int32, (if x = -1 then 0 else 1) + (if x = -1 then 1 else 0) = 1 := fun x => by split <;> rfl
    have h0 := hz (R (3 * w + d))
    show (0 + (if upd R (3 * w + d) (nI r) (3 * w + 0) = -1 then 0 else 1) + (if upd R (3 * w + d) (nI r) (3 * w + 1) = -1 then 0 else 1) + (if upd R (3 * w + d) (nI r) (3 * w + 2) = -1 then 0 else 1)) = (0 + (if R (3 * w + 0) = -1 then 0 else 1) + (if R (3 * w + 1) = -1 then 0 else 1) + (if R (3 * w + 2) = -1 then 0 else 1)) + (if R (3 * w + d) = -1 then 1 else 0)
    rcases (show d = 0 ∨ d = 1 ∨ d = 2 by omega) with rfl | rfl | rfl
    · rw [upd_s, upd_n (show 3 * w + 1 ≠ 3 * w + 0 by omega), upd_n (show 3 * w + 2 ≠ 3 * w + 0 by omega), if_neg hr1]
      generalize (if R (3 * w + 0) = -1 then 1 else 0) = b0 at *
      generalize (if R (3 * w + 0) = -1 then 0 else 1) = b1 at *
      generalize (if R (3 * w + 1) = -1 then 0 else 1) = b2 at *
      generalize (if R (3 * w + 2) = -1 then 0 else 1) = b3 at *
      omega
    · rw [upd_s, upd_n (show 3 * w + 0 ≠ 3 * w + 1 by omega), upd_n (show 3 * w + 2 ≠ 3 * w + 1 by omega), if_neg hr1]
      generalize (if R (3 * w + 1) = -1 then 1 else 0) = b0 at *
      generalize (if R (3 * w + 0) = -1 then 0 else 1) = b1 at *
      generalize (if R (3 * w + 1) = -1 then 0 else 1) = b2 at *
      generalize (if R (3 * w + 2) = -1 then 0 else 1) = b3 at *
      omega
    · rw [upd_s, upd_n (show 3 * w + 0 ≠ 3 * w + 2 by omega), upd_n (show 3 * w + 1 ≠ 3 * w + 2 by omega), if_neg hr1]
      generalize (if R (3 * w + 2) = -1 then 1 else 0) = b0 at *
      generalize (if R (3 * w + 0) = -1 then 0 else 1) = b1 at *
      generalize (if R (3 * w + 1) = -1 then 0 else 1) = b2 at *
      generalize (if R (3 * w + 2) = -1 then 0 else 1) = b3 at *
      omega
  have hother : ∀ i, ¬ i = w → rc (upd R (3 * w + d) (nI r)) i = rc R i := fun i hi => rc_cong fun s hs => upd_n (by omega)
  have e1 := sN_add (rc (upd R (3 * w + d) (nI r))) w (1 + (P - w - 1))
  have e2 := sN_add (fun i => rc (upd R (3 * w + d) (nI r)) (w + i)) 1 (P - w - 1)
  have e3 := sN_add (rc R) w (1 + (P - w - 1))
  have e4 := sN_add (fun i => rc R (w + i)) 1 (P - w - 1)
  rw [show w + (1 + (P - w - 1)) = P by omega] at e1 e3
  have e5 : sN (rc (upd R (3 * w + d) (nI r))) w = sN (rc R) w := sN_cong fun i hi => hother i (by omega)
  have e6 : sN (fun i => (fun i => rc (upd R (3 * w + d) (nI r)) (w + i)) (1 + i)) (P - w - 1) = sN (fun i => (fun i => rc R (w + i)) (1 + i)) (P - w - 1) := sN_cong fun i hi => hother (w + (1 + i)) (by omega)
  have e7 : sN (fun i => rc (upd R (3 * w + d) (nI r)) (w + i)) 1 = rc (upd R (3 * w + d) (nI r)) w := Nat.zero_add _
  have e8 : sN (fun i => rc R (w + i)) 1 = rc R w := Nat.zero_add _
  have E1 : sN (rc (upd R (3 * w + d) (nI r))) P = sN (rc R) w + (rc (upd R (3 * w + d) (nI r)) w + sN (fun i => rc R (w + (1 + i))) (P - w - 1)) := e1.trans (congr (congrArg HAdd.hAdd e5) (e2.trans (congr (congrArg HAdd.hAdd e7) e6)))
  have E3 : sN (rc R) P = sN (rc R) w + (rc R w + sN (fun i => rc R (w + (1 + i))) (P - w - 1)) := e3.trans (congrArg (sN (rc R) w + ·) (e4.trans (congr (congrArg HAdd.hAdd e8) rfl)))
  unfold rT
  rw [E1, E3, hrc]
  omega
theorem rk_rune_o {σ : St} {k i x : Nat} {r : Int32} (hi : ¬ i = k) (hx : x < 36) {q : Nat} (hq : q < 36) : rk (o_rune σ (36 * k + x) r) i q = rk σ i q := by
  show upd (qr σ) (36 * k + x) r (36 * i + q) = qr σ (36 * i + q)
  rw [upd_n (by omega)]
theorem rk_rune_s {σ : St} {k x : Nat} {r : Int32} : rk (o_rune σ (36 * k + x) r) k = upd (rk σ k) x r := by
  funext q
  show upd (qr σ) (36 * k + x) r (36 * k + q) = upd (rk σ k) x r q
  by_cases e : q = x
  · rw [e, upd_s, upd_s]
  · rw [upd_n (by omega), upd_n e]
    rfl
theorem n2_carve {σ : St} {k w d r : Nat} (hI : Iv σ) (hk : k < qn σ) (h0 : qg σ k = 0) (hw : w < qp σ k) (hd : d < 3) (hr : r < 24) : tN (o_rune σ (36 * k + (3 * w + d)) (nI r)) (c2 (o_rune σ (36 * k + (3 * w + d)) (nI r))) (qn σ) = tN σ (c2 σ) (qn σ) + (if rk σ k (3 * w + d) = -1 then 1 else 0) := by
  have hp := hI.2.1 k hk
  have h := tN_one (σ := σ) (σ' := o_rune σ (36 * k + (3 * w + d)) (nI r)) (k := k) (g := c2 σ) (g' := c2 (o_rune σ (36 * k + (3 * w + d)) (nI r))) rfl h0 (qn σ) (fun i hi hik => rT_cong fun q hq => rk_rune_o hik (by omega) (by
    have h9 : q < 3 * qp σ i := hq
    have := (hI.2.1 i hi).2.1
    omega))
  rw [if_pos hk, if_pos hk] at h
  have h2 : c2 (o_rune σ (36 * k + (3 * w + d)) (nI r)) k = c2 σ k + (if rk σ k (3 * w + d) = -1 then 1 else 0) := by
    unfold c2
    rw [rk_rune_s]
    exact rT_upd hw hd hr
  omega
theorem mk_c2 {σ : St} {P : Nat} (hI : Iv σ) (hP : P ≤ 12) : c2 (sMake σ P) (qn σ) = 0 := by
  unfold c2
  have hp : qp (sMake σ P) (qn σ) = P := by
    show va_up (qp σ) (qn σ) P (qn σ) = P
    rw [va_up_self]
  rw [hp]
  have h : ∀ n, n ≤ 12 → rT (rk (sMake σ P) (qn σ)) n = 0 := fun n => by
    induction n with
    | zero => exact fun _ => rfl
    | succ n ih =>
      intro hn
      show rT (rk (sMake σ P) (qn σ)) n + rc (rk (sMake σ P) (qn σ)) n = 0
      have e : rc (rk (sMake σ P) (qn σ)) n = 0 := by
        have z : ∀ s, s < 3 → rk (sMake σ P) (qn σ) (3 * n + s) = -1 := fun s hs => hI.2.2.2.2.1 _ (by omega)
        have e1 := cU_cong (f := fun s => rk (sMake σ P) (qn σ) (3 * n + s)) (g := fun _ => -1) (n := 3) z
        exact e1
      rw [ih (by omega), e]
  exact h P hP
