/-- the reference's world: the object, its rows behind it -/
def MW (Γ : GG) (mo : Nat) (th : Int32) (σ : St) (g1 g2 : Nat → Int32) (H : Heap) : Prop :=
  Ob Γ 2 mo [.int th, .int (nI (qn σ)), .int (qb σ), .ref (mo + 1), .ref (mo + 2), .ref (mo + 3), .ref (mo + 4), .ref (mo + 5), .ref (mo + 6), .ref (mo + 7), .ref (mo + 8), .ref (mo + 9), .ref (mo + 10)] H ∧
  Ai Γ (mo + 1) 40 (fun k => nI (qp σ k)) H ∧ Ai Γ (mo + 2) 40 (fun k => nI (qu σ k)) H ∧ Ai Γ (mo + 3) 40 (fun k => nI (qg σ k)) H ∧ Ai Γ (mo + 4) 40 (qB σ) H ∧ Ai Γ (mo + 5) 40 (qE σ) H ∧
  Ai Γ (mo + 6) 1440 (fun i => qr σ i + 1) H ∧ Ai Γ (mo + 7) 480 (qa σ) H ∧ Ai Γ (mo + 8) 480 (ql σ) H ∧ Ai Γ (mo + 9) 12 g1 H ∧ Ai Γ (mo + 10) 12 g2 H
theorem bP_iff {P Q : Prop} (h : P ↔ Q) : bP P = bP Q := by
  by_cases q : Q
  · rw [bP_t q, bP_t (h.mpr q)]
  · rw [bP_f q, bP_f (fun z => q (h.mp z))]
theorem pn_toInt {n : Nat} (hn : n < 2 ^ 31) : (pn n).toInt = (n : Int) - 1 := by
  cases n with
  | zero => decide +kernel
  | succ k =>
    rw [pn_s, nI_toInt (by omega)]
    omega
theorem isin_iff {x a b : Int32} {n : Nat} (ha : a.toInt = 0) (hb : b.toInt = (n : Int) - 1) : (a ≤ x ∧ x ≤ b) ↔ inb x n := by
  unfold inb
  rw [Int32.le_iff_toInt_le, Int32.le_iff_toInt_le, ha, hb]
  omega
theorem nI0_toInt : (nI 0).toInt = 0 := by decide +kernel
theorem isin_pn {x : Int32} {n : Nat} (hn : n < 2 ^ 31) : (nI 0 ≤ x ∧ x ≤ pn n) ↔ inb x n := isin_iff nI0_toInt (pn_toInt hn)
theorem isin_3 {x : Int32} : (nI 0 ≤ x ∧ x ≤ nI 2) ↔ inb x 3 := isin_iff nI0_toInt (by decide +kernel)
theorem isin_24 {x : Int32} : (nI 0 ≤ x ∧ x ≤ nI 23) ↔ inb x 24 := isin_iff nI0_toInt (by decide +kernel)
theorem isin_7 {x : Int32} : (nI 0 ≤ x ∧ x ≤ nI 6) ↔ inb x 7 := isin_iff nI0_toInt (by decide +kernel)
theorem isin_N {x : Int32} {k : Nat} (hk : k < 2 ^ 31) (h0 : 1 ≤ k) : (nI 0 ≤ x ∧ x ≤ nI (k - 1)) ↔ inb x k := isin_iff nI0_toInt (by rw [nI_toInt (by omega)]; omega)
def spotP (σ : St) (x s p : Int32) : Prop := inb x (qn σ) ∧ inb s 3 ∧ inb p (qp σ x.toInt.toNat)
theorem toN {k : Nat} (hk : k < 2 ^ 31) : (nI k).toInt.toNat = k := by
  rw [nI_toInt hk, Int.toNat_natCast]
theorem thr_m {σ : St} {i : Nat} (h : qg σ i ≤ 1) : thr σ (i + 1) = thr σ i + (1 - qg σ i) := by
  rcases Nat.eq_zero_or_pos (qg σ i) with q | q
  · rw [thr_y q]; omega
  · rw [thr_n q]; omega
theorem okR_t {x : Int32} (h : okR x) (h2 : x + 1 ≤ 0) : x = -1 := by
  rcases h with h | ⟨r, hr, rfl⟩
  · exact h
  · rw [nI_1] at h2
    exact absurd h2 (nI_nle (by omega) (by omega))
theorem okR_f {x : Int32} (h2 : ¬ x + 1 ≤ 0) : ¬ x = -1 := by
  intro q
  rw [q] at h2
  exact h2 (by decide +kernel)
theorem okR_z {x : Int32} (h2 : x + 1 = 0) : x = -1 := by
  have h3 : x + 1 + -1 = 0 + -1 := by rw [h2]
  rw [Int32.add_assoc] at h3
  have h4 : (1 : Int32) + -1 = 0 := by decide +kernel
  rw [h4, Int32.add_zero, Int32.zero_add] at h3
  exact h3
theorem okR_nz {x : Int32} (h2 : ¬ x + 1 = 0) : ¬ x = -1 := by
  intro q
  rw [q] at h2
  exact h2 (by decide +kernel)
theorem add1_sub1 (x : Int32) : x + 1 - nI 1 = x := by
  rw [Int32.sub_eq_add_neg, Int32.add_assoc]
  have h4 : (1 : Int32) + -nI 1 = 0 := by decide +kernel
  rw [h4, Int32.add_zero]
theorem gT_add {Gl : Nat → Int32} {i : Nat} (h : Gl i = 0 ∨ Gl i = 1) : nI (gT Gl i) + Gl i = nI (gT Gl (i + 1)) := by
  rcases h with h | h
  · rw [gT_n (fun q => q h), h, Int32.add_zero]
  · rw [gT_y (by rw [h]; decide +kernel), h, nI_1]
theorem rk_at (σ : St) (k pl s : Nat) : qr σ (3 * (12 * k + pl) + s) = rk σ k (3 * pl + s) := congrArg (qr σ) (by omega)
