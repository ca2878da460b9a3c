theorem CW.kept {Γ : GG} {x : Nat} {σ : St} {ad : Nat → Nat} {H H1 : Heap} (h : CW Γ x σ ad H) (hq : ∀ q : Nat, q < H.size → H1[q]? = H[q]?) : CW Γ x σ ad H1 :=
  ⟨h.1.kept (hq _ h.1.lt), h.2.1.kept (hq _ h.2.1.lt), fun k hk => (h.2.2 k hk).kept (fun q _ q2 => hq q (by have := h.lt hk; omega))⟩
theorem adf2 {n : Nat} {ad : Nat → Nat} {a : Nat} : va_up (fun k => if k < n then some (ad k) else none) n (some a) = (fun k => if k < n + 1 then some (va_up ad n a k) else none) := by
  funext q
  by_cases e1 : q = n
  · subst e1
    rw [va_up_self, va_up_self, if_pos (Nat.lt_succ_self _)]
  · rw [va_up_ne _ _ e1, va_up_ne _ _ e1]
    by_cases e2 : q < n
    · rw [if_pos e2, if_pos (by omega)]
    · rw [if_neg e2, if_neg (by omega)]
theorem CW.add {Γ : GG} {x : Nat} {σ : St} {ad : Nat → Nat} {H : Heap} {a P U : Nat} {B E : Int32} (hI : Iv σ) (hO : Ob Γ 1 x [.ref (x + 1), .int (nI (qn σ + 1)), .int (qb σ)] H) (hQ : Aq Γ (x + 1) 40 (va_up (fun k => if k < qn σ then some (ad k) else none) (qn σ) (some a)) H)
    (hs : ∀ k, k < qn σ → SK Γ σ k (ad k) H) (hN : SW Γ a P U B E 0 (fun _ => -1) (fun _ => nI 12) (fun _ => nI 0) H) : CW Γ x (o_add σ P U B E) (va_up ad (qn σ) a) H := by
  refine CW.push (σ' := o_add σ P U B E) hO hQ rfl (fun k hk => ?_) ?_
  · refine SK.of (hs k hk) ?_ ?_ ?_ ?_ rfl (fun _ _ => rfl) (fun j hj => ?_) (fun j hj => ?_)
    · show qp σ k = va_up (qp σ) (qn σ) P k
      rw [va_up_ne _ _ (by omega)]
    · show qu σ k = va_up (qu σ) (qn σ) U k
      rw [va_up_ne _ _ (by omega)]
    · show qB σ k = upd (qB σ) (qn σ) B k
      rw [upd_n (by omega)]
    · show qE σ k = upd (qE σ) (qn σ) E k
      rw [upd_n (by omega)]
    · show qa σ (12 * k + j) = rng (qa σ) (qn σ) (nI 12) (12 * k + j)
      unfold rng
      rw [if_neg (by omega)]
    · show ql σ (12 * k + j) = rng (ql σ) (qn σ) (nI 0) (12 * k + j)
      unfold rng
      rw [if_neg (by omega)]
  · refine SK.of hN ?_ ?_ ?_ ?_ ?_ (fun i hi => ?_) (fun j hj => ?_) (fun j hj => ?_)
    · show P = va_up (qp σ) (qn σ) P (qn σ)
      rw [va_up_self]
    · show U = va_up (qu σ) (qn σ) U (qn σ)
      rw [va_up_self]
    · show B = upd (qB σ) (qn σ) B (qn σ)
      rw [upd_s]
    · show E = upd (qE σ) (qn σ) E (qn σ)
      rw [upd_s]
    · exact (hI.2.2.1 _ (Nat.le_refl _)).symm
    · exact (hI.2.2.2.2.1 _ (by omega)).symm
    · show nI 12 = rng (qa σ) (qn σ) (nI 12) (12 * qn σ + j)
      unfold rng
      rw [if_pos (by omega)]
    · show nI 0 = rng (ql σ) (qn σ) (nI 0) (12 * qn σ + j)
      unfold rng
      rw [if_pos (by omega)]
/-- what lies in the stretch of a new stick behind a laying, as the class's stick has it -/
theorem lay_tpR {f : Nat → Int32} {R : Nat → Int32} {fr first many to at_ tw q : Nat} (hq : q < 36) (hR : R q = f (36 * to + q)) (hm : at_ + many ≤ 12) : tpR R (fun i => f (36 * fr + i)) first at_ tw (3 * many) q = layR f fr first (3 * many) to at_ tw (36 * to + q) := by
  unfold tpR layR
  by_cases h : 3 * at_ ≤ q ∧ q < 3 * at_ + 3 * many
  · rw [if_pos h, if_pos (by omega)]
    rw [show 36 * to + q - (36 * to + 3 * at_) = q - 3 * at_ by omega]
  · rw [if_neg h, if_neg (by omega)]
    exact hR
theorem lay_tpB {f : Nat → Int32} {B : Nat → Int32} {fr first many to at_ q : Nat} (hq : q < 12) (hB : B q = f (12 * to + q)) (hm : at_ + many ≤ 12) : tpB B (fun i => f (12 * fr + i)) first at_ many q = layB f fr first many to at_ (12 * to + q) := by
  unfold tpB layB
  by_cases h : at_ ≤ q ∧ q < at_ + many
  · rw [if_pos h, if_pos (by omega)]
    rw [show 12 * to + q - (12 * to + at_) = q - at_ by omega]
  · rw [if_neg h, if_neg (by omega)]
    exact hB
theorem tpB_c {B B2 B3 : Nat → Int32} {fr to c q : Nat} (h : ∀ j, fr ≤ j → j < fr + c → B2 j = B3 j) : tpB B B2 fr to c q = tpB B B3 fr to c q := by
  unfold tpB
  by_cases h2 : to ≤ q ∧ q < to + c
  · rw [if_pos h2, if_pos h2]
    exact h _ (by omega) (by omega)
  · rw [if_neg h2, if_neg h2]
theorem tpR_c {R R2 R3 : Nat → Int32} {fr to tw c q : Nat} (h : ∀ j, 3 * fr ≤ j → j < 3 * fr + (c + 2) / 3 * 3 → R2 j = R3 j) : tpR R R2 fr to tw c q = tpR R R3 fr to tw c q := by
  unfold tpR
  by_cases h2 : 3 * to ≤ q ∧ q < 3 * to + c
  · rw [if_pos h2, if_pos h2]
    exact h _ (by omega) (by omega)
  · rw [if_neg h2, if_neg h2]
theorem layR_out {f : Nat → Int32} {fr first many to at_ tw q : Nat} (h : q < 36 * to ∨ 36 * to + 36 ≤ q) (hm : 3 * at_ + many ≤ 36) : layR f fr first many to at_ tw q = f q := by
  unfold layR
  rw [if_neg (by omega)]
theorem layB_out {f : Nat → Int32} {fr first many to at_ q : Nat} (h : q < 12 * to ∨ 12 * to + 12 ≤ q) (hm : at_ + many ≤ 12) : layB f fr first many to at_ q = f q := by
  unfold layB
  rw [if_neg (by omega)]
theorem rng_in {f : Nat → Int32} {n q : Nat} {x : Int32} (hq : q < 12) : rng f n x (12 * n + q) = x := by
  unfold rng
  rw [if_pos (by omega)]
theorem rng_out {f : Nat → Int32} {n q : Nat} {x : Int32} (hq : q < 12 * n ∨ 12 * n + 12 ≤ q) : rng f n x q = f q := by
  unfold rng
  rw [if_neg (by omega)]
theorem CW.bend {Γ : GG} {x : Nat} {σ : St} {ad : Nat → Nat} {H : Heap} {k j a1 a2 : Nat} (hI : Iv σ) (hk : k < qn σ) (hj : j < qp σ k - 1)
    (hO : Ob Γ 1 x [.ref (x + 1), .int (nI (qn σ + 1 + 1)), .int (qb σ + nI 1)] H) (hQ : Aq Γ (x + 1) 40 (va_up (va_up (fun k => if k < qn σ then some (ad k) else none) (qn σ) (some a1)) (qn σ + 1) (some a2)) H)
    (hs : ∀ i, i < qn σ → ¬ i = k → SK Γ σ i (ad i) H) (hk2 : SW Γ (ad k) (qp σ k) (qu σ k) (qB σ k) (qE σ k) 1 (rk σ k) (ak σ k) (lk σ k) H)
    (hN1 : SW Γ a1 (j + 1) (qu σ k) (qB σ k) (qb σ) 0 (tpR (fun _ => -1) (rk σ k) 0 0 0 (3 * (j + 1))) (tpB (fun _ => nI 12) (ak σ k) 0 0 (j + 1 - 1)) (tpB (fun _ => nI 0) (lk σ k) 0 0 (j + 1 - 1)) H)
    (hN2 : SW Γ a2 (qp σ k - (j + 1)) (qu σ k) (qb σ) (qE σ k) 0 (tpR (fun _ => -1) (rk σ k) (j + 1) 0 0 (3 * (qp σ k - (j + 1)))) (tpB (fun _ => nI 12) (ak σ k) (j + 1) 0 (qp σ k - (j + 1) - 1)) (tpB (fun _ => nI 0) (lk σ k) (j + 1) 0 (qp σ k - (j + 1) - 1)) H) :
    CW Γ x (sBend σ k j) (va_up (va_up ad (qn σ) a1) (qn σ + 1) a2) H := by
  have hp := (hI.2.1 k hk).2.1
  have zR : ∀ q, q < 36 → ∀ n, qn σ ≤ n → (-1 : Int32) = qr σ (36 * n + q) := fun q _ n hn => (hI.2.2.2.2.1 _ (by omega)).symm
  have er : ∀ i, i < qn σ → ∀ q, q < 36 → qr σ (36 * i + q) = qr (sBend σ k j) (36 * i + q) := fun i hi q hq => by
    show _ = layR (layR (qr σ) _ _ _ _ _ _) _ _ _ _ _ _ _
    rw [layR_out (by omega) (by omega), layR_out (by omega) (by omega)]
  have eb : ∀ (f : Nat → Int32) (x1 : Int32) (i : Nat), i < qn σ → ∀ q, q < 12 → f (12 * i + q) = layB (layB (rng (rng f (qn σ) x1) (qn σ + 1) x1) k 0 (j + 1 - 1) (qn σ) 0) k (j + 1) (qp σ k - (j + 1) - 1) (qn σ + 1) 0 (12 * i + q) := fun f x1 i hi q hq => by
    rw [layB_out (by omega) (by omega), layB_out (by omega) (by omega), rng_out (by omega), rng_out (by omega)]
  have eb1 : ∀ (f : Nat → Int32) (x1 : Int32) (q : Nat), q < 12 → tpB (fun _ => x1) (fun i => f (12 * k + i)) 0 0 (j + 1 - 1) q = layB (layB (rng (rng f (qn σ) x1) (qn σ + 1) x1) k 0 (j + 1 - 1) (qn σ) 0) k (j + 1) (qp σ k - (j + 1) - 1) (qn σ + 1) 0 (12 * qn σ + q) := fun f x1 q hq => by
    rw [layB_out (by omega) (by omega), ← lay_tpB (B := fun _ => x1) hq (by rw [rng_out (by omega), rng_in hq]) (by omega)]
    exact tpB_c fun i h1 h2 => by rw [rng_out (by omega), rng_out (by omega)]
  have eb2 : ∀ (f : Nat → Int32) (x1 : Int32) (q : Nat), q < 12 → tpB (fun _ => x1) (fun i => f (12 * k + i)) (j + 1) 0 (qp σ k - (j + 1) - 1) q = layB (layB (rng (rng f (qn σ) x1) (qn σ + 1) x1) k 0 (j + 1 - 1) (qn σ) 0) k (j + 1) (qp σ k - (j + 1) - 1) (qn σ + 1) 0 (12 * (qn σ + 1) + q) := fun f x1 q hq => by
    rw [← lay_tpB (B := fun _ => x1) hq (by rw [layB_out (by omega) (by omega), rng_in hq]) (by omega)]
    exact tpB_c fun i h1 h2 => by rw [layB_out (by omega) (by omega), rng_out (by omega), rng_out (by omega)]
  refine ⟨hO, ?_, fun i hi => ?_⟩
  · rw [adf2, adf2] at hQ
    exact hQ
  · have hi' : i < qn σ + 1 + 1 := hi
    by_cases e2 : i = qn σ + 1
    · subst e2
      rw [va_up_self]
      refine SK.of hN2 ?_ ?_ ?_ ?_ ?_ (fun q hq => ?_) (fun q hq => eb2 (qa σ) (nI 12) q (by omega)) (fun q hq => eb2 (ql σ) (nI 0) q (by omega))
      · show _ = va_up (va_up (qp σ) (qn σ) _) (qn σ + 1) _ (qn σ + 1)
        rw [va_up_self]
      · show _ = va_up (va_up (qu σ) (qn σ) _) (qn σ + 1) _ (qn σ + 1)
        rw [va_up_self]
      · show _ = upd (upd (qB σ) (qn σ) _) (qn σ + 1) _ (qn σ + 1)
        rw [upd_s]
      · show _ = upd (upd (qE σ) (qn σ) _) (qn σ + 1) _ (qn σ + 1)
        rw [upd_s]
      · show 0 = va_up (qg σ) k 1 (qn σ + 1)
        rw [va_up_ne _ _ (by omega)]
        exact (hI.2.2.1 _ (by omega)).symm
      · show _ = layR (layR (qr σ) k 0 (3 * (j + 1)) (qn σ) 0 0) k (j + 1) (3 * (qp σ k - (j + 1))) (qn σ + 1) 0 0 (36 * (qn σ + 1) + q)
        rw [← lay_tpR (R := fun _ => -1) hq (by rw [layR_out (by omega) (by omega)]; exact zR q hq _ (by omega)) (by omega)]
        exact tpR_c fun i h1 h2 => by rw [layR_out (by omega) (by omega)]; rfl
    · rw [va_up_ne _ _ e2]
      by_cases e1 : i = qn σ
      · subst e1
        rw [va_up_self]
        refine SK.of hN1 ?_ ?_ ?_ ?_ ?_ (fun q hq => ?_) (fun q hq => eb1 (qa σ) (nI 12) q (by omega)) (fun q hq => eb1 (ql σ) (nI 0) q (by omega))
        · show _ = va_up (va_up (qp σ) (qn σ) _) (qn σ + 1) _ (qn σ)
          rw [va_up_ne _ _ (by omega), va_up_self]
        · show _ = va_up (va_up (qu σ) (qn σ) _) (qn σ + 1) _ (qn σ)
          rw [va_up_ne _ _ (by omega), va_up_self]
        · show _ = upd (upd (qB σ) (qn σ) _) (qn σ + 1) _ (qn σ)
          rw [upd_n (by omega), upd_s]
        · show _ = upd (upd (qE σ) (qn σ) _) (qn σ + 1) _ (qn σ)
          rw [upd_n (by omega), upd_s]
        · show 0 = va_up (qg σ) k 1 (qn σ)
          rw [va_up_ne _ _ (by omega)]
          exact (hI.2.2.1 _ (by omega)).symm
        · show _ = layR (layR (qr σ) k 0 (3 * (j + 1)) (qn σ) 0 0) k (j + 1) (3 * (qp σ k - (j + 1))) (qn σ + 1) 0 0 (36 * qn σ + q)
          rw [layR_out (by omega) (by omega), ← lay_tpR (R := fun _ => -1) hq (zR q hq _ (by omega)) (by omega)]
          rfl
      · rw [va_up_ne _ _ e1]
        have hin : i < qn σ := by omega
        by_cases e0 : i = k
        · subst e0
          refine SK.of hk2 ?_ ?_ ?_ ?_ ?_ (er i hin) (fun q hq => eb (qa σ) (nI 12) i hin q (by omega)) (fun q hq => eb (ql σ) (nI 0) i hin q (by omega))
          · show _ = va_up (va_up (qp σ) (qn σ) _) (qn σ + 1) _ i
            rw [va_up_ne _ _ (by omega), va_up_ne _ _ (by omega)]
          · show _ = va_up (va_up (qu σ) (qn σ) _) (qn σ + 1) _ i
            rw [va_up_ne _ _ (by omega), va_up_ne _ _ (by omega)]
          · show _ = upd (upd (qB σ) (qn σ) _) (qn σ + 1) _ i
            rw [upd_n (by omega), upd_n (by omega)]
          · show _ = upd (upd (qE σ) (qn σ) _) (qn σ + 1) _ i
            rw [upd_n (by omega), upd_n (by omega)]
          · show 1 = va_up (qg σ) i 1 i
            rw [va_up_self]
        · refine SK.of (hs i hin e0) ?_ ?_ ?_ ?_ ?_ (er i hin) (fun q hq => eb (qa σ) (nI 12) i hin q (by omega)) (fun q hq => eb (ql σ) (nI 0) i hin q (by omega))
          · show _ = va_up (va_up (qp σ) (qn σ) _) (qn σ + 1) _ i
            rw [va_up_ne _ _ (by omega), va_up_ne _ _ (by omega)]
          · show _ = va_up (va_up (qu σ) (qn σ) _) (qn σ + 1) _ i
            rw [va_up_ne _ _ (by omega), va_up_ne _ _ (by omega)]
          · show _ = upd (upd (qB σ) (qn σ) _) (qn σ + 1) _ i
            rw [upd_n (by omega), upd_n (by omega)]
          · show _ = upd (upd (qE σ) (qn σ) _) (qn σ + 1) _ i
            rw [upd_n (by omega), upd_n (by omega)]
          · show qg σ i = va_up (qg σ) k 1 i
            rw [va_up_ne _ _ e0]
