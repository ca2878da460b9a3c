theorem CW.glue {Γ : GG} {x : Nat} {σ : St} {ad : Nat → Nat} {H : Heap} {k j tw base a : Nat} (hI : Iv σ) (hk : k < qn σ) (hj : j < qn σ) (hp : qp σ k + qp σ j ≤ 12)
    (hO : Ob Γ 1 x [.ref (x + 1), .int (nI (qn σ + 1)), .int (qb σ)] H) (hQ : Aq Γ (x + 1) 40 (va_up (fun k => if k < qn σ then some (ad k) else none) (qn σ) (some a)) H)
    (hs : ∀ i, i < qn σ → ¬ i = k → ¬ i = j → SK Γ σ i (ad i) H) (hk2 : SW Γ (ad k) (qp σ k) (qu σ k) (qB σ k) (qE σ k) 1 (rk σ k) (ak σ k) (lk σ k) H) (hj2 : SW Γ (ad j) (qp σ j) (qu σ j) (qB σ j) (qE σ j) 1 (rk σ j) (ak σ j) (lk σ j) H)
    (hN : SW Γ a (qp σ k + qp σ j) (qu σ k) (qB σ k) (qE σ j) 0 (tpR (tpR (fun _ => -1) (rk σ k) 0 0 0 (3 * qp σ k)) (rk σ j) 0 (qp σ k) tw (3 * qp σ j))
      (upd (tpB (tpB (fun _ => nI 12) (ak σ k) 0 0 (qp σ k - 1)) (ak σ j) 0 (qp σ k) (qp σ j - 1)) (qp σ k - 1) (nI (base + more σ k j tw))) (upd (tpB (tpB (fun _ => nI 0) (lk σ k) 0 0 (qp σ k - 1)) (lk σ j) 0 (qp σ k) (qp σ j - 1)) (qp σ k - 1) (nI 1)) H) :
    CW Γ x (sGlue σ k j tw base) (va_up ad (qn σ) a) H := by
  obtain ⟨a1, a2, a3, a4⟩ := hI.2.1 k hk
  obtain ⟨b1, b2, b3, b4⟩ := hI.2.1 j hj
  have zR : ∀ q, q < 36 → (-1 : Int32) = qr σ (36 * qn σ + q) := fun q _ => (hI.2.2.2.2.1 _ (by omega)).symm
  have er : ∀ i, i < qn σ → ∀ q, q < 36 → qr σ (36 * i + q) = qr (sGlue σ k j tw base) (36 * i + q) := fun i hi q hq => by
    show _ = layR (layR (qr σ) k 0 (3 * qp σ k) (qn σ) 0 0) j 0 (3 * qp σ j) (qn σ) (qp σ k) tw (36 * i + q)
    rw [layR_out (by omega) (by omega), layR_out (by omega) (by omega)]
  have eb : ∀ (f : Nat → Int32) (x1 y1 : Int32) (i : Nat), i < qn σ → ∀ q, q < 12 → f (12 * i + q) = upd (layB (layB (rng f (qn σ) x1) k 0 (qp σ k - 1) (qn σ) 0) j 0 (qp σ j - 1) (qn σ) (qp σ k)) (12 * qn σ + (qp σ k - 1)) y1 (12 * i + q) := fun f x1 y1 i hi q hq => by
    rw [upd_n (by omega), layB_out (by omega) (by omega), layB_out (by omega) (by omega), rng_out (by omega)]
  have en : ∀ (f : Nat → Int32) (x1 y1 : Int32) (q : Nat), q < 12 → upd (tpB (tpB (fun _ => x1) (fun i => f (12 * k + i)) 0 0 (qp σ k - 1)) (fun i => f (12 * j + i)) 0 (qp σ k) (qp σ j - 1)) (qp σ k - 1) y1 q = upd (layB (layB (rng f (qn σ) x1) k 0 (qp σ k - 1) (qn σ) 0) j 0 (qp σ j - 1) (qn σ) (qp σ k)) (12 * qn σ + (qp σ k - 1)) y1 (12 * qn σ + q) := fun f x1 y1 q hq => by
    by_cases e : q = qp σ k - 1
    · rw [e, upd_s, upd_s]
    · rw [upd_n e, upd_n (by omega)]
      rw [← lay_tpB (B := tpB (fun _ => x1) (fun i => f (12 * k + i)) 0 0 (qp σ k - 1)) hq ?_ (by omega)]
      · exact tpB_c fun i h1 h2 => by rw [layB_out (by omega) (by omega), rng_out (by omega)]
      · rw [← lay_tpB (B := fun _ => x1) hq (by rw [rng_in hq]) (by omega)]
        exact tpB_c fun i h1 h2 => by rw [rng_out (by omega)]
  refine ⟨hO, ?_, fun i hi => ?_⟩
  · rw [adf2] at hQ
    exact hQ
  · have hi' : i < qn σ + 1 := hi
    by_cases e1 : i = qn σ
    · subst e1
      rw [va_up_self]
      refine SK.of hN ?_ ?_ ?_ ?_ ?_ (fun q hq => ?_) (fun q hq => en (qa σ) (nI 12) _ q (by omega)) (fun q hq => en (ql σ) (nI 0) _ q (by omega))
      · show _ = va_up (qp σ) (qn σ) _ (qn σ)
        rw [va_up_self]
      · show _ = va_up (qu σ) (qn σ) _ (qn σ)
        rw [va_up_self]
      · show _ = upd (qB σ) (qn σ) _ (qn σ)
        rw [upd_s]
      · show _ = upd (qE σ) (qn σ) _ (qn σ)
        rw [upd_s]
      · show 0 = va_up (va_up (qg σ) k 1) j 1 (qn σ)
        rw [va_up_ne _ _ (by omega), va_up_ne _ _ (by omega)]
        exact (hI.2.2.1 _ (by omega)).symm
      · show _ = layR (layR (qr σ) k 0 (3 * qp σ k) (qn σ) 0 0) j 0 (3 * qp σ j) (qn σ) (qp σ k) tw (36 * qn σ + q)
        rw [← lay_tpR (R := tpR (fun _ => -1) (rk σ k) 0 0 0 (3 * qp σ k)) hq ?_ (by omega)]
        · exact tpR_c fun i h1 h2 => by rw [layR_out (by omega) (by omega)]; rfl
        · rw [← lay_tpR (R := fun _ => -1) hq (zR q hq) (by omega)]
          rfl
    · rw [va_up_ne _ _ e1]
      have hin : i < qn σ := by omega
      have c1 : qp σ i = va_up (qp σ) (qn σ) (qp σ k + qp σ j) i := by rw [va_up_ne _ _ e1]
      have c2 : qu σ i = va_up (qu σ) (qn σ) (qu σ k) i := by rw [va_up_ne _ _ e1]
      have c3 : qB σ i = upd (qB σ) (qn σ) (qB σ k) i := by rw [upd_n e1]
      have c4 : qE σ i = upd (qE σ) (qn σ) (qE σ j) i := by rw [upd_n e1]
      by_cases ek : i = k
      · subst ek
        refine SK.of hk2 c1 c2 c3 c4 ?_ (er i hin) (fun q hq => eb (qa σ) (nI 12) _ i hin q (by omega)) (fun q hq => eb (ql σ) (nI 0) _ i hin q (by omega))
        show 1 = va_up (va_up (qg σ) i 1) j 1 i
        by_cases e2 : i = j
        · rw [e2, va_up_self]
        · rw [va_up_ne _ _ e2, va_up_self]
      · by_cases ej : i = j
        · subst ej
          refine SK.of hj2 c1 c2 c3 c4 ?_ (er i hin) (fun q hq => eb (qa σ) (nI 12) _ i hin q (by omega)) (fun q hq => eb (ql σ) (nI 0) _ i hin q (by omega))
          show 1 = va_up (va_up (qg σ) k 1) i 1 i
          rw [va_up_self]
        · refine SK.of (hs i hin ek ej) c1 c2 c3 c4 ?_ (er i hin) (fun q hq => eb (qa σ) (nI 12) _ i hin q (by omega)) (fun q hq => eb (ql σ) (nI 0) _ i hin q (by omega))
          show qg σ i = va_up (va_up (qg σ) k 1) j 1 i
          rw [va_up_ne _ _ ej, va_up_ne _ _ ek]
