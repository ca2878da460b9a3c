def spotP (σ : St) (x s p : Int32) : Prop := inb x (qn σ) ∧ inb s 3 ∧ inb p (qp σ x.toInt.toNat)
theorem toN {k : Nat} (hk : k < 2 ^ 31) : (nI k).toInt.toNat = k := by
  rw [nI_toInt hk, Int.toNat_natCast]
