/-! what the calls do to the sums, to the sticks and to what is told of them -/
theorem sN_add (f : Nat → Nat) (a : Nat) : ∀ b, sN f (a + b) = sN f a + sN (fun i => f (a + i)) b
  | 0 => rfl
  | b + 1 => by
    show sN f (a + b) + f (a + b) = sN f a + (sN (fun i => f (a + i)) b + f (a + b))
    rw [sN_add f a b, Nat.add_assoc]
theorem cW_sN (f : Nat → Int32) (x : Int32) : ∀ n, cW f x n = sN (fun i => if f i < x then 1 else 0) n
  | 0 => rfl
  | n + 1 => by
    show cW f x n + _ = sN (fun i => if f i < x then 1 else 0) n + _
    rw [cW_sN f x n]
theorem tN_y {σ : St} {g : Nat → Nat} {n : Nat} (h : qg σ n = 0) : tN σ g (n + 1) = tN σ g n + g n := by
  show tN σ g n + (if qg σ n = 0 then g n else 0) = _
  rw [if_pos h]
theorem tN_cong {σ σ' : St} {g g' : Nat → Nat} {n : Nat} (h1 : ∀ i, i < n → qg σ i = qg σ' i) (h2 : ∀ i, i < n → g i = g' i) : tN σ g n = tN σ' g' n :=
  sN_cong fun i hi => by
    show (if qg σ i = 0 then g i else 0) = (if qg σ' i = 0 then g' i else 0)
    rw [h1 i hi, h2 i hi]
theorem tN_gone {σ : St} {g : Nat → Nat} {k : Nat} (h : qg σ k = 0) : ∀ n, tN (o_gone σ k) g n + (if k < n then g k else 0) = tN σ g n
  | 0 => rfl
  | n + 1 => by
    have ih := tN_gone (g := g) h n
    show (tN (o_gone σ k) g n + (if va_up (qg σ) k 1 n = 0 then g n else 0)) + (if k < n + 1 then g k else 0) = tN σ g n + (if qg σ n = 0 then g n else 0)
    by_cases e : n = k
    · subst e
      rw [va_up_self, if_neg (by decide), if_pos (Nat.lt_succ_self n), if_pos h]
      rw [if_neg (Nat.lt_irrefl n)] at ih
      omega
    · rw [va_up_ne _ _ e]
      by_cases h2 : k < n
      · rw [if_pos (show k < n + 1 by omega)]
        rw [if_pos h2] at ih
        omega
      · rw [if_neg (show ¬ k < n + 1 by omega)]
        rw [if_neg h2] at ih
        omega
theorem tN_bend {σ : St} {k j : Nat} {g g' : Nat → Nat} (hI : Iv σ) (hk : k < qn σ) (h0 : qg σ k = 0) (hg : ∀ i, i < qn σ → g' i = g i) : tN (sBend σ k j) g' (qn σ + 1 + 1) + g k = tN σ g (qn σ) + g' (qn σ) + g' (qn σ + 1) := by
  have e : ∀ i, qg (sBend σ k j) i = va_up (qg σ) k 1 i := fun _ => rfl
  have a1 : qg (sBend σ k j) (qn σ) = 0 := by rw [e, va_up_ne _ _ (by omega)]; exact hI.2.2.1 _ (Nat.le_refl _)
  have a2 : qg (sBend σ k j) (qn σ + 1) = 0 := by rw [e, va_up_ne _ _ (by omega)]; exact hI.2.2.1 _ (by omega)
  rw [tN_y a2, tN_y a1, tN_cong (σ := sBend σ k j) (σ' := o_gone σ k) (g' := g) (fun i _ => rfl) hg]
  have h := tN_gone (g := g) h0 (qn σ)
  rw [if_pos hk] at h
  omega
theorem tN_glue {σ : St} {k j tw base : Nat} {g g' : Nat → Nat} (hI : Iv σ) (hk : k < qn σ) (hj : j < qn σ) (hkj : ¬ k = j) (h0 : qg σ k = 0) (h1 : qg σ j = 0) (hg : ∀ i, i < qn σ → g' i = g i) : tN (sGlue σ k j tw base) g' (qn σ + 1) + g k + g j = tN σ g (qn σ) + g' (qn σ) := by
  have e : ∀ i, qg (sGlue σ k j tw base) i = va_up (va_up (qg σ) k 1) j 1 i := fun _ => rfl
  have a1 : qg (sGlue σ k j tw base) (qn σ) = 0 := by rw [e, va_up_ne _ _ (by omega), va_up_ne _ _ (by omega)]; exact hI.2.2.1 _ (Nat.le_refl _)
  have a2 : qg (o_gone σ k) j = 0 := by
    show va_up (qg σ) k 1 j = 0
    rw [va_up_ne _ _ (fun h => hkj h.symm)]
    exact h1
  rw [tN_y a1, tN_cong (σ := sGlue σ k j tw base) (σ' := o_gone (o_gone σ k) j) (g' := g) (fun i _ => rfl) hg]
  have h := tN_gone (g := g) h0 (qn σ)
  rw [if_pos hk] at h
  have h2 := tN_gone (g := g) a2 (qn σ)
  rw [if_pos hj] at h2
  omega
theorem tN_make {σ : St} {P : Nat} {g g' : Nat → Nat} (hI : Iv σ) (hg : ∀ i, i < qn σ → g' i = g i) : tN (sMake σ P) g' (qn σ + 1) = tN σ g (qn σ) + g' (qn σ) := by
  have a1 : qg (sMake σ P) (qn σ) = 0 := hI.2.2.1 _ (Nat.le_refl _)
  rw [tN_y a1, tN_cong (σ := sMake σ P) (σ' := σ) (g' := g) (fun i _ => rfl) hg]
theorem tN_one {σ σ' : St} {k : Nat} {g g' : Nat → Nat} (hq : qg σ' = qg σ) (h0 : qg σ k = 0) : ∀ n, (∀ i, i < n → ¬ i = k → g' i = g i) → tN σ' g' n + (if k < n then g k else 0) = tN σ g n + (if k < n then g' k else 0)
  | 0, _ => rfl
  | n + 1, hg => by
    have ih := tN_one (k := k) (g := g) (g' := g') hq h0 n fun i hi h => hg i (Nat.lt_succ_of_lt hi) h
    show (tN σ' g' n + (if qg σ' n = 0 then g' n else 0)) + (if k < n + 1 then g k else 0) = (tN σ g n + (if qg σ n = 0 then g n else 0)) + (if k < n + 1 then g' k else 0)
    rw [hq]
    by_cases e : n = k
    · subst e
      rw [if_pos h0, if_pos h0, if_pos (Nat.lt_succ_self n), if_pos (Nat.lt_succ_self n)]
      rw [if_neg (Nat.lt_irrefl n), if_neg (Nat.lt_irrefl n)] at ih
      omega
    · rw [hg n (Nat.lt_succ_self n) e]
      by_cases h2 : k < n
      · rw [if_pos (show k < n + 1 by omega), if_pos (show k < n + 1 by omega)]
        rw [if_pos h2, if_pos h2] at ih
        omega
      · rw [if_neg (show ¬ k < n + 1 by omega), if_neg (show ¬ k < n + 1 by omega)]
        rw [if_neg h2, if_neg h2] at ih
        omega
theorem thr_tN (σ : St) (n : Nat) : thr σ n = tN σ (fun _ => 1) n := rfl
theorem thr_bend {σ : St} {k j : Nat} (hI : Iv σ) (hk : k < qn σ) (h0 : qg σ k = 0) : thr (sBend σ k j) (qn σ + 1 + 1) = thr σ (qn σ) + 1 := by
  have h := tN_bend (j := j) (g := fun _ => 1) (g' := fun _ => 1) hI hk h0 (fun _ _ => rfl)
  rw [thr_tN, thr_tN]
  omega
theorem thr_glue {σ : St} {k j tw base : Nat} (hI : Iv σ) (hk : k < qn σ) (hj : j < qn σ) (hkj : ¬ k = j) (h0 : qg σ k = 0) (h1 : qg σ j = 0) : thr (sGlue σ k j tw base) (qn σ + 1) + 1 = thr σ (qn σ) := by
  have h := tN_glue (tw := tw) (base := base) (g := fun _ => 1) (g' := fun _ => 1) hI hk hj hkj h0 h1 (fun _ _ => rfl)
  rw [thr_tN, thr_tN]
  omega
theorem thr_make {σ : St} {P : Nat} (hI : Iv σ) : thr (sMake σ P) (qn σ + 1) = thr σ (qn σ) + 1 := by
  have h := tN_make (P := P) (g := fun _ => 1) (g' := fun _ => 1) hI (fun _ _ => rfl)
  rw [thr_tN, thr_tN]
  omega
/-! rows of the new sticks -/
theorem layR_in {f : Nat → Int32} {fr first many to at_ tw q : Nat} (h : 3 * at_ ≤ q) (h2 : q < 3 * at_ + many) : layR f fr first many to at_ tw (36 * to + q) = f (36 * fr + (3 * (first + (q - 3 * at_) / 3) + ((q - 3 * at_) % 3 + tw) % 3)) := by
  unfold layR
  rw [if_pos (by omega), show 36 * to + q - (36 * to + 3 * at_) = q - 3 * at_ by omega]
theorem layR_un {f : Nat → Int32} {fr first many to at_ tw q : Nat} (h : q < 3 * at_ ∨ 3 * at_ + many ≤ q) : layR f fr first many to at_ tw (36 * to + q) = f (36 * to + q) := by
  unfold layR
  rw [if_neg (by omega)]
theorem layB_in {f : Nat → Int32} {fr first many to at_ q : Nat} (h : at_ ≤ q) (h2 : q < at_ + many) : layB f fr first many to at_ (12 * to + q) = f (12 * fr + (first + (q - at_))) := by
  unfold layB
  rw [if_pos (by omega), show 12 * to + q - (12 * to + at_) = q - at_ by omega]
theorem layB_un {f : Nat → Int32} {fr first many to at_ q : Nat} (h : q < at_ ∨ at_ + many ≤ q) : layB f fr first many to at_ (12 * to + q) = f (12 * to + q) := by
  unfold layB
  rw [if_neg (by omega)]
section ROWS
variable {σ : St} {k j tw base : Nat}
theorem bd_r0 (hI : Iv σ) (hk : k < qn σ) (hj : j < qp σ k - 1) {i q : Nat} (hi : i < qn σ) (hq : q < 36) : rk (sBend σ k j) i q = rk σ i q := by
  have hp := (hI.2.1 k hk).2.1
  show layR (layR (qr σ) k 0 (3 * (j + 1)) (qn σ) 0 0) k (j + 1) (3 * (qp σ k - (j + 1))) (qn σ + 1) 0 0 (36 * i + q) = qr σ (36 * i + q)
  rw [layR_out (by omega) (by omega), layR_out (by omega) (by omega)]
theorem bd_r1 (hI : Iv σ) (hk : k < qn σ) (hj : j < qp σ k - 1) {q : Nat} (hq : q < 3 * (j + 1)) : rk (sBend σ k j) (qn σ) q = rk σ k q := by
  have hp := (hI.2.1 k hk).2.1
  show layR (layR (qr σ) k 0 (3 * (j + 1)) (qn σ) 0 0) k (j + 1) (3 * (qp σ k - (j + 1))) (qn σ + 1) 0 0 (36 * qn σ + q) = qr σ (36 * k + q)
  rw [layR_out (by omega) (by omega), layR_in (by omega) (by omega)]
  congr 1
  omega
theorem bd_r2 (hI : Iv σ) (hk : k < qn σ) (hj : j < qp σ k - 1) {q : Nat} (hq : q < 3 * (qp σ k - (j + 1))) : rk (sBend σ k j) (qn σ + 1) q = rk σ k (3 * (j + 1) + q) := by
  have hp := (hI.2.1 k hk).2.1
  show layR (layR (qr σ) k 0 (3 * (j + 1)) (qn σ) 0 0) k (j + 1) (3 * (qp σ k - (j + 1))) (qn σ + 1) 0 0 (36 * (qn σ + 1) + q) = qr σ (36 * k + (3 * (j + 1) + q))
  rw [layR_in (by omega) (by omega), layR_out (by omega) (by omega)]
  congr 1
  omega
def bB (σ : St) (k j : Nat) (f : Nat → Int32) (x : Int32) : Nat → Int32 := layB (layB (rng (rng f (qn σ) x) (qn σ + 1) x) k 0 (j + 1 - 1) (qn σ) 0) k (j + 1) (qp σ k - (j + 1) - 1) (qn σ + 1) 0
theorem bB_0 (hI : Iv σ) (hk : k < qn σ) (hj : j < qp σ k - 1) {f : Nat → Int32} {x : Int32} {i q : Nat} (hi : i < qn σ) (hq : q < 12) : bB σ k j f x (12 * i + q) = f (12 * i + q) := by
  have hp := (hI.2.1 k hk).2.1
  unfold bB
  rw [layB_out (by omega) (by omega), layB_out (by omega) (by omega), rng_out (by omega), rng_out (by omega)]
theorem bB_1 (hI : Iv σ) (hk : k < qn σ) (hj : j < qp σ k - 1) {f : Nat → Int32} {x : Int32} {q : Nat} (hq : q < j) : bB σ k j f x (12 * qn σ + q) = f (12 * k + q) := by
  have hp := (hI.2.1 k hk).2.1
  unfold bB
  rw [layB_out (by omega) (by omega), layB_in (by omega) (by omega), rng_out (by omega), rng_out (by omega)]
  congr 1
  omega
theorem bB_2 (hI : Iv σ) (hk : k < qn σ) (hj : j < qp σ k - 1) {f : Nat → Int32} {x : Int32} {q : Nat} (hq : q < qp σ k - (j + 1) - 1) : bB σ k j f x (12 * (qn σ + 1) + q) = f (12 * k + (j + 1 + q)) := by
  have hp := (hI.2.1 k hk).2.1
  unfold bB
  rw [layB_in (by omega) (by omega), layB_out (by omega) (by omega), rng_out (by omega), rng_out (by omega)]
  congr 1
theorem gl_r0 (hk : k < qn σ) (hj : j < qn σ) (hp : qp σ k + qp σ j ≤ 12) {i q : Nat} (hi : i < qn σ) (hq : q < 36) : rk (sGlue σ k j tw base) i q = rk σ i q := by
  show layR (layR (qr σ) k 0 (3 * qp σ k) (qn σ) 0 0) j 0 (3 * qp σ j) (qn σ) (qp σ k) tw (36 * i + q) = qr σ (36 * i + q)
  rw [layR_out (by omega) (by omega), layR_out (by omega) (by omega)]
theorem gl_r1 (hk : k < qn σ) (hj : j < qn σ) (hp : qp σ k + qp σ j ≤ 12) {q : Nat} (hq : q < 3 * qp σ k) : rk (sGlue σ k j tw base) (qn σ) q = rk σ k q := by
  show layR (layR (qr σ) k 0 (3 * qp σ k) (qn σ) 0 0) j 0 (3 * qp σ j) (qn σ) (qp σ k) tw (36 * qn σ + q) = qr σ (36 * k + q)
  rw [layR_un (by omega), layR_in (by omega) (by omega)]
  congr 1
  omega
theorem gl_r2 (hk : k < qn σ) (hj : j < qn σ) (hp : qp σ k + qp σ j ≤ 12) {pl sd : Nat} (hpl : pl < qp σ j) (hsd : sd < 3) : rk (sGlue σ k j tw base) (qn σ) (3 * (qp σ k + pl) + sd) = rk σ j (3 * pl + (sd + tw) % 3) := by
  show layR (layR (qr σ) k 0 (3 * qp σ k) (qn σ) 0 0) j 0 (3 * qp σ j) (qn σ) (qp σ k) tw (36 * qn σ + (3 * (qp σ k + pl) + sd)) = qr σ (36 * j + (3 * pl + (sd + tw) % 3))
  rw [layR_in (by omega) (by omega)]
  have e1 : (3 * (qp σ k + pl) + sd - 3 * qp σ k) / 3 = pl := by omega
  have e2 : (3 * (qp σ k + pl) + sd - 3 * qp σ k) % 3 = sd := by omega
  rw [e1, e2, layR_out (by omega) (by omega), Nat.zero_add]
def gBs (σ : St) (k j : Nat) (f : Nat → Int32) (x y : Int32) : Nat → Int32 := upd (layB (layB (rng f (qn σ) x) k 0 (qp σ k - 1) (qn σ) 0) j 0 (qp σ j - 1) (qn σ) (qp σ k)) (12 * qn σ + (qp σ k - 1)) y
theorem gBs_0 (hk : k < qn σ) (hj : j < qn σ) (hp : qp σ k + qp σ j ≤ 12) {f : Nat → Int32} {x y : Int32} {i q : Nat} (hi : i < qn σ) (hq : q < 12) : gBs σ k j f x y (12 * i + q) = f (12 * i + q) := by
  unfold gBs
  rw [upd_n (by omega), layB_out (by omega) (by omega), layB_out (by omega) (by omega), rng_out (by omega)]
theorem gBs_1 (hk : k < qn σ) (hj : j < qn σ) (hp : qp σ k + qp σ j ≤ 12) {f : Nat → Int32} {x y : Int32} {q : Nat} (hq : q < qp σ k - 1) : gBs σ k j f x y (12 * qn σ + q) = f (12 * k + q) := by
  unfold gBs
  rw [upd_n (by omega), layB_un (by omega), layB_in (by omega) (by omega), rng_out (by omega)]
  congr 1
  omega
theorem gBs_2 {f : Nat → Int32} {x y : Int32} : gBs σ k j f x y (12 * qn σ + (qp σ k - 1)) = y := by
  unfold gBs
  rw [upd_s]
theorem gBs_3 (hk : k < qn σ) (hj : j < qn σ) (hp : qp σ k + qp σ j ≤ 12) {f : Nat → Int32} {x y : Int32} {q : Nat} (h1 : 1 ≤ qp σ k) (hq : q < qp σ j - 1) : gBs σ k j f x y (12 * qn σ + (qp σ k + q)) = f (12 * j + q) := by
  unfold gBs
  rw [upd_n (by omega), layB_in (by omega) (by omega), layB_out (by omega) (by omega), rng_out (by omega)]
  congr 1
  omega
end ROWS
theorem rc_cong {R R' : Nat → Int32} {p p' : Nat} (h : ∀ s, s < 3 → R (3 * p + s) = R' (3 * p' + s)) : rc R p = rc R' p' := cU_cong h
theorem rT_cong {R R' : Nat → Int32} {P : Nat} (h : ∀ q, q < 3 * P → R q = R' q) : rT R P = rT R' P := sN_cong fun p hp => rc_cong fun s hs => h _ (by omega)
theorem gT_cong {R R' : Nat → Int32} {P : Nat} (h : ∀ q, q < P → R q = R' q) : gT R P = gT R' P := sN_cong fun p hp => by
  show (if R p = 0 then 0 else 1) = (if R' p = 0 then 0 else 1)
  rw [h p hp]
theorem stn_cong {R R' Bs Bs' : Nat → Int32} {j j' : Nat} (h1 : Bs j = Bs' j') (h2 : rc R j = rc R' j') (h3 : rc R (j + 1) = rc R' (j' + 1)) : stn R Bs j = stn R' Bs' j' := by
  unfold stn
  rw [h1, h2, h3]
theorem rc_turn (R : Nat → Int32) (p tw : Nat) (h : tw < 3) : cU (fun s => R (3 * p + (s + tw) % 3)) 3 = rc R p := by
  rcases (show tw = 0 ∨ tw = 1 ∨ tw = 2 by omega) with rfl | rfl | rfl
  · rfl
  · show (0 + (if R (3 * p + 1) = -1 then 0 else 1) + (if R (3 * p + 2) = -1 then 0 else 1) + (if R (3 * p + 0) = -1 then 0 else 1)) = (0 + (if R (3 * p + 0) = -1 then 0 else 1) + (if R (3 * p + 1) = -1 then 0 else 1) + (if R (3 * p + 2) = -1 then 0 else 1))
    omega
  · show (0 + (if R (3 * p + 2) = -1 then 0 else 1) + (if R (3 * p + 0) = -1 then 0 else 1) + (if R (3 * p + 1) = -1 then 0 else 1)) = (0 + (if R (3 * p + 0) = -1 then 0 else 1) + (if R (3 * p + 1) = -1 then 0 else 1) + (if R (3 * p + 2) = -1 then 0 else 1))
    omega
