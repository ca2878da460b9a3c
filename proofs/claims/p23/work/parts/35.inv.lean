/-! what holds besides Iv: no base above 12, few breaks, the last stick is there -/
def Bd (f : Nat → Int32) : Prop := ∀ i, ∃ b : Nat, b ≤ 12 ∧ f i = nI b
theorem Bd_lay {f : Nat → Int32} (h : Bd f) {fr first many to at_ : Nat} : Bd (layB f fr first many to at_) := fun i => by
  unfold layB
  split
  · exact h _
  · exact h _
theorem Bd_rng {f : Nat → Int32} (h : Bd f) {n : Nat} : Bd (rng f n (nI 12)) := fun i => by
  unfold rng
  split
  · exact ⟨12, Nat.le_refl _, rfl⟩
  · exact h i
theorem Bd_upd {f : Nat → Int32} (h : Bd f) {n b : Nat} (hb : b ≤ 12) : Bd (upd f n (nI b)) := fun i => by
  by_cases e : i = n
  · rw [e, upd_s]
    exact ⟨b, hb, rfl⟩
  · rw [upd_n e]
    exact h i
def Kv (σ : St) : Prop := Bd (qa σ) ∧ (∃ β : Nat, qb σ = nI β ∧ 2 * β ≤ qn σ) ∧ ∀ k, k < qn σ → qE σ k = -1 ∨ ∃ e : Nat, e ≤ 20 ∧ qE σ k = nI e
def Jv (σ : St) : Prop := 1 ≤ qn σ ∧ qg σ (qn σ - 1) = 0 ∧ Kv σ
def s0 : St := (0, nI 0, fun _ => 1, fun _ => 0, fun _ => 0, fun _ => -1, fun _ => -1, fun _ => -1, fun _ => nI 0, fun _ => nI 0)
theorem Iv_0 : Iv s0 := ⟨Nat.zero_le _, fun k hk => absurd hk (Nat.not_lt_zero k), fun _ _ => rfl, fun _ => Or.inl rfl, fun _ _ => rfl, fun _ => Or.inl rfl, Nat.zero_le _⟩
theorem Kv_0 : Kv s0 := ⟨fun _ => ⟨0, Nat.zero_le _, rfl⟩, ⟨0, rfl, Nat.le_refl _⟩, fun k hk => absurd hk (Nat.not_lt_zero k)⟩
theorem Kv_make {σ : St} {P : Nat} (h : Kv σ) : Kv (sMake σ P) := by
  obtain ⟨h1, ⟨β, h2, h3⟩, h4⟩ := h
  refine ⟨Bd_rng h1, ⟨β, h2, ?_⟩, fun k hk => ?_⟩
  · show 2 * β ≤ qn σ + 1
    omega
  · show upd (qE σ) (qn σ) (-1) k = -1 ∨ ∃ e : Nat, e ≤ 20 ∧ upd (qE σ) (qn σ) (-1) k = nI e
    have hk' : k < qn σ + 1 := hk
    by_cases e : k = qn σ
    · rw [e, upd_s]
      exact Or.inl rfl
    · rw [upd_n e]
      exact h4 k (by omega)
theorem Jv_make {σ : St} {P : Nat} (hI : Iv σ) (h : Kv σ) : Jv (sMake σ P) := ⟨Nat.le_add_left 1 _, hI.2.2.1 _ (Nat.le_refl _), Kv_make h⟩
theorem Jv_rune {σ : St} {i : Nat} {x : Int32} (h : Jv σ) : Jv (o_rune σ i x) := h
theorem Jv_up {σ : St} {k v : Nat} (h : Jv σ) : Jv (o_up σ k v) := h
theorem Jv_bend {σ : St} {k j : Nat} (hI : Iv σ) (h : Jv σ) (hk : k < qn σ) (hn : qn σ ≤ 38) : Jv (sBend σ k j) := by
  obtain ⟨-, -, h1, ⟨β, h2, h3⟩, h4⟩ := h
  refine ⟨?_, ?_, ?_, ⟨β + 1, ?_, ?_⟩, fun i hi => ?_⟩
  · show 1 ≤ qn σ + 1 + 1
    omega
  · show va_up (qg σ) k 1 (qn σ + 1 + 1 - 1) = 0
    rw [va_up_ne _ _ (by omega)]
    exact hI.2.2.1 _ (by omega)
  · show Bd (layB (layB (rng (rng (qa σ) (qn σ) (nI 12)) (qn σ + 1) (nI 12)) _ _ _ _ _) _ _ _ _ _)
    exact Bd_lay (Bd_lay (Bd_rng (Bd_rng h1)))
  · show qb σ + nI 1 = nI (β + 1)
    rw [h2, nI_add]
  · show 2 * (β + 1) ≤ qn σ + 1 + 1
    omega
  · show upd (upd (qE σ) (qn σ) (qb σ)) (qn σ + 1) (qE σ k) i = -1 ∨ ∃ e : Nat, e ≤ 20 ∧ upd (upd (qE σ) (qn σ) (qb σ)) (qn σ + 1) (qE σ k) i = nI e
    have hi' : i < qn σ + 1 + 1 := hi
    by_cases e1 : i = qn σ + 1
    · rw [e1, upd_s]
      exact h4 k hk
    · rw [upd_n e1]
      by_cases e2 : i = qn σ
      · rw [e2, upd_s]
        exact Or.inr ⟨β, by omega, h2⟩
      · rw [upd_n e2]
        exact h4 i (by omega)
theorem more_le (σ : St) (k j tw : Nat) : more σ k j tw ≤ 3 := by
  have h := bP_le (tw = 0 ∧ fitP σ k j)
  unfold more
  omega
theorem Jv_glue {σ : St} {k j tw base : Nat} (hI : Iv σ) (h : Jv σ) (hk : k < qn σ) (hj : j < qn σ) (hb : base ≤ 9) : Jv (sGlue σ k j tw base) := by
  obtain ⟨-, -, h1, ⟨β, h2, h3⟩, h4⟩ := h
  have hm := more_le σ k j tw
  refine ⟨?_, ?_, ?_, ⟨β, h2, ?_⟩, fun i hi => ?_⟩
  · show 1 ≤ qn σ + 1
    omega
  · show va_up (va_up (qg σ) k 1) j 1 (qn σ + 1 - 1) = 0
    rw [va_up_ne _ _ (by omega), va_up_ne _ _ (by omega)]
    exact hI.2.2.1 _ (by omega)
  · show Bd (upd (layB (layB (rng (qa σ) (qn σ) (nI 12)) _ _ _ _ _) _ _ _ _ _) _ (nI (base + more σ k j tw)))
    exact Bd_upd (Bd_lay (Bd_lay (Bd_rng h1))) (by omega)
  · show 2 * β ≤ qn σ + 1
    omega
  · show upd (qE σ) (qn σ) (qE σ j) i = -1 ∨ ∃ e : Nat, e ≤ 20 ∧ upd (qE σ) (qn σ) (qE σ j) i = nI e
    have hi' : i < qn σ + 1 := hi
    by_cases e1 : i = qn σ
    · rw [e1, upd_s]
      exact h4 j hj
    · rw [upd_n e1]
      exact h4 i (by omega)
/-! the weakest joint -/
theorem i_lt {x y : Int32} : x < y ↔ x.toInt < y.toInt := Int32.lt_iff_toInt_lt
theorem wk_min (f : Nat → Int32) : ∀ (n w : Nat), wk f n = some w → ∀ i, i < n → ¬ f i < f w
  | 0, w, h, i, hi => absurd hi (Nat.not_lt_zero i)
  | n + 1, w, h, i, hi => by
    have ih := wk_min f n
    cases hq : wk f n with
    | none =>
      rw [wk_0 hq] at h
      cases h
      rcases Nat.eq_zero_or_pos n with z | z
      · have e : i = n := by omega
        rw [e, i_lt]
        omega
      · obtain ⟨w2, h2⟩ := wk_some f n z
        rw [hq] at h2
        cases h2
    | some v =>
      by_cases h2 : f n < f v
      · rw [wk_y hq h2] at h
        cases h
        by_cases e : i = n
        · rw [e, i_lt]
          omega
        · have h3 := ih v hq i (by omega)
          rw [i_lt] at h2 h3 ⊢
          omega
      · rw [wk_n hq h2] at h
        have hv := Option.some.inj h
        rw [← hv]
        by_cases e : i = n
        · rw [e]
          exact h2
        · exact ih _ hq i (by omega)
theorem cW_zero {f : Nat → Int32} {x : Int32} : ∀ {n : Nat}, (∀ i, i < n → ¬ f i < x) → cW f x n = 0
  | 0, _ => rfl
  | n + 1, h => by rw [cW_n (h n (Nat.lt_succ_self n)), cW_zero fun i hi => h i (Nat.lt_succ_of_lt hi)]
theorem bJ_no {σ : St} {k : Nat} {z : Int32} (h : bJ σ k z = none) : cW (stn (rk σ k) (ak σ k)) z (qp σ k - 1) = 0 := by
  cases hw : wk (stn (rk σ k) (ak σ k)) (qp σ k - 1) with
  | none =>
    rcases Nat.eq_zero_or_pos (qp σ k - 1) with e | e
    · rw [e]
      rfl
    · obtain ⟨w, h2⟩ := wk_some (stn (rk σ k) (ak σ k)) _ e
      rw [hw] at h2
      cases h2
  | some w =>
    by_cases h2 : stn (rk σ k) (ak σ k) w < z
    · rw [bJ_s hw h2] at h
      cases h
    · exact cW_zero fun i hi => by
        have h3 := wk_min _ _ _ hw i hi
        rw [i_lt] at h2 h3 ⊢
        omega
theorem bJ_yes {σ : St} {k j : Nat} {z : Int32} (h : bJ σ k z = some j) : stn (rk σ k) (ak σ k) j < z := by
  cases hw : wk (stn (rk σ k) (ak σ k)) (qp σ k - 1) with
  | none =>
    rw [bJ_n hw] at h
    cases h
  | some w =>
    by_cases h2 : stn (rk σ k) (ak σ k) w < z
    · rw [bJ_s hw h2] at h
      cases h
      exact h2
    · rw [bJ_h hw h2] at h
      cases h
/-! strengths -/
theorem mx_all : (List.range 13).all (fun b => (List.range 4).all (fun c => (List.range 4).all (fun d => decide (mx0 (nI b - nI c - nI d) = nI (b - c - d))))) = true := by decide +kernel
theorem stn_v {R Bs : Nat → Int32} {j b : Nat} (hb : b ≤ 12) (h : Bs j = nI b) : stn R Bs j = nI (b - rc R j - rc R (j + 1)) := by
  have h1 := List.all_eq_true.mp mx_all b (List.mem_range.mpr (by omega))
  have h2 := List.all_eq_true.mp h1 (rc R j) (List.mem_range.mpr (by have := rc_le R j; omega))
  have h3 := List.all_eq_true.mp h2 (rc R (j + 1)) (List.mem_range.mpr (by have := rc_le R (j + 1); omega))
  unfold stn
  rw [h]
  exact of_decide_eq_true h3
theorem stn_12 {σ : St} (h : Kv σ) (k j : Nat) : ∃ v : Nat, v ≤ 12 ∧ stn (rk σ k) (ak σ k) j = nI v := by
  obtain ⟨b, hb, e⟩ := h.1 (12 * k + j)
  exact ⟨_, by omega, stn_v (R := rk σ k) (Bs := ak σ k) hb e⟩
/-! rhymes, the best side, pairs, the row -/
theorem pw_comm (x y : Int32) : pw x y = pw y x := by
  by_cases h : x = y
  · rw [h]
  · have e1 : pw x y = (if x / nI 8 = y / nI 8 then 1 else 0) := if_neg h
    have e2 : pw y x = (if y / nI 8 = x / nI 8 then 1 else 0) := if_neg (fun e => h e.symm)
    rw [e1, e2]
    by_cases h2 : x / nI 8 = y / nI 8
    · rw [if_pos h2, if_pos h2.symm]
    · rw [if_neg h2, if_neg (fun e => h2 e.symm)]
theorem rhR_comm : ∀ a b : List Int32, rhR a b = rhR b a
  | [], [] => rfl
  | [], _ :: _ => rfl
  | _ :: _, [] => rfl
  | x :: xs, y :: ys => by
    show (if pw x y = 0 then 0 else pw x y + rhR xs ys) = (if pw y x = 0 then 0 else pw y x + rhR ys xs)
    rw [pw_comm x y, rhR_comm xs ys]
theorem rhR_self : ∀ a : List Int32, rhR a a = 2 * a.length
  | [] => rfl
  | x :: xs => by
    have h : pw x x = 2 := if_pos rfl
    show (if pw x x = 0 then 0 else pw x x + rhR xs xs) = 2 * (xs.length + 1)
    rw [h, rhR_self xs, if_neg (by decide)]
    omega
def sz (σ : St) (k t : Nat) : Nat := cU (rd (rk σ k) (qu σ k) t) (qp σ k)
theorem rhy_comm (σ : St) (a b t : Nat) : rhy σ a (qu σ a) b t = rhy σ b (qu σ b) a t := rhR_comm _ _
theorem rhy_1 (σ : St) (a b t : Nat) : rhy σ a (qu σ a) b t ≤ 2 * sz σ a t := by
  have h := rhR_le (lr (rd (rk σ a) (qu σ a) t) (qp σ a)) (lr (rd (rk σ b) (qu σ b) t) (qp σ b))
  rw [lr_len] at h
  exact h
theorem rhy_self (σ : St) (a t : Nat) : rhy σ a (qu σ a) a t = 2 * sz σ a t := by
  have h := rhR_self (lr (rd (rk σ a) (qu σ a) t) (qp σ a))
  rw [lr_len] at h
  exact h
theorem sz_le (σ : St) (k t : Nat) : sz σ k t ≤ qp σ k := cU_le _ _
theorem bS_le (f : Nat → Nat) : ∀ n, bS f (n + 1) ≤ n
  | 0 => by
    show (if f 0 < f 0 then 0 else 0) ≤ 0
    split <;> exact Nat.le_refl 0
  | n + 1 => by
    have ih := bS_le f n
    show (if f (bS f (n + 1)) < f (n + 1) then n + 1 else bS f (n + 1)) ≤ n + 1
    split <;> omega
theorem rbest_le (σ : St) (a b t : Nat) : rbest σ a b t ≤ 2 := bS_le _ 2
theorem row_th {σ : St} {k t : Nat} (h0 : qg σ k = 0) : ∀ n, sN (rwF σ k t) n + (if k < n then 1 else 0) ≤ thr σ n
  | 0 => Nat.le_refl 0
  | n + 1 => by
    have ih := row_th (t := t) h0 n
    show (sN (rwF σ k t) n + rwF σ k t n) + (if k < n + 1 then 1 else 0) ≤ thr σ (n + 1)
    by_cases e : n = k
    · subst e
      rw [thr_y h0, if_pos (Nat.lt_succ_self n), show rwF σ n t n = 0 from bP_f fun q => q.2.1 rfl]
      rw [if_neg (Nat.lt_irrefl n)] at ih
      omega
    · have h2 : (if k < n + 1 then 1 else 0) = (if k < n then 1 else 0) := by
        by_cases h : k < n
        · rw [if_pos h, if_pos (by omega)]
        · rw [if_neg h, if_neg (by omega)]
      rw [h2]
      rcases Nat.eq_zero_or_pos (qg σ n) with q | q
      · rw [thr_y q]
        have h3 : rwF σ k t n ≤ 1 := bP_le _
        omega
      · rw [thr_n q, show rwF σ k t n = 0 from bP_f fun z => by have := z.1; omega]
        omega
theorem row_le {σ : St} {k t : Nat} (hk : k < qn σ) (h0 : qg σ k = 0) : rw_ σ k t (qn σ) ≤ thr σ (qn σ) := by
  have h := row_th (t := t) h0 (qn σ)
  rw [if_pos hk] at h
  unfold rw_
  omega
/-! rolling -/
theorem up_up {σ : St} {k a b : Nat} : o_up (o_up σ k a) k b = o_up σ k b := by
  have e : va_up (va_up (qu σ) k a) k b = va_up (qu σ) k b := by
    funext i
    by_cases h : i = k
    · rw [h, va_up_self, va_up_self]
    · rw [va_up_ne _ _ h, va_up_ne _ _ h, va_up_ne _ _ h]
  show (qn σ, qb σ, qp σ, va_up (va_up (qu σ) k a) k b, qg σ, qB σ, qE σ, qr σ, qa σ, ql σ) = o_up σ k b
  rw [e]
  rfl
theorem up_same {σ : St} {k : Nat} : o_up σ k (qu σ k) = σ := by
  have e : va_up (qu σ) k (qu σ k) = qu σ := by
    funext i
    by_cases h : i = k
    · rw [h, va_up_self]
    · rw [va_up_ne _ _ h]
  show (qn σ, qb σ, qp σ, va_up (qu σ) k (qu σ k), qg σ, qB σ, qE σ, qr σ, qa σ, ql σ) = σ
  rw [e]
  rfl
/-! what is told of a stick; what is gone stays -/
def tv (σ : St) (k i : Nat) : Int32 := if i < 7 then fk σ k i else if i < 43 then (if i - 7 < 3 * qp σ k then rk σ k (i - 7) else nI 0) else (if i - 43 + 1 < qp σ k then stn (rk σ k) (ak σ k) (i - 43) else nI 0)
def Keep (σ σ' : St) (k : Nat) : Prop := qp σ' k = qp σ k ∧ qu σ' k = qu σ k ∧ qB σ' k = qB σ k ∧ qE σ' k = qE σ k ∧ qg σ' k = qg σ k ∧ (∀ q, q < 36 → rk σ' k q = rk σ k q) ∧ (∀ q, q < 12 → ak σ' k q = ak σ k q) ∧ ∀ q, q < 12 → lk σ' k q = lk σ k q
theorem tv_keep {σ σ' : St} {k : Nat} (hp : qp σ k ≤ 12) (h : Keep σ σ' k) (i : Nat) (hi : i < 60) : tv σ' k i = tv σ k i := by
  obtain ⟨h1, h2, h3, h4, h5, h6, h7, h8⟩ := h
  have e1 : rT (rk σ' k) (qp σ k) = rT (rk σ k) (qp σ k) := rT_cong fun q hq => h6 q (by omega)
  have e2 : gT (lk σ' k) (qp σ k - 1) = gT (lk σ k) (qp σ k - 1) := gT_cong fun q hq => h8 q (by omega)
  unfold tv
  by_cases c1 : i < 7
  · rw [if_pos c1, if_pos c1]
    unfold fk fct
    rw [h1, h2, h3, h4, h5, e1, e2]
  · rw [if_neg c1, if_neg c1, h1]
    by_cases c2 : i < 43
    · rw [if_pos c2, if_pos c2]
      by_cases c3 : i - 7 < 3 * qp σ k
      · rw [if_pos c3, if_pos c3, h6 _ (by omega)]
      · rw [if_neg c3, if_neg c3]
    · rw [if_neg c2, if_neg c2]
      by_cases c3 : i - 43 + 1 < qp σ k
      · rw [if_pos c3, if_pos c3]
        exact stn_cong (h7 _ (by omega)) (rc_cong fun s hs => h6 _ (by omega)) (rc_cong fun s hs => h6 _ (by omega))
      · rw [if_neg c3, if_neg c3]
theorem Keep.rf {σ : St} {k : Nat} : Keep σ σ k := ⟨rfl, rfl, rfl, rfl, rfl, fun _ _ => rfl, fun _ _ => rfl, fun _ _ => rfl⟩
theorem keep_bend {σ : St} {k j i : Nat} (hI : Iv σ) (hk : k < qn σ) (hj : j < qp σ k - 1) (hi : i < qn σ) (hik : ¬ i = k) : Keep σ (sBend σ k j) i := by
  refine ⟨bd_p0 hi, ?_, ?_, ?_, ?_, fun q hq => bd_r0 hI hk hj hi hq, fun q hq => bB_0 (f := qa σ) (x := nI 12) hI hk hj hi hq, fun q hq => bB_0 (f := ql σ) (x := nI 0) hI hk hj hi hq⟩
  · show va_up (va_up (qu σ) (qn σ) _) (qn σ + 1) _ i = _
    rw [va_up_ne _ _ (by omega), va_up_ne _ _ (by omega)]
  · show upd (upd (qB σ) (qn σ) _) (qn σ + 1) _ i = _
    rw [upd_n (by omega), upd_n (by omega)]
  · show upd (upd (qE σ) (qn σ) _) (qn σ + 1) _ i = _
    rw [upd_n (by omega), upd_n (by omega)]
  · show va_up (qg σ) k 1 i = _
    rw [va_up_ne _ _ hik]
theorem keep_glue {σ : St} {k j tw base i : Nat} (hk : k < qn σ) (hj : j < qn σ) (hp : qp σ k + qp σ j ≤ 12) (hi : i < qn σ) (hik : ¬ i = k) (hij : ¬ i = j) : Keep σ (sGlue σ k j tw base) i := by
  refine ⟨gl_p0 hi, ?_, ?_, ?_, ?_, fun q hq => gl_r0 hk hj hp hi hq, fun q hq => gBs_0 (f := qa σ) (x := nI 12) (y := nI (base + more σ k j tw)) hk hj hp hi hq, fun q hq => gBs_0 (f := ql σ) (x := nI 0) (y := nI 1) hk hj hp hi hq⟩
  · show va_up (qu σ) (qn σ) _ i = _
    rw [va_up_ne _ _ (by omega)]
  · show upd (qB σ) (qn σ) _ i = _
    rw [upd_n (by omega)]
  · show upd (qE σ) (qn σ) _ i = _
    rw [upd_n (by omega)]
  · show va_up (va_up (qg σ) k 1) j 1 i = _
    rw [va_up_ne _ _ hij, va_up_ne _ _ hik]
theorem keep_make {σ : St} {P i : Nat} (hi : i < qn σ) : Keep σ (sMake σ P) i := by
  refine ⟨?_, ?_, ?_, ?_, rfl, fun _ _ => rfl, fun q hq => ?_, fun q hq => ?_⟩
  · show va_up (qp σ) (qn σ) _ i = _
    rw [va_up_ne _ _ (by omega)]
  · show va_up (qu σ) (qn σ) _ i = _
    rw [va_up_ne _ _ (by omega)]
  · show upd (qB σ) (qn σ) _ i = _
    rw [upd_n (by omega)]
  · show upd (qE σ) (qn σ) _ i = _
    rw [upd_n (by omega)]
  · show rng (qa σ) (qn σ) (nI 12) (12 * i + q) = _
    rw [rng_out (by omega)]
    rfl
  · show rng (ql σ) (qn σ) (nI 0) (12 * i + q) = _
    rw [rng_out (by omega)]
    rfl
theorem keep_rune {σ : St} {k x i : Nat} {r : Int32} (hik : ¬ i = k) (hx : x < 36) : Keep σ (o_rune σ (36 * k + x) r) i :=
  ⟨rfl, rfl, rfl, rfl, rfl, fun q hq => rk_rune_o hik hx hq, fun _ _ => rfl, fun _ _ => rfl⟩
/-! the halves of a break, the new joint -/
theorem bd_fit {σ : St} {k j : Nat} (hI : Iv σ) (h : Kv σ) (hk : k < qn σ) (hn : qn σ ≤ 38) : fitP (sBend σ k j) (qn σ) (qn σ + 1) := by
  obtain ⟨-, ⟨β, h2, h3⟩, -⟩ := h
  refine ⟨by omega, ?_, ?_, ?_, ?_⟩
  · show va_up (qg σ) k 1 (qn σ) = 0
    rw [va_up_ne _ _ (by omega)]
    exact hI.2.2.1 _ (Nat.le_refl _)
  · show va_up (qg σ) k 1 (qn σ + 1) = 0
    rw [va_up_ne _ _ (by omega)]
    exact hI.2.2.1 _ (by omega)
  · show ¬ upd (upd (qE σ) (qn σ) (qb σ)) (qn σ + 1) (qE σ k) (qn σ) = -1
    rw [upd_n (by omega), upd_s, h2]
    intro e
    have h4 := nI_toInt (show β < 2 ^ 31 by omega)
    rw [e] at h4
    have h5 : (-1 : Int32).toInt = -1 := by decide +kernel
    omega
  · show upd (upd (qE σ) (qn σ) (qb σ)) (qn σ + 1) (qE σ k) (qn σ) = upd (upd (qB σ) (qn σ) (qB σ k)) (qn σ + 1) (qb σ) (qn σ + 1)
    rw [upd_n (by omega), upd_s, upd_s]
theorem gl_st {σ : St} {k j tw base : Nat} (hb : base ≤ 9) : ∃ v : Nat, v ≤ base + more σ k j tw ∧ stn (rk (sGlue σ k j tw base) (qn σ)) (ak (sGlue σ k j tw base) (qn σ)) (qp σ k - 1) = nI v := by
  have hm := more_le σ k j tw
  have h := gBs_2 (σ := σ) (k := k) (j := j) (f := qa σ) (x := nI 12) (y := nI (base + more σ k j tw))
  exact ⟨_, by omega, stn_v (R := rk (sGlue σ k j tw base) (qn σ)) (Bs := ak (sGlue σ k j tw base) (qn σ)) (b := base + more σ k j tw) (by omega) h⟩
