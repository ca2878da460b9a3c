/-! what the calls do to the state -/
def o_rune (σ : St) (i : Nat) (x : Int32) : St := (qn σ, qb σ, qp σ, qu σ, qg σ, qB σ, qE σ, upd (qr σ) i x, qa σ, ql σ)
def o_up (σ : St) (k v : Nat) : St := (qn σ, qb σ, qp σ, va_up (qu σ) k v, qg σ, qB σ, qE σ, qr σ, qa σ, ql σ)
def o_gone (σ : St) (k : Nat) : St := (qn σ, qb σ, qp σ, qu σ, va_up (qg σ) k 1, qB σ, qE σ, qr σ, qa σ, ql σ)
def o_brk (σ : St) : St := (qn σ, qb σ + nI 1, qp σ, qu σ, qg σ, qB σ, qE σ, qr σ, qa σ, ql σ)
def rng (f : Nat → Int32) (n : Nat) (x : Int32) : Nat → Int32 := fun i => if 12 * n ≤ i ∧ i < 12 * n + 12 then x else f i
def o_add (σ : St) (P U : Nat) (B E : Int32) : St := (qn σ + 1, qb σ, va_up (qp σ) (qn σ) P, va_up (qu σ) (qn σ) U, qg σ, upd (qB σ) (qn σ) B, upd (qE σ) (qn σ) E, qr σ, rng (qa σ) (qn σ) (nI 12), rng (ql σ) (qn σ) (nI 0))
def layR (f : Nat → Int32) (fr first many to at_ tw : Nat) : Nat → Int32 := fun q => if 36 * to + 3 * at_ ≤ q ∧ q < 36 * to + 3 * at_ + many then f (36 * fr + (3 * (first + (q - (36 * to + 3 * at_)) / 3) + ((q - (36 * to + 3 * at_)) % 3 + tw) % 3)) else f q
def layB (f : Nat → Int32) (fr first many to at_ : Nat) : Nat → Int32 := fun q => if 12 * to + at_ ≤ q ∧ q < 12 * to + at_ + many then f (12 * fr + (first + (q - (12 * to + at_)))) else f q
def o_lay (σ : St) (fr first many to at_ tw : Nat) : St := (qn σ, qb σ, qp σ, qu σ, qg σ, qB σ, qE σ, layR (qr σ) fr first (3 * many) to at_ tw, layB (qa σ) fr first (many - 1) to at_, layB (ql σ) fr first (many - 1) to at_)
def o_joint (σ : St) (i : Nat) (x : Int32) : St := (qn σ, qb σ, qp σ, qu σ, qg σ, qB σ, qE σ, qr σ, upd (qa σ) i x, upd (ql σ) i (nI 1))
def sMake (σ : St) (P : Nat) : St := o_add σ P 0 (-1) (-1)
def sBend (σ : St) (k j : Nat) : St :=
  o_lay (o_lay (o_brk (o_add (o_add (o_gone σ k) (j + 1) (qu σ k) (qB σ k) (qb σ)) (qp σ k - (j + 1)) (qu σ k) (qb σ) (qE σ k))) k 0 (j + 1) (qn σ) 0 0) k (j + 1) (qp σ k - (j + 1)) (qn σ + 1) 0 0
noncomputable def more (σ : St) (k j tw : Nat) : Nat := 3 * bP (tw = 0 ∧ fitP σ k j)
noncomputable def sGlue (σ : St) (k j tw base : Nat) : St :=
  o_joint (o_lay (o_lay (o_add (o_gone (o_gone σ k) j) (qp σ k + qp σ j) (qu σ k) (qB σ k) (qE σ j)) k 0 (qp σ k) (qn σ) 0 0) j 0 (qp σ j) (qn σ) (qp σ k) tw) (12 * qn σ + (qp σ k - 1)) (nI (base + more σ k j tw))
theorem upd_s {f : Nat → Int32} {k : Nat} {x : Int32} : upd f k x k = x := pk_us
theorem upd_n {f : Nat → Int32} {k j : Nat} {x : Int32} (h : j ≠ k) : upd f k x j = f j := pk_un h
theorem thr_gone {σ : St} {k : Nat} (h : qg σ k = 0) : ∀ n, thr (o_gone σ k) n + (if k < n then 1 else 0) = thr σ n
  | 0 => rfl
  | n + 1 => by
    have ih := thr_gone h n
    show (thr (o_gone σ k) n + (if va_up (qg σ) k 1 n = 0 then 1 else 0)) + (if k < n + 1 then 1 else 0) = thr σ n + (if qg σ n = 0 then 1 else 0)
    by_cases e : n = k
    · subst e
      rw [va_up_self, if_neg (by decide), if_pos (Nat.lt_succ_self n), if_pos h]
      rw [if_neg (Nat.lt_irrefl n)] at ih
      omega
    · rw [va_up_ne _ _ e]
      by_cases h2 : k < n
      · rw [if_pos (show k < n + 1 by omega)]
        rw [if_pos h2] at ih
        omega
      · rw [if_neg (show ¬ k < n + 1 by omega)]
        rw [if_neg h2] at ih
        omega
theorem thr_cong {σ σ' : St} (h : qg σ = qg σ') (n : Nat) : thr σ n = thr σ' n := by
  unfold thr
  rw [h]
theorem Iv_make {σ : St} {P U : Nat} {B E : Int32} (h : Iv σ) (h1 : qn σ < 40) (h2 : thr σ (qn σ) < 12) (hP0 : 1 ≤ P) (hP : P ≤ 12) (hU : U < 3) : Iv (o_add σ P U B E) := by
  obtain ⟨i1, i2, i3, i4, i5, i6, i7⟩ := h
  refine ⟨h1, fun k hk => ?_, fun k hk => i3 k (Nat.le_of_succ_le hk), i4, fun i hi => i5 i ?_, fun i => ?_, ?_⟩
  · show 1 ≤ va_up (qp σ) (qn σ) P k ∧ va_up (qp σ) (qn σ) P k ≤ 12 ∧ va_up (qu σ) (qn σ) U k < 3 ∧ qg σ k ≤ 1
    by_cases e : k = qn σ
    · subst e
      rw [va_up_self, va_up_self, i3 _ (Nat.le_refl _)]
      omega
    · rw [va_up_ne _ _ e, va_up_ne _ _ e]
      have hk' : k < qn σ + 1 := hk
      exact i2 k (by omega)
  · have hi' : 36 * (qn σ + 1) ≤ i := hi
    omega
  · show rng (ql σ) (qn σ) (nI 0) i = 0 ∨ rng (ql σ) (qn σ) (nI 0) i = 1
    unfold rng
    split
    · exact Or.inl rfl
    · exact i6 i
  · show thr (o_add σ P U B E) (qn σ + 1) ≤ 12
    rw [thr_cong (show qg (o_add σ P U B E) = qg σ from rfl), thr_y (i3 _ (Nat.le_refl _))]
    omega
theorem Iv_rune {σ : St} {i : Nat} {x : Int32} (h : Iv σ) (hi : i < 36 * qn σ) (hx : okR x) : Iv (o_rune σ i x) := by
  obtain ⟨i1, i2, i3, i4, i5, i6, i7⟩ := h
  refine ⟨i1, i2, i3, fun q => ?_, fun q hq => ?_, i6, i7⟩
  · show okR (upd (qr σ) i x q)
    by_cases e : q = i
    · subst e
      rw [upd_s]
      exact hx
    · rw [upd_n e]
      exact i4 q
  · show upd (qr σ) i x q = -1
    have hq' : 36 * qn σ ≤ q := hq
    rw [upd_n (by omega)]
    exact i5 q hq
theorem Iv_up {σ : St} {k v : Nat} (h : Iv σ) (hv : v < 3) : Iv (o_up σ k v) := by
  obtain ⟨i1, i2, i3, i4, i5, i6, i7⟩ := h
  refine ⟨i1, fun q hq => ?_, i3, i4, i5, i6, i7⟩
  obtain ⟨a1, a2, a3, a4⟩ := i2 q hq
  refine ⟨a1, a2, ?_, a4⟩
  show va_up (qu σ) k v q < 3
  by_cases e : q = k
  · subst e
    rw [va_up_self]
    exact hv
  · rw [va_up_ne _ _ e]
    exact a3
theorem Iv_gone {σ : St} {k : Nat} (h : Iv σ) (hk : k < qn σ) (h0 : qg σ k = 0) : Iv (o_gone σ k) ∧ thr (o_gone σ k) (qn σ) + 1 = thr σ (qn σ) := by
  have ht := thr_gone h0 (qn σ)
  rw [if_pos hk] at ht
  obtain ⟨i1, i2, i3, i4, i5, i6, i7⟩ := h
  refine ⟨⟨i1, fun q hq => ?_, fun q hq => ?_, i4, i5, i6, ?_⟩, ht⟩
  · obtain ⟨a1, a2, a3, a4⟩ := i2 q hq
    refine ⟨a1, a2, a3, ?_⟩
    show va_up (qg σ) k 1 q ≤ 1
    by_cases e : q = k
    · subst e
      rw [va_up_self]
      exact Nat.le_refl 1
    · rw [va_up_ne _ _ e]
      exact a4
  · show va_up (qg σ) k 1 q = 0
    have hq' : qn σ ≤ q := hq
    rw [va_up_ne _ _ (by omega)]
    exact i3 q hq
  · show thr (o_gone σ k) (qn σ) ≤ 12
    omega
theorem Iv_brk {σ : St} (h : Iv σ) : Iv (o_brk σ) := h
theorem Iv_lay {σ : St} {fr first many to at_ tw : Nat} (h : Iv σ) (hto : to < qn σ) (hm : at_ + many ≤ 12) : Iv (o_lay σ fr first many to at_ tw) := by
  obtain ⟨i1, i2, i3, i4, i5, i6, i7⟩ := h
  refine ⟨i1, i2, i3, fun q => ?_, fun q hq => ?_, fun q => ?_, i7⟩
  · show okR (layR _ _ _ _ _ _ _ q)
    unfold layR
    split
    · exact i4 _
    · exact i4 _
  · show layR _ _ _ _ _ _ _ q = -1
    have hq' : 36 * qn σ ≤ q := hq
    unfold layR
    rw [if_neg (by omega)]
    exact i5 q hq
  · show layB _ _ _ _ _ _ q = 0 ∨ layB _ _ _ _ _ _ q = 1
    unfold layB
    split
    · exact i6 _
    · exact i6 _
theorem Iv_joint {σ : St} {i : Nat} {x : Int32} (h : Iv σ) : Iv (o_joint σ i x) := by
  obtain ⟨i1, i2, i3, i4, i5, i6, i7⟩ := h
  refine ⟨i1, i2, i3, i4, i5, fun q => ?_, i7⟩
  show upd (ql σ) i (nI 1) q = 0 ∨ upd (ql σ) i (nI 1) q = 1
  by_cases e : q = i
  · subst e
    rw [upd_s]
    exact Or.inr rfl
  · rw [upd_n e]
    exact i6 q
theorem Iv_bend {σ : St} {k j : Nat} (h : Iv σ) (hk : k < qn σ) (h0 : qg σ k = 0) (hj : j < qp σ k - 1) (hn : qn σ ≤ 38) (ht : thr σ (qn σ) < 12) : Iv (sBend σ k j) := by
  obtain ⟨g1, g2⟩ := Iv_gone h hk h0
  obtain ⟨a1, a2, a3, a4⟩ := h.2.1 k hk
  have b1 : Iv (o_add (o_gone σ k) (j + 1) (qu σ k) (qB σ k) (qb σ)) := Iv_make g1 (show qn σ < 40 by omega) (show thr (o_gone σ k) (qn σ) < 12 by omega) (by omega) (by omega) a3
  have t1 : thr (o_add (o_gone σ k) (j + 1) (qu σ k) (qB σ k) (qb σ)) (qn σ + 1) = thr (o_gone σ k) (qn σ) + 1 := by
    rw [thr_cong (show qg (o_add (o_gone σ k) (j + 1) (qu σ k) (qB σ k) (qb σ)) = qg (o_gone σ k) from rfl)]
    exact thr_y (g1.2.2.1 _ (Nat.le_refl _))
  have b2 : Iv (o_add (o_add (o_gone σ k) (j + 1) (qu σ k) (qB σ k) (qb σ)) (qp σ k - (j + 1)) (qu σ k) (qb σ) (qE σ k)) := Iv_make b1 (show qn σ + 1 < 40 by omega) (show thr _ (qn σ + 1) < 12 by rw [t1]; omega) (by omega) (by omega) a3
  exact Iv_lay (Iv_lay (Iv_brk b2) (show qn σ < qn σ + 1 + 1 by omega) (by omega)) (show qn σ + 1 < qn σ + 1 + 1 by omega) (by omega)
theorem Iv_glue {σ : St} {k j tw base : Nat} (h : Iv σ) (hk : k < qn σ) (hj : j < qn σ) (hkj : ¬ k = j) (h0 : qg σ k = 0) (h1 : qg σ j = 0) (hn : qn σ < 40) (hp : qp σ k + qp σ j ≤ 12) : Iv (sGlue σ k j tw base) := by
  obtain ⟨g1, g2⟩ := Iv_gone h hk h0
  obtain ⟨g3, g4⟩ := Iv_gone (k := j) g1 hj (by show va_up (qg σ) k 1 j = 0; rw [va_up_ne _ _ (fun e => hkj e.symm)]; exact h1)
  obtain ⟨a1, a2, a3, a4⟩ := h.2.1 k hk
  have g4' : thr (o_gone (o_gone σ k) j) (qn σ) + 1 = thr (o_gone σ k) (qn σ) := g4
  have h7 := h.2.2.2.2.2.2
  have b1 : Iv (o_add (o_gone (o_gone σ k) j) (qp σ k + qp σ j) (qu σ k) (qB σ k) (qE σ j)) := Iv_make g3 hn (show thr (o_gone (o_gone σ k) j) (qn σ) < 12 by omega) (by omega) hp a3
  exact Iv_joint (Iv_lay (Iv_lay b1 (show qn σ < qn σ + 1 by omega) (by omega)) (show qn σ < qn σ + 1 by omega) (by omega))
/-! the class's world behind a call -/
theorem SK.of {Γ : GG} {σ : St} {k a P U : Nat} {B E : Int32} {G : Nat} {R Bs Gl : Nat → Int32} {H : Heap} (h : SW Γ a P U B E G R Bs Gl H) (e1 : P = qp σ k) (e2 : U = qu σ k) (e3 : B = qB σ k) (e4 : E = qE σ k) (e5 : G = qg σ k) (hR : ∀ i, i < 36 → R i = qr σ (36 * k + i)) (hB : ∀ j, j < 11 → Bs j = qa σ (12 * k + j)) (hG : ∀ j, j < 11 → Gl j = ql σ (12 * k + j)) : SK Γ σ k a H := by
  subst e1; subst e2; subst e3; subst e4; subst e5
  exact ⟨h.1, h.2.1.ext hR, h.2.2.1.ext hB, h.2.2.2.ext hG⟩
/-- what a call of the class may change -/
def FrC (x : Nat) (σ : St) (ad : Nat → Nat) (H H' : Heap) : Prop := H.size ≤ H'.size ∧ ∀ q : Nat, q < H.size → q ≠ x → q ≠ x + 1 → (∀ i, i < qn σ → q < ad i ∨ ad i + 4 ≤ q) → H'[q]? = H[q]?
theorem FrC.rf {x : Nat} {σ : St} {ad : Nat → Nat} {H : Heap} : FrC x σ ad H H := ⟨Nat.le_refl _, fun _ _ _ _ _ => rfl⟩
theorem CW.carve {Γ : GG} {x b0 : Nat} {σ : St} {ad : Nat → Nat} {H H1 : Heap} {k sd pl : Nat} {v : Int32} (h : CW Γ x σ ad H) (hy : Ly b0 σ ad) (hb : x + 2 ≤ b0) (hk : k < qn σ) (h1 : sd < 3) (h2 : pl < 12)
    (hW : SW Γ (ad k) (qp σ k) (qu σ k) (qB σ k) (qE σ k) (qg σ k) (upd (rk σ k) (3 * pl + sd) v) (ak σ k) (lk σ k) H1) (ho : ∀ q : Nat, q ≠ ad k + 1 → H1[q]? = H[q]?) : CW Γ x (o_rune σ (36 * k + (3 * pl + sd)) v) ad H1 := by
  have hk0 := hy.1 k hk
  refine ⟨h.1.kept (ho _ (by omega)), h.2.1.kept (ho _ (by omega)), fun i hi => ?_⟩
  have hi' : i < qn σ := hi
  by_cases e : i = k
  · subst e
    refine SK.of hW rfl rfl rfl rfl rfl (fun q hq => ?_) (fun _ _ => rfl) (fun _ _ => rfl)
    show upd (rk σ i) (3 * pl + sd) v q = upd (qr σ) (36 * i + (3 * pl + sd)) v (36 * i + q)
    by_cases e2 : q = 3 * pl + sd
    · rw [e2, upd_s, upd_s]
    · rw [upd_n e2, upd_n (by omega)]
      rfl
  · have h3 := (h.2.2 i hi').kept (H1 := H1) (fun q q1 q2 => ho q (by
      have := hy.1 i hi'
      rcases Nat.lt_or_gt_of_ne e with z | z
      · have := hy.2 i k z hk; omega
      · have := hy.2 k i z hi'; omega))
    refine SK.of h3 rfl rfl rfl rfl rfl (fun q hq => ?_) (fun _ _ => rfl) (fun _ _ => rfl)
    show rk σ i q = upd (qr σ) (36 * k + (3 * pl + sd)) v (36 * i + q)
    rw [upd_n (by omega)]
    rfl
theorem CW.roll {Γ : GG} {x b0 : Nat} {σ : St} {ad : Nat → Nat} {H H1 : Heap} {k u : Nat} (h : CW Γ x σ ad H) (hy : Ly b0 σ ad) (hb : x + 2 ≤ b0) (hk : k < qn σ)
    (hO : Ob Γ 0 (ad k) [.int (nI (qp σ k)), .int (nI u), .int (qB σ k), .int (qE σ k), .int (nI (qg σ k)), .ref (ad k + 1), .ref (ad k + 2), .ref (ad k + 3)] H1) (ho : ∀ q : Nat, q ≠ ad k → H1[q]? = H[q]?) : CW Γ x (o_up σ k u) ad H1 := by
  have hk0 := hy.1 k hk
  refine ⟨h.1.kept (ho _ (by omega)), h.2.1.kept (ho _ (by omega)), fun i hi => ?_⟩
  have hi' : i < qn σ := hi
  by_cases e : i = k
  · subst e
    have h4 := h.2.2 i hi'
    refine SK.of ⟨hO, h4.2.1.kept (ho _ (by omega)), h4.2.2.1.kept (ho _ (by omega)), h4.2.2.2.kept (ho _ (by omega))⟩ rfl (by show u = va_up (qu σ) i u i; rw [va_up_self]) rfl rfl rfl (fun _ _ => rfl) (fun _ _ => rfl) (fun _ _ => rfl)
  · have h3 := (h.2.2 i hi').kept (H1 := H1) (fun q q1 q2 => ho q (by
      rcases Nat.lt_or_gt_of_ne e with z | z
      · have := hy.2 i k z hk; omega
      · have := hy.2 k i z hi'; omega))
    exact SK.of h3 rfl (by show qu σ i = va_up (qu σ) k u i; rw [va_up_ne _ _ e]) rfl rfl rfl (fun _ _ => rfl) (fun _ _ => rfl) (fun _ _ => rfl)
theorem Ly.push {b0 : Nat} {σ σ' : St} {ad : Nat → Nat} {a : Nat} (hy : Ly b0 σ ad) (hn : qn σ' = qn σ + 1) (hb : b0 ≤ a) (ha : ∀ k, k < qn σ → ad k + 4 ≤ a) : Ly b0 σ' (va_up ad (qn σ) a) := by
  refine ⟨fun k hk => ?_, fun i j hij hj => ?_⟩
  · rw [hn] at hk
    by_cases e : k = qn σ
    · rw [e, va_up_self]; exact hb
    · rw [va_up_ne _ _ e]; exact hy.1 k (by omega)
  · rw [hn] at hj
    rw [va_up_ne _ _ (show i ≠ qn σ by omega)]
    by_cases e : j = qn σ
    · rw [e, va_up_self]; exact ha i (by omega)
    · rw [va_up_ne _ _ e]; exact hy.2 i j hij (by omega)
theorem CW.lt {Γ : GG} {x : Nat} {σ : St} {ad : Nat → Nat} {H : Heap} (h : CW Γ x σ ad H) {k : Nat} (hk : k < qn σ) : ad k + 4 ≤ H.size := (h.2.2 k hk).2.2.2.lt
/-- one more stick, where the others stay as they were -/
theorem CW.push {Γ : GG} {x : Nat} {σ σ' : St} {ad : Nat → Nat} {H : Heap} {a : Nat} (hO : Ob Γ 1 x [.ref (x + 1), .int (nI (qn σ + 1)), .int (qb σ')] H) (hQ : Aq Γ (x + 1) 40 (va_up (fun k => if k < qn σ then some (ad k) else none) (qn σ) (some a)) H) (hn : qn σ' = qn σ + 1)
    (hs : ∀ k, k < qn σ → SK Γ σ' k (ad k) H) (hN : SK Γ σ' (qn σ) a H) : CW Γ x σ' (va_up ad (qn σ) a) H := by
  have e : va_up (fun k => if k < qn σ then some (ad k) else none) (qn σ) (some a) = (fun k => if k < qn σ' then some (va_up ad (qn σ) a k) else none) := by
    funext q
    rw [hn]
    by_cases e1 : q = qn σ
    · subst e1
      rw [va_up_self, va_up_self, if_pos (Nat.lt_succ_self _)]
    · rw [va_up_ne _ _ e1, va_up_ne _ _ e1]
      by_cases e2 : q < qn σ
      · rw [if_pos e2, if_pos (by omega)]
      · rw [if_neg e2, if_neg (by omega)]
  refine ⟨by rw [hn]; exact hO, by rw [← e]; exact hQ, fun k hk => ?_⟩
  rw [hn] at hk
  by_cases e1 : k = qn σ
  · rw [e1, va_up_self]; exact hN
  · rw [va_up_ne _ _ e1]; exact hs k (by omega)
