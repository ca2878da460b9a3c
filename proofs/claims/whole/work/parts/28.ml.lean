def u_P (σ : St) (i : Nat) (v : Nat) : St := (qn σ, qb σ, va_up (qp σ) i v, qu σ, qg σ, qB σ, qE σ, qr σ, qa σ, ql σ)
def u_U (σ : St) (i : Nat) (v : Nat) : St := (qn σ, qb σ, qp σ, va_up (qu σ) i v, qg σ, qB σ, qE σ, qr σ, qa σ, ql σ)
def u_G (σ : St) (i : Nat) (v : Nat) : St := (qn σ, qb σ, qp σ, qu σ, va_up (qg σ) i v, qB σ, qE σ, qr σ, qa σ, ql σ)
def u_B (σ : St) (i : Nat) (v : Int32) : St := (qn σ, qb σ, qp σ, qu σ, qg σ, upd (qB σ) i v, qE σ, qr σ, qa σ, ql σ)
def u_E (σ : St) (i : Nat) (v : Int32) : St := (qn σ, qb σ, qp σ, qu σ, qg σ, qB σ, upd (qE σ) i v, qr σ, qa σ, ql σ)
def u_R (σ : St) (i : Nat) (v : Int32) : St := (qn σ, qb σ, qp σ, qu σ, qg σ, qB σ, qE σ, upd (qr σ) i v, qa σ, ql σ)
def u_A (σ : St) (i : Nat) (v : Int32) : St := (qn σ, qb σ, qp σ, qu σ, qg σ, qB σ, qE σ, qr σ, upd (qa σ) i v, ql σ)
def u_L (σ : St) (i : Nat) (v : Int32) : St := (qn σ, qb σ, qp σ, qu σ, qg σ, qB σ, qE σ, qr σ, qa σ, upd (ql σ) i v)
def u_n (σ : St) (n : Nat) : St := (n, qb σ, qp σ, qu σ, qg σ, qB σ, qE σ, qr σ, qa σ, ql σ)
theorem MW.kept {Γ : GG} {mo : Nat} {th : Int32} {σ : St} {g1 g2 : Nat → Int32} {H H1 : Heap} (h : MW Γ mo th σ g1 g2 H) (hq : ∀ q : Nat, mo ≤ q → q < mo + 11 → H1[q]? = H[q]?) : MW Γ mo th σ g1 g2 H1 :=
  ⟨h.1.kept (hq _ (by omega) (by omega)), h.2.1.kept (hq _ (by omega) (by omega)), h.2.2.1.kept (hq _ (by omega) (by omega)), h.2.2.2.1.kept (hq _ (by omega) (by omega)), h.2.2.2.2.1.kept (hq _ (by omega) (by omega)), h.2.2.2.2.2.1.kept (hq _ (by omega) (by omega)), h.2.2.2.2.2.2.1.kept (hq _ (by omega) (by omega)), h.2.2.2.2.2.2.2.1.kept (hq _ (by omega) (by omega)), h.2.2.2.2.2.2.2.2.1.kept (hq _ (by omega) (by omega)), h.2.2.2.2.2.2.2.2.2.1.kept (hq _ (by omega) (by omega)), h.2.2.2.2.2.2.2.2.2.2.kept (hq _ (by omega) (by omega))⟩
theorem MW.put {Γ : GG} {mo : Nat} {th t : Int32} {σ σ' : St} {g1 g2 : Nat → Int32} {H H1 : Heap} (h : MW Γ mo th σ g1 g2 H) (hO : Ob Γ 2 mo [.int t, .int (nI (qn σ')), .int (qb σ'), .ref (mo + 1), .ref (mo + 2), .ref (mo + 3), .ref (mo + 4), .ref (mo + 5), .ref (mo + 6), .ref (mo + 7), .ref (mo + 8), .ref (mo + 9), .ref (mo + 10)] H1) (ho : ∀ q : Nat, q ≠ mo → H1[q]? = H[q]?) (e : σ'.2.2 = σ.2.2) : MW Γ mo t σ' g1 g2 H1 := by
  have e1 : qp σ' = qp σ := congrArg (·.1) e
  have e2 : qu σ' = qu σ := congrArg (·.2.1) e
  have e3 : qg σ' = qg σ := congrArg (·.2.2.1) e
  have e4 : qB σ' = qB σ := congrArg (·.2.2.2.1) e
  have e5 : qE σ' = qE σ := congrArg (·.2.2.2.2.1) e
  have e6 : qr σ' = qr σ := congrArg (·.2.2.2.2.2.1) e
  have e7 : qa σ' = qa σ := congrArg (·.2.2.2.2.2.2.1) e
  have e8 : ql σ' = ql σ := congrArg (·.2.2.2.2.2.2.2) e
  unfold MW
  rw [e1, e2, e3, e4, e5, e6, e7, e8]
  exact ⟨hO, h.2.1.kept (ho _ (by omega)), h.2.2.1.kept (ho _ (by omega)), h.2.2.2.1.kept (ho _ (by omega)), h.2.2.2.2.1.kept (ho _ (by omega)), h.2.2.2.2.2.1.kept (ho _ (by omega)), h.2.2.2.2.2.2.1.kept (ho _ (by omega)), h.2.2.2.2.2.2.2.1.kept (ho _ (by omega)), h.2.2.2.2.2.2.2.2.1.kept (ho _ (by omega)), h.2.2.2.2.2.2.2.2.2.1.kept (ho _ (by omega)), h.2.2.2.2.2.2.2.2.2.2.kept (ho _ (by omega))⟩
theorem MW.sP {Γ : GG} {mo : Nat} {th : Int32} {σ : St} {g1 g2 : Nat → Int32} {H H1 : Heap} {i : Nat} {v : Nat} (h : MW Γ mo th σ g1 g2 H) (hA : Ai Γ (mo + 1) 40 (upd (fun q => nI (qp σ q)) i (nI (v))) H1) (ho : ∀ q : Nat, q ≠ mo + 1 → H1[q]? = H[q]?) : MW Γ mo th (u_P σ i v) g1 g2 H1 :=
  ⟨h.1.kept (ho _ (by omega)), hA.ext (fun q _ => by show upd _ i _ q = nI (va_up (qp σ) i v q); by_cases e : q = i; (rw [e, upd_s, va_up_self]); (rw [upd_n e, va_up_ne _ _ e])), h.2.2.1.kept (ho _ (by omega)), h.2.2.2.1.kept (ho _ (by omega)), h.2.2.2.2.1.kept (ho _ (by omega)), h.2.2.2.2.2.1.kept (ho _ (by omega)), h.2.2.2.2.2.2.1.kept (ho _ (by omega)), h.2.2.2.2.2.2.2.1.kept (ho _ (by omega)), h.2.2.2.2.2.2.2.2.1.kept (ho _ (by omega)), h.2.2.2.2.2.2.2.2.2.1.kept (ho _ (by omega)), h.2.2.2.2.2.2.2.2.2.2.kept (ho _ (by omega))⟩
theorem MW.sU {Γ : GG} {mo : Nat} {th : Int32} {σ : St} {g1 g2 : Nat → Int32} {H H1 : Heap} {i : Nat} {v : Nat} (h : MW Γ mo th σ g1 g2 H) (hA : Ai Γ (mo + 2) 40 (upd (fun q => nI (qu σ q)) i (nI (v))) H1) (ho : ∀ q : Nat, q ≠ mo + 2 → H1[q]? = H[q]?) : MW Γ mo th (u_U σ i v) g1 g2 H1 :=
  ⟨h.1.kept (ho _ (by omega)), h.2.1.kept (ho _ (by omega)), hA.ext (fun q _ => by show upd _ i _ q = nI (va_up (qu σ) i v q); by_cases e : q = i; (rw [e, upd_s, va_up_self]); (rw [upd_n e, va_up_ne _ _ e])), h.2.2.2.1.kept (ho _ (by omega)), h.2.2.2.2.1.kept (ho _ (by omega)), h.2.2.2.2.2.1.kept (ho _ (by omega)), h.2.2.2.2.2.2.1.kept (ho _ (by omega)), h.2.2.2.2.2.2.2.1.kept (ho _ (by omega)), h.2.2.2.2.2.2.2.2.1.kept (ho _ (by omega)), h.2.2.2.2.2.2.2.2.2.1.kept (ho _ (by omega)), h.2.2.2.2.2.2.2.2.2.2.kept (ho _ (by omega))⟩
theorem MW.sG {Γ : GG} {mo : Nat} {th : Int32} {σ : St} {g1 g2 : Nat → Int32} {H H1 : Heap} {i : Nat} {v : Nat} (h : MW Γ mo th σ g1 g2 H) (hA : Ai Γ (mo + 3) 40 (upd (fun q => nI (qg σ q)) i (nI (v))) H1) (ho : ∀ q : Nat, q ≠ mo + 3 → H1[q]? = H[q]?) : MW Γ mo th (u_G σ i v) g1 g2 H1 :=
  ⟨h.1.kept (ho _ (by omega)), h.2.1.kept (ho _ (by omega)), h.2.2.1.kept (ho _ (by omega)), hA.ext (fun q _ => by show upd _ i _ q = nI (va_up (qg σ) i v q); by_cases e : q = i; (rw [e, upd_s, va_up_self]); (rw [upd_n e, va_up_ne _ _ e])), h.2.2.2.2.1.kept (ho _ (by omega)), h.2.2.2.2.2.1.kept (ho _ (by omega)), h.2.2.2.2.2.2.1.kept (ho _ (by omega)), h.2.2.2.2.2.2.2.1.kept (ho _ (by omega)), h.2.2.2.2.2.2.2.2.1.kept (ho _ (by omega)), h.2.2.2.2.2.2.2.2.2.1.kept (ho _ (by omega)), h.2.2.2.2.2.2.2.2.2.2.kept (ho _ (by omega))⟩
theorem MW.sB {Γ : GG} {mo : Nat} {th : Int32} {σ : St} {g1 g2 : Nat → Int32} {H H1 : Heap} {i : Nat} {v : Int32} (h : MW Γ mo th σ g1 g2 H) (hA : Ai Γ (mo + 4) 40 (upd (fun q => qB σ q) i (v)) H1) (ho : ∀ q : Nat, q ≠ mo + 4 → H1[q]? = H[q]?) : MW Γ mo th (u_B σ i v) g1 g2 H1 :=
  ⟨h.1.kept (ho _ (by omega)), h.2.1.kept (ho _ (by omega)), h.2.2.1.kept (ho _ (by omega)), h.2.2.2.1.kept (ho _ (by omega)), hA, h.2.2.2.2.2.1.kept (ho _ (by omega)), h.2.2.2.2.2.2.1.kept (ho _ (by omega)), h.2.2.2.2.2.2.2.1.kept (ho _ (by omega)), h.2.2.2.2.2.2.2.2.1.kept (ho _ (by omega)), h.2.2.2.2.2.2.2.2.2.1.kept (ho _ (by omega)), h.2.2.2.2.2.2.2.2.2.2.kept (ho _ (by omega))⟩
theorem MW.sE {Γ : GG} {mo : Nat} {th : Int32} {σ : St} {g1 g2 : Nat → Int32} {H H1 : Heap} {i : Nat} {v : Int32} (h : MW Γ mo th σ g1 g2 H) (hA : Ai Γ (mo + 5) 40 (upd (fun q => qE σ q) i (v)) H1) (ho : ∀ q : Nat, q ≠ mo + 5 → H1[q]? = H[q]?) : MW Γ mo th (u_E σ i v) g1 g2 H1 :=
  ⟨h.1.kept (ho _ (by omega)), h.2.1.kept (ho _ (by omega)), h.2.2.1.kept (ho _ (by omega)), h.2.2.2.1.kept (ho _ (by omega)), h.2.2.2.2.1.kept (ho _ (by omega)), hA, h.2.2.2.2.2.2.1.kept (ho _ (by omega)), h.2.2.2.2.2.2.2.1.kept (ho _ (by omega)), h.2.2.2.2.2.2.2.2.1.kept (ho _ (by omega)), h.2.2.2.2.2.2.2.2.2.1.kept (ho _ (by omega)), h.2.2.2.2.2.2.2.2.2.2.kept (ho _ (by omega))⟩
theorem MW.sR {Γ : GG} {mo : Nat} {th : Int32} {σ : St} {g1 g2 : Nat → Int32} {H H1 : Heap} {i : Nat} {v : Int32} (h : MW Γ mo th σ g1 g2 H) (hA : Ai Γ (mo + 6) 1440 (upd (fun q => qr σ q + 1) i (v + 1)) H1) (ho : ∀ q : Nat, q ≠ mo + 6 → H1[q]? = H[q]?) : MW Γ mo th (u_R σ i v) g1 g2 H1 :=
  ⟨h.1.kept (ho _ (by omega)), h.2.1.kept (ho _ (by omega)), h.2.2.1.kept (ho _ (by omega)), h.2.2.2.1.kept (ho _ (by omega)), h.2.2.2.2.1.kept (ho _ (by omega)), h.2.2.2.2.2.1.kept (ho _ (by omega)), hA.ext (fun q _ => by show upd _ i _ q = upd (qr σ) i v q + 1; by_cases e : q = i; (rw [e, upd_s, upd_s]); (rw [upd_n e, upd_n e])), h.2.2.2.2.2.2.2.1.kept (ho _ (by omega)), h.2.2.2.2.2.2.2.2.1.kept (ho _ (by omega)), h.2.2.2.2.2.2.2.2.2.1.kept (ho _ (by omega)), h.2.2.2.2.2.2.2.2.2.2.kept (ho _ (by omega))⟩
theorem MW.sA {Γ : GG} {mo : Nat} {th : Int32} {σ : St} {g1 g2 : Nat → Int32} {H H1 : Heap} {i : Nat} {v : Int32} (h : MW Γ mo th σ g1 g2 H) (hA : Ai Γ (mo + 7) 480 (upd (fun q => qa σ q) i (v)) H1) (ho : ∀ q : Nat, q ≠ mo + 7 → H1[q]? = H[q]?) : MW Γ mo th (u_A σ i v) g1 g2 H1 :=
  ⟨h.1.kept (ho _ (by omega)), h.2.1.kept (ho _ (by omega)), h.2.2.1.kept (ho _ (by omega)), h.2.2.2.1.kept (ho _ (by omega)), h.2.2.2.2.1.kept (ho _ (by omega)), h.2.2.2.2.2.1.kept (ho _ (by omega)), h.2.2.2.2.2.2.1.kept (ho _ (by omega)), hA, h.2.2.2.2.2.2.2.2.1.kept (ho _ (by omega)), h.2.2.2.2.2.2.2.2.2.1.kept (ho _ (by omega)), h.2.2.2.2.2.2.2.2.2.2.kept (ho _ (by omega))⟩
theorem MW.sL {Γ : GG} {mo : Nat} {th : Int32} {σ : St} {g1 g2 : Nat → Int32} {H H1 : Heap} {i : Nat} {v : Int32} (h : MW Γ mo th σ g1 g2 H) (hA : Ai Γ (mo + 8) 480 (upd (fun q => ql σ q) i (v)) H1) (ho : ∀ q : Nat, q ≠ mo + 8 → H1[q]? = H[q]?) : MW Γ mo th (u_L σ i v) g1 g2 H1 :=
  ⟨h.1.kept (ho _ (by omega)), h.2.1.kept (ho _ (by omega)), h.2.2.1.kept (ho _ (by omega)), h.2.2.2.1.kept (ho _ (by omega)), h.2.2.2.2.1.kept (ho _ (by omega)), h.2.2.2.2.2.1.kept (ho _ (by omega)), h.2.2.2.2.2.2.1.kept (ho _ (by omega)), h.2.2.2.2.2.2.2.1.kept (ho _ (by omega)), hA, h.2.2.2.2.2.2.2.2.2.1.kept (ho _ (by omega)), h.2.2.2.2.2.2.2.2.2.2.kept (ho _ (by omega))⟩
theorem MW.g1 {Γ : GG} {mo : Nat} {th : Int32} {σ : St} {g1 g2 g3 : Nat → Int32} {H H1 : Heap} (h : MW Γ mo th σ g1 g2 H) (hA : Ai Γ (mo + 9) 12 g3 H1) (ho : ∀ q : Nat, q ≠ mo + 9 → H1[q]? = H[q]?) : MW Γ mo th σ g3 g2 H1 :=
  ⟨h.1.kept (ho _ (by omega)), h.2.1.kept (ho _ (by omega)), h.2.2.1.kept (ho _ (by omega)), h.2.2.2.1.kept (ho _ (by omega)), h.2.2.2.2.1.kept (ho _ (by omega)), h.2.2.2.2.2.1.kept (ho _ (by omega)), h.2.2.2.2.2.2.1.kept (ho _ (by omega)), h.2.2.2.2.2.2.2.1.kept (ho _ (by omega)), h.2.2.2.2.2.2.2.2.1.kept (ho _ (by omega)), hA, h.2.2.2.2.2.2.2.2.2.2.kept (ho _ (by omega))⟩
theorem MW.g2 {Γ : GG} {mo : Nat} {th : Int32} {σ : St} {g1 g2 g3 : Nat → Int32} {H H1 : Heap} (h : MW Γ mo th σ g1 g2 H) (hA : Ai Γ (mo + 10) 12 g3 H1) (ho : ∀ q : Nat, q ≠ mo + 10 → H1[q]? = H[q]?) : MW Γ mo th σ g1 g3 H1 :=
  ⟨h.1.kept (ho _ (by omega)), h.2.1.kept (ho _ (by omega)), h.2.2.1.kept (ho _ (by omega)), h.2.2.2.1.kept (ho _ (by omega)), h.2.2.2.2.1.kept (ho _ (by omega)), h.2.2.2.2.2.1.kept (ho _ (by omega)), h.2.2.2.2.2.2.1.kept (ho _ (by omega)), h.2.2.2.2.2.2.2.1.kept (ho _ (by omega)), h.2.2.2.2.2.2.2.2.1.kept (ho _ (by omega)), h.2.2.2.2.2.2.2.2.2.1.kept (ho _ (by omega)), hA⟩
theorem MW.lt {Γ : GG} {mo : Nat} {th : Int32} {σ : St} {g1 g2 : Nat → Int32} {H : Heap} (h : MW Γ mo th σ g1 g2 H) : mo + 10 < H.size := h.2.2.2.2.2.2.2.2.2.2.lt
/-- a stretch of 12 filled so far -/
def rngJ (f : Nat → Int32) (n j : Nat) (x : Int32) : Nat → Int32 := fun i => if 12 * n ≤ i ∧ i < 12 * n + j then x else f i
theorem rngJ_0 (f : Nat → Int32) (n : Nat) (x : Int32) : rngJ f n 0 x = f := by
  funext i
  unfold rngJ
  rw [if_neg (by omega)]
theorem rngJ_s (f : Nat → Int32) (n j : Nat) (x : Int32) : upd (rngJ f n j x) (12 * n + j) x = rngJ f n (j + 1) x := by
  funext i
  by_cases e : i = 12 * n + j
  · rw [e, upd_s]
    unfold rngJ
    rw [if_pos (by omega)]
  · rw [upd_n e]
    unfold rngJ
    by_cases h : 12 * n ≤ i ∧ i < 12 * n + j
    · rw [if_pos h, if_pos (by omega)]
    · rw [if_neg h, if_neg (by omega)]
theorem layR_0 (f : Nat → Int32) (fr first to at_ tw : Nat) : layR f fr first 0 to at_ tw = f := by
  funext q
  unfold layR
  rw [if_neg (by omega)]
theorem layB_0 (f : Nat → Int32) (fr first to at_ : Nat) : layB f fr first 0 to at_ = f := by
  funext q
  unfold layB
  rw [if_neg (by omega)]
theorem layR_s {f : Nat → Int32} {fr first p sd to at_ tw : Nat} (h : sd < 3) : upd (layR f fr first (3 * p + sd) to at_ tw) (36 * to + 3 * at_ + (3 * p + sd)) (f (36 * fr + (3 * (first + p) + (sd + tw) % 3))) = layR f fr first (3 * p + sd + 1) to at_ tw := by
  funext q
  by_cases e : q = 36 * to + 3 * at_ + (3 * p + sd)
  · rw [e, upd_s]
    unfold layR
    rw [if_pos (by omega)]
    rw [show (36 * to + 3 * at_ + (3 * p + sd) - (36 * to + 3 * at_)) / 3 = p by omega, show (36 * to + 3 * at_ + (3 * p + sd) - (36 * to + 3 * at_)) % 3 = sd by omega]
  · rw [upd_n e]
    unfold layR
    by_cases h2 : 36 * to + 3 * at_ ≤ q ∧ q < 36 * to + 3 * at_ + (3 * p + sd)
    · rw [if_pos h2, if_pos (by omega)]
    · rw [if_neg h2, if_neg (by omega)]
theorem layB_s {f : Nat → Int32} {fr first p to at_ : Nat} : upd (layB f fr first p to at_) (12 * to + at_ + p) (f (12 * fr + (first + p))) = layB f fr first (p + 1) to at_ := by
  funext q
  by_cases e : q = 12 * to + at_ + p
  · rw [e, upd_s]
    unfold layB
    rw [if_pos (by omega), show 12 * to + at_ + p - (12 * to + at_) = p by omega]
  · rw [upd_n e]
    unfold layB
    by_cases h2 : 12 * to + at_ ≤ q ∧ q < 12 * to + at_ + p
    · rw [if_pos h2, if_pos (by omega)]
    · rw [if_neg h2, if_neg (by omega)]
/-- a row behind the reading of n places -/
def rdA (f g : Nat → Int32) : Nat → Nat → Int32
  | 0 => g
  | n + 1 => if f n = -1 then rdA f g n else upd (rdA f g n) (cU f n) (f n)
theorem rdA_n {f g : Nat → Int32} {n : Nat} (h : f n = -1) : rdA f g (n + 1) = rdA f g n := if_pos h
theorem rdA_y {f g : Nat → Int32} {n : Nat} (h : ¬ f n = -1) : rdA f g (n + 1) = upd (rdA f g n) (cU f n) (f n) := if_neg h
theorem rdA_at {f g : Nat → Int32} : ∀ {n j : Nat}, j < cU f n → (rl f n)[j]? = some (rdA f g n j)
  | 0, j, h => absurd h (Nat.not_lt_zero j)
  | n + 1, j, h => by
    by_cases q : f n = -1
    · rw [cU_n q] at h
      rw [rdA_n q, rl, if_pos q, List.append_nil]
      exact rdA_at h
    · rw [cU_y q] at h
      rw [rdA_y q, rl, if_neg q]
      by_cases e : j = cU f n
      · rw [e, upd_s, List.getElem?_append_right (by rw [rl_len]; exact Nat.le_refl _), rl_len, Nat.sub_self]
        rfl
      · rw [upd_n e, List.getElem?_append_left (by rw [rl_len]; omega)]
        exact rdA_at (by omega)
