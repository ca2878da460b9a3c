theorem xb_IA : ∀ w ∈ (vx_atS RX1 26 eIA nmT).filter (fun w => !goodWord w), w ∈ XB := fun _ h => List.mem_append_left _ h
theorem xb_IS : ∀ w ∈ (vx_atS RX1 37 eIS nmT).filter (fun w => !goodWord w), w ∈ XB := fun _ h => List.mem_append_right _ (List.mem_append_left _ h)
theorem xb_IO : ∀ w ∈ (vx_atS RX1 111 eIO nmT).filter (fun w => !goodWord w), w ∈ XB := fun _ h => List.mem_append_right _ (List.mem_append_right _ h)
set_option maxRecDepth 100000 in
theorem og_IA : ∀ w ∈ Cond.classLink RX1 22 eIA :: Cond.initialized eIA :: vx_atS RX1 26 eIA nmT, vx_ot w = true := List.all_eq_true.mp (by decide +kernel)
set_option maxRecDepth 100000 in
theorem og_IS : ∀ w ∈ Cond.classLink RX1 33 eIS :: Cond.initialized eIS :: vx_atS RX1 37 eIS nmT, vx_ot w = true := List.all_eq_true.mp (by decide +kernel)
set_option maxRecDepth 100000 in
theorem og_IO : ∀ w ∈ Cond.classLink RX1 107 eIO :: Cond.initialized eIO :: vx_atS RX1 111 eIO nmT, vx_ot w = true := List.all_eq_true.mp (by decide +kernel)
/-- which of several refusals applies first: 0 none -/
noncomputable def cd1 (C1 : Prop) : Nat := by classical exact if C1 then 0 else 1
noncomputable def cd2 (C1 C2 : Prop) : Nat := by classical exact if C1 then (if C2 then 0 else 2) else 1
noncomputable def cd3 (C1 C2 C3 : Prop) : Nat := by classical exact if C1 then (if C2 then (if C3 then 0 else 3) else 2) else 1
theorem cd1_0 {C1 : Prop} (h1 : C1) : cd1 C1 = 0 := by unfold cd1; exact if_pos h1
theorem cd1_1 {C1 : Prop} (h1 : ¬ C1) : cd1 C1 = 1 := by unfold cd1; exact if_neg h1
theorem cd2_0 {C1 C2 : Prop} (h1 : C1) (h2 : C2) : cd2 C1 C2 = 0 := by unfold cd2; rw [if_pos h1, if_pos h2]
theorem cd2_1 {C1 C2 : Prop} (h1 : ¬ C1) : cd2 C1 C2 = 1 := by unfold cd2; exact if_neg h1
theorem cd2_2 {C1 C2 : Prop} (h1 : C1) (h2 : ¬ C2) : cd2 C1 C2 = 2 := by unfold cd2; rw [if_pos h1, if_neg h2]
theorem cd3_0 {C1 C2 C3 : Prop} (h1 : C1) (h2 : C2) (h3 : C3) : cd3 C1 C2 C3 = 0 := by unfold cd3; rw [if_pos h1, if_pos h2, if_pos h3]
theorem cd3_1 {C1 C2 C3 : Prop} (h1 : ¬ C1) : cd3 C1 C2 C3 = 1 := by unfold cd3; exact if_neg h1
theorem cd3_2 {C1 C2 C3 : Prop} (h1 : C1) (h2 : ¬ C2) : cd3 C1 C2 C3 = 2 := by unfold cd3; rw [if_pos h1, if_neg h2]
theorem cd3_3 {C1 C2 C3 : Prop} (h1 : C1) (h2 : C2) (h3 : ¬ C3) : cd3 C1 C2 C3 = 3 := by unfold cd3; rw [if_pos h1, if_pos h2, if_neg h3]
/-- the exception that a refusal is told by -/
def px (c : Nat) (l : List String) (E : String) : Prop := ∃ i, l[i]? = some E ∧ c = i + 1
/-- x is lo to hi -/
def inR (x : Int32) (lo hi : Int) : Prop := lo ≤ x.toInt ∧ x.toInt ≤ hi
theorem inR_lt {x : Int32} {a : Nat} {hi : Int} (ha : a < 2 ^ 31) (h : x < nI a) (q : inR x a hi) : False := by
  have h1 := Int32.lt_iff_toInt_lt.mp h
  rw [nI_toInt ha] at h1
  have := q.1
  omega
theorem inR_gt {x : Int32} {b : Nat} {lo : Int} (hb : b < 2 ^ 31) (h : ¬ x ≤ nI b) (q : inR x lo b) : False := by
  have h1 := mt Int32.le_iff_toInt_le.mpr h
  rw [nI_toInt hb] at h1
  have := q.2
  omega
theorem inR_of {x : Int32} {a b : Nat} (ha : a < 2 ^ 31) (hb : b < 2 ^ 31) (h1 : ¬ x < nI a) (h2 : x ≤ nI b) : inR x a b := by
  have h3 := mt Int32.lt_iff_toInt_lt.mpr h1
  rw [nI_toInt ha] at h3
  have h4 := Int32.le_iff_toInt_le.mp h2
  rw [nI_toInt hb] at h4
  exact ⟨by omega, h4⟩
theorem inR_iff {x : Int32} {a b : Nat} (ha : a < 2 ^ 31) (hb : b < 2 ^ 31) : (nI a ≤ x ∧ x ≤ nI b) ↔ inR x a b := by
  unfold inR
  rw [Int32.le_iff_toInt_le, Int32.le_iff_toInt_le, nI_toInt ha, nI_toInt hb]
theorem inR_ex {x : Int32} {a b : Nat} (h : inR x a b) : ∃ k : Nat, a ≤ k ∧ k ≤ b ∧ x = nI k := by
  obtain ⟨h1, h2⟩ := h
  exact ⟨x.toInt.toNat, by omega, by omega, i32_nat (by omega)⟩
/-- how many readings have the pair -/
def hsF (σ : St) (k : Nat) (y z : Int32) (j : Nat) : Nat := b01 (pr (rd (rk σ k) (j / 3) (j % 3)) y z (qp σ k))
def hs (σ : St) (k : Nat) (y z : Int32) : Nat := sN (hsF σ k y z) 9
theorem hs_le (σ : St) (k : Nat) (y z : Int32) (n : Nat) : sN (hsF σ k y z) n ≤ n := by
  have h := sN_le (f := hsF σ k y z) (c := 1) (n := n) (fun _ _ => b01_le _)
  omega
/-- the best side -/
def bS (f : Nat → Nat) : Nat → Nat
  | 0 => 0
  | n + 1 => if f (bS f n) < f n then n else bS f n
def rbest (σ : St) (a b t : Nat) : Nat := bS (fun u => rhy σ a u b t) 3
/-- how long the row is -/
noncomputable def rwF (σ : St) (k t i : Nat) : Nat := bP (qg σ i = 0 ∧ ¬ i = k ∧ 0 < rhy σ k (qu σ k) i t)
noncomputable def rw_ (σ : St) (k t n : Nat) : Nat := 1 + sN (rwF σ k t) n
theorem rw_s (σ : St) (k t n : Nat) : rw_ σ k t (n + 1) = rw_ σ k t n + rwF σ k t n := (Nat.add_assoc _ _ _).symm
theorem nth_ne {f : Nat → Int32} {P : Nat} {x : Int32} (hP : P ≤ 12) : ¬ nth f P x = -1 ↔ inb x (cU f P) := by
  constructor
  · intro h
    unfold nth at h
    by_cases h0 : 0 ≤ x.toInt
    · rw [if_pos h0] at h
      rcases Nat.lt_or_ge x.toInt.toNat (cU f P) with q | q
      · exact ⟨h0, by omega⟩
      · rw [List.getElem?_eq_none (by rw [rl_len]; exact q)] at h
        exact absurd rfl h
    · rw [if_neg h0] at h
      exact absurd rfl h
  · intro h q
    obtain ⟨j, hj, rfl⟩ := inb_ex h
    obtain ⟨k, h1, h2, h3⟩ := cU_onto f P j hj
    rw [nth_y h1 hP h2 (by rw [h3])] at q
    exact h2 q
