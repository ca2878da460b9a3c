/-! the mathematics of one stick: its runes by place and side, its joints -/
def cU (f : Nat → Int32) : Nat → Nat
  | 0 => 0
  | n + 1 => cU f n + (if f n = -1 then 0 else 1)
def sN (f : Nat → Nat) : Nat → Nat
  | 0 => 0
  | n + 1 => sN f n + f n
theorem cU_le (f : Nat → Int32) : ∀ n, cU f n ≤ n
  | 0 => Nat.le_refl 0
  | n + 1 => by
    have h := cU_le f n
    show cU f n + _ ≤ n + 1
    split <;> omega
theorem sN_le {f : Nat → Nat} {c : Nat} : ∀ {n : Nat}, (∀ k, k < n → f k ≤ c) → sN f n ≤ n * c
  | 0, _ => Nat.zero_le _
  | n + 1, h => by
    have h1 := sN_le (n := n) fun k hk => h k (Nat.lt_succ_of_lt hk)
    have h2 := h n (Nat.lt_succ_self n)
    show sN f n + f n ≤ (n + 1) * c
    rw [Nat.succ_mul]
    omega
theorem cU_cong {f g : Nat → Int32} : ∀ {n : Nat}, (∀ k, k < n → f k = g k) → cU f n = cU g n
  | 0, _ => rfl
  | n + 1, h => by
    show cU f n + _ = cU g n + _
    rw [cU_cong (n := n) fun k hk => h k (Nat.lt_succ_of_lt hk), h n (Nat.lt_succ_self n)]
theorem sN_cong {f g : Nat → Nat} : ∀ {n : Nat}, (∀ k, k < n → f k = g k) → sN f n = sN g n
  | 0, _ => rfl
  | n + 1, h => by
    show sN f n + f n = sN g n + g n
    rw [sN_cong (n := n) fun k hk => h k (Nat.lt_succ_of_lt hk), h n (Nat.lt_succ_self n)]
def rc (R : Nat → Int32) (p : Nat) : Nat := cU (fun s => R (3 * p + s)) 3
def rT (R : Nat → Int32) (P : Nat) : Nat := sN (rc R) P
def gT (Gl : Nat → Int32) (n : Nat) : Nat := sN (fun j => if Gl j = 0 then 0 else 1) n
theorem rc_le (R : Nat → Int32) (p : Nat) : rc R p ≤ 3 := cU_le _ 3
theorem rT_le (R : Nat → Int32) (P : Nat) : rT R P ≤ P * 3 := sN_le fun k _ => rc_le R k
theorem gT_le (Gl : Nat → Int32) (n : Nat) : gT Gl n ≤ n := by
  have h := sN_le (f := fun j => if Gl j = 0 then 0 else 1) (c := 1) (n := n) (fun k _ => by split <;> omega)
  unfold gT
  omega
def mx0 (x : Int32) : Int32 := if (0 : Int32) < x then x else 0
def stn (R Bs : Nat → Int32) (j : Nat) : Int32 := mx0 (Bs j - nI (rc R j) - nI (rc R (j + 1)))
theorem cU_n {f : Nat → Int32} {n : Nat} (h : f n = -1) : cU f (n + 1) = cU f n := by
  show cU f n + _ = _
  rw [if_pos h, Nat.add_zero]
theorem cU_y {f : Nat → Int32} {n : Nat} (h : ¬ f n = -1) : cU f (n + 1) = cU f n + 1 := by
  show cU f n + _ = _
  rw [if_neg h]
theorem sN_s (f : Nat → Nat) (n : Nat) : sN f (n + 1) = sN f n + f n := rfl
/-- the first place of the least value -/
def wk (f : Nat → Int32) : Nat → Option Nat
  | 0 => none
  | n + 1 => match wk f n with
    | none => some n
    | some w => if f n < f w then some n else some w
def oI (o : Option Nat) : Int32 := match o with
  | none => -1
  | some w => nI w
theorem wk_lt (f : Nat → Int32) : ∀ (n w : Nat), wk f n = some w → w < n
  | 0, w, h => by cases h
  | n + 1, w, h => by
    have ih := wk_lt f n
    unfold wk at h
    cases hq : wk f n with
    | none => rw [hq] at h; cases h; omega
    | some v =>
      rw [hq] at h
      have hv := ih v hq
      dsimp only at h
      split at h <;> cases h <;> omega
theorem wk_some (f : Nat → Int32) : ∀ n, 0 < n → ∃ w, wk f n = some w
  | 0, h => absurd h (Nat.lt_irrefl 0)
  | n + 1, _ => by
    unfold wk
    cases wk f n with
    | none => exact ⟨n, rfl⟩
    | some v =>
      dsimp only
      split
      · exact ⟨n, rfl⟩
      · exact ⟨v, rfl⟩
def cW (f : Nat → Int32) (x : Int32) : Nat → Nat
  | 0 => 0
  | n + 1 => cW f x n + (if f n < x then 1 else 0)
theorem cW_le (f : Nat → Int32) (x : Int32) : ∀ n, cW f x n ≤ n
  | 0 => Nat.le_refl 0
  | n + 1 => by
    have h := cW_le f x n
    show cW f x n + _ ≤ n + 1
    split <;> omega
theorem cW_y {f : Nat → Int32} {x : Int32} {n : Nat} (h : f n < x) : cW f x (n + 1) = cW f x n + 1 := by
  show cW f x n + _ = _
  rw [if_pos h]
theorem cW_n {f : Nat → Int32} {x : Int32} {n : Nat} (h : ¬ f n < x) : cW f x (n + 1) = cW f x n := by
  show cW f x n + _ = _
  rw [if_neg h, Nat.add_zero]
theorem wk_0 {f : Nat → Int32} {n : Nat} (h : wk f n = none) : wk f (n + 1) = some n := by
  unfold wk
  rw [h]
theorem wk_y {f : Nat → Int32} {n w : Nat} (h : wk f n = some w) (h2 : f n < f w) : wk f (n + 1) = some n := by
  unfold wk
  rw [h]
  exact if_pos h2
theorem wk_n {f : Nat → Int32} {n w : Nat} (h : wk f n = some w) (h2 : ¬ f n < f w) : wk f (n + 1) = some w := by
  unfold wk
  rw [h]
  exact if_neg h2
theorem oI_n {o : Option Nat} (h : oI o = -1) (hb : ∀ w, o = some w → w < 2 ^ 31) : o = none := by
  cases o with
  | none => rfl
  | some w =>
    have h1 := nI_toInt (hb w rfl)
    have h2 : nI w = -1 := h
    rw [h2] at h1
    have h3 : (-1 : Int32).toInt = -1 := by decide +kernel
    omega
theorem oI_s {o : Option Nat} (h : ¬ oI o = -1) : ∃ w, o = some w := by
  cases o with
  | none => exact absurd rfl h
  | some w => exact ⟨w, rfl⟩
def inb (x : Int32) (n : Nat) : Prop := 0 ≤ x.toInt ∧ x.toInt < (n : Int)
theorem inb_lt0 {x : Int32} {n : Nat} (h : x < 0) (q : inb x n) : False := by
  have h1 := Int32.lt_iff_toInt_lt.mp h
  rw [Int32.toInt_zero] at h1
  have h2 := q.1
  omega
theorem inb_ge {x : Int32} {n k : Nat} (hk : n ≤ k) (hk2 : k < 2 ^ 31) (h : nI k ≤ x) (q : inb x n) : False := by
  have h1 := Int32.le_iff_toInt_le.mp h
  rw [nI_toInt hk2] at h1
  have h2 := q.2
  omega
theorem inb_of {x : Int32} {n : Nat} (hn : n < 2 ^ 31) (h1 : ¬ x < 0) (h2 : ¬ nI n ≤ x) : inb x n := by
  constructor
  · have h := mt Int32.lt_iff_toInt_lt.mpr h1
    rw [Int32.toInt_zero] at h
    omega
  · have h := mt Int32.le_iff_toInt_le.mpr h2
    rw [nI_toInt hn] at h
    omega
theorem inb_nI {a n : Nat} (ha : a < 2 ^ 31) : inb (nI a) n ↔ a < n := by
  unfold inb
  rw [nI_toInt ha]
  omega
theorem inb_ex {x : Int32} {n : Nat} (h : inb x n) : ∃ k, k < n ∧ x = nI k := by
  refine ⟨x.toInt.toNat, by have := h.1; have := h.2; omega, ?_⟩
  apply Int32.toInt_inj.mp
  have h3 : x.toInt < 2 ^ 31 := Int32.toInt_lt x
  rw [nI_toInt (by omega)]
  have := h.1
  omega
def rd (R : Nat → Int32) (su t p : Nat) : Int32 := R (3 * p + (su + p * t) % 3)
/-- the last place ahead of n that is read -/
def lst (f : Nat → Int32) : Nat → Option Nat
  | 0 => none
  | n + 1 => if f n = -1 then lst f n else some n
theorem lst_lt (f : Nat → Int32) : ∀ (n w : Nat), lst f n = some w → w < n
  | 0, w, h => by cases h
  | n + 1, w, h => by
    unfold lst at h
    split at h
    · have := lst_lt f n w h
      omega
    · cases h
      omega
theorem lst_ne (f : Nat → Int32) : ∀ (n w : Nat), lst f n = some w → ¬ f w = -1
  | 0, w, h => by cases h
  | n + 1, w, h => by
    unfold lst at h
    split at h
    · exact lst_ne f n w h
    · cases h
      assumption
/-- a reading, as a list -/
def rl (f : Nat → Int32) : Nat → List Int32
  | 0 => []
  | n + 1 => rl f n ++ (if f n = -1 then [] else [f n])
theorem rl_len (f : Nat → Int32) : ∀ n, (rl f n).length = cU f n
  | 0 => rfl
  | n + 1 => by
    show (rl f n ++ _).length = cU f n + _
    rw [List.length_append, rl_len f n]
    split <;> rfl
theorem rl_pre (f : Nat → Int32) : ∀ (n k : Nat), ∃ t, rl f (n + k) = rl f n ++ t
  | n, 0 => ⟨[], (List.append_nil _).symm⟩
  | n, k + 1 => by
    obtain ⟨t, h⟩ := rl_pre f n k
    exact ⟨t ++ (if f (n + k) = -1 then [] else [f (n + k)]), by show rl f (n + k) ++ (if f (n + k) = -1 then [] else [f (n + k)]) = _; rw [h, List.append_assoc]⟩
theorem rl_get (f : Nat → Int32) {n P : Nat} (h : n < P) (hf : ¬ f n = -1) : (rl f P)[cU f n]? = some (f n) := by
  obtain ⟨t, ht⟩ := rl_pre f (n + 1) (P - (n + 1))
  rw [show n + 1 + (P - (n + 1)) = P by omega] at ht
  rw [ht]
  have e : rl f (n + 1) = rl f n ++ [f n] := by show rl f n ++ _ = _; rw [if_neg hf]
  rw [e, List.append_assoc, List.getElem?_append_right (by rw [rl_len]; exact Nat.le_refl _), rl_len, Nat.sub_self]
  rfl
/-- the rune of a reading by its number, -1 where there is none -/
def nth (f : Nat → Int32) (P : Nat) (idx : Int32) : Int32 := if 0 ≤ idx.toInt then ((rl f P)[idx.toInt.toNat]?).getD (-1) else -1
/-- the last rune read ahead of n, -1 without one -/
def lastv (f : Nat → Int32) (n : Nat) : Int32 := match lst f n with
  | none => -1
  | some q => f q
theorem lastv_0 (f : Nat → Int32) : lastv f 0 = -1 := rfl
theorem lastv_y {f : Nat → Int32} {n : Nat} (h : ¬ f n = -1) : lastv f (n + 1) = f n := by
  unfold lastv
  rw [show lst f (n + 1) = some n by unfold lst; rw [if_neg h]]
theorem lastv_n {f : Nat → Int32} {n : Nat} (h : f n = -1) : lastv f (n + 1) = lastv f n := by
  unfold lastv
  rw [show lst f (n + 1) = lst f n by rw [lst.eq_2, if_pos h]]
/-- is a read somewhere, and b directly behind it -/
def pr (f : Nat → Int32) (a b : Int32) : Nat → Bool
  | 0 => false
  | n + 1 => pr f a b n || (decide (¬ f n = -1) && (decide (lastv f n = a) && decide (f n = b)))
noncomputable def bP (P : Prop) : Nat := by classical exact if P then 1 else 0
theorem bP_t {P : Prop} (h : P) : bP P = 1 := by
  unfold bP
  exact if_pos h
theorem bP_f {P : Prop} (h : ¬ P) : bP P = 0 := by
  unfold bP
  exact if_neg h
theorem bP_le (P : Prop) : bP P ≤ 1 := by
  by_cases h : P
  · rw [bP_t h]; exact Nat.le_refl 1
  · rw [bP_f h]; exact Nat.zero_le 1
def b01 (b : Bool) : Nat := if b then 1 else 0
theorem b01_le (b : Bool) : b01 b ≤ 1 := by cases b <;> decide
def dF (g : Nat → Int32) (d : Int64) : Nat → Int64
  | 0 => d
  | n + 1 => dF g d n * 31 + (g n).toInt64
theorem dF_s (g : Nat → Int32) (d : Int64) (n : Nat) : dF g d (n + 1) = dF g d n * 31 + (g n).toInt64 := rfl
/-- what stick() tells -/
def fct (P U : Nat) (B E : Int32) (G : Nat) (R Gl : Nat → Int32) (w : Nat) : Int32 :=
  if w = 0 then nI P else if w = 1 then nI U else if w = 2 then nI (rT R P) else if w = 3 then nI (gT Gl (P - 1)) else if w = 4 then B else if w = 5 then E else nI G
def addTo (P U : Nat) (B E : Int32) (G : Nat) (R Bs Gl : Nat → Int32) (d : Int64) : Int64 :=
  dF Bs (dF R (dF (fct P U B E G R Gl) d 7) (3 * P)) (P - 1)
/-- a stick's cells: the object, its rows behind it -/
def SW (Γ : GG) (a P U : Nat) (B E : Int32) (G : Nat) (R Bs Gl : Nat → Int32) (H : Heap) : Prop :=
  Ob Γ 0 a [.int (nI P), .int (nI U), .int B, .int E, .int (nI G), .ref (a + 1), .ref (a + 2), .ref (a + 3)] H ∧ Ai Γ (a + 1) 36 R H ∧ Ai Γ (a + 2) 11 Bs H ∧ Az Γ (a + 3) 11 Gl H
theorem SW.kept {Γ : GG} {a P U : Nat} {B E : Int32} {G : Nat} {R Bs Gl : Nat → Int32} {H H1 : Heap} (h : SW Γ a P U B E G R Bs Gl H) (hq : ∀ q, a ≤ q → q < a + 4 → H1[q]? = H[q]?) : SW Γ a P U B E G R Bs Gl H1 :=
  ⟨h.1.kept (hq _ (by omega) (by omega)), h.2.1.kept (hq _ (by omega) (by omega)), h.2.2.1.kept (hq _ (by omega) (by omega)), h.2.2.2.kept (hq _ (by omega) (by omega))⟩
theorem bP_0 {P : Prop} (h : bP P = 0) : ¬ P := fun q => by
  rw [bP_t q] at h
  exact absurd h (by decide)
theorem bP_1 {P : Prop} (h : 0 < bP P) : P := by
  by_cases q : P
  · exact q
  · rw [bP_f q] at h
    exact absurd h (by decide)
theorem gT_n {Gl : Nat → Int32} {n : Nat} (h : ¬ ¬ Gl n = 0) : gT Gl (n + 1) = gT Gl n := by
  show gT Gl n + (if Gl n = 0 then 0 else 1) = _
  rw [if_pos (Classical.not_not.mp h), Nat.add_zero]
theorem gT_y {Gl : Nat → Int32} {n : Nat} (h : ¬ Gl n = 0) : gT Gl (n + 1) = gT Gl n + 1 := by
  show gT Gl n + (if Gl n = 0 then 0 else 1) = _
  rw [if_neg h]
/-- the number ahead of n -/
def pn (n : Nat) : Int32 := nI n + (-1)
theorem pn_s (k : Nat) : pn (k + 1) = nI k := pk_m1 k
theorem pn_sub (q : Nat) : nI q - nI 1 = pn q := by
  unfold pn
  rw [Int32.sub_eq_add_neg]
  rfl
theorem lst_n {f : Nat → Int32} {n : Nat} (h : f n = -1) : lst f (n + 1) = lst f n := by
  rw [lst.eq_2, if_pos h]
theorem lst_y {f : Nat → Int32} {n : Nat} (h : ¬ f n = -1) : lst f (n + 1) = some n := by
  rw [lst.eq_2, if_neg h]
/-- each number below the length of a reading is that of a place -/
theorem cU_onto (f : Nat → Int32) : ∀ (P j : Nat), j < cU f P → ∃ k, k < P ∧ ¬ f k = -1 ∧ cU f k = j
  | 0, j, h => absurd h (Nat.not_lt_zero j)
  | n + 1, j, h => by
    by_cases hf : f n = -1
    · rw [cU_n hf] at h
      obtain ⟨k, h1, h2, h3⟩ := cU_onto f n j h
      exact ⟨k, by omega, h2, h3⟩
    · rw [cU_y hf] at h
      rcases Nat.lt_or_ge j (cU f n) with q | q
      · obtain ⟨k, h1, h2, h3⟩ := cU_onto f n j q
        exact ⟨k, by omega, h2, h3⟩
      · exact ⟨n, Nat.lt_succ_self n, hf, by omega⟩
theorem i32_nat {x : Int32} (h : 0 ≤ x.toInt) : x = nI x.toInt.toNat := by
  apply Int32.toInt_inj.mp
  have h3 : x.toInt < 2 ^ 31 := Int32.toInt_lt x
  rw [nI_toInt (by omega)]
  omega
theorem nth_y {f : Nat → Int32} {i P : Nat} {x : Int32} (hi : i < P) (hP : P ≤ 12) (hf : ¬ f i = -1) (h : nI (cU f i) = x) : nth f P x = f i := by
  have hc := cU_le f i
  unfold nth
  rw [← h, nI_toInt (by omega), if_pos (by omega), Int.toNat_natCast, rl_get f hi hf]
  rfl
theorem nth_n {f : Nat → Int32} {P : Nat} {x : Int32} (h : ∀ k, k < P → ¬ f k = -1 → ¬ nI (cU f k) = x) : nth f P x = -1 := by
  unfold nth
  split
  · rename_i h0
    rw [List.getElem?_eq_none]
    · rfl
    · rw [rl_len]
      rcases Nat.lt_or_ge x.toInt.toNat (cU f P) with q | q
      · obtain ⟨k, h1, h2, h3⟩ := cU_onto f P _ q
        exact absurd (by rw [h3]; exact (i32_nat h0).symm) (h k h1 h2)
      · exact q
  · rfl
theorem pr_s (f : Nat → Int32) (a b : Int32) (n : Nat) : pr f a b (n + 1) = (pr f a b n || (decide (¬ f n = -1) && (decide (lastv f n = a) && decide (f n = b)))) := rfl
theorem pr_skip {f : Nat → Int32} {a b : Int32} {n : Nat} (h : pr f a b n = false) (hf : f n = -1) : pr f a b (n + 1) = false := by
  rw [pr_s, h]
  simp [hf]
theorem pr_no {f : Nat → Int32} {a b : Int32} {n : Nat} (h : pr f a b n = false) (hf : ¬ lastv f n = a ∨ ¬ f n = b) : pr f a b (n + 1) = false := by
  rw [pr_s, h]
  rcases hf with q | q <;> simp [q]
theorem pr_mono {f : Nat → Int32} {a b : Int32} {n : Nat} (h : pr f a b n = true) : ∀ k, pr f a b (n + k) = true
  | 0 => h
  | k + 1 => by
    show pr f a b (n + k + 1) = true
    rw [pr_s, pr_mono h k]
    rfl
theorem pr_yes {f : Nat → Int32} {a b : Int32} {n P : Nat} (hn : n < P) (h1 : ¬ f n = -1) (h2 : lastv f n = a) (h3 : f n = b) : pr f a b P = true := by
  have h : pr f a b (n + 1) = true := by
    rw [pr_s]
    have h4 : ¬ b = -1 := h3 ▸ h1
    simp [h2, h3, h4]
  have h9 := pr_mono h (P - (n + 1))
  rw [show n + 1 + (P - (n + 1)) = P by omega] at h9
  exact h9
section XR
variable {p : Program} {l : Launch} {e : Env} {R : Room} {s : State} {m : MethodId} {args : Array Value} {below : List Frame} {meth : Method} {c : Code} {H : Heap} {locs : List Loc} {cells slots : Nat} {cc : ByteArray} {pc : Nat} {ls : Array Slot}
theorem ro_lret {r : Int64} {free : Addr → Prop} (hx : p.tables.exec = Jvm.exec) (hb : c.code = cc) (hr : meth.sig.returnType = some .long) (hlk : meth.locks = false) (hdg : decode cc pc = .ok (.lreturn, 1)) : W p l e R s m args below meth c s.heap [] cells slots (MQ below (fun _ st o t => o = .returned (some (.long r)) ∧ t.heap = st.heap) args s cells slots free) (F0 m pc ls [.long r]) :=
  W.lret hx hb hr (fun t ht _ => ⟨rfl, ht⟩) (fun _ h => by cases h) hdg hlk
end XR
