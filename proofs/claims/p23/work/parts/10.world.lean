/-! the state of the system: sticks made, breaks; of each stick its places, side up, whether gone, the breaks of its ends; all runes (36 a stick), all bases and glued joints (12 a stick) -/
abbrev St : Type := Nat × Int32 × (Nat → Nat) × (Nat → Nat) × (Nat → Nat) × (Nat → Int32) × (Nat → Int32) × (Nat → Int32) × (Nat → Int32) × (Nat → Int32)
def qn (σ : St) : Nat := σ.1
def qb (σ : St) : Int32 := σ.2.1
def qp (σ : St) : Nat → Nat := σ.2.2.1
def qu (σ : St) : Nat → Nat := σ.2.2.2.1
def qg (σ : St) : Nat → Nat := σ.2.2.2.2.1
def qB (σ : St) : Nat → Int32 := σ.2.2.2.2.2.1
def qE (σ : St) : Nat → Int32 := σ.2.2.2.2.2.2.1
def qr (σ : St) : Nat → Int32 := σ.2.2.2.2.2.2.2.1
def qa (σ : St) : Nat → Int32 := σ.2.2.2.2.2.2.2.2.1
def ql (σ : St) : Nat → Int32 := σ.2.2.2.2.2.2.2.2.2
def rk (σ : St) (k : Nat) : Nat → Int32 := fun i => qr σ (36 * k + i)
def ak (σ : St) (k : Nat) : Nat → Int32 := fun j => qa σ (12 * k + j)
def lk (σ : St) (k : Nat) : Nat → Int32 := fun j => ql σ (12 * k + j)
def okR (x : Int32) : Prop := x = -1 ∨ ∃ r, r < 24 ∧ x = nI r
def thr (σ : St) (n : Nat) : Nat := sN (fun k => if qg σ k = 0 then 1 else 0) n
def Iv (σ : St) : Prop := qn σ ≤ 40 ∧ (∀ k, k < qn σ → 1 ≤ qp σ k ∧ qp σ k ≤ 12 ∧ qu σ k < 3 ∧ qg σ k ≤ 1) ∧ (∀ k, qn σ ≤ k → qg σ k = 0) ∧ (∀ i, okR (qr σ i)) ∧ (∀ i, 36 * qn σ ≤ i → qr σ i = -1) ∧ (∀ i, ql σ i = 0 ∨ ql σ i = 1) ∧ thr σ (qn σ) ≤ 12
/-- one stick of the class -/
def SK (Γ : GG) (σ : St) (k a : Nat) (H : Heap) : Prop := SW Γ a (qp σ k) (qu σ k) (qB σ k) (qE σ k) (qg σ k) (rk σ k) (ak σ k) (lk σ k) H
/-- the class's world -/
def CW (Γ : GG) (x : Nat) (σ : St) (ad : Nat → Nat) (H : Heap) : Prop :=
  Ob Γ 1 x [.ref (x + 1), .int (nI (qn σ)), .int (qb σ)] H ∧ Aq Γ (x + 1) 40 (fun k => if k < qn σ then some (ad k) else none) H ∧ ∀ k, k < qn σ → SK Γ σ k (ad k) H
/-- where the sticks lie -/
def Ly (b0 : Nat) (σ : St) (ad : Nat → Nat) : Prop := (∀ k, k < qn σ → b0 ≤ ad k) ∧ ∀ i j, i < j → j < qn σ → ad i + 4 ≤ ad j
theorem Ly.ne {b0 : Nat} {σ : St} {ad : Nat → Nat} (h : Ly b0 σ ad) {i j : Nat} (hi : i < qn σ) (hj : j < qn σ) (e : ad i = ad j) : i = j := by
  rcases Nat.lt_trichotomy i j with q | q | q
  · have := h.2 i j q hj
    omega
  · exact q
  · have := h.2 j i q hi
    omega
theorem thr_le (σ : St) (n : Nat) : thr σ n ≤ n := by
  have h := sN_le (f := fun k => if qg σ k = 0 then 1 else 0) (c := 1) (n := n) (fun k _ => by split <;> omega)
  unfold thr
  omega
theorem thr_y {σ : St} {n : Nat} (h : qg σ n = 0) : thr σ (n + 1) = thr σ n + 1 := by
  show thr σ n + (if qg σ n = 0 then 1 else 0) = _
  rw [if_pos h]
theorem thr_n {σ : St} {n : Nat} (h : 0 < qg σ n) : thr σ (n + 1) = thr σ n := by
  show thr σ n + (if qg σ n = 0 then 1 else 0) = _
  rw [if_neg (by omega), Nat.add_zero]
/-- the stick by its number, if there is one -/
def sr (σ : St) (ad : Nat → Nat) (x : Int32) : Option Nat := if 0 ≤ x.toInt ∧ x.toInt < (qn σ : Int) then some (ad x.toInt.toNat) else none
theorem sr_nI {σ : St} {ad : Nat → Nat} {k : Nat} (hk : k < 2 ^ 31) : sr σ ad (nI k) = if k < qn σ then some (ad k) else none := by
  unfold sr
  rw [nI_toInt hk, Int.toNat_natCast]
  by_cases h : k < qn σ
  · rw [if_pos h, if_pos (by omega)]
  · rw [if_neg h, if_neg (by omega)]
theorem sr_none {σ : St} {ad : Nat → Nat} {x : Int32} (h : ¬ inb x (qn σ)) : sr σ ad x = none := if_neg h
theorem sr_some {σ : St} {ad : Nat → Nat} {x : Int32} (h : inb x (qn σ)) : sr σ ad x = some (ad x.toInt.toNat) := if_pos h
def tr (σ : St) (ad : Nat → Nat) (k : Nat) : Option Nat := if qg σ k = 0 then some (ad k) else none
/-- sums over the sticks that are there -/
def tS (σ : St) (g : Nat → Int32) : Nat → Int32
  | 0 => nI 0
  | n + 1 => if qg σ n = 0 then tS σ g n + g n else tS σ g n
theorem tS_y {σ : St} {g : Nat → Int32} {n : Nat} (h : qg σ n = 0) : tS σ g (n + 1) = tS σ g n + g n := if_pos h
theorem tS_n {σ : St} {g : Nat → Int32} {n : Nat} (h : 0 < qg σ n) : tS σ g (n + 1) = tS σ g n := if_neg (by omega)
def fk (σ : St) (k : Nat) : Nat → Int32 := fct (qp σ k) (qu σ k) (qB σ k) (qE σ k) (qg σ k) (rk σ k) (lk σ k)
/-- a fits ahead of b, and both are there -/
def fitP (σ : St) (a b : Nat) : Prop := ¬ a = b ∧ qg σ a = 0 ∧ qg σ b = 0 ∧ ¬ qE σ a = -1 ∧ qE σ a = qB σ b
noncomputable def fB (σ : St) (a n : Nat) : Nat := sN (fun k => bP (fitP σ a k)) n
noncomputable def fA (σ : St) (n : Nat) : Nat := sN (fun a => fB σ a (qn σ)) n
theorem fB_le (σ : St) (a n : Nat) : fB σ a n ≤ n := by
  have h := sN_le (f := fun k => bP (fitP σ a k)) (c := 1) (n := n) (fun k _ => bP_le _)
  unfold fB
  omega
theorem fB_s (σ : St) (a n : Nat) : fB σ a (n + 1) = fB σ a n + bP (fitP σ a n) := rfl
theorem fA_s (σ : St) (n : Nat) : fA σ (n + 1) = fA σ n + fB σ n (qn σ) := rfl
theorem fB_gone {σ : St} {a : Nat} (h : 0 < qg σ a) : ∀ n, fB σ a n = 0
  | 0 => rfl
  | n + 1 => by rw [fB_s, fB_gone h n, bP_f (fun q => by have := q.2.1; omega)]
theorem fA_le (σ : St) (n : Nat) : fA σ n ≤ n * qn σ := sN_le fun k _ => fB_le σ k (qn σ)
noncomputable def tot (σ : St) (w : Nat) : Int32 :=
  if w = 0 then nI (thr σ (qn σ)) else if w = 1 then nI (qn σ) else if w = 2 then tS σ (fun k => fk σ k 2) (qn σ) else if w = 3 then qb σ else if w = 4 then tS σ (fun k => fk σ k 3) (qn σ) else if w = 5 then tS σ (fun k => fk σ k 0) (qn σ) else nI (fA σ (qn σ))
def kd (σ : St) (k : Nat) (d : Int64) : Int64 := addTo (qp σ k) (qu σ k) (qB σ k) (qE σ k) (qg σ k) (rk σ k) (ak σ k) (lk σ k) d
def dS (σ : St) (d : Int64) : Nat → Int64
  | 0 => d
  | n + 1 => kd σ n (dS σ d n)
noncomputable def dig (σ : St) : Int64 := dS σ (dF (tot σ) 1019 7) (qn σ)
/-- rhymes -/
def pw (x y : Int32) : Nat := if x = y then 2 else if x / nI 8 = y / nI 8 then 1 else 0
theorem pw_le (x y : Int32) : pw x y ≤ 2 := by
  unfold pw
  split
  · exact Nat.le_refl 2
  · split <;> omega
def rhR : List Int32 → List Int32 → Nat
  | [], _ => 0
  | _ :: _, [] => 0
  | x :: xs, y :: ys => if pw x y = 0 then 0 else pw x y + rhR xs ys
theorem rhR_nil (l : List Int32) : rhR l [] = 0 := by cases l <;> rfl
def lr (f : Nat → Int32) (n : Nat) : List Int32 := (rl f n).reverse
theorem lr_none {f : Nat → Int32} : ∀ {n : Nat}, lst f n = none → lr f n = []
  | 0, _ => rfl
  | n + 1, h => by
    unfold lst at h
    split at h
    · rename_i hf
      have ih := lr_none (n := n) h
      unfold lr at ih ⊢
      rw [rl, if_pos hf, List.append_nil]
      exact ih
    · cases h
theorem lr_some {f : Nat → Int32} : ∀ {n q : Nat}, lst f n = some q → lr f n = f q :: lr f q
  | 0, q, h => by cases h
  | n + 1, q, h => by
    unfold lst at h
    split at h
    · rename_i hf
      have ih := lr_some (n := n) h
      unfold lr at ih ⊢
      rw [rl, if_pos hf, List.append_nil]
      exact ih
    · rename_i hf
      cases h
      unfold lr
      rw [rl, if_neg hf, List.reverse_append]
      rfl
theorem lr_len (f : Nat → Int32) (n : Nat) : (lr f n).length = cU f n := by
  unfold lr
  rw [List.length_reverse, rl_len]
theorem rhR_le : ∀ (a b : List Int32), rhR a b ≤ 2 * a.length
  | [], _ => Nat.zero_le _
  | _ :: _, [] => Nat.zero_le _
  | x :: xs, y :: ys => by
    have h := rhR_le xs ys
    have h2 := pw_le x y
    show (if pw x y = 0 then 0 else pw x y + rhR xs ys) ≤ 2 * (xs.length + 1)
    split <;> omega
/-- the rhyme of stick a with the side su up and stick b as it lies -/
def rhy (σ : St) (a su b t : Nat) : Nat := rhR (lr (rd (rk σ a) su t) (qp σ a)) (lr (rd (rk σ b) (qu σ b) t) (qp σ b))
theorem cU_lst {f : Nat → Int32} : ∀ {n q : Nat}, lst f n = some q → cU f n = cU f q + 1
  | n, q, h => by rw [← lr_len, ← lr_len, lr_some h]; rfl
theorem pn_pred {P : Nat} (h : 1 ≤ P) : nI (P - 1) = pn P := by
  rw [show P = P - 1 + 1 by omega, pn_s, Nat.add_sub_cancel]
section XV
variable {p : Program} {l : Launch} {e : Env} {R : Room} {s : State} {m : MethodId} {args : Array Value} {below : List Frame} {meth : Method} {c : Code} {H : Heap} {locs : List Loc} {cells slots : Nat} {Q : State → Prop}
variable {cc : ByteArray} {pc : Nat} {ls : Array Slot} {rest st0 : List Value} {Γ : GG}
theorem x_v {v w : Value} (h : v = w) (k : W p l e R s m args below meth c H locs cells slots Q (F0 m pc ls (w :: rest))) : W p l e R s m args below meth c H locs cells slots Q (F0 m pc ls (v :: rest)) := by rw [h]; exact k
theorem x_qlen (hx : p.tables.exec = Jvm.exec) (hb : c.code = cc) (hK : xK Γ s) {a n : Nat} {f : Nat → Option Nat} (hA : Aq Γ a n f H) (hdg : decode cc pc = .ok (.arraylength, 1)) (k : W p l e R s m args below meth c H locs cells slots Q (F0 m (pc + 1) ls (.int (nI n) :: rest))) : W p l e R s m args below meth c H locs cells slots Q (F0 m pc ls (.ref a :: rest)) :=
  va_alen (ws := [(a, .inl (Γ.2.2.2, n, .inr (.inr (.inr (.inr f)))))]) hx hb hK (x_P1 hA) 0 2 rfl rfl rfl hdg k
theorem ro_aret {r : Option Nat} {free : Addr → Prop} {nm : String} (hx : p.tables.exec = Jvm.exec) (hb : c.code = cc) (hr : meth.sig.returnType = some (.object nm)) (hlk : meth.locks = false) (hdg : decode cc pc = .ok (.areturn, 1)) : W p l e R s m args below meth c s.heap [] cells slots (MQ below (fun _ st o t => o = .returned (some (va_rf r)) ∧ t.heap = st.heap) args s cells slots free) (F0 m pc ls [va_rf r]) :=
  W.aret hx hb hr (Or.inl ⟨nm, rfl⟩) (va_rf_or r) (fun t ht _ => ⟨rfl, ht⟩) (fun _ h => by cases h) hdg hlk
end XV
