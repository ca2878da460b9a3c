/-! what holds between the calls of sticks and of the law -/
def LI (Γ : GG) (bs : Nat) (s : State) (σ : St) (ad : Nat → Nat) (H : Heap) (locs : List Loc) : Prop :=
  Iv σ ∧ Jv σ ∧ Ly (bs + 2) σ ad ∧ CW Γ bs σ ad H ∧ lo bs locs ∧ bs + 2 ≤ H.size ∧ ∀ q : Nat, q < bs → H[q]? = s.heap[q]?
theorem LI.step {Γ : GG} {bs : Nat} {s : State} {σ σ1 : St} {ad ad1 : Nat → Nat} {H H1 : Heap} {locs locs1 : List Loc} (h : LI Γ bs s σ ad H locs) (hI : Iv σ1) (hJ : Jv σ1) (hC : CW Γ bs σ1 ad1 H1) (hy : Ly (bs + 2) σ1 ad1) (hF : FrC bs σ ad H H1) (hlo : lo bs locs1) : LI Γ bs s σ1 ad1 H1 locs1 := by
  obtain ⟨-, -, g3, -, -, g6, g7⟩ := h
  exact ⟨hI, hJ, hy, hC, hlo, Nat.le_trans g6 hF.1, fun q hq => (hF.2 q (by omega) (by omega) (by omega) (fun i hi => Or.inl (by have := g3.1 i hi; omega))).trans (g7 q hq)⟩
theorem LI.same {Γ : GG} {bs : Nat} {s : State} {σ : St} {ad : Nat → Nat} {H H1 : Heap} {locs locs1 : List Loc} (h : LI Γ bs s σ ad H locs) (hz : H.size ≤ H1.size) (ho : ∀ q : Nat, q < H.size → H1[q]? = H[q]?) (hlo : lo bs locs1) : LI Γ bs s σ ad H1 locs1 := by
  obtain ⟨g1, g2, g3, g4, -, g6, g7⟩ := h
  exact ⟨g1, g2, g3, g4.kept ho, hlo, by omega, fun q hq => (ho q (by omega)).trans (g7 q hq)⟩
theorem bdS_ok {σ : St} {k f : Nat} (hI : Iv σ) (hJ : Jv σ) (hk : k < qn σ) (hg : qg σ k = 0) (h : bJ σ k (nI f) = none ∨ (thr σ (qn σ) < 12 ∧ qn σ ≤ 38)) : Iv (bdS σ k (nI f)) ∧ Jv (bdS σ k (nI f)) := by
  unfold bdS
  cases e : bJ σ k (nI f) with
  | none => exact ⟨hI, hJ⟩
  | some j =>
    rcases h with h | ⟨h1, h2⟩
    · rw [e] at h
      cases h
    · exact ⟨Iv_bend hI hk hg (bJ_lt e) h2 h1, Jv_bend hI hJ hk h2⟩
theorem nI_ge0 {n : Nat} (h : n < 2 ^ 31) : 0 ≤ nI n := by
  rw [Int32.le_iff_toInt_le, Int32.toInt_zero, nI_toInt h]
  omega
theorem nI_m1 {n : Nat} (h : n < 2 ^ 31) : ¬ nI n = -1 := fun e => by
  have h1 := nI_toInt h
  rw [e] at h1
  have h2 : (-1 : Int32).toInt = -1 := by decide +kernel
  omega
theorem nI_m2 {n : Nat} (h : n < 2 ^ 31) : ¬ nI n = -2 := fun e => by
  have h1 := nI_toInt h
  rw [e] at h1
  have h2 : (-2 : Int32).toInt = -2 := by decide +kernel
  omega
section LFW
variable {p : Program} {l : Launch} {e : Env} {R : Room} {s : State} {m : MethodId} {args : Array Value} {below : List Frame} {meth : Method} {c : Code} {H : Heap} {locs : List Loc} {cells slots : Nat} {Q : State → Prop}
variable {cc : ByteArray} {pc : Nat} {ls : Array Slot} {rest st0 : List Value} {Γ : GG}
theorem x_ifge (hx : p.tables.exec = Jvm.exec) (hb : c.code = cc) {a : Nat} (ha : a < 2 ^ 31) {off : Int} {tgt : Nat} (hdg : decode cc pc = .ok (.ifCond .ge off, 3)) (ht : (pc : Int) + off = (tgt : Int)) (kt : W p l e R s m args below meth c H locs cells slots Q (F0 m tgt ls rest)) : W p l e R s m args below meth c H locs cells slots Q (F0 m pc ls (.int (nI a) :: rest)) :=
  lv_if_ge hx hb hdg ht (fun _ => kt) (fun h => absurd (nI_ge0 ha) h)
theorem x_ifle (hx : p.tables.exec = Jvm.exec) (hb : c.code = cc) {a : Nat} (ha : a < 2 ^ 31) {off : Int} {tgt : Nat} (hdg : decode cc pc = .ok (.ifCond .le off, 3)) (ht : (pc : Int) + off = (tgt : Int)) (kt : a = 0 → W p l e R s m args below meth c H locs cells slots Q (F0 m tgt ls rest)) (kf : 0 < a → W p l e R s m args below meth c H locs cells slots Q (F0 m (pc + 3) ls rest)) : W p l e R s m args below meth c H locs cells slots Q (F0 m pc ls (.int (nI a) :: rest)) :=
  lv_if_le hx hb hdg ht (fun h => kt (by
    rw [Int32.le_iff_toInt_le, Int32.toInt_zero, nI_toInt ha] at h
    omega)) (fun h => kf (by
    rw [Int32.le_iff_toInt_le, Int32.toInt_zero, nI_toInt ha] at h
    omega))
theorem x_loopC {σ : Type} {nL : Nat} {st : List Value} (I : σ → List (Nat × Value)) (P : σ → Heap → List Loc → Prop) (C S : σ → Nat) (μ : σ → Nat)
    (step : ∀ (u : σ) (H : Heap) (locs : List Loc), P u H locs → (∀ (u' : σ) (H' : Heap) (locs' : List Loc), P u' H' locs' → μ u' < μ u → ∀ ls : Array Slot, lv_has ls nL (I u') → W p l e R s m args below meth c H' locs' (C u') (S u') Q (F0 m pc ls st)) → ∀ ls : Array Slot, lv_has ls nL (I u) → W p l e R s m args below meth c H locs (C u) (S u) Q (F0 m pc ls st))
    (u0 : σ) (h0 : P u0 H locs) (ls : Array Slot) (hl : lv_has ls nL (I u0)) : W p l e R s m args below meth c H locs (C u0) (S u0) Q (F0 m pc ls st) := by
  have key : ∀ (n : Nat) (u : σ) (H : Heap) (locs : List Loc), μ u < n → P u H locs → ∀ ls : Array Slot, lv_has ls nL (I u) → W p l e R s m args below meth c H locs (C u) (S u) Q (F0 m pc ls st) := by
    intro n
    induction n with
    | zero => intro u H locs hu; omega
    | succ n ih => exact fun u H locs hu hp => step u H locs hp (fun u' H' locs' hp' hm => ih u' H' locs' (by omega) hp')
  exact key (μ u0 + 1) u0 H locs (Nat.lt_succ_self _) h0 ls hl
end LFW
abbrev rmK : Room := { frames := 9, cells := 900, slots := 10200, locals := 176 }
