/-! the law's own rows -/
section LF
variable {p : Program} {l : Launch} {e : Env} {R : Room} {s : State} {m : MethodId} {args : Array Value} {below : List Frame} {meth : Method} {c : Code} {H : Heap} {locs : List Loc} {cells slots : Nat} {Q : State → Prop}
variable {cc : ByteArray} {pc : Nat} {ls : Array Slot} {rest st0 : List Value} {Γ : GG} {bs : Nat} {cJ : ClassId}
theorem l_S {own : String} {index maxL nL n mc ms : Nat} {y : MethodName} {bytes : ByteArray} {ret : Option FieldType} {hh : List (Nat × Nat × Nat × Nat)} {Ts wsy : List Cond} {rm : Room} {Pre : Heap → Prop} {Post : Heap → Option Value → Heap → Prop} {As : List Value} (S : CallFix p m c cc nL s args Ts own) (hK : xK Γ s) (hT : xT bs s) (hE : xE s) (hJ : xJ cJ s) (hlow : ∀ q : Nat, q < bs → H[q]? = s.heap[q]?) (hM : Lw l y wsy rm Γ cJ bs As Pre Post mc ms) (cw : vx_CSW R s args own index y bytes maxL ret hh wsy rm mc ms n) (hpre : Pre H) (hn : As.length = n) (hsz : ls.size = nL) (hst : st0 = As.reverse ++ rest) (hW : (rest.map fun v => v.category).sum ≤ 8) (hdg : decode cc pc = .ok (.invokestatic index, 3)) (hf : cells + mc ≤ R.cells ∧ slots + ms ≤ R.slots) (hlo : lo bs locs)
    (k : ∀ (v : Option Value) (H1 : Heap) (locs1 : List Loc), Post H v H1 → lo bs locs1 → W p l e R s m args below meth c H1 locs1 (cells + mc) (slots + ms) Q (F0 m (pc + 3) ls (v.toList ++ rest))) : W p l e R s m args below meth c H locs cells slots Q (F0 m pc ls st0) := by
  subst hst
  exact m_run (vx_runSW S hM cw ⟨w_blind, fun U hU hW => ⟨rfl, hK.moved hW.alike, hT.moved hW (fun q _ h2 => by rw [hU]; exact hlow q (Nat.not_le.mp h2)), hE.moved hW, hJ.moved hW.alike, by rw [hU]; exact hpre⟩⟩ rfl hn hsz rfl (lv_room hW) hdg hf) hlo k
theorem l_sld (hx : p.tables.exec = Jvm.exec) (hb : c.code = cc) {sb L i : Nat} {xs : Nat → Int32} (hX : va_X sb L xs s s.heap) (hsb : sb < s.heap.size) (hsbs : sb < bs) (hS : va_S (fun q => bs ≤ q) s.heap H locs) (hi : i < L) (hL : L ≤ 2560) (hdg : decode cc pc = .ok (.iaload, 1))
    (k : W p l e R s m args below meth c H locs cells slots Q (F0 m (pc + 1) ls (.int (xs i) :: rest))) : W p l e R s m args below meth c H locs cells slots Q (F0 m pc ls (.int (nI i) :: .ref sb :: rest)) := by
  have hc : (nI i).toNatClampNeg = i := nI_clamp (by omega)
  refine va_sld hx hb hX hsb (fun q => by have q2 : bs ≤ sb := q; omega) hS (by intro q; rcases q with q | q; exact nI_pos (by omega) q; rw [hc] at q; omega) hdg ?_
  rw [hc]
  exact k
end LF
theorem MX.kept {Γ : GG} {mo : Nat} {th : Int32} {σ : St} {H H1 : Heap} (h : MX Γ mo th σ H) (hq : ∀ q : Nat, mo ≤ q → q < mo + 11 → H1[q]? = H[q]?) : MX Γ mo th σ H1 := by
  obtain ⟨g1, g2, hW⟩ := h
  exact ⟨g1, g2, hW.kept hq⟩
theorem CW.fr {Γ : GG} {x mo b0 : Nat} {σ : St} {ad : Nat → Nat} {H H1 : Heap} (h : CW Γ x σ ad H) (hy : Ly b0 σ ad) (hF : Fr mo (mo + 11) H H1) (h1 : x + 2 ≤ mo) (h2 : mo + 11 ≤ b0) : CW Γ x σ ad H1 :=
  ⟨h.1.kept (hF.2 _ h.1.lt (Or.inl (by omega))), h.2.1.kept (hF.2 _ h.2.1.lt (Or.inl (by omega))), fun k hk => (h.2.2 k hk).kept fun q q1 q2 => hF.2 q (by have := h.lt hk; omega) (Or.inr (by have := hy.1 k hk; omega))⟩
/-- what holds between two calls -/
def LI (Γ : GG) (cJ : ClassId) (bs : Nat) (s : State) (σ : St) (ad : Nat → Nat) (th : Int32) (v : Int64) (H : Heap) (locs : List Loc) : Prop :=
  Iv σ ∧ Ly (bs + 14) σ ad ∧ CW Γ bs σ ad H ∧ MX Γ (bs + 2) th σ H ∧ Aj cJ (bs + 13) v H ∧ lo bs locs ∧ bs + 14 ≤ H.size ∧ ∀ q : Nat, q < bs → H[q]? = s.heap[q]?
theorem LI.S {bs : Nat} {s : State} {H : Heap} {locs : List Loc} (hbs : s.heap.size = bs) (hlo : lo bs locs) (hsz : bs + 14 ≤ H.size) (hlow : ∀ q : Nat, q < bs → H[q]? = s.heap[q]?) : va_S (fun q => bs ≤ q) s.heap H locs :=
  ⟨by omega, fun q h1 _ => hlow q (by omega), hlo⟩
theorem cd1_le (A : Prop) : cd1 A ≤ 1 := by unfold cd1; split <;> omega
theorem cd2_le (A B : Prop) : cd2 A B ≤ 2 := by unfold cd2; split <;> (try split) <;> omega
theorem cd3_le (A B C : Prop) : cd3 A B C ≤ 3 := by unfold cd3; split <;> (try split) <;> (try split) <;> omega
theorem cd2_of {A B : Prop} (h : cd2 A B = 0) : A ∧ B := by
  by_cases a : A
  · by_cases b : B
    · exact ⟨a, b⟩
    · rw [cd2_2 a b] at h; omega
  · rw [cd2_1 a] at h; omega
theorem cd3_of {A B C : Prop} (h : cd3 A B C = 0) : A ∧ B ∧ C := by
  by_cases a : A
  · by_cases b : B
    · by_cases c : C
      · exact ⟨a, b, c⟩
      · rw [cd3_3 a b c] at h; omega
    · rw [cd3_2 a b] at h; omega
  · rw [cd3_1 a] at h; omega
theorem okR_in {r : Int32} (h : inb r 24) : okR r := by
  obtain ⟨k, hk, e⟩ := inb_ex h
  exact Or.inr ⟨k, hk, e⟩
theorem Iv_mk {σ : St} {y : Int32} (hI : Iv σ) (h : cd2 (inR y (1 : Nat) (12 : Nat)) (thr σ (qn σ) < 12 ∧ qn σ < 40) = 0) : Iv (sMake σ y.toInt.toNat) := by
  obtain ⟨h1, h2, h3⟩ := cd2_of h
  obtain ⟨k, a, b, rfl⟩ := inR_ex h1
  rw [toN (by omega)]
  exact Iv_make hI h3 h2 a b (by decide)
theorem sp_ix {σ : St} {y z w : Int32} (h : spotP σ y z w) (hI : Iv σ) : 36 * y.toInt.toNat + (3 * w.toInt.toNat + z.toInt.toNat) < 36 * qn σ := by
  obtain ⟨h1, h2, h3⟩ := h
  obtain ⟨k, hk, rfl⟩ := inb_ex h1
  have h40 := hI.1
  have hp := (hI.2.1 k hk).2.1
  rw [toN (by omega)] at h3
  obtain ⟨j, hj, rfl⟩ := inb_ex h2
  obtain ⟨i, hi, rfl⟩ := inb_ex h3
  rw [toN (by omega), toN (by omega), toN (by omega)]
  omega
theorem Iv_cv {σ : St} {y z w r : Int32} (hI : Iv σ) (h : cd3 (spotP σ y z w) (inb r 24) (qg σ (y.toInt.toNat) = 0) = 0) : Iv (o_rune σ (36 * y.toInt.toNat + (3 * w.toInt.toNat + z.toInt.toNat)) r) := by
  obtain ⟨h1, h2, -⟩ := cd3_of h
  exact Iv_rune hI (sp_ix h1 hI) (okR_in h2)
theorem Iv_sc {σ : St} {y z w : Int32} {B : Prop} (hI : Iv σ) (h : cd2 (spotP σ y z w) B = 0) : Iv (o_rune σ (36 * y.toInt.toNat + (3 * w.toInt.toNat + z.toInt.toNat)) (-1)) := Iv_rune hI (sp_ix (cd2_of h).1 hI) (Or.inl rfl)
theorem Iv_bd {σ : St} {y z : Int32} (hI : Iv σ) (h : cd3 (inb y (qn σ)) (inR z (1 : Nat) (20 : Nat)) (qg σ (y.toInt.toNat) = 0 ∧ (bJ σ (y.toInt.toNat) z = none ∨ (thr σ (qn σ) < 12 ∧ qn σ ≤ 38))) = 0) : Iv (bdS σ (y.toInt.toNat) z) := by
  obtain ⟨h1, -, h2, h3⟩ := cd3_of h
  obtain ⟨k, hk, rfl⟩ := inb_ex h1
  have h40 := hI.1
  rw [toN (by omega)] at h2 h3 ⊢
  unfold bdS
  cases e : bJ σ k z with
  | none => exact hI
  | some j =>
    rcases h3 with h3 | ⟨h4, h5⟩
    · rw [e] at h3; cases h3
    · have hj : j < qp σ k - 1 := by
        unfold bJ at e
        split at e
        · cases e
        · rename_i w hw
          split at e
          · cases e
            exact wk_lt _ _ _ hw
          · cases e
      exact Iv_bend hI hk h2 hj h5 h4
theorem Iv_gl {σ : St} {y z w r : Int32} (hI : Iv σ) (h : cd3 (inb y (qn σ) ∧ inb z (qn σ)) (inb w 3 ∧ inR r (1 : Nat) (9 : Nat)) (qg σ (y.toInt.toNat) = 0 ∧ qg σ (z.toInt.toNat) = 0 ∧ ¬ y.toInt.toNat = z.toInt.toNat ∧ qp σ (y.toInt.toNat) + qp σ (z.toInt.toNat) ≤ 12 ∧ qn σ < 40) = 0) : Iv (sGlue σ (y.toInt.toNat) (z.toInt.toNat) w.toInt.toNat r.toInt.toNat) := by
  obtain ⟨⟨h1, h2⟩, -, h3, h4, h5, h6, h7⟩ := cd3_of h
  obtain ⟨k, hk, rfl⟩ := inb_ex h1
  obtain ⟨j, hj, rfl⟩ := inb_ex h2
  have h40 := hI.1
  rw [toN (by omega)] at h3 h5 h6 ⊢
  rw [toN (by omega)] at h4 h5 h6 ⊢
  exact Iv_glue hI hk hj h5 h3 h4 h7 h6
theorem lcmp_eq (x : Int64) : (if x > x then (1 : Int32) else if x == x then 0 else -1) = nI 0 := by
  rw [if_neg (fun h => Int64.lt_irrefl h), if_pos (beq_self_eq_true x)]
  rfl
