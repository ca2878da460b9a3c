noncomputable def mnv (σ : St) : UInt64 := if thr σ (qn σ) = 0 then FP.dconst0 else FP.ddiv (FP.i2d (tS σ (fun k => fk σ k 2) (qn σ))) (FP.i2d (nI (thr σ (qn σ))))
def okD (r : UInt64) : Bool := decide (r &&& 0x7fffffffffffffff ≤ 0x7ff0000000000000) && decide (Op.cmpValue (FP.dcmp r r) CmpOp.l = 0)
set_option maxRecDepth 1000000 in
set_option maxHeartbeats 4000000 in
theorem dd_all : (List.range 433).all (fun a => (List.range 12).all (fun b => okD (FP.ddiv (FP.i2d (nI a)) (FP.i2d (nI (b + 1)))))) = true := by decide +kernel
theorem dd_ok {a b : Nat} (ha : a < 433) (hb0 : 1 ≤ b) (hb : b ≤ 12) : okD (FP.ddiv (FP.i2d (nI a)) (FP.i2d (nI b))) = true := by
  have h1 := List.all_eq_true.mp dd_all a (List.mem_range.mpr ha)
  have h2 := List.all_eq_true.mp h1 (b - 1) (List.mem_range.mpr (by omega))
  rw [show b - 1 + 1 = b by omega] at h2
  exact h2
def tN (σ : St) (g : Nat → Nat) (n : Nat) : Nat := sN (fun k => if qg σ k = 0 then g k else 0) n
theorem tS_N {σ : St} {g : Nat → Nat} {f : Nat → Int32} : ∀ {n : Nat}, (∀ k, k < n → f k = nI (g k)) → tS σ f n = nI (tN σ g n)
  | 0, _ => rfl
  | n + 1, h => by
    have ih := tS_N (σ := σ) (n := n) (g := g) (f := f) fun k hk => h k (Nat.lt_succ_of_lt hk)
    show _ = nI (tN σ g n + (if qg σ n = 0 then g n else 0))
    by_cases q : qg σ n = 0
    · rw [tS_y q, if_pos q, ih, h n (Nat.lt_succ_self n), nI_add]
    · rw [tS_n (Nat.pos_of_ne_zero q), if_neg q, ih, Nat.add_zero]
theorem tN_le {σ : St} {g : Nat → Nat} {c : Nat} : ∀ {n : Nat}, (∀ k, k < n → g k ≤ c) → tN σ g n ≤ c * thr σ n
  | 0, _ => Nat.zero_le _
  | n + 1, h => by
    have ih := tN_le (σ := σ) (n := n) (g := g) (c := c) fun k hk => h k (Nat.lt_succ_of_lt hk)
    have h1 := h n (Nat.lt_succ_self n)
    show tN σ g n + (if qg σ n = 0 then g n else 0) ≤ c * thr σ (n + 1)
    by_cases q : qg σ n = 0
    · rw [if_pos q, thr_y q, Nat.mul_add, Nat.mul_one]; omega
    · rw [if_neg q, thr_n (Nat.pos_of_ne_zero q)]; omega
theorem mnv_D {σ : St} (hI : Iv σ) (h : ¬ thr σ (qn σ) = 0) : okD (FP.ddiv (FP.i2d (tS σ (fun k => fk σ k 2) (qn σ))) (FP.i2d (nI (thr σ (qn σ))))) = true := by
  have h12 := hI.2.2.2.2.2.2
  rw [tS_N (f := fun k => fk σ k 2) (g := fun k => rT (rk σ k) (qp σ k)) (fun k _ => rfl)]
  have hb := tN_le (σ := σ) (g := fun k => rT (rk σ k) (qp σ k)) (c := 36) (n := qn σ) (fun k hk => by have h1 := rT_le (rk σ k) (qp σ k); have := (hI.2.1 k hk).2.1; omega)
  exact dd_ok (by omega) (by omega) h12
theorem mnv_ok {σ : St} (hI : Iv σ) (h : ¬ thr σ (qn σ) = 0) : vf_n64 (FP.ddiv (FP.i2d (tS σ (fun k => fk σ k 2) (qn σ))) (FP.i2d (nI (thr σ (qn σ))))) := by
  have h1 := mnv_D hI h
  unfold okD at h1
  rw [Bool.and_eq_true] at h1
  unfold vf_n64
  exact of_decide_eq_true h1.1
theorem mnv_eq {σ : St} (hI : Iv σ) : Op.cmpValue (FP.dcmp (mnv σ) (mnv σ)) CmpOp.l = 0 := by
  unfold mnv
  by_cases h : thr σ (qn σ) = 0
  · rw [if_pos h]
    decide +kernel
  · rw [if_neg h]
    have h1 := mnv_D hI h
    unfold okD at h1
    rw [Bool.and_eq_true] at h1
    exact of_decide_eq_true h1.2
section XD
variable {p : Program} {l : Launch} {e : Env} {R : Room} {s : State} {m : MethodId} {args : Array Value} {below : List Frame} {meth : Method} {c : Code} {H : Heap} {locs : List Loc} {cells slots : Nat} {Q : State → Prop}
variable {cc : ByteArray} {pc : Nat} {ls : Array Slot} {rest st0 : List Value} {Γ : GG}
theorem x_eD {x y : UInt64} (h : x = y) (k : W p l e R s m args below meth c H locs cells slots Q (F0 m pc ls (.double y :: rest))) : W p l e R s m args below meth c H locs cells slots Q (F0 m pc ls (.double x :: rest)) := by rw [h]; exact k
theorem ro_dret {r : UInt64} {free : Addr → Prop} (hx : p.tables.exec = Jvm.exec) (hb : c.code = cc) (hr : meth.sig.returnType = some .double) (hlk : meth.locks = false) (hdg : decode cc pc = .ok (.dreturn, 1)) : W p l e R s m args below meth c s.heap [] cells slots (MQ below (fun _ st o t => o = .returned (some (.double r)) ∧ t.heap = st.heap) args s cells slots free) (F0 m pc ls [.double r]) :=
  W.dret hx hb hr (fun t ht _ => ⟨rfl, ht⟩) (fun _ h => by cases h) hdg hlk
theorem x_newQ {own : String} {index n nL : Nat} {Ts : List Cond} (S : CallFix p m c cc nL s args Ts own) (hK : xK Γ s) (hcl : Cond.classLink own index RX0 ∈ Ts) (hAO : va_AO RX0 s) (hn : n < 2 ^ 20) (hcells : cells + 1 ≤ R.cells) (hslots : slots + n ≤ R.slots) (hdg : decode cc pc = .ok (.anewarray index, 3))
    (k : ∀ H1 : Heap, Aq Γ H.size n (fun _ => none) H1 → H1.size = H.size + 1 → (∀ q : Nat, q < H.size → H1[q]? = H[q]?) → W p l e R s m args below meth c H1 locs (cells + 1) (slots + n) Q (F0 m (pc + 3) ls (.ref H.size :: rest))) : W p l e R s m args below meth c H locs cells slots Q (F0 m pc ls (.int (nI n) :: rest)) := by
  have hc : (nI n).toNatClampNeg = n := nI_clamp (by omega)
  refine W.anew S.1 S.2.1 S.2.2.2.1 (S.2.2.2.2 _ hcl) (va_AO.use hAO) rfl hdg rfl (nI_pos (by omega)) (by rw [hc]; omega) hcells (by rw [hc]; exact hslots) fun cA kA comp f1 f2 f3 f4 => ?_
  obtain ⟨kA2, comp2, g1, g2, g3, g4⟩ := (hK.2 2 _ rfl).2
  have hcA : cA = Γ.2.2.2 := Option.some.inj (f1.symm.trans g4)
  subst hcA
  rw [hc]
  generalize hH1 : H.push ({ cls := Γ.2.2.2, slots := Array.replicate n .null, vm := .none } : Cell) = H1
  refine k H1 ?_ (by rw [← hH1, Array.size_push]) (fun q hq => by rw [← hH1, Array.getElem?_push, if_neg (Nat.ne_of_lt hq)])
  show H1[H.size]? = some (arrV Γ.2.2.2 n (fun _ => .null))
  rw [← hH1, Array.getElem?_push_size, ← arrV_new]
end XD
set_option maxHeartbeats 4000000 in
set_option maxRecDepth 100000 in
theorem c_X1_mean (l : Launch) (Γ : GG) (x : Nat) (σ : St) (ad : Nat → Nat) (hI : Iv σ)   : Ro l yX1_mean wsX1_mean ({ frames := 6, cells := 0, slots := 0, locals := 134 }) Γ [.ref x] (CW Γ x σ ad) (some (.double (mnv σ))) := by
  refine Ro.of (cc := cX1_mean) (maxL := 2) (ret := some .double) (by decide) rfl (Nat.le_of_ble_eq_true rfl) ?_
  intro p e s m below meth c S hr hlk hK hW ls hl
  obtain ⟨hx, hb, hml, hown, hts⟩ := id S
  have hl : lv_has ls 2 [(0, .ref x)] := hl
  have hn40 := hI.1
  have hthr := thr_le σ (qn σ)
  refine lv_aload_n hx hb dX1_mean_0 rfl (lv_at hl 0 rfl) ?_
  refine ro_V (rest := []) S hK (c_X1_howManyThere l Γ x σ ad hI ) (cwV 0 hts gX1_mean_X1_howManyThere rfl rfl rfl (by decide +kernel) ⟨Nat.le_of_ble_eq_true rfl, Nat.le_of_ble_eq_true rfl⟩) (Ob.recv hK hW.1 rfl) hW rfl hl.1 rfl (Nat.le_of_ble_eq_true rfl) dX1_mean_1 ⟨Nat.le_of_ble_eq_true rfl, Nat.le_of_ble_eq_true rfl⟩ ?_
  refine W.eq (g2 := F0 m 4 ls [.int (nI (thr σ (qn σ)))]) rfl ?_
  refine lv_istore_n (lv' := [(1, .int (nI (thr σ (qn σ)))), (0, .ref x)]) hx hb dX1_mean_4 rfl hl (by decide) rfl (fun ls hl => ?_)
  refine lv_iload_n hx hb dX1_mean_5 rfl (lv_at hl 0 rfl) ?_
  refine x_ifne hx hb (by omega) (tgt := 13) dX1_mean_6 (by decide) (fun c_1 => ?_) (fun c_1 => ?_)
  · skip
    refine lv_aload_n hx hb dX1_mean_13 rfl (lv_at hl 1 rfl) ?_
    refine lv_iconst (v := nI 2) hx hb dX1_mean_14 (by decide +kernel) ?_
    refine ro_V (rest := []) S hK (c_X1_sumThere l Γ x σ ad hI 2 (by omega)) (cwV 1 hts gX1_mean_X1_sumThere rfl rfl rfl (by decide +kernel) ⟨Nat.le_of_ble_eq_true rfl, Nat.le_of_ble_eq_true rfl⟩) (Ob.recv hK hW.1 rfl) hW rfl hl.1 rfl (Nat.le_of_ble_eq_true rfl) dX1_mean_15 ⟨Nat.le_of_ble_eq_true rfl, Nat.le_of_ble_eq_true rfl⟩ ?_
    refine W.eq (g2 := F0 m 18 ls [.int (tS σ (fun k => fk σ k 2) (qn σ))]) rfl ?_
    refine lv_i2d hx hb dX1_mean_18 ?_
    refine lv_iload_n hx hb dX1_mean_19 rfl (lv_at hl 0 rfl) ?_
    refine lv_i2d hx hb dX1_mean_20 ?_
    refine lv_ddiv hx hb dX1_mean_21 (mnv_ok hI (by omega)) ?_
    refine x_eD (show FP.ddiv (FP.i2d (tS σ (fun k => fk σ k 2) (qn σ))) (FP.i2d (nI (thr σ (qn σ)))) = mnv σ by unfold mnv; rw [if_neg (by omega)]) ?_
    exact ro_dret hx hb hr hlk dX1_mean_22
  · skip
    refine lv_dconst0 hx hb dX1_mean_9 ?_
    refine lv_goto (tgt := 22) hx hb dX1_mean_10 (by decide) ?_
    refine x_eD (show FP.dconst0 = mnv σ by unfold mnv; rw [if_pos c_1]) ?_
    exact ro_dret hx hb hr hlk dX1_mean_22
