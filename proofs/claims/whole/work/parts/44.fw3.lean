/-! the wrappers of the law: they catch -/
def XE : List Cond := [.castable eIA eIA, .castable eIS eIS, .castable eIO eIO]
theorem XE_c : XE.all isC = true := by decide +kernel
def xE (U : State) : Prop := (∀ w ∈ XE, va_Nw w U) ∧ va_Nc eIA eIS U ∧ va_Nc eIA eIO U ∧ va_Nc eIS eIA U ∧ va_Nc eIS eIO U ∧ va_Nc eIO eIA U ∧ va_Nc eIO eIS U
theorem xE.moved {s U : State} (h : xE s) (hW : s.WarmedH U.vm) : xE U :=
  ⟨fun w hw => nw_warm (List.all_eq_true.mp XE_c w hw) hW (h.1 w hw), h.2.1.moved hW.alike, h.2.2.1.moved hW.alike, h.2.2.2.1.moved hW.alike, h.2.2.2.2.1.moved hW.alike, h.2.2.2.2.2.1.moved hW.alike, h.2.2.2.2.2.2.moved hW.alike⟩
theorem xE.call {U : State} {g : JFrame} {mk : MethodId} {a : Array Value} (h : xE U) : xE (U.calling g mk a) := h.moved (U := U.calling g mk a) (State.WarmedH.refl U)
theorem xE.IA {U : State} {A : Array Value} (h : xE U) : (Cond.castable eIA eIA).before A U = true := va_Nw.use rfl (h.1 _ (by decide +kernel))
theorem xE.IS {U : State} {A : Array Value} (h : xE U) : (Cond.castable eIS eIS).before A U = true := va_Nw.use rfl (h.1 _ (by decide +kernel))
theorem xE.IO {U : State} {A : Array Value} (h : xE U) : (Cond.castable eIO eIO).before A U = true := va_Nw.use rfl (h.1 _ (by decide +kernel))
/-- the class of rows of longs -/
def xJ (cJ : ClassId) (U : State) : Prop := ArrOfT U cJ .long ∧ va_RA U cJ .long
theorem xJ.moved {cJ : ClassId} {u U : State} (hvm : u.vm.Alike U.vm) (h : xJ cJ u) : xJ cJ U := ⟨arrOfT_moved hvm h.1, h.2.moved hvm⟩
theorem xJ.call {cJ : ClassId} {U : State} {g : JFrame} {mk : MethodId} {a : Array Value} (h : xJ cJ U) : xJ cJ (U.calling g mk a) := h.moved (u := U) (U := U.calling g mk a) (Vm.Alike.refl U.vm)
def Aj (cJ : ClassId) (a : Nat) (v : Int64) (H : Heap) : Prop := H[a]? = some (arrV cJ 1 (fun _ => .long v))
theorem Aj.kept {cJ : ClassId} {a : Nat} {v : Int64} {H H1 : Heap} (h : Aj cJ a v H) (hq : H1[a]? = H[a]?) : Aj cJ a v H1 := hq.trans h
theorem Aj.lt {cJ : ClassId} {a : Nat} {v : Int64} {H : Heap} (h : Aj cJ a v H) : a < H.size := by
  have h1 : H[a]? = some _ := h
  exact (Array.getElem?_eq_some_iff.mp h1).1
def Lw (l : Launch) (y : MethodName) (ws : List Cond) (rm : Room) (Γ : GG) (cJ : ClassId) (bs : Nat) (av : List Value) (Pre : Heap → Prop) (Post : Heap → Option Value → Heap → Prop) (mc ms : Nat) : Prop :=
  Met l y ws rm (va_Pc av (fun U => xK Γ U ∧ xT bs U ∧ xE U ∧ xJ cJ U ∧ Pre U.heap)) (fun _ st o t => ∃ v, o = .returned v ∧ Post st.heap v t.heap) mc ms (fun q => bs ≤ q)
theorem w_blind {Γ : GG} {cJ : ClassId} {bs : Nat} {av : List Value} {Pre : Heap → Prop} : FrameBlind (va_Pc av (fun U => xK Γ U ∧ xT bs U ∧ xE U ∧ xJ cJ U ∧ Pre U.heap)) := fun a U g mk h => ⟨h.1, xK.moved (u := U) (U := U.calling g mk a) (Vm.Alike.refl U.vm) h.2.1, h.2.2.1.call, h.2.2.2.1.call, h.2.2.2.2.1.call, h.2.2.2.2.2⟩
theorem Lw.of {l : Launch} {y : MethodName} {ws ws' : List Cond} {rm : Room} {Γ : GG} {cJ : ClassId} {bs : Nat} {av : List Value} {Pre : Heap → Prop} {Post : Heap → Option Value → Heap → Prop} {mc ms : Nat} {cc : ByteArray} {maxL : Nat} {ret : Option FieldType} {hh : List (Nat × Nat × Nat × Nat)} (hy : plainName y.cls = true) (hw : ws = Cond.codeWith y cc maxL ret hh :: ws') (hle : (lg_sl av).length ≤ maxL)
    (body : ∀ (p : Program) (e : Env) (s : State) (m : MethodId) (below : List Frame) (meth : Method) (c : Code), CallFix p m c cc maxL s av.toArray ws y.cls → meth.sig.returnType = ret → meth.locks = false → c.exceptionTable.toList = tableOf hh → xK Γ s → xT bs s → xE s → xJ cJ s → Pre s.heap → ∀ ls : Array Slot, lv_has ls maxL (lv_args 0 av) →
      W p l e rm s m av.toArray below meth c s.heap [] 0 0 (MQ below (fun _ st o t => ∃ v, o = .returned v ∧ Post st.heap v t.heap) av.toArray s mc ms (fun q => bs ≤ q)) (F0 m 0 ls [])) : Lw l y ws rm Γ cJ bs av Pre Post mc ms := by
  refine va_MetW (cc := cc) (maxL := maxL) (ret := ret) (hh := hh) hy hw ?_
  intro p e s m args below meth c s₁ B hml hv
  obtain ⟨rfl, hK, hT, hE, hJ, hPre⟩ := hv
  have hts := atoms_spec (ws := ws) B.pre
  rw [lg_entry_eq]
  exact body p e s m below meth c ⟨B.exec, B.bytes, hml, findClass_of_methodNamed B.named, hts⟩ B.returns B.notSynchronized (vx_table (x := y) B (hts _ (by rw [hw]; exact List.mem_cons_self))) hK hT hE hJ hPre _ (lv_entry av hle)
section WM
variable {p : Program} {l : Launch} {e : Env} {R : Room} {s : State} {m : MethodId} {args : Array Value} {below : List Frame} {meth : Method} {c : Code} {H : Heap} {locs : List Loc} {cells slots : Nat} {Q : State → Prop}
variable {cc : ByteArray} {pc : Nat} {ls : Array Slot} {rest st0 : List Value} {Γ : GG} {bs : Nat} {cJ : ClassId}
theorem w_V {own C : String} {index maxL nL n b mcy msy : Nat} {y : MethodName} {bytes : ByteArray} {ret : Option FieldType} {Ts wsy : List Cond} {rm : Room} {Pre : Heap → Prop} {Post : Heap → Option Value → Heap → Prop} {Px : String → Prop} {As : List Value} (S : CallFix p m c cc nL s args Ts own) (hK : xK Γ s) (hT : xT bs s) (hM : Tx l y wsy rm Γ bs (.ref b :: As) Pre Post Px mcy msy) (cw : CallW R s args own C index y bytes maxL ret wsy rm mcy msy n) (hrec : ∃ cell : Cell, s.heap[b]? = some cell ∧ cell.vm.isStatics = false ∧ s.vm.findClass C = some cell.cls) (hpre : Pre s.heap) (hn : As.length = n) (hsz : ls.size = nL) (hst : st0 = As.reverse ++ .ref b :: rest) (hW : (rest.map fun v => v.category).sum ≤ 8) (hdg : decode cc pc = .ok (.invokevirtual index, 3)) (hf : cells + mcy ≤ R.cells ∧ slots + msy ≤ R.slots) (hlo : lo bs locs)
    (k : ∀ (v : Option Value) (H1 : Heap) (locs1 : List Loc), Post s.heap v H1 → lo bs locs1 → W p l e R s m args below meth c H1 locs1 (cells + mcy) (slots + msy) Q (F0 m (pc + 3) ls (v.toList ++ rest)))
    (kx : ∀ (E : String) (ce : Cell) (q : Addr) (H1 : Heap) (locs1 : List Loc), Px E → s.heap.size ≤ H1.size → (∀ z : Nat, z < s.heap.size → H1[z]? = s.heap[z]?) → H1[q]? = some ce → ce.vm = .none → s.vm.findClass E = some ce.cls → lo bs locs1 → vx_W p l e R s m args below meth c H1 locs1 (cells + mcy) (slots + msy) Q (F0 m pc ls rest) q) :
    W p l e R s m args below meth c s.heap locs cells slots Q (F0 m pc ls st0) := by
  subst hst
  have hr := vx_runV (g := F0 m pc ls (As.reverse ++ .ref b :: rest)) (rest := rest) (cells := cells) (slots := slots) (locs := locs) (below := below) (meth := meth) (e := e) (H := s.heap) S hM cw ⟨t_blind, hrec, fun U hU hW => ⟨rfl, hK.moved hW.alike, hT.moved hW (fun q _ _ => by rw [hU]), by rw [hU]; exact hpre⟩⟩ rfl hn hsz rfl (lv_room hW) hdg hf
  intro T hT2 X
  rcases hr T hT2 X with ⟨v', st₀, t, T', L, h0, X', hL, e1, -, ⟨v, hv, hp⟩, st⟩ | ⟨q, st₀, t, T', L, E, ce, h0, X', hL, e1, -, ⟨h1, h2, h3⟩, hce, hcv, hcl, st⟩
  · cases hv
    rw [h0, ← e1] at hp
    obtain ⟨t2, a1, b1⟩ := k _ T'.heap (locs ++ L) hp (hlo.app hL) T' rfl X'
    exact ⟨t2, st t2 a1, b1⟩
  · rw [h0] at h2 h3
    obtain ⟨t2, a1, b1⟩ := kx E ce q T'.heap (locs ++ L) h1 (by rw [e1]; exact h2) (fun z hz => by rw [e1]; exact h3 z hz) (by rw [e1]; exact hce) hcv hcl (hlo.app hL) T' rfl X'
    exact ⟨t2, st.trans a1, b1⟩
theorem x_last (hx : p.tables.exec = Jvm.exec) (hb : c.code = cc) (hJ : xJ cJ s) {a : Nat} {v x : Int64} (hA : Aj cJ a v H) (hlo : lo bs locs) (hab : bs ≤ a) (hdg : decode cc pc = .ok (.lastore, 1))
    (k : ∀ (H1 : Heap) (locs1 : List Loc), Aj cJ a x H1 → H1.size = H.size → (∀ q : Nat, q ≠ a → H1[q]? = H[q]?) → lo bs locs1 → W p l e R s m args below meth c H1 locs1 cells slots Q (F0 m (pc + 1) ls rest)) : W p l e R s m args below meth c H locs cells slots Q (F0 m pc ls (.long x :: .int (nI 0) :: .ref a :: rest)) := by
  have hc : (nI 0).toNatClampNeg = 0 := nI_clamp (by decide)
  refine W.last hx hb hA (hJ.1 1 (fun _ => .long v)) (fun q => by cases q) (by intro q; rcases q with q | q; exact nI_pos (by decide) q; have q2 : (arrV cJ 1 (fun _ => .long v)).slots.size ≤ (nI 0).toNatClampNeg := q; rw [arrV_size, hc] at q2; omega) rfl rfl hdg fun H1 e1 z o => ?_
  refine k H1 _ ?_ z o (hlo.app1 hab)
  show H1[a]? = some (arrV cJ 1 (fun _ => .long x))
  have e2 : arrV cJ 1 (fun _ => .long x) = arrV cJ 1 (updV (fun _ => .long v) 0 (.long x)) := by
    unfold arrV
    congr 2
    funext j
    have hj : (j : Nat) = 0 := by have := j.2; omega
    show Value.long x = updV (fun _ => .long v) 0 (.long x) j
    rw [hj]
    rfl
  rw [e1, hc, e2, ← arrV_store]
theorem x_lald (hx : p.tables.exec = Jvm.exec) (hb : c.code = cc) (hJ : xJ cJ s) {a : Nat} {v : Int64} (hA : Aj cJ a v H) (hdg : decode cc pc = .ok (.laload, 1))
    (k : W p l e R s m args below meth c H locs cells slots Q (F0 m (pc + 1) ls (.long v :: rest))) : W p l e R s m args below meth c H locs cells slots Q (F0 m pc ls (.int (nI 0) :: .ref a :: rest)) := by
  have hc : (nI 0).toNatClampNeg = 0 := nI_clamp (by decide)
  refine W.lald (v := .long v) hx hb hA (hJ.1 1 (fun _ => .long v)) (fun q => by cases q) (by intro q; rcases q with q | q; exact nI_pos (by decide) q; have q2 : (arrV cJ 1 (fun _ => .long v)).slots.size ≤ (nI 0).toNatClampNeg := q; rw [arrV_size, hc] at q2; omega) (by rw [hc]; exact arrV_read _ _ (by decide)) rfl rfl hdg k
end WM
theorem CW.same {Γ : GG} {x : Nat} {σ : St} {ad : Nat → Nat} {H H1 : Heap} (h : CW Γ x σ ad H) (ho : ∀ q : Nat, q < H.size → H1[q]? = H[q]?) : CW Γ x σ ad H1 :=
  ⟨h.1.kept (ho _ h.1.lt), h.2.1.kept (ho _ h.2.1.lt), fun k hk => (h.2.2 k hk).kept fun q q1 q2 => ho q (by have := h.lt hk; omega)⟩
/-- how a wrapper ends -/
def WPo (Γ : GG) (cJ : ClassId) (x out b0 : Nat) (σ : St) (σ' : St) (ad : Nat → Nat) (cd : Nat) (val : Int32) (v0 : Int64) (H : Heap) (v : Option Value) (H2 : Heap) : Prop :=
  (cd = 0 ∧ v = some (.int (nI 0)) ∧ (∃ ad2, CW Γ x σ' ad2 H2 ∧ Ly b0 σ' ad2) ∧ Aj cJ out val.toInt64 H2 ∨ 0 < cd ∧ v = some (.int (nI cd)) ∧ CW Γ x σ ad H2 ∧ Aj cJ out v0 H2) ∧
  H.size ≤ H2.size ∧ ∀ q : Nat, q < H.size → q ≠ x → q ≠ x + 1 → q ≠ out → q < b0 → H2[q]? = H[q]?
theorem WPo.ok {Γ : GG} {cJ : ClassId} {x out b0 : Nat} {σ σ' : St} {ad ad2 : Nat → Nat} {cd : Nat} {val : Int32} {v0 v1 : Int64} {H H1 H2 : Heap} (hcd : cd = 0) (hC : CW Γ x σ' ad2 H1) (hy : Ly b0 σ' ad2) (hF : FrC x b0 H H1) (hxo : x + 2 ≤ out) (hob : out + 1 ≤ b0) (hA : Aj cJ out v1 H2) (hv : v1 = val.toInt64) (hz : H2.size = H1.size) (ho : ∀ q : Nat, q ≠ out → H2[q]? = H1[q]?) : WPo Γ cJ x out b0 σ σ' ad cd val v0 H (some (.int (nI 0))) H2 := by
  subst hv
  refine ⟨Or.inl ⟨hcd, rfl, ⟨ad2, ⟨hC.1.kept (ho _ (by omega)), hC.2.1.kept (ho _ (by omega)), fun k hk => (hC.2.2 k hk).kept fun q q1 q2 => ho q (by have := hy.1 k hk; omega)⟩, hy⟩, hA⟩, by rw [hz]; exact hF.1, fun q q1 q2 q3 q4 q5 => (ho q q4).trans (hF.2 q q1 q2 q3 q5)⟩
theorem WPo.no {Γ : GG} {cJ : ClassId} {x out b0 : Nat} {σ σ' : St} {ad : Nat → Nat} {cd i : Nat} {val : Int32} {v0 : Int64} {H H2 : Heap} (hcd : cd = i + 1) (hC : CW Γ x σ ad H) (hA : Aj cJ out v0 H) (hz : H.size ≤ H2.size) (ho : ∀ q : Nat, q < H.size → H2[q]? = H[q]?) : WPo Γ cJ x out b0 σ σ' ad cd val v0 H (some (.int (nI (i + 1)))) H2 := by
  subst hcd
  exact ⟨Or.inr ⟨Nat.succ_pos i, rfl, hC.same ho, hA.kept (ho _ hA.lt)⟩, hz, fun q q1 _ _ _ _ => ho q q1⟩
