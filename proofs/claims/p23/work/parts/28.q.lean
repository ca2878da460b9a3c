/-! p23's framework: what holds of every start, calls that only read cost no room -/
def xE (U : State) : Prop := va_Nw (.castable eIS eIS) U
theorem xE.moved {s U : State} (h : xE s) (hW : s.WarmedH U.vm) : xE U := nw_warm rfl hW h
theorem xE.IS {U : State} {A : Array Value} (h : xE U) : (Cond.castable eIS eIS).before A U = true := va_Nw.use rfl h
/-- the statics that the comparing of rows reads, and its Unsafe -/
def xM (bs : Nat) (U : State) : Prop :=
  va_Z RJ8 "LOG2_ARRAY_LONG_INDEX_SCALE" "I" (.int (nI 3)) (fun q => bs ≤ q) U U.heap ∧ va_Z RJ8 "LOG2_ARRAY_INT_INDEX_SCALE" "I" (.int (nI 2)) (fun q => bs ≤ q) U U.heap ∧ va_Z RJx9a822 "ARRAY_INT_BASE_OFFSET" "I" (.int (nI 16)) (fun q => bs ≤ q) U U.heap ∧
  ∃ u : Nat, va_Z RJ8 "U" "Ljdk/internal/misc/Unsafe;" (.ref u) (fun q => bs ≤ q) U U.heap ∧ u < bs ∧ ∃ cell : Cell, U.heap[u]? = some cell ∧ cell.vm.isStatics = false ∧ U.vm.findClass RJx9a822 = some cell.cls
theorem xM.moved {bs : Nat} {s U : State} (h : xM bs s) (hW : s.WarmedH U.vm) (hl : ∀ q : Nat, q < bs → U.heap[q]? = s.heap[q]?) : xM bs U := by
  obtain ⟨h1, h2, h3, u, h4, h5, cell, h6, h7, h8⟩ := h
  have hk : ∀ a : Nat, a < s.heap.size → ¬ bs ≤ a → U.heap[a]? = s.heap[a]? := fun a _ h => hl a (Nat.not_le.mp h)
  exact ⟨va_Z.moved hW.alike (h1.kept hk), va_Z.moved hW.alike (h2.kept hk), va_Z.moved hW.alike (h3.kept hk), u, va_Z.moved hW.alike (h4.kept hk), h5, cell, by rw [hl u h5]; exact h6, h7, by rw [hW.alike.findClass]; exact h8⟩
/-- what holds at the entry of each of the law's methods -/
def xW (Γ : GG) (bs sb L : Nat) (xs : Nat → Int32) (U : State) : Prop := xK Γ U ∧ xT bs U ∧ xE U ∧ va_AO RX0 U ∧ xM bs U ∧ va_X sb L xs U U.heap ∧ sb < bs ∧ L ≤ 260
theorem xW.moved {Γ : GG} {bs sb L : Nat} {xs : Nat → Int32} {s U : State} (h : xW Γ bs sb L xs s) (hW : s.WarmedH U.vm) (hl : ∀ q : Nat, q < bs → U.heap[q]? = s.heap[q]?) : xW Γ bs sb L xs U :=
  ⟨h.1.moved hW.alike, h.2.1.moved hW (fun q _ h => hl q (Nat.not_le.mp h)), h.2.2.1.moved hW, va_AO.moved hW.alike h.2.2.2.1, h.2.2.2.2.1.moved hW hl, (va_X.moved hW.alike h.2.2.2.2.2.1).kept (hl sb h.2.2.2.2.2.2.1), h.2.2.2.2.2.2.1, h.2.2.2.2.2.2.2⟩
theorem xW.call {Γ : GG} {bs sb L : Nat} {xs : Nat → Int32} {U : State} {g : JFrame} {mk : MethodId} {a : Array Value} (h : xW Γ bs sb L xs U) : xW Γ bs sb L xs (U.calling g mk a) :=
  h.moved (U := U.calling g mk a) (State.WarmedH.refl U) (fun _ _ => rfl)
theorem q_blind {Γ : GG} {bs sb L : Nat} {xs : Nat → Int32} {av : List Value} {Pre : Heap → Prop} : FrameBlind (va_Pc av (fun U => xW Γ bs sb L xs U ∧ Pre U.heap)) := fun _ _ _ _ h => ⟨h.1, h.2.1.call, h.2.2⟩
def Lx (l : Launch) (y : MethodName) (ws : List Cond) (rm : Room) (Γ : GG) (bs sb L : Nat) (xs : Nat → Int32) (av : List Value) (Pre : Heap → Prop) (Post : Heap → Option Value → Heap → Prop) (mc ms : Nat) : Prop :=
  Met l y ws rm (va_Pc av (fun U => xW Γ bs sb L xs U ∧ Pre U.heap)) (fun _ st o t => ∃ v, o = .returned v ∧ Post st.heap v t.heap) mc ms (fun q => bs ≤ q)
theorem Lx.of {l : Launch} {y : MethodName} {ws ws' : List Cond} {rm : Room} {Γ : GG} {bs sb L : Nat} {xs : Nat → Int32} {av : List Value} {Pre : Heap → Prop} {Post : Heap → Option Value → Heap → Prop} {mc ms : Nat} {cc : ByteArray} {maxL : Nat} {ret : Option FieldType} (hy : plainName y.cls = true) (hw : ws = Cond.code y cc maxL ret :: ws') (hle : (lg_sl av).length ≤ maxL)
    (body : ∀ (p : Program) (e : Env) (s : State) (m : MethodId) (below : List Frame) (meth : Method) (c : Code), CallFix p m c cc maxL s av.toArray ws y.cls → meth.sig.returnType = ret → meth.locks = false → xW Γ bs sb L xs s → Pre s.heap → ∀ ls : Array Slot, lv_has ls maxL (lv_args 0 av) →
      W p l e rm s m av.toArray below meth c s.heap [] 0 0 (MQ below (fun _ st o t => ∃ v, o = .returned v ∧ Post st.heap v t.heap) av.toArray s mc ms (fun q => bs ≤ q)) (F0 m 0 ls [])) : Lx l y ws rm Γ bs sb L xs av Pre Post mc ms := by
  refine Met.ofW (cc := cc) (maxL := maxL) (ret := ret) hy hw ?_
  intro p e s m args below meth c s₁ B hml hv
  obtain ⟨rfl, hX, hPre⟩ := hv
  rw [lg_entry_eq]
  exact body p e s m below meth c ⟨B.exec, B.bytes, hml, findClass_of_methodNamed B.named, atoms_spec (ws := ws) B.pre⟩ B.returns B.notSynchronized hX hPre _ (lv_entry av hle)
theorem Lx.ofW {l : Launch} {y : MethodName} {ws ws' : List Cond} {rm : Room} {Γ : GG} {bs sb L : Nat} {xs : Nat → Int32} {av : List Value} {Pre : Heap → Prop} {Post : Heap → Option Value → Heap → Prop} {mc ms : Nat} {cc : ByteArray} {maxL : Nat} {ret : Option FieldType} {hh : List (Nat × Nat × Nat × Nat)} (hy : plainName y.cls = true) (hw : ws = Cond.codeWith y cc maxL ret hh :: ws') (hle : (lg_sl av).length ≤ maxL)
    (body : ∀ (p : Program) (e : Env) (s : State) (m : MethodId) (below : List Frame) (meth : Method) (c : Code), CallFix p m c cc maxL s av.toArray ws y.cls → meth.sig.returnType = ret → meth.locks = false → c.exceptionTable.toList = tableOf hh → xW Γ bs sb L xs s → Pre s.heap → ∀ ls : Array Slot, lv_has ls maxL (lv_args 0 av) →
      W p l e rm s m av.toArray below meth c s.heap [] 0 0 (MQ below (fun _ st o t => ∃ v, o = .returned v ∧ Post st.heap v t.heap) av.toArray s mc ms (fun q => bs ≤ q)) (F0 m 0 ls [])) : Lx l y ws rm Γ bs sb L xs av Pre Post mc ms := by
  refine va_MetW (cc := cc) (maxL := maxL) (ret := ret) (hh := hh) hy hw ?_
  intro p e s m args below meth c s₁ B hml hv
  obtain ⟨rfl, hX, hPre⟩ := hv
  have hts := atoms_spec (ws := ws) B.pre
  rw [lg_entry_eq]
  exact body p e s m below meth c ⟨B.exec, B.bytes, hml, findClass_of_methodNamed B.named, hts⟩ B.returns B.notSynchronized (vx_table (x := y) B (hts _ (by rw [hw]; exact List.mem_cons_self))) hX hPre _ (lv_entry av hle)
theorem inR_nI {f a b : Nat} (hf : f < 2 ^ 31) (h1 : a ≤ f) (h2 : f ≤ b) : inR (nI f) (a : Int) (b : Int) := by
  unfold inR
  rw [nI_toInt hf]
  omega
section XQ
variable {p : Program} {l : Launch} {e : Env} {R : Room} {s : State} {m : MethodId} {args : Array Value} {below : List Frame} {meth : Method} {c : Code} {H : Heap} {locs : List Loc} {cells slots : Nat} {Q : State → Prop}
variable {cc : ByteArray} {pc : Nat} {ls : Array Slot} {rest st0 : List Value} {Γ : GG} {bs sb L : Nat} {xs : Nat → Int32}
theorem stand_same {T T' : State} {locs' : List Loc} {cells' slots' : Nat} (X : Stand p l e R s m args below meth c T locs cells slots) (X' : Stand p l e R s m args below meth c T' locs' cells' slots') (hh : T'.heap = T.heap) : Stand p l e R s m args below meth c T' locs cells slots := by
  obtain ⟨a1, a2, a3, a4, a5, a6⟩ := X'.same
  obtain ⟨b1, b2, b3, b4, b5, b6⟩ := X.same
  refine ⟨X'.admits, X'.cas, X'.clock, X'.frames, X'.room, X'.hears, X'.method, X'.code, X'.here, X'.tail, X'.warmed, X'.limits, X'.bytes, ⟨a1, a2, ?_, a4, ?_, fun a c hc => ?_⟩⟩
  · show T'.heap.size ≤ _
    rw [hh]
    exact b3
  · show ((T'.heap.toList.drop s.heap.size).map (·.slots.size)).sum ≤ slots
    rw [hh]
    exact b5
  · show ∃ c', T'.heap[a]? = some c' ∧ _
    rw [hh]
    exact b6 a c hc
theorem q_run {mc ms : Nat} {Post : Heap → Option Value → Heap → Prop} {free : Addr → Prop} {v0 : Option Value} (hr : va_Run p l e R s m args below meth c H locs cells slots mc ms (F0 m pc ls st0) rest (fun (st : State) (o : Outcome) (t : State) => ∃ v, o = .returned v ∧ Post st.heap v t.heap) free) (hpost : ∀ v H1, Post H v H1 → v = v0 ∧ H1 = H)
    (k : W p l e R s m args below meth c H locs cells slots Q (F0 m (pc + 3) ls (v0.toList ++ rest))) : W p l e R s m args below meth c H locs cells slots Q (F0 m pc ls st0) := by
  intro T hT X
  obtain ⟨v', st₀, t, T', L, h0, X', hL, e1, -, ⟨v, hv, hp⟩, st⟩ := hr T hT X
  cases hv
  rw [h0, ← e1] at hp
  obtain ⟨rfl, hh⟩ := hpost _ _ hp
  obtain ⟨t2, a1, b1⟩ := k T' hh (stand_same X X' (hh.trans hT.symm))
  exact ⟨t2, st t2 a1, b1⟩
/-- a call that does not throw, and only reads -/
theorem q_V {own C : String} {index maxL nL n b mcy msy : Nat} {y : MethodName} {bytes : ByteArray} {ret : Option FieldType} {Ts wsy : List Cond} {rm : Room} {Pre : Heap → Prop} {Post : Heap → Option Value → Heap → Prop} {Px : String → Prop} {As : List Value} {v0 : Option Value} (S : CallFix p m c cc nL s args Ts own) (hX : xW Γ bs sb L xs s) (hlow : ∀ q : Nat, q < bs → H[q]? = s.heap[q]?) (hM : Tx l y wsy rm Γ bs (.ref b :: As) Pre Post Px mcy msy) (cw : CallW R s args own C index y bytes maxL ret wsy rm mcy msy n) (hrec : ∃ cell : Cell, H[b]? = some cell ∧ cell.vm.isStatics = false ∧ s.vm.findClass C = some cell.cls) (hpre : Pre H) (hn : As.length = n) (hsz : ls.size = nL) (hst : st0 = As.reverse ++ .ref b :: rest) (hW : (rest.map fun v => v.category).sum ≤ 8) (hdg : decode cc pc = .ok (.invokevirtual index, 3)) (hf : cells + mcy ≤ R.cells ∧ slots + msy ≤ R.slots) (hpx : ∀ E, Px E → False) (hpost : ∀ v H1, Post H v H1 → v = v0 ∧ H1 = H)
    (k : W p l e R s m args below meth c H locs cells slots Q (F0 m (pc + 3) ls (v0.toList ++ rest))) : W p l e R s m args below meth c H locs cells slots Q (F0 m pc ls st0) := by
  subst hst
  have hr := vx_runV (g := F0 m pc ls (As.reverse ++ .ref b :: rest)) (rest := rest) (cells := cells) (slots := slots) (locs := locs) (below := below) (meth := meth) (e := e) (H := H) S hM cw ⟨t_blind, hrec, fun U hU hW => ⟨rfl, hX.1.moved hW.alike, hX.2.1.moved hW (fun q _ h => by rw [hU]; exact hlow q (Nat.not_le.mp h)), by rw [hU]; exact hpre⟩⟩ rfl hn hsz rfl (lv_room hW) hdg hf
  intro T hT2 X
  rcases hr T hT2 X with ⟨v', st₀, t, T', L, h0, X', hL, e1, -, ⟨v, hv, hp⟩, st⟩ | ⟨q, st₀, t, T', L, E, ce, h0, X', hL, e1, -, ⟨h1, h2, h3⟩, hce, hcv, hcl, st⟩
  · cases hv
    rw [h0, ← e1] at hp
    obtain ⟨rfl, hh⟩ := hpost _ _ hp
    obtain ⟨t2, a1, b1⟩ := k T' hh (stand_same X X' (hh.trans hT2.symm))
    exact ⟨t2, st t2 a1, b1⟩
  · exact (hpx E h1).elim
/-- a call that does not throw, and writes -/
theorem q_W {own C : String} {index maxL nL n b mcy msy : Nat} {y : MethodName} {bytes : ByteArray} {ret : Option FieldType} {Ts wsy : List Cond} {rm : Room} {Pre : Heap → Prop} {Post : Heap → Option Value → Heap → Prop} {Px : String → Prop} {As : List Value} (S : CallFix p m c cc nL s args Ts own) (hX : xW Γ bs sb L xs s) (hlow : ∀ q : Nat, q < bs → H[q]? = s.heap[q]?) (hM : Tx l y wsy rm Γ bs (.ref b :: As) Pre Post Px mcy msy) (cw : CallW R s args own C index y bytes maxL ret wsy rm mcy msy n) (hrec : ∃ cell : Cell, H[b]? = some cell ∧ cell.vm.isStatics = false ∧ s.vm.findClass C = some cell.cls) (hpre : Pre H) (hn : As.length = n) (hsz : ls.size = nL) (hst : st0 = As.reverse ++ .ref b :: rest) (hW : (rest.map fun v => v.category).sum ≤ 8) (hdg : decode cc pc = .ok (.invokevirtual index, 3)) (hf : cells + mcy ≤ R.cells ∧ slots + msy ≤ R.slots) (hlo : lo bs locs) (hpx : ∀ E, Px E → False)
    (k : ∀ (v : Option Value) (H1 : Heap) (locs1 : List Loc), Post H v H1 → lo bs locs1 → W p l e R s m args below meth c H1 locs1 (cells + mcy) (slots + msy) Q (F0 m (pc + 3) ls (v.toList ++ rest))) : W p l e R s m args below meth c H locs cells slots Q (F0 m pc ls st0) := by
  subst hst
  have hr := vx_runV (g := F0 m pc ls (As.reverse ++ .ref b :: rest)) (rest := rest) (cells := cells) (slots := slots) (locs := locs) (below := below) (meth := meth) (e := e) (H := H) S hM cw ⟨t_blind, hrec, fun U hU hW => ⟨rfl, hX.1.moved hW.alike, hX.2.1.moved hW (fun q _ h => by rw [hU]; exact hlow q (Nat.not_le.mp h)), by rw [hU]; exact hpre⟩⟩ rfl hn hsz rfl (lv_room hW) hdg hf
  intro T hT2 X
  rcases hr T hT2 X with ⟨v', st₀, t, T', L, h0, X', hL, e1, -, ⟨v, hv, hp⟩, st⟩ | ⟨q, st₀, t, T', L, E, ce, h0, X', hL, e1, -, ⟨h1, h2, h3⟩, hce, hcv, hcl, st⟩
  · cases hv
    rw [h0, ← e1] at hp
    obtain ⟨t2, a1, b1⟩ := k _ T'.heap (locs ++ L) hp (hlo.app hL) T' rfl X'
    exact ⟨t2, st t2 a1, b1⟩
  · exact (hpx E h1).elim
/-- a call whose throw this method catches itself -/
theorem q_X {own C : String} {index maxL nL n b mcy msy : Nat} {y : MethodName} {bytes : ByteArray} {ret : Option FieldType} {Ts wsy : List Cond} {rm : Room} {Pre : Heap → Prop} {Post : Heap → Option Value → Heap → Prop} {Px : String → Prop} {As : List Value} (S : CallFix p m c cc nL s args Ts own) (hX : xW Γ bs sb L xs s) (hM : Tx l y wsy rm Γ bs (.ref b :: As) Pre Post Px mcy msy) (cw : CallW R s args own C index y bytes maxL ret wsy rm mcy msy n) (hrec : ∃ cell : Cell, s.heap[b]? = some cell ∧ cell.vm.isStatics = false ∧ s.vm.findClass C = some cell.cls) (hpre : Pre s.heap) (hn : As.length = n) (hsz : ls.size = nL) (hst : st0 = As.reverse ++ .ref b :: rest) (hW : (rest.map fun v => v.category).sum ≤ 8) (hdg : decode cc pc = .ok (.invokevirtual index, 3)) (hf : cells + mcy ≤ R.cells ∧ slots + msy ≤ R.slots) (hlo : lo bs locs)
    (k : ∀ (v : Option Value) (H1 : Heap) (locs1 : List Loc), Post s.heap v H1 → lo bs locs1 → W p l e R s m args below meth c H1 locs1 (cells + mcy) (slots + msy) Q (F0 m (pc + 3) ls (v.toList ++ rest)))
    (kx : ∀ (E : String) (ce : Cell) (q : Addr) (H1 : Heap) (locs1 : List Loc), Px E → s.heap.size ≤ H1.size → (∀ z : Nat, z < s.heap.size → H1[z]? = s.heap[z]?) → H1[q]? = some ce → ce.vm = .none → s.vm.findClass E = some ce.cls → lo bs locs1 → vx_W p l e R s m args below meth c H1 locs1 (cells + mcy) (slots + msy) Q (F0 m pc ls rest) q) :
    W p l e R s m args below meth c s.heap locs cells slots Q (F0 m pc ls st0) := by
  subst hst
  have hr := vx_runV (g := F0 m pc ls (As.reverse ++ .ref b :: rest)) (rest := rest) (cells := cells) (slots := slots) (locs := locs) (below := below) (meth := meth) (e := e) (H := s.heap) S hM cw ⟨t_blind, hrec, fun U hU hW => ⟨rfl, hX.1.moved hW.alike, hX.2.1.moved hW (fun q _ _ => by rw [hU]), by rw [hU]; exact hpre⟩⟩ rfl hn hsz rfl (lv_room hW) hdg hf
  intro T hT2 X
  rcases hr T hT2 X with ⟨v', st₀, t, T', L, h0, X', hL, e1, -, ⟨v, hv, hp⟩, st⟩ | ⟨q, st₀, t, T', L, E, ce, h0, X', hL, e1, -, ⟨h1, h2, h3⟩, hce, hcv, hcl, st⟩
  · cases hv
    rw [h0, ← e1] at hp
    obtain ⟨t2, a1, b1⟩ := k _ T'.heap (locs ++ L) hp (hlo.app hL) T' rfl X'
    exact ⟨t2, st t2 a1, b1⟩
  · rw [h0] at h2 h3
    obtain ⟨t2, a1, b1⟩ := kx E ce q T'.heap (locs ++ L) h1 (by rw [e1]; exact h2) (fun z hz => by rw [e1]; exact h3 z hz) (by rw [e1]; exact hce) hcv hcl (hlo.app hL) T' rfl X'
    exact ⟨t2, st.trans a1, b1⟩
/-- calls of the law's own methods -/
theorem l_S {own : String} {index maxL nL n mc ms : Nat} {y : MethodName} {bytes : ByteArray} {ret : Option FieldType} {Ts wsy : List Cond} {rm : Room} {Pre : Heap → Prop} {Post : Heap → Option Value → Heap → Prop} {As : List Value} (S : CallFix p m c cc nL s args Ts own) (hX : xW Γ bs sb L xs s) (hlow : ∀ q : Nat, q < bs → H[q]? = s.heap[q]?) (hM : Lx l y wsy rm Γ bs sb L xs As Pre Post mc ms) (cw : CallB R s args own index y bytes maxL ret wsy rm mc ms n ∧ (Cond.static y).before args s = true) (hpre : Pre H) (hn : As.length = n) (hsz : ls.size = nL) (hst : st0 = As.reverse ++ rest) (hW : (rest.map fun v => v.category).sum ≤ 8) (hdg : decode cc pc = .ok (.invokestatic index, 3)) (hf : cells + mc ≤ R.cells ∧ slots + ms ≤ R.slots) (hlo : lo bs locs)
    (k : ∀ (v : Option Value) (H1 : Heap) (locs1 : List Loc), Post H v H1 → lo bs locs1 → W p l e R s m args below meth c H1 locs1 (cells + mc) (slots + ms) Q (F0 m (pc + 3) ls (v.toList ++ rest))) : W p l e R s m args below meth c H locs cells slots Q (F0 m pc ls st0) := by
  subst hst
  exact m_run (va_runS S hM cw ⟨q_blind, fun U hU hW => ⟨rfl, hX.moved hW (fun q h => by rw [hU]; exact hlow q h), by rw [hU]; exact hpre⟩⟩ rfl hn hsz rfl (lv_room hW) hdg hf) hlo k
theorem l_SW {own : String} {index maxL nL n mc ms : Nat} {y : MethodName} {bytes : ByteArray} {ret : Option FieldType} {hh : List (Nat × Nat × Nat × Nat)} {Ts wsy : List Cond} {rm : Room} {Pre : Heap → Prop} {Post : Heap → Option Value → Heap → Prop} {As : List Value} (S : CallFix p m c cc nL s args Ts own) (hX : xW Γ bs sb L xs s) (hlow : ∀ q : Nat, q < bs → H[q]? = s.heap[q]?) (hM : Lx l y wsy rm Γ bs sb L xs As Pre Post mc ms) (cw : vx_CSW R s args own index y bytes maxL ret hh wsy rm mc ms n) (hpre : Pre H) (hn : As.length = n) (hsz : ls.size = nL) (hst : st0 = As.reverse ++ rest) (hW : (rest.map fun v => v.category).sum ≤ 8) (hdg : decode cc pc = .ok (.invokestatic index, 3)) (hf : cells + mc ≤ R.cells ∧ slots + ms ≤ R.slots) (hlo : lo bs locs)
    (k : ∀ (v : Option Value) (H1 : Heap) (locs1 : List Loc), Post H v H1 → lo bs locs1 → W p l e R s m args below meth c H1 locs1 (cells + mc) (slots + ms) Q (F0 m (pc + 3) ls (v.toList ++ rest))) : W p l e R s m args below meth c H locs cells slots Q (F0 m pc ls st0) := by
  subst hst
  exact m_run (vx_runSW S hM cw ⟨q_blind, fun U hU hW => ⟨rfl, hX.moved hW (fun q h => by rw [hU]; exact hlow q h), by rw [hU]; exact hpre⟩⟩ rfl hn hsz rfl (lv_room hW) hdg hf) hlo k
theorem l_Sq {own : String} {index maxL nL n mc ms : Nat} {y : MethodName} {bytes : ByteArray} {ret : Option FieldType} {Ts wsy : List Cond} {rm : Room} {Pre : Heap → Prop} {Post : Heap → Option Value → Heap → Prop} {As : List Value} {v0 : Option Value} (S : CallFix p m c cc nL s args Ts own) (hX : xW Γ bs sb L xs s) (hlow : ∀ q : Nat, q < bs → H[q]? = s.heap[q]?) (hM : Lx l y wsy rm Γ bs sb L xs As Pre Post mc ms) (cw : CallB R s args own index y bytes maxL ret wsy rm mc ms n ∧ (Cond.static y).before args s = true) (hpre : Pre H) (hn : As.length = n) (hsz : ls.size = nL) (hst : st0 = As.reverse ++ rest) (hW : (rest.map fun v => v.category).sum ≤ 8) (hdg : decode cc pc = .ok (.invokestatic index, 3)) (hf : cells + mc ≤ R.cells ∧ slots + ms ≤ R.slots) (hpost : ∀ v H1, Post H v H1 → v = v0 ∧ H1 = H)
    (k : W p l e R s m args below meth c H locs cells slots Q (F0 m (pc + 3) ls (v0.toList ++ rest))) : W p l e R s m args below meth c H locs cells slots Q (F0 m pc ls st0) := by
  subst hst
  exact q_run (va_runS S hM cw ⟨q_blind, fun U hU hW => ⟨rfl, hX.moved hW (fun q h => by rw [hU]; exact hlow q h), by rw [hU]; exact hpre⟩⟩ rfl hn hsz rfl (lv_room hW) hdg hf) hpost k
theorem l_Vq {own C : String} {index maxL nL n b mc ms : Nat} {y : MethodName} {bytes : ByteArray} {ret : Option FieldType} {Ts wsy : List Cond} {rm : Room} {Pre : Heap → Prop} {Post : Heap → Option Value → Heap → Prop} {As : List Value} {v0 : Option Value} (S : CallFix p m c cc nL s args Ts own) (hX : xW Γ bs sb L xs s) (hlow : ∀ q : Nat, q < bs → H[q]? = s.heap[q]?) (hM : Lx l y wsy rm Γ bs sb L xs (.ref b :: As) Pre Post mc ms) (cw : CallW R s args own C index y bytes maxL ret wsy rm mc ms n) (hrec : ∃ cell : Cell, H[b]? = some cell ∧ cell.vm.isStatics = false ∧ s.vm.findClass C = some cell.cls) (hpre : Pre H) (hn : As.length = n) (hsz : ls.size = nL) (hst : st0 = As.reverse ++ .ref b :: rest) (hW : (rest.map fun v => v.category).sum ≤ 8) (hdg : decode cc pc = .ok (.invokevirtual index, 3)) (hf : cells + mc ≤ R.cells ∧ slots + ms ≤ R.slots) (hpost : ∀ v H1, Post H v H1 → v = v0 ∧ H1 = H)
    (k : W p l e R s m args below meth c H locs cells slots Q (F0 m (pc + 3) ls (v0.toList ++ rest))) : W p l e R s m args below meth c H locs cells slots Q (F0 m pc ls st0) := by
  subst hst
  exact q_run (va_runV S hM cw ⟨q_blind, hrec, fun U hU hW => ⟨rfl, hX.moved hW (fun q h => by rw [hU]; exact hlow q h), by rw [hU]; exact hpre⟩⟩ rfl hn hsz rfl (lv_room hW) hdg hf) hpost k
theorem q_stick {own : String} {index nL : Nat} {Ts : List Cond} {x b0 : Nat} {σ : St} {ad : Nat → Nat} {k w : Nat} {v : Value} (hfl : l.stackTraces = false) (S : CallFix p m c cc nL s args Ts own) (hX : xW Γ bs sb L xs s) (hlow : ∀ q : Nat, q < bs → H[q]? = s.heap[q]?) (hI : Iv σ) (hy : Ly b0 σ ad) (hC : CW Γ x σ ad H) (hk : k < qn σ) (hw : w < 7) (cw : CallW R s args own RX1 index yX1_stick cX1_stick 4 (some .int) wsX1_stick ({ frames := 7, cells := 2, slots := 12, locals := 110 }) 2 12 2) (hsz : ls.size = nL) (hW : (rest.map fun v => v.category).sum ≤ 8) (hdg : decode cc pc = .ok (.invokevirtual index, 3)) (hf : cells + 2 ≤ R.cells ∧ slots + 12 ≤ R.slots) (hv : .int (fk σ k w) = v)
    (kk : W p l e R s m args below meth c H locs cells slots Q (F0 m (pc + 3) ls (v :: rest))) : W p l e R s m args below meth c H locs cells slots Q (F0 m pc ls (.int (nI w) :: .int (nI k) :: .ref x :: rest)) := by
  have h40 := hI.1
  refine q_V (v0 := some v) S hX hlow (c_X1_stick l hfl Γ bs x σ ad hI (nI k) (nI w)) cw (Ob.recv hX.1 hC.1 rfl) hC rfl hsz rfl hW hdg hf (fun E h => ?_) (fun v1 H1 h => ?_) kk
  · obtain ⟨i, hi, hc⟩ := h
    exact absurd ((cd1_0 (⟨(inb_nI (by omega)).mpr hk, (inb_nI (by omega)).mpr hw⟩)).symm.trans hc) (by omega)
  · obtain ⟨-, rfl, rfl⟩ := h
    refine ⟨?_, rfl⟩
    rw [toN (by omega), toN (by omega)]
    exact congrArg some hv
theorem q_rune {own : String} {index nL : Nat} {Ts : List Cond} {x b0 : Nat} {σ : St} {ad : Nat → Nat} {k d w : Nat} {v : Value} (hfl : l.stackTraces = false) (S : CallFix p m c cc nL s args Ts own) (hX : xW Γ bs sb L xs s) (hlow : ∀ q : Nat, q < bs → H[q]? = s.heap[q]?) (hI : Iv σ) (hy : Ly b0 σ ad) (hC : CW Γ x σ ad H) (hk : k < qn σ) (hd : d < 3) (hw : w < qp σ k) (cw : CallW R s args own RX1 index yX1_rune cX1_rune 5 (some .int) wsX1_rune ({ frames := 7, cells := 2, slots := 12, locals := 104 }) 2 12 3) (hsz : ls.size = nL) (hW : (rest.map fun v => v.category).sum ≤ 8) (hdg : decode cc pc = .ok (.invokevirtual index, 3)) (hf : cells + 2 ≤ R.cells ∧ slots + 12 ≤ R.slots) (hv : .int (rk σ k (3 * w + d)) = v)
    (kk : W p l e R s m args below meth c H locs cells slots Q (F0 m (pc + 3) ls (v :: rest))) : W p l e R s m args below meth c H locs cells slots Q (F0 m pc ls (.int (nI w) :: .int (nI d) :: .int (nI k) :: .ref x :: rest)) := by
  have h40 := hI.1
  have hp := hI.2.1 k hk
  refine q_V (v0 := some v) S hX hlow (c_X1_rune l hfl Γ bs x σ ad hI (nI k) (nI d) (nI w)) cw (Ob.recv hX.1 hC.1 rfl) hC rfl hsz rfl hW hdg hf (fun E h => ?_) (fun v1 H1 h => ?_) kk
  · obtain ⟨i, hi, hc⟩ := h
    exact absurd ((cd1_0 (⟨(inb_nI (by omega)).mpr hk, (inb_nI (by omega)).mpr hd, by rw [toN (by omega)]; exact (inb_nI (by omega)).mpr hw⟩)).symm.trans hc) (by omega)
  · obtain ⟨-, rfl, rfl⟩ := h
    refine ⟨?_, rfl⟩
    rw [toN (by omega), toN (by omega), toN (by omega)]
    exact congrArg some hv
theorem q_strength {own : String} {index nL : Nat} {Ts : List Cond} {x b0 : Nat} {σ : St} {ad : Nat → Nat} {k w : Nat} {v : Value} (hfl : l.stackTraces = false) (S : CallFix p m c cc nL s args Ts own) (hX : xW Γ bs sb L xs s) (hlow : ∀ q : Nat, q < bs → H[q]? = s.heap[q]?) (hI : Iv σ) (hy : Ly b0 σ ad) (hC : CW Γ x σ ad H) (hk : k < qn σ) (hw : w < qp σ k - 1) (cw : CallW R s args own RX1 index yX1_strength cX1_strength 4 (some .int) wsX1_strength ({ frames := 7, cells := 2, slots := 12, locals := 104 }) 2 12 2) (hsz : ls.size = nL) (hW : (rest.map fun v => v.category).sum ≤ 8) (hdg : decode cc pc = .ok (.invokevirtual index, 3)) (hf : cells + 2 ≤ R.cells ∧ slots + 12 ≤ R.slots) (hv : .int (stn (rk σ k) (ak σ k) w) = v)
    (kk : W p l e R s m args below meth c H locs cells slots Q (F0 m (pc + 3) ls (v :: rest))) : W p l e R s m args below meth c H locs cells slots Q (F0 m pc ls (.int (nI w) :: .int (nI k) :: .ref x :: rest)) := by
  have h40 := hI.1
  have hp := hI.2.1 k hk
  refine q_V (v0 := some v) S hX hlow (c_X1_strength l hfl Γ bs x σ ad hI (nI k) (nI w)) cw (Ob.recv hX.1 hC.1 rfl) hC rfl hsz rfl hW hdg hf (fun E h => ?_) (fun v1 H1 h => ?_) kk
  · obtain ⟨i, hi, hc⟩ := h
    exact absurd ((cd1_0 (⟨(inb_nI (by omega)).mpr hk, by rw [toN (by omega)]; exact (inb_nI (by omega)).mpr hw⟩)).symm.trans hc) (by omega)
  · obtain ⟨-, rfl, rfl⟩ := h
    refine ⟨?_, rfl⟩
    rw [toN (by omega), toN (by omega)]
    exact congrArg some hv
theorem q_count {own : String} {index nL : Nat} {Ts : List Cond} {x b0 : Nat} {σ : St} {ad : Nat → Nat} {w : Nat} {v : Value} (hfl : l.stackTraces = false) (S : CallFix p m c cc nL s args Ts own) (hX : xW Γ bs sb L xs s) (hlow : ∀ q : Nat, q < bs → H[q]? = s.heap[q]?) (hI : Iv σ) (hy : Ly b0 σ ad) (hC : CW Γ x σ ad H) (hw : w < 7) (cw : CallW R s args own RX1 index yX1_count cX1_count 2 (some .int) wsX1_count ({ frames := 7, cells := 1, slots := 6, locals := 155 }) 1 6 1) (hsz : ls.size = nL) (hW : (rest.map fun v => v.category).sum ≤ 8) (hdg : decode cc pc = .ok (.invokevirtual index, 3)) (hf : cells + 1 ≤ R.cells ∧ slots + 6 ≤ R.slots) (hv : .int (tot σ w) = v)
    (kk : W p l e R s m args below meth c H locs cells slots Q (F0 m (pc + 3) ls (v :: rest))) : W p l e R s m args below meth c H locs cells slots Q (F0 m pc ls (.int (nI w) :: .ref x :: rest)) := by
  have h40 := hI.1
  refine q_V (v0 := some v) S hX hlow (c_X1_count l hfl Γ bs x σ ad hI b0 (nI w) hy) cw (Ob.recv hX.1 hC.1 rfl) hC rfl hsz rfl hW hdg hf (fun E h => ?_) (fun v1 H1 h => ?_) kk
  · obtain ⟨i, hi, hc⟩ := h
    exact absurd ((cd1_0 ((inb_nI (by omega)).mpr hw)).symm.trans hc) (by omega)
  · obtain ⟨-, rfl, rfl⟩ := h
    refine ⟨?_, rfl⟩
    rw [toN (by omega)]
    exact congrArg some hv
theorem q_fits {own : String} {index nL : Nat} {Ts : List Cond} {x b0 : Nat} {σ : St} {ad : Nat → Nat} {k j : Nat} {v : Value} (hfl : l.stackTraces = false) (S : CallFix p m c cc nL s args Ts own) (hX : xW Γ bs sb L xs s) (hlow : ∀ q : Nat, q < bs → H[q]? = s.heap[q]?) (hI : Iv σ) (hy : Ly b0 σ ad) (hC : CW Γ x σ ad H) (hk : k < qn σ) (hj : j < qn σ) (cw : CallW R s args own RX1 index yX1_fits cX1_fits 5 (some .boolean) wsX1_fits ({ frames := 7, cells := 2, slots := 12, locals := 104 }) 2 12 2) (hsz : ls.size = nL) (hW : (rest.map fun v => v.category).sum ≤ 8) (hdg : decode cc pc = .ok (.invokevirtual index, 3)) (hf : cells + 2 ≤ R.cells ∧ slots + 12 ≤ R.slots) (hv : .int (nI (bP (fitP σ k j))) = v)
    (kk : W p l e R s m args below meth c H locs cells slots Q (F0 m (pc + 3) ls (v :: rest))) : W p l e R s m args below meth c H locs cells slots Q (F0 m pc ls (.int (nI j) :: .int (nI k) :: .ref x :: rest)) := by
  have h40 := hI.1
  refine q_V (v0 := some v) S hX hlow (c_X1_fits l hfl Γ bs x σ ad hI b0 (nI k) (nI j) hy) cw (Ob.recv hX.1 hC.1 rfl) hC rfl hsz rfl hW hdg hf (fun E h => ?_) (fun v1 H1 h => ?_) kk
  · obtain ⟨i, hi, hc⟩ := h
    exact absurd ((cd1_0 (⟨(inb_nI (by omega)).mpr hk, (inb_nI (by omega)).mpr hj⟩)).symm.trans hc) (by omega)
  · obtain ⟨-, rfl, rfl⟩ := h
    refine ⟨?_, rfl⟩
    rw [toN (by omega), toN (by omega)]
    exact congrArg some hv
theorem q_size {own : String} {index nL : Nat} {Ts : List Cond} {x b0 : Nat} {σ : St} {ad : Nat → Nat} {k t : Nat} {v : Value} (hfl : l.stackTraces = false) (S : CallFix p m c cc nL s args Ts own) (hX : xW Γ bs sb L xs s) (hlow : ∀ q : Nat, q < bs → H[q]? = s.heap[q]?) (hI : Iv σ) (hy : Ly b0 σ ad) (hC : CW Γ x σ ad H) (hk : k < qn σ) (ht : t < 3) (cw : CallW R s args own RX1 index yX1_size cX1_size 4 (some .int) wsX1_size ({ frames := 7, cells := 2, slots := 12, locals := 104 }) 2 12 2) (hsz : ls.size = nL) (hW : (rest.map fun v => v.category).sum ≤ 8) (hdg : decode cc pc = .ok (.invokevirtual index, 3)) (hf : cells + 2 ≤ R.cells ∧ slots + 12 ≤ R.slots) (hv : .int (nI (cU (rd (rk σ k) (qu σ k) t) (qp σ k))) = v)
    (kk : W p l e R s m args below meth c H locs cells slots Q (F0 m (pc + 3) ls (v :: rest))) : W p l e R s m args below meth c H locs cells slots Q (F0 m pc ls (.int (nI t) :: .int (nI k) :: .ref x :: rest)) := by
  have h40 := hI.1
  refine q_V (v0 := some v) S hX hlow (c_X1_size l hfl Γ bs x σ ad hI (nI k) (nI t)) cw (Ob.recv hX.1 hC.1 rfl) hC rfl hsz rfl hW hdg hf (fun E h => ?_) (fun v1 H1 h => ?_) kk
  · obtain ⟨i, hi, hc⟩ := h
    exact absurd ((cd2_0 ((inb_nI (by omega)).mpr hk) ((inb_nI (by omega)).mpr ht)).symm.trans hc) (by omega)
  · obtain ⟨-, rfl, rfl⟩ := h
    refine ⟨?_, rfl⟩
    rw [toN (by omega), toN (by omega)]
    exact congrArg some hv
theorem q_has {own : String} {index nL : Nat} {Ts : List Cond} {x b0 : Nat} {σ : St} {ad : Nat → Nat} {k d w : Nat} {v : Value} (hfl : l.stackTraces = false) (S : CallFix p m c cc nL s args Ts own) (hX : xW Γ bs sb L xs s) (hlow : ∀ q : Nat, q < bs → H[q]? = s.heap[q]?) (hI : Iv σ) (hy : Ly b0 σ ad) (hC : CW Γ x σ ad H) (hk : k < qn σ) (hd : d < 24) (hw : w < 24) (cw : CallW R s args own RX1 index yX1_has cX1_has 8 (some .int) wsX1_has ({ frames := 7, cells := 3, slots := 18, locals := 104 }) 3 18 3) (hsz : ls.size = nL) (hW : (rest.map fun v => v.category).sum ≤ 8) (hdg : decode cc pc = .ok (.invokevirtual index, 3)) (hf : cells + 3 ≤ R.cells ∧ slots + 18 ≤ R.slots) (hv : .int (nI (hs σ k (nI d) (nI w))) = v)
    (kk : W p l e R s m args below meth c H locs cells slots Q (F0 m (pc + 3) ls (v :: rest))) : W p l e R s m args below meth c H locs cells slots Q (F0 m pc ls (.int (nI w) :: .int (nI d) :: .int (nI k) :: .ref x :: rest)) := by
  have h40 := hI.1
  refine q_V (v0 := some v) S hX hlow (c_X1_has l hfl Γ bs x σ ad hI (nI k) (nI d) (nI w)) cw (Ob.recv hX.1 hC.1 rfl) hC rfl hsz rfl hW hdg hf (fun E h => ?_) (fun v1 H1 h => ?_) kk
  · obtain ⟨i, hi, hc⟩ := h
    exact absurd ((cd2_0 ((inb_nI (by omega)).mpr hk) (⟨(inb_nI (by omega)).mpr hd, (inb_nI (by omega)).mpr hw⟩)).symm.trans hc) (by omega)
  · obtain ⟨-, rfl, rfl⟩ := h
    refine ⟨?_, rfl⟩
    rw [toN (by omega)]
    exact congrArg some hv
theorem q_rhyme {own : String} {index nL : Nat} {Ts : List Cond} {x b0 : Nat} {σ : St} {ad : Nat → Nat} {k j t : Nat} {v : Value} (hfl : l.stackTraces = false) (S : CallFix p m c cc nL s args Ts own) (hX : xW Γ bs sb L xs s) (hlow : ∀ q : Nat, q < bs → H[q]? = s.heap[q]?) (hI : Iv σ) (hy : Ly b0 σ ad) (hC : CW Γ x σ ad H) (hk : k < qn σ) (hj : j < qn σ) (ht : t < 3) (cw : CallW R s args own RX1 index yX1_rhyme cX1_rhyme 6 (some .int) wsX1_rhyme ({ frames := 7, cells := 3, slots := 18, locals := 119 }) 3 18 3) (hsz : ls.size = nL) (hW : (rest.map fun v => v.category).sum ≤ 8) (hdg : decode cc pc = .ok (.invokevirtual index, 3)) (hf : cells + 3 ≤ R.cells ∧ slots + 18 ≤ R.slots) (hv : .int (nI (rhy σ k (qu σ k) j t)) = v)
    (kk : W p l e R s m args below meth c H locs cells slots Q (F0 m (pc + 3) ls (v :: rest))) : W p l e R s m args below meth c H locs cells slots Q (F0 m pc ls (.int (nI t) :: .int (nI j) :: .int (nI k) :: .ref x :: rest)) := by
  have h40 := hI.1
  refine q_V (v0 := some v) S hX hlow (c_X1_rhyme l hfl Γ bs x σ ad hI (nI k) (nI j) (nI t)) cw (Ob.recv hX.1 hC.1 rfl) hC rfl hsz rfl hW hdg hf (fun E h => ?_) (fun v1 H1 h => ?_) kk
  · obtain ⟨i, hi, hc⟩ := h
    exact absurd ((cd2_0 (⟨(inb_nI (by omega)).mpr hk, (inb_nI (by omega)).mpr hj⟩) ((inb_nI (by omega)).mpr ht)).symm.trans hc) (by omega)
  · obtain ⟨-, rfl, rfl⟩ := h
    refine ⟨?_, rfl⟩
    rw [toN (by omega), toN (by omega), toN (by omega)]
    exact congrArg some hv
theorem q_best {own : String} {index nL : Nat} {Ts : List Cond} {x b0 : Nat} {σ : St} {ad : Nat → Nat} {k j t : Nat} {v : Value} (hfl : l.stackTraces = false) (S : CallFix p m c cc nL s args Ts own) (hX : xW Γ bs sb L xs s) (hlow : ∀ q : Nat, q < bs → H[q]? = s.heap[q]?) (hI : Iv σ) (hy : Ly b0 σ ad) (hC : CW Γ x σ ad H) (hk : k < qn σ) (hj : j < qn σ) (ht : t < 3) (cw : CallW R s args own RX1 index yX1_best cX1_best 10 (some .int) wsX1_best ({ frames := 7, cells := 3, slots := 18, locals := 119 }) 3 18 3) (hsz : ls.size = nL) (hW : (rest.map fun v => v.category).sum ≤ 8) (hdg : decode cc pc = .ok (.invokevirtual index, 3)) (hf : cells + 3 ≤ R.cells ∧ slots + 18 ≤ R.slots) (hv : .int (nI (rbest σ k j t)) = v)
    (kk : W p l e R s m args below meth c H locs cells slots Q (F0 m (pc + 3) ls (v :: rest))) : W p l e R s m args below meth c H locs cells slots Q (F0 m pc ls (.int (nI t) :: .int (nI j) :: .int (nI k) :: .ref x :: rest)) := by
  have h40 := hI.1
  refine q_V (v0 := some v) S hX hlow (c_X1_best l hfl Γ bs x σ ad hI (nI k) (nI j) (nI t)) cw (Ob.recv hX.1 hC.1 rfl) hC rfl hsz rfl hW hdg hf (fun E h => ?_) (fun v1 H1 h => ?_) kk
  · obtain ⟨i, hi, hc⟩ := h
    exact absurd ((cd2_0 (⟨(inb_nI (by omega)).mpr hk, (inb_nI (by omega)).mpr hj⟩) ((inb_nI (by omega)).mpr ht)).symm.trans hc) (by omega)
  · obtain ⟨-, rfl, rfl⟩ := h
    refine ⟨?_, rfl⟩
    rw [toN (by omega), toN (by omega), toN (by omega)]
    exact congrArg some hv
theorem q_pieces {own : String} {index nL : Nat} {Ts : List Cond} {x b0 : Nat} {σ : St} {ad : Nat → Nat} {k f : Nat} {v : Value} (hfl : l.stackTraces = false) (S : CallFix p m c cc nL s args Ts own) (hX : xW Γ bs sb L xs s) (hlow : ∀ q : Nat, q < bs → H[q]? = s.heap[q]?) (hI : Iv σ) (hy : Ly b0 σ ad) (hC : CW Γ x σ ad H) (hk : k < qn σ) (hf1 : 1 ≤ f) (hf2 : f ≤ 20) (cw : CallW R s args own RX1 index yX1_pieces cX1_pieces 4 (some .int) wsX1_pieces ({ frames := 7, cells := 2, slots := 12, locals := 111 }) 2 12 2) (hsz : ls.size = nL) (hW : (rest.map fun v => v.category).sum ≤ 8) (hdg : decode cc pc = .ok (.invokevirtual index, 3)) (hf : cells + 2 ≤ R.cells ∧ slots + 12 ≤ R.slots) (hv : .int (nI (cW (stn (rk σ k) (ak σ k)) (nI f) (qp σ k - 1) + 1)) = v)
    (kk : W p l e R s m args below meth c H locs cells slots Q (F0 m (pc + 3) ls (v :: rest))) : W p l e R s m args below meth c H locs cells slots Q (F0 m pc ls (.int (nI f) :: .int (nI k) :: .ref x :: rest)) := by
  have h40 := hI.1
  refine q_V (v0 := some v) S hX hlow (c_X1_pieces l hfl Γ bs x σ ad hI (nI k) (nI f)) cw (Ob.recv hX.1 hC.1 rfl) hC rfl hsz rfl hW hdg hf (fun E h => ?_) (fun v1 H1 h => ?_) kk
  · obtain ⟨i, hi, hc⟩ := h
    exact absurd ((cd2_0 ((inb_nI (by omega)).mpr hk) (inR_nI (by omega) hf1 hf2)).symm.trans hc) (by omega)
  · obtain ⟨-, rfl, rfl⟩ := h
    refine ⟨?_, rfl⟩
    rw [toN (by omega)]
    exact congrArg some hv
theorem q_row {own : String} {index nL : Nat} {Ts : List Cond} {x b0 : Nat} {σ : St} {ad : Nat → Nat} {k t : Nat} {v : Value} (hfl : l.stackTraces = false) (S : CallFix p m c cc nL s args Ts own) (hX : xW Γ bs sb L xs s) (hlow : ∀ q : Nat, q < bs → H[q]? = s.heap[q]?) (hI : Iv σ) (hy : Ly b0 σ ad) (hC : CW Γ x σ ad H) (hk : k < qn σ) (hg : qg σ k = 0) (ht : t < 3) (cw : CallW R s args own RX1 index yX1_row cX1_row 7 (some .int) wsX1_row ({ frames := 7, cells := 3, slots := 18, locals := 119 }) 3 18 2) (hsz : ls.size = nL) (hW : (rest.map fun v => v.category).sum ≤ 8) (hdg : decode cc pc = .ok (.invokevirtual index, 3)) (hf : cells + 3 ≤ R.cells ∧ slots + 18 ≤ R.slots) (hv : .int (nI (rw_ σ k t (qn σ))) = v)
    (kk : W p l e R s m args below meth c H locs cells slots Q (F0 m (pc + 3) ls (v :: rest))) : W p l e R s m args below meth c H locs cells slots Q (F0 m pc ls (.int (nI t) :: .int (nI k) :: .ref x :: rest)) := by
  have h40 := hI.1
  refine q_V (v0 := some v) S hX hlow (c_X1_row l hfl Γ bs x σ ad hI b0 (nI k) (nI t) hy) cw (Ob.recv hX.1 hC.1 rfl) hC rfl hsz rfl hW hdg hf (fun E h => ?_) (fun v1 H1 h => ?_) kk
  · obtain ⟨i, hi, hc⟩ := h
    exact absurd ((cd3_0 ((inb_nI (by omega)).mpr hk) ((inb_nI (by omega)).mpr ht) (by rw [toN (by omega)]; exact hg)).symm.trans hc) (by omega)
  · obtain ⟨-, rfl, rfl⟩ := h
    refine ⟨?_, rfl⟩
    rw [toN (by omega), toN (by omega)]
    exact congrArg some hv
theorem q_make {own : String} {index nL : Nat} {Ts : List Cond} {x b0 : Nat} {σ : St} {ad : Nat → Nat} {P : Nat} (hfl : l.stackTraces = false) (S : CallFix p m c cc nL s args Ts own) (hX : xW Γ bs sb L xs s) (hlow : ∀ q : Nat, q < bs → H[q]? = s.heap[q]?) (hI : Iv σ) (hy : Ly b0 σ ad) (hC : CW Γ x σ ad H) (hb0 : x + 2 ≤ b0) (hbs : bs ≤ x) (hb9 : b0 ≤ H.size) (hlo : lo bs locs) (hP1 : 1 ≤ P) (hP2 : P ≤ 12) (ht : thr σ (qn σ) < 12) (hn : qn σ < 40) (cw : CallW R s args own RX1 index yX1_make cX1_make 2 (some .int) wsX1_make ({ frames := 7, cells := 6, slots := 78, locals := 103 }) 6 78 1) (hsz : ls.size = nL) (hW : (rest.map fun v => v.category).sum ≤ 8) (hdg : decode cc pc = .ok (.invokevirtual index, 3)) (hf : cells + 6 ≤ R.cells ∧ slots + 78 ≤ R.slots)
    (kk : ∀ (ad2 : Nat → Nat) (H1 : Heap) (locs1 : List Loc), CW Γ x (sMake σ P) ad2 H1 → Ly b0 (sMake σ P) ad2 → FrC x σ ad H H1 → lo bs locs1 → W p l e R s m args below meth c H1 locs1 (cells + 6) (slots + 78) Q (F0 m (pc + 3) ls (.int (nI (qn σ)) :: rest))) : W p l e R s m args below meth c H locs cells slots Q (F0 m pc ls (.int (nI P) :: .ref x :: rest)) := by
  have h40 := hI.1
  refine q_W S hX hlow (c_X1_make l hfl Γ bs x σ ad hI b0 (nI P) hy hb0 hbs) cw (Ob.recv hX.1 hC.1 rfl) ⟨hC, hb9⟩ rfl hsz rfl hW hdg hf hlo (fun E h => ?_) (fun v1 H1 locs1 h hlo => ?_)
  · obtain ⟨i, hi, hc⟩ := h
    exact absurd ((cd2_0 (inR_nI (by omega) hP1 hP2) (⟨ht, hn⟩)).symm.trans hc) (by omega)
  · obtain ⟨-, rfl, ⟨ad2, h1, h2⟩, h3⟩ := h
    rw [toN (by omega)] at h1 h2
    exact kk ad2 H1 locs1 h1 h2 h3 hlo
theorem q_carve {own : String} {index nL : Nat} {Ts : List Cond} {x b0 : Nat} {σ : St} {ad : Nat → Nat} {k d w r : Nat} (hfl : l.stackTraces = false) (S : CallFix p m c cc nL s args Ts own) (hX : xW Γ bs sb L xs s) (hlow : ∀ q : Nat, q < bs → H[q]? = s.heap[q]?) (hI : Iv σ) (hy : Ly b0 σ ad) (hC : CW Γ x σ ad H) (hb0 : x + 2 ≤ b0) (hbs : bs ≤ x) (hb9 : b0 ≤ H.size) (hlo : lo bs locs) (hk : k < qn σ) (hg : qg σ k = 0) (hd : d < 3) (hw : w < qp σ k) (hr : r < 24) (cw : CallW R s args own RX1 index yX1_carve cX1_carve 7 (some .int) wsX1_carve ({ frames := 7, cells := 4, slots := 24, locals := 104 }) 4 24 4) (hsz : ls.size = nL) (hW : (rest.map fun v => v.category).sum ≤ 8) (hdg : decode cc pc = .ok (.invokevirtual index, 3)) (hf : cells + 4 ≤ R.cells ∧ slots + 24 ≤ R.slots)
    (kk : ∀ (ad2 : Nat → Nat) (H1 : Heap) (locs1 : List Loc), CW Γ x (o_rune σ (36 * k + (3 * w + d)) (nI r)) ad2 H1 → Ly b0 (o_rune σ (36 * k + (3 * w + d)) (nI r)) ad2 → FrC x σ ad H H1 → lo bs locs1 → W p l e R s m args below meth c H1 locs1 (cells + 4) (slots + 24) Q (F0 m (pc + 3) ls (.int (rk σ k (3 * w + d)) :: rest))) : W p l e R s m args below meth c H locs cells slots Q (F0 m pc ls (.int (nI r) :: .int (nI w) :: .int (nI d) :: .int (nI k) :: .ref x :: rest)) := by
  have h40 := hI.1
  have hp := hI.2.1 k hk
  refine q_W S hX hlow (c_X1_carve l hfl Γ bs x σ ad hI b0 (nI k) (nI d) (nI w) (nI r) hy hb0 hbs) cw (Ob.recv hX.1 hC.1 rfl) hC rfl hsz rfl hW hdg hf hlo (fun E h => ?_) (fun v1 H1 locs1 h hlo => ?_)
  · obtain ⟨i, hi, hc⟩ := h
    exact absurd ((cd3_0 (⟨(inb_nI (by omega)).mpr hk, (inb_nI (by omega)).mpr hd, by rw [toN (by omega)]; exact (inb_nI (by omega)).mpr hw⟩) ((inb_nI (by omega)).mpr hr) (by rw [toN (by omega)]; exact hg)).symm.trans hc) (by omega)
  · obtain ⟨-, rfl, ⟨ad2, h1, h2⟩, h3⟩ := h
    rw [toN (by omega), toN (by omega), toN (by omega)] at h1 h2
    rw [toN (by omega), toN (by omega), toN (by omega)]
    exact kk ad2 H1 locs1 h1 h2 h3 hlo
theorem q_roll {own : String} {index nL : Nat} {Ts : List Cond} {x b0 : Nat} {σ : St} {ad : Nat → Nat} {k b : Nat} (hfl : l.stackTraces = false) (S : CallFix p m c cc nL s args Ts own) (hX : xW Γ bs sb L xs s) (hlow : ∀ q : Nat, q < bs → H[q]? = s.heap[q]?) (hI : Iv σ) (hy : Ly b0 σ ad) (hC : CW Γ x σ ad H) (hb0 : x + 2 ≤ b0) (hbs : bs ≤ x) (hb9 : b0 ≤ H.size) (hlo : lo bs locs) (hk : k < qn σ) (hg : qg σ k = 0) (hb3 : b < 3) (cw : CallW R s args own RX1 index yX1_roll cX1_roll 4 (some .int) wsX1_roll ({ frames := 7, cells := 3, slots := 18, locals := 104 }) 3 18 2) (hsz : ls.size = nL) (hW : (rest.map fun v => v.category).sum ≤ 8) (hdg : decode cc pc = .ok (.invokevirtual index, 3)) (hf : cells + 3 ≤ R.cells ∧ slots + 18 ≤ R.slots)
    (kk : ∀ (ad2 : Nat → Nat) (H1 : Heap) (locs1 : List Loc), CW Γ x (o_up σ k ((qu σ k + b) % 3)) ad2 H1 → Ly b0 (o_up σ k ((qu σ k + b) % 3)) ad2 → FrC x σ ad H H1 → lo bs locs1 → W p l e R s m args below meth c H1 locs1 (cells + 3) (slots + 18) Q (F0 m (pc + 3) ls (.int (nI ((qu σ k + b) % 3)) :: rest))) : W p l e R s m args below meth c H locs cells slots Q (F0 m pc ls (.int (nI b) :: .int (nI k) :: .ref x :: rest)) := by
  have h40 := hI.1
  have hp := hI.2.1 k hk
  refine q_W S hX hlow (c_X1_roll l hfl Γ bs x σ ad hI b0 (nI k) (nI b) hy hb0 hbs) cw (Ob.recv hX.1 hC.1 rfl) hC rfl hsz rfl hW hdg hf hlo (fun E h => ?_) (fun v1 H1 locs1 h hlo => ?_)
  · obtain ⟨i, hi, hc⟩ := h
    exact absurd ((cd3_0 ((inb_nI (by omega)).mpr hk) ((inb_nI (by omega)).mpr hb3) (by rw [toN (by omega)]; exact hg)).symm.trans hc) (by omega)
  · obtain ⟨-, rfl, ⟨ad2, h1, h2⟩, h3⟩ := h
    rw [toN (by omega), toN (by omega)] at h1 h2
    rw [toN (by omega), toN (by omega)]
    exact kk ad2 H1 locs1 h1 h2 h3 hlo
end XQ
