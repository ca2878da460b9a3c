/-! contracts of methods that write, and of methods that throw -/
def Mt (l : Launch) (y : MethodName) (ws : List Cond) (rm : Room) (Γ : GG) (bs : Nat) (av : List Value) (Pre : Heap → Prop) (Post : Heap → Option Value → Heap → Prop) (mc ms : Nat) : Prop :=
  Met l y ws rm (va_Pc av (fun U => xK Γ U ∧ Pre U.heap)) (fun _ st o t => ∃ v, o = .returned v ∧ Post st.heap v t.heap) mc ms (fun q => bs ≤ q)
theorem Mt.of {l : Launch} {y : MethodName} {ws ws' : List Cond} {rm : Room} {Γ : GG} {bs : Nat} {av : List Value} {Pre : Heap → Prop} {Post : Heap → Option Value → Heap → Prop} {mc ms : Nat} {cc : ByteArray} {maxL : Nat} {ret : Option FieldType} (hy : plainName y.cls = true) (hw : ws = Cond.code y cc maxL ret :: ws') (hle : (lg_sl av).length ≤ maxL)
    (body : ∀ (p : Program) (e : Env) (s : State) (m : MethodId) (below : List Frame) (meth : Method) (c : Code), CallFix p m c cc maxL s av.toArray ws y.cls → meth.sig.returnType = ret → meth.locks = false → meth.name = y.name → xK Γ s → Pre s.heap → ∀ ls : Array Slot, lv_has ls maxL (lv_args 0 av) →
      W p l e rm s m av.toArray below meth c s.heap [] 0 0 (MQ below (fun _ st o t => ∃ v, o = .returned v ∧ Post st.heap v t.heap) av.toArray s mc ms (fun q => bs ≤ q)) (F0 m 0 ls [])) : Mt l y ws rm Γ bs av Pre Post mc ms := by
  refine Met.ofW (cc := cc) (maxL := maxL) (ret := ret) hy hw ?_
  intro p e s m args below meth c s₁ B hml hv
  obtain ⟨rfl, hK, hPre⟩ := hv
  rw [lg_entry_eq]
  exact body p e s m below meth c ⟨B.exec, B.bytes, hml, findClass_of_methodNamed B.named, atoms_spec (ws := ws) B.pre⟩ B.returns B.notSynchronized (name_of_methodNamed B.named B.method).1 hK hPre _ (lv_entry av hle)
/-! what a throw needs of the start -/
abbrev nmT : List String := ["java/lang/RuntimeException", "java/lang/Exception"]
abbrev eIA : String := "java/lang/IllegalArgumentException"
abbrev eIS : String := "java/lang/IllegalStateException"
abbrev eIO : String := "java/lang/IndexOutOfBoundsException"
def XB : List Cond := (vx_atS RX1 26 eIA nmT).filter (fun w => !goodWord w) ++ ((vx_atS RX1 37 eIS nmT).filter (fun w => !goodWord w) ++ (vx_atS RX1 111 eIO nmT).filter (fun w => !goodWord w))
def STR : List (Nat × String) := [(101, "both have more than 12 places together"), (109, "of a stick is asked 0 to 6"), (119, "there is no such joint"), (121, "counted is 0 to 6"), (173, "there is no such stick"), (175, "there were too many sticks"), (177, "the stick is gone"), (183, "there is no such side or place"), (185, "a rune is 0 to 23"), (187, "a turn is 0 to 2"), (189, "a force is 1 to 20"), (24, "a stick has 1 to 12 places"), (35, "12 sticks are there"), (73, "a stick is rolled by 0 to 2 sides"), (92, "a twist is 0 to 2"), (94, "a base of glue is 1 to 9"), (96, "a stick is not glued to itself")]
def isC (w : Cond) : Bool := match w with
  | .castable .. => true
  | .declares _ => true
  | _ => false
set_option maxRecDepth 100000 in
theorem XB_c : XB.all isC = true := by decide +kernel
theorem nw_warm {w : Cond} (hc : isC w = true) {s U : State} (hW : s.WarmedH U.vm) (h : va_Nw w s) : va_Nw w U := by
  cases w <;> first | exact va_Nw.warmC hW h | exact va_tabs rfl (rfl : (s.setVm U.vm).vm = U.vm) (by rw [Cond.declares_setVm hW.alike]; exact h) | (simp [isC] at hc)
theorem XB_ot {w : Cond} (hc : isC w = true) : w.onTables = true := by
  cases w <;> first | rfl | (simp [isC] at hc)
def xT (bs : Nat) (U : State) : Prop := vx_Zq Bundle.tN "UNASSIGNED_STACK" Bundle.steD (fun q => bs ≤ q) U U.heap ∧ vx_Zq Bundle.tN "SUPPRESSED_SENTINEL" Bundle.listD (fun q => bs ≤ q) U U.heap ∧ (∀ w ∈ XB, va_Nw w U) ∧ ∀ q ∈ STR, ∃ sa, vk_R RX1 q.1 q.2 sa U
theorem xT.moved {bs : Nat} {s U : State} (h : xT bs s) (hW : s.WarmedH U.vm) (hl : ∀ q : Nat, q < s.heap.size → ¬ bs ≤ q → U.heap[q]? = s.heap[q]?) : xT bs U :=
  ⟨vx_Zq.moved hW.alike (h.1.kept hl), vx_Zq.moved hW.alike (h.2.1.kept hl), fun w hw => nw_warm (List.all_eq_true.mp XB_c w hw) hW (h.2.2.1 w hw), fun q hq => by
    obtain ⟨sa, h1⟩ := h.2.2.2 q hq
    exact ⟨sa, vk_R.warm hW h1⟩⟩
theorem xT.call {bs : Nat} {U : State} {g : JFrame} {mk : MethodId} {a : Array Value} (h : xT bs U) : xT bs (U.calling g mk a) :=
  h.moved (U := U.calling g mk a) (State.WarmedH.refl U) (fun _ _ _ => rfl)
def Tx (l : Launch) (y : MethodName) (ws : List Cond) (rm : Room) (Γ : GG) (bs : Nat) (av : List Value) (Pre : Heap → Prop) (Post : Heap → Option Value → Heap → Prop) (Px : String → Prop) (mc ms : Nat) : Prop :=
  vx_Met l y ws rm (va_Pc av (fun U => xK Γ U ∧ xT bs U ∧ Pre U.heap)) (fun _ st o t => ∃ v, o = .returned v ∧ Post st.heap v t.heap) (fun E st t => Px E ∧ st.heap.size ≤ t.heap.size ∧ ∀ q : Nat, q < st.heap.size → t.heap[q]? = st.heap[q]?) mc ms (fun q => bs ≤ q)
theorem t_blind {Γ : GG} {bs : Nat} {av : List Value} {Pre : Heap → Prop} : FrameBlind (va_Pc av (fun U => xK Γ U ∧ xT bs U ∧ Pre U.heap)) := fun a U g mk h => ⟨h.1, xK.moved (u := U) (U := U.calling g mk a) (Vm.Alike.refl U.vm) h.2.1, h.2.2.1.call, h.2.2.2⟩
theorem Tx.of {l : Launch} {y : MethodName} {ws ws' : List Cond} {rm : Room} {Γ : GG} {bs : Nat} {av : List Value} {Pre : Heap → Prop} {Post : Heap → Option Value → Heap → Prop} {Px : String → Prop} {mc ms : Nat} {cc : ByteArray} {maxL : Nat} {ret : Option FieldType} (hy : plainName y.cls = true) (hw : ws = Cond.code y cc maxL ret :: ws') (hle : (lg_sl av).length ≤ maxL)
    (body : ∀ (p : Program) (e : Env) (s : State) (m : MethodId) (below : List Frame) (meth : Method) (c : Code), CallFix p m c cc maxL s av.toArray ws y.cls → meth.sig.returnType = ret → meth.locks = false → (∀ x ∈ c.exceptionTable.toList, False) → xK Γ s → xT bs s → Pre s.heap → ∀ ls : Array Slot, lv_has ls maxL (lv_args 0 av) →
      W p l e rm s m av.toArray below meth c s.heap [] 0 0 (vx_MQ below (fun _ st o t => ∃ v, o = .returned v ∧ Post st.heap v t.heap) (fun E st t => Px E ∧ st.heap.size ≤ t.heap.size ∧ ∀ q : Nat, q < st.heap.size → t.heap[q]? = st.heap[q]?) av.toArray s mc ms (fun q => bs ≤ q)) (F0 m 0 ls [])) : Tx l y ws rm Γ bs av Pre Post Px mc ms := by
  refine vx_ofW (cc := cc) (maxL := maxL) (ret := ret) hy hw ?_
  intro p e s m args below meth c s₁ B hml hno hv
  obtain ⟨rfl, hK, hT, hPre⟩ := hv
  rw [lg_entry_eq]
  exact body p e s m below meth c ⟨B.exec, B.bytes, hml, findClass_of_methodNamed B.named, atoms_spec (ws := ws) B.pre⟩ B.returns B.notSynchronized hno hK hT hPre _ (lv_entry av hle)
section XM
variable {p : Program} {l : Launch} {e : Env} {R : Room} {s : State} {m : MethodId} {args : Array Value} {below : List Frame} {meth : Method} {c : Code} {H : Heap} {locs : List Loc} {cells slots : Nat} {Q : State → Prop}
variable {cc : ByteArray} {pc : Nat} {ls : Array Slot} {rest st0 : List Value} {Γ : GG} {bs : Nat}
/-! stores -/
theorem x_upd {f : Nat → Int32} {i : Nat} {x : Int32} : (fun j => Value.int (upd f i x j)) = updV (fun j => .int (f j)) i (.int x) := by
  funext q
  by_cases hq : q = i
  · subst hq
    simp [updV, upd]
  · simp [updV, upd, hq]
theorem x_iast (hx : p.tables.exec = Jvm.exec) (hb : c.code = cc) (hK : xK Γ s) {a n i : Nat} {f : Nat → Int32} {x : Int32} (hA : Ai Γ a n f H) (hi : i < n) (hi2 : i < 2 ^ 31) (hlo : lo bs locs) (hab : bs ≤ a) (hdg : decode cc pc = .ok (.iastore, 1))
    (k : ∀ (H1 : Heap) (locs1 : List Loc), Ai Γ a n (upd f i x) H1 → H1.size = H.size → (∀ q : Nat, q ≠ a → H1[q]? = H[q]?) → lo bs locs1 → W p l e R s m args below meth c H1 locs1 cells slots Q (F0 m (pc + 1) ls rest)) : W p l e R s m args below meth c H locs cells slots Q (F0 m pc ls (.int x :: .int (nI i) :: .ref a :: rest)) := by
  have hc : (nI i).toNatClampNeg = i := nI_clamp hi2
  refine W.iast hx hb hA ((hK.2 0 _ rfl).1 n (fun j => .int (f j))) (fun q => by cases q) (by intro q; rcases q with q | q; exact nI_pos hi2 q; have q2 : (arrV Γ.2.1 n (fun j => .int (f j))).slots.size ≤ (nI i).toNatClampNeg := q; rw [arrV_size, hc] at q2; omega) rfl rfl hdg fun H1 e1 z o => ?_
  refine k H1 _ ?_ z o (hlo.app1 hab)
  show H1[a]? = some (arrV _ n (fun j => .int (upd f i x j)))
  rw [e1, hc, x_upd, ← arrV_store]
  rfl
theorem x_zast (hx : p.tables.exec = Jvm.exec) (hb : c.code = cc) (hK : xK Γ s) {a n i : Nat} {f : Nat → Int32} {x : Int32} (hA : Az Γ a n f H) (hi : i < n) (hi2 : i < 2 ^ 31) (hn : narrow .boolean (.int x) = .int x) (hlo : lo bs locs) (hab : bs ≤ a) (hdg : decode cc pc = .ok (.bastore, 1))
    (k : ∀ (H1 : Heap) (locs1 : List Loc), Az Γ a n (upd f i x) H1 → H1.size = H.size → (∀ q : Nat, q ≠ a → H1[q]? = H[q]?) → lo bs locs1 → W p l e R s m args below meth c H1 locs1 cells slots Q (F0 m (pc + 1) ls rest)) : W p l e R s m args below meth c H locs cells slots Q (F0 m pc ls (.int x :: .int (nI i) :: .ref a :: rest)) := by
  have hc : (nI i).toNatClampNeg = i := nI_clamp hi2
  refine W.zast hx hb hA ((hK.2 1 _ rfl).1 n (fun j => .int (f j))) (fun q => by cases q) (by intro q; rcases q with q | q; exact nI_pos hi2 q; have q2 : (arrV Γ.2.2.1 n (fun j => .int (f j))).slots.size ≤ (nI i).toNatClampNeg := q; rw [arrV_size, hc] at q2; omega) rfl rfl hdg fun H1 e1 z o => ?_
  refine k H1 _ ?_ z o (hlo.app1 hab)
  show H1[a]? = some (arrV _ n (fun j => .int (upd f i x j)))
  rw [e1, hc, x_upd, ← arrV_store, hn]
  rfl
theorem x_aast (hx : p.tables.exec = Jvm.exec) (hb : c.code = cc) (hK : xK Γ s) {a n i v : Nat} {f : Nat → Option Nat} {fs : List Value} (hA : Aq Γ a n f H) (hO : Ob Γ 0 v fs H) (hi : i < n) (hi2 : i < 2 ^ 31) (hlo : lo bs locs) (hab : bs ≤ a) (hdg : decode cc pc = .ok (.aastore, 1))
    (k : ∀ (H1 : Heap) (locs1 : List Loc), Aq Γ a n (va_up f i (some v)) H1 → H1.size = H.size → (∀ q : Nat, q ≠ a → H1[q]? = H[q]?) → lo bs locs1 → W p l e R s m args below meth c H1 locs1 cells slots Q (F0 m (pc + 1) ls rest)) : W p l e R s m args below meth c H locs cells slots Q (F0 m pc ls (.ref v :: .int (nI i) :: .ref a :: rest)) := by
  have hc : (nI i).toNatClampNeg = i := nI_clamp hi2
  obtain ⟨r', hr', cellV, g1, g2, g3, -⟩ := hO
  have hcls := (hK.1 0 _ rfl).2
  obtain ⟨kA, comp, k1, k2, k3, -⟩ := (hK.2 2 _ rfl).2
  have hcomp : comp = Γ.1.1 0 := Option.some.inj (k3.symm.trans hcls.1)
  subst hcomp
  obtain ⟨kC, hkC, -⟩ := hcls.2
  refine W.aast hx hb hA (fun q h => by cases h) (fun h => by cases h) k1 k2 rfl hkC ⟨nI_pos hi2, by show _ < (arrV _ _ _).slots.size; rw [arrV_size, hc]; exact hi⟩ g1 (fun q h => by rw [g3] at h; cases h) (by rw [g2]; exact hkC) (by rw [g2]; exact va_assign hcls) rfl rfl hdg fun H1 e1 z o => ?_
  refine k H1 _ ?_ z o (hlo.app1 hab)
  show H1[a]? = some (arrV _ n (fun j => va_rf (va_up f i (some v) j)))
  have e2 : (fun j => va_rf (va_up f i (some v) j)) = updV (fun j => va_rf (f j)) i (.ref v) := by
    funext q
    by_cases hq : q = i
    · subst hq
      simp [updV, va_up, va_rf]
    · simp [updV, va_up, hq]
  rw [e1, hc, e2, ← arrV_store]
  rfl
theorem x_putX {own ref C : String} {T : u_T} {N ci a index nL : Nat} {fs : List Value} {Ts : List Cond} {v : Value} (S : CallFix p m c cc nL s args Ts own) (hin : ∀ w ∈ u_ws C T N, w ∈ Ts) (ty0 : Nat → FieldType) (hty : ∀ k, k < N → parseFieldDescriptor (T k).2.2.1 = some (ty0 k)) (hnm : ∀ a, a < N → ∀ b, b < N → a ≠ b → (T a).2.1 ≠ (T b).2.1) (hK : xK Γ s) (hO : Ob Γ ci a fs H) (hc : vwCl[ci]? = some (C, T, N)) (k : Nat) (hk : k < N) (hlink : Cond.fieldLink own index ref (T k).2.1 (T k).2.2.1 ∈ Ts) (href : (T k).1 = ref) (hfin : (T k).2.2.2 = false ∨ ((T k).2.2.2 = true ∧ meth.name = "<init>" ∧ (T k).1 = own)) {ty : FieldType} (hd : parseFieldDescriptor (T k).2.2.1 = some ty) (hn : narrow ty v = v) (hfit : fits ty v = true) (hl : k < fs.length) (hlo : lo bs locs) (hab : bs ≤ a)
    (hdg : decode cc pc = .ok (.putfield index, 3)) (kk : ∀ (H1 : Heap) (locs1 : List Loc), Ob Γ ci a (fs.set k v) H1 → H1.size = H.size → (∀ q : Nat, q ≠ a → H1[q]? = H[q]?) → lo bs locs1 → W p l e R s m args below meth c H1 locs1 cells slots Q (F0 m (pc + 3) ls rest)) : W p l e R s m args below meth c H locs cells slots Q (F0 m pc ls (v :: .ref a :: rest)) := by
  have hts := S.2.2.2.2
  have hap := va_apart (own := own) hts hin ty0 hty hnm hK hc
  obtain ⟨r, h1, cell, q1, q2, q3, q4⟩ := hO
  have hr : r = (C, T, N) := Option.some.inj (h1.symm.trans hc)
  subst hr
  obtain ⟨hS, hfc, kC, hkC, hkind⟩ := hK.1 ci _ hc
  obtain ⟨cf, kf, fi, f, hi, hsl⟩ := hS k hk
  have hlay := hts _ (hin _ (u_in_lay hk))
  have hst := (u_facts hfc hkC (u_lays hts hin hk) hi).1
  have hsame : s.fieldFound? ref (T k).2.1 (T k).2.2.1 = some (cf, kf, fi, f) := by rw [← href]; exact hi
  have fin : ∀ (H' : Heap) (locs1 : List Loc), H'[a]? = some (cell.setSlot f.slot v) → H'.size = H.size → (∀ q : Nat, q ≠ a → H'[q]? = H[q]?) → lo bs locs1 → W p l e R s m args below meth c H' locs1 cells slots Q (F0 m (pc + 3) ls rest) := by
    intro H' locs1 e1 e2 e3 hl1
    rw [hsl] at e1
    exact kk H' locs1 ⟨_, hc, t_OB.to (V := updV (vp_V fs) k v) ⟨_, e1, q2, q3, t_set q4 hap hk v⟩ (fun j _ => vp_updV_set hl v j)⟩ e2 e3 hl1
  rcases hfin with hfin | ⟨hfin, hname, hdecl⟩
  · unfold u_lay at hlay
    rw [if_neg (by rw [hfin]; decide)] at hlay
    have h6 := u_store hfc hkC hkind hlay hi hd hn hfit
    exact W.putK S.1 S.2.1 (f := f) ⟨S.2.2.2.1, hts _ hlink, ⟨_, _, _, hsame⟩, hst⟩ (by rw [q2]; exact h6) q1 q3 (by rw [hsl]; exact k2_hasslot (q4 k hk)) rfl rfl hdg fun H' e1 e2 e3 => fin H' _ e1 e2 e3 (hlo.app1 hab)
  · unfold u_lay at hlay
    rw [if_pos hfin] at hlay
    have hcf : m.cls = cf := by
      obtain ⟨_, _, c', _, _, _, -, -, hf', -, -, -, hown2, -⟩ := Cond.laysFinal_spec hlay
      have e1 : c' = cf := by
        have e0 := hi.symm.trans hf'
        simp at e0
        exact e0.1.symm
      rw [hdecl] at hown2
      rw [← e1]
      exact Option.some.inj (S.2.2.2.1.symm.trans hown2)
    have h6 := u_fits hfc hkC hkind (Or.inr hlay) hi hd hn hfit
    exact W.putFinK S.1 S.2.1 S.2.2.2.1 (hts _ hlink) hsame hst hcf hname (by rw [q2]; exact h6) q1 q3 (by rw [hsl]; exact k2_hasslot (q4 k hk)) rfl rfl hdg fun H' e1 e2 e3 => fin H' _ e1 e2 e3 (hlo.app1 hab)
/-! making -/
theorem x_new {own C : String} {T : u_T} {N ci index nL : Nat} {fs : List Value} {Ts : List Cond} (S : CallFix p m c cc nL s args Ts own) (hin : ∀ w ∈ u_ws C T N, w ∈ Ts) (ty : Nat → FieldType) (hty : ∀ k, k < N → parseFieldDescriptor (T k).2.2.1 = some (ty k)) (hcl : Cond.classLink own index C ∈ Ts) (hinst : Cond.instantiable C N ∈ Ts) (hini : Cond.initialized C ∈ Ts) (hK : xK Γ s) (hc : vwCl[ci]? = some (C, T, N)) (hfs : ∀ j, j < N → defaultValue (ty j) = vp_V fs j) (hcells : cells + 1 ≤ R.cells) (hslots : slots + N ≤ R.slots) (hdg : decode cc pc = .ok (.new index, 3))
    (k : ∀ H1 : Heap, Ob Γ ci H.size fs H1 → H1.size = H.size + 1 → (∀ q : Nat, q < H.size → H1[q]? = H[q]?) → W p l e R s m args below meth c H1 locs (cells + 1) (slots + N) Q (F0 m (pc + 3) ls (.ref H.size :: rest))) : W p l e R s m args below meth c H locs cells slots Q (F0 m pc ls rest) := by
  have hts := S.2.2.2.2
  have hKn := hK.1 ci _ hc
  refine W.newcK S.1 S.2.1 S.2.2.2.1 (hts _ hcl) (hts _ hinst) (hts _ hini) rfl hdg hcells hslots hKn.2.1 rfl fun H1 kC hkC e1 z1 o1 => ?_
  exact k H1 ⟨_, hc, (u_born ty hts hin hKn hkC e1 hty).to hfs⟩ z1 o1
theorem x_newI (hx : p.tables.exec = Jvm.exec) (hb : c.code = cc) (hK : xK Γ s) (harr : (Cond.arrayClass .int).before args s = true) {n : Nat} (hn : n < 2 ^ 20) (hcells : cells + 1 ≤ R.cells) (hslots : slots + n ≤ R.slots) (hdg : decode cc pc = .ok (.newarray .int, 2))
    (k : ∀ H1 : Heap, Ai Γ H.size n (fun _ => nI 0) H1 → H1.size = H.size + 1 → (∀ q : Nat, q < H.size → H1[q]? = H[q]?) → W p l e R s m args below meth c H1 locs (cells + 1) (slots + n) Q (F0 m (pc + 2) ls (.ref H.size :: rest))) : W p l e R s m args below meth c H locs cells slots Q (F0 m pc ls (.int (nI n) :: rest)) := by
  have hc : (nI n).toNatClampNeg = n := nI_clamp (by omega)
  refine va_newaK (atype := .int) hx hb harr rfl hdg rfl (nI_pos (by omega)) hc (by show n * 4 ≤ 536870912; omega) hcells hslots rfl fun H1 cA e1 z1 o1 hAr hNm => ?_
  have hcA : cA = Γ.2.1 := Option.some.inj (hNm.symm.trans (hK.2 0 _ rfl).2)
  subst hcA
  exact k H1 e1 z1 o1
theorem x_newZ (hx : p.tables.exec = Jvm.exec) (hb : c.code = cc) (hK : xK Γ s) (harr : (Cond.arrayClass .boolean).before args s = true) {n : Nat} (hn : n < 2 ^ 20) (hcells : cells + 1 ≤ R.cells) (hslots : slots + n ≤ R.slots) (hdg : decode cc pc = .ok (.newarray .boolean, 2))
    (k : ∀ H1 : Heap, Az Γ H.size n (fun _ => nI 0) H1 → H1.size = H.size + 1 → (∀ q : Nat, q < H.size → H1[q]? = H[q]?) → W p l e R s m args below meth c H1 locs (cells + 1) (slots + n) Q (F0 m (pc + 2) ls (.ref H.size :: rest))) : W p l e R s m args below meth c H locs cells slots Q (F0 m pc ls (.int (nI n) :: rest)) := by
  have hc : (nI n).toNatClampNeg = n := nI_clamp (by omega)
  refine va_newaK (atype := .boolean) hx hb harr rfl hdg rfl (nI_pos (by omega)) hc (by show n * 1 ≤ 536870912; omega) hcells hslots rfl fun H1 cA e1 z1 o1 hAr hNm => ?_
  have hcA : cA = Γ.2.2.1 := Option.some.inj (hNm.symm.trans (hK.2 1 _ rfl).2)
  subst hcA
  exact k H1 e1 z1 o1
/-! calls of methods that write -/
theorem m_run {mc ms : Nat} {Post : Heap → Option Value → Heap → Prop} (hr : va_Run p l e R s m args below meth c H locs cells slots mc ms (F0 m pc ls st0) rest (fun (st : State) (o : Outcome) (t : State) => ∃ v, o = .returned v ∧ Post st.heap v t.heap) (fun q => bs ≤ q)) (hlo : lo bs locs)
    (k : ∀ (v : Option Value) (H1 : Heap) (locs1 : List Loc), Post H v H1 → lo bs locs1 → W p l e R s m args below meth c H1 locs1 (cells + mc) (slots + ms) Q (F0 m (pc + 3) ls (v.toList ++ rest))) : W p l e R s m args below meth c H locs cells slots Q (F0 m pc ls st0) := by
  intro T hT X
  obtain ⟨v', st₀, t, T', L, h0, X', hL, e1, -, ⟨v, hv, hp⟩, st⟩ := hr T hT X
  cases hv
  rw [h0, ← e1] at hp
  obtain ⟨t2, a1, b1⟩ := k _ T'.heap (locs ++ L) hp (hlo.app hL) T' rfl X'
  exact ⟨t2, st t2 a1, b1⟩
theorem m_V {own C : String} {index maxL nL n b mc ms : Nat} {y : MethodName} {bytes : ByteArray} {ret : Option FieldType} {Ts wsy : List Cond} {rm : Room} {Pre : Heap → Prop} {Post : Heap → Option Value → Heap → Prop} {As : List Value} (S : CallFix p m c cc nL s args Ts own) (hK : xK Γ s) (hM : Mt l y wsy rm Γ bs (.ref b :: As) Pre Post mc ms) (cw : CallW R s args own C index y bytes maxL ret wsy rm mc ms n) (hrec : ∃ cell : Cell, H[b]? = some cell ∧ cell.vm.isStatics = false ∧ s.vm.findClass C = some cell.cls) (hpre : Pre H) (hn : As.length = n) (hsz : ls.size = nL) (hst : st0 = As.reverse ++ .ref b :: rest) (hW : (rest.map fun v => v.category).sum ≤ 8) (hdg : decode cc pc = .ok (.invokevirtual index, 3)) (hf : cells + mc ≤ R.cells ∧ slots + ms ≤ R.slots) (hlo : lo bs locs)
    (k : ∀ (v : Option Value) (H1 : Heap) (locs1 : List Loc), Post H v H1 → lo bs locs1 → W p l e R s m args below meth c H1 locs1 (cells + mc) (slots + ms) Q (F0 m (pc + 3) ls (v.toList ++ rest))) : W p l e R s m args below meth c H locs cells slots Q (F0 m pc ls st0) := by
  subst hst
  exact m_run (va_runV S hM cw ⟨x_blind, hrec, fun U hU hW => ⟨rfl, hK.moved hW.alike, by rw [hU]; exact hpre⟩⟩ rfl hn hsz rfl (lv_room hW) hdg hf) hlo k
theorem m_S {own : String} {index maxL nL n mc ms : Nat} {y : MethodName} {bytes : ByteArray} {ret : Option FieldType} {Ts wsy : List Cond} {rm : Room} {Pre : Heap → Prop} {Post : Heap → Option Value → Heap → Prop} {As : List Value} (S : CallFix p m c cc nL s args Ts own) (hK : xK Γ s) (hM : Mt l y wsy rm Γ bs As Pre Post mc ms) (cw : CallB R s args own index y bytes maxL ret wsy rm mc ms n ∧ (Cond.static y).before args s = true) (hpre : Pre H) (hn : As.length = n) (hsz : ls.size = nL) (hst : st0 = As.reverse ++ rest) (hW : (rest.map fun v => v.category).sum ≤ 8) (hdg : decode cc pc = .ok (.invokestatic index, 3)) (hf : cells + mc ≤ R.cells ∧ slots + ms ≤ R.slots) (hlo : lo bs locs)
    (k : ∀ (v : Option Value) (H1 : Heap) (locs1 : List Loc), Post H v H1 → lo bs locs1 → W p l e R s m args below meth c H1 locs1 (cells + mc) (slots + ms) Q (F0 m (pc + 3) ls (v.toList ++ rest))) : W p l e R s m args below meth c H locs cells slots Q (F0 m pc ls st0) := by
  subst hst
  exact m_run (va_runS S hM cw ⟨x_blind, fun U hU hW => ⟨rfl, hK.moved hW.alike, by rw [hU]; exact hpre⟩⟩ rfl hn hsz rfl (lv_room hW) hdg hf) hlo k
theorem m_I {own : String} {index maxL nL n b mc ms : Nat} {y : MethodName} {bytes : ByteArray} {Ts wsy : List Cond} {rm : Room} {Pre : Heap → Prop} {Post : Heap → Option Value → Heap → Prop} {As : List Value} (S : CallFix p m c cc nL s args Ts own) (hK : xK Γ s) (hM : Mt l y wsy rm Γ bs (.ref b :: As) Pre Post mc ms) (cw : CallB R s args own index y bytes maxL none wsy rm mc ms n ∧ y.name = "<init>" ∧ (Cond.instanceMethod y).before args s = true) (hpre : Pre H) (hn : As.length = n) (hsz : ls.size = nL) (hst : st0 = As.reverse ++ .ref b :: rest) (hW : (rest.map fun v => v.category).sum ≤ 8) (hdg : decode cc pc = .ok (.invokespecial index, 3)) (hf : cells + mc ≤ R.cells ∧ slots + ms ≤ R.slots) (hlo : lo bs locs)
    (k : ∀ (v : Option Value) (H1 : Heap) (locs1 : List Loc), Post H v H1 → lo bs locs1 → W p l e R s m args below meth c H1 locs1 (cells + mc) (slots + ms) Q (F0 m (pc + 3) ls (v.toList ++ rest))) : W p l e R s m args below meth c H locs cells slots Q (F0 m pc ls st0) := by
  subst hst
  exact m_run (va_runI S hM cw ⟨x_blind, fun U hU hW => ⟨rfl, hK.moved hW.alike, by rw [hU]; exact hpre⟩⟩ rfl hn hsz rfl (lv_room hW) hdg hf) hlo k
theorem m_iret {v : Int32} {Post : Heap → Option Value → Heap → Prop} (hx : p.tables.exec = Jvm.exec) (hb : c.code = cc) (hr : meth.sig.returnType = some .int) (hlk : meth.locks = false) (hlo : lo bs locs) (hdg : decode cc pc = .ok (.ireturn, 1)) (hp : Post s.heap (some (.int v)) H) : W p l e R s m args below meth c H locs cells slots (MQ below (fun _ st o t => ∃ v, o = .returned v ∧ Post st.heap v t.heap) args s cells slots (fun q => bs ≤ q)) (F0 m pc ls [.int v]) :=
  W.iret hx hb hr (fun t ht _ => ⟨_, rfl, by rw [ht]; exact hp⟩) hlo hdg hlk
theorem m_zret {v : Nat} (hv : v ≤ 1) {Post : Heap → Option Value → Heap → Prop} (hx : p.tables.exec = Jvm.exec) (hb : c.code = cc) (hr : meth.sig.returnType = some .boolean) (hlk : meth.locks = false) (hlo : lo bs locs) (hdg : decode cc pc = .ok (.ireturn, 1)) (hp : Post s.heap (some (.int (nI v))) H) : W p l e R s m args below meth c H locs cells slots (MQ below (fun _ st o t => ∃ v, o = .returned v ∧ Post st.heap v t.heap) args s cells slots (fun q => bs ≤ q)) (F0 m pc ls [.int (nI v)]) :=
  W.zret hx hb hr (x_nz hv) (fun t ht _ => ⟨_, rfl, by rw [ht]; exact hp⟩) hlo hdg hlk
theorem m_vret {Post : Heap → Option Value → Heap → Prop} (hx : p.tables.exec = Jvm.exec) (hb : c.code = cc) (hr : meth.sig.returnType = none) (hlk : meth.locks = false) (hlo : lo bs locs) (hdg : decode cc pc = .ok (.return_, 1)) (hp : Post s.heap none H) : W p l e R s m args below meth c H locs cells slots (MQ below (fun _ st o t => ∃ v, o = .returned v ∧ Post st.heap v t.heap) args s cells slots (fun q => bs ≤ q)) (F0 m pc ls []) :=
  W.vret hx hb hr (fun t ht _ => ⟨_, rfl, by rw [ht]; exact hp⟩) hlo hdg hlk
theorem m_lret {v : Int64} {Post : Heap → Option Value → Heap → Prop} (hx : p.tables.exec = Jvm.exec) (hb : c.code = cc) (hr : meth.sig.returnType = some .long) (hlk : meth.locks = false) (hlo : lo bs locs) (hdg : decode cc pc = .ok (.lreturn, 1)) (hp : Post s.heap (some (.long v)) H) : W p l e R s m args below meth c H locs cells slots (MQ below (fun _ st o t => ∃ v, o = .returned v ∧ Post st.heap v t.heap) args s cells slots (fun q => bs ≤ q)) (F0 m pc ls [.long v]) :=
  W.lret hx hb hr (fun t ht _ => ⟨_, rfl, by rw [ht]; exact hp⟩) hlo hdg hlk
theorem m_aret {a : Nat} {nm : String} {Post : Heap → Option Value → Heap → Prop} (hx : p.tables.exec = Jvm.exec) (hb : c.code = cc) (hr : meth.sig.returnType = some (.object nm)) (hlk : meth.locks = false) (hlo : lo bs locs) (hdg : decode cc pc = .ok (.areturn, 1)) (hp : Post s.heap (some (.ref a)) H) : W p l e R s m args below meth c H locs cells slots (MQ below (fun _ st o t => ∃ v, o = .returned v ∧ Post st.heap v t.heap) args s cells slots (fun q => bs ≤ q)) (F0 m pc ls [.ref a]) :=
  W.aret hx hb hr (Or.inl ⟨nm, rfl⟩) (Or.inr ⟨a, rfl⟩) (fun t ht _ => ⟨_, rfl, by rw [ht]; exact hp⟩) hlo hdg hlk
/-- a loop that writes -/
theorem x_loopH {σ : Type} {nL : Nat} {st : List Value} (I : σ → List (Nat × Value)) (P : σ → Heap → List Loc → Prop) (μ : σ → Nat)
    (step : ∀ (u : σ) (H : Heap) (locs : List Loc), P u H locs → (∀ (u' : σ) (H' : Heap) (locs' : List Loc), P u' H' locs' → μ u' < μ u → ∀ ls : Array Slot, lv_has ls nL (I u') → W p l e R s m args below meth c H' locs' cells slots Q (F0 m pc ls st)) → ∀ ls : Array Slot, lv_has ls nL (I u) → W p l e R s m args below meth c H locs cells slots Q (F0 m pc ls st))
    (u0 : σ) (h0 : P u0 H locs) (ls : Array Slot) (hl : lv_has ls nL (I u0)) : W p l e R s m args below meth c H locs cells slots Q (F0 m pc ls st) := by
  have key : ∀ (n : Nat) (u : σ) (H : Heap) (locs : List Loc), μ u < n → P u H locs → ∀ ls : Array Slot, lv_has ls nL (I u) → W p l e R s m args below meth c H locs cells slots Q (F0 m pc ls st) := by
    intro n
    induction n with
    | zero => intro u H locs hu; omega
    | succ n ih => exact fun u H locs hu hp => step u H locs hp (fun u' H' locs' hp' hm => ih u' H' locs' (by omega) hp')
  exact key (μ u0 + 1) u0 H locs (Nat.lt_succ_self _) h0 ls hl
/-! throws -/
abbrev tX (Px : String → Prop) : String → State → State → Prop := fun E st t => Px E ∧ st.heap.size ≤ t.heap.size ∧ ∀ q : Nat, q < st.heap.size → t.heap[q]? = st.heap[q]?
theorem t_throw {cls text : String} {ik is ic nL mc ms : Nat} {Ts : List Cond} {Px : String → Prop} {Qc : Array Value → State → Outcome → State → Prop} (S : CallFix p m c cc nL s args Ts RX1) (hfl : l.stackTraces = false) (hcls : Bundle.fit cls = true) (hk : Cond.classLink RX1 ik cls ∈ Ts) (hini : Cond.initialized cls ∈ Ts) (hat1 : ∀ w ∈ (vx_atS RX1 ic cls nmT).filter goodWord, w ∈ Ts) (hat2 : ∀ w ∈ (vx_atS RX1 ic cls nmT).filter (fun w => !goodWord w), w ∈ XB) (hgood : ∀ w ∈ Cond.classLink RX1 ik cls :: Cond.initialized cls :: vx_atS RX1 ic cls nmT, vx_ot w = true) (hstr : (is, text) ∈ STR) (hT : xT bs s) (hlo : lo bs locs) (hsz : ls.size = nL)
    (d0 : decode cc pc = .ok (.new ik, 3)) (d3 : decode cc (pc + 3) = .ok (.dup, 1)) (d4 : decode cc (pc + 4) = .ok (.ldc is, 2)) (d6 : decode cc (pc + 6) = .ok (.invokespecial ic, 3)) (d9 : decode cc (pc + 9) = .ok (.athrow, 1)) (hno : ∀ x ∈ c.exceptionTable.toList, False) (hlk : meth.locks = false)
    (hRf : 5 < R.frames) (hRl : (rest.map fun v => v.category).sum + 82 ≤ R.locals) (hRc : cells + 1 ≤ R.cells) (hRs : slots + 6 ≤ R.slots) (hc : cells + 1 ≤ mc) (hs : slots + 6 ≤ ms) (hE : Px cls) :
    W p l e R s m args below meth c s.heap locs cells slots (vx_MQ below Qc (tX Px) args s mc ms (fun q => bs ≤ q)) (F0 m pc ls rest) := by
  have hts := S.2.2.2.2
  obtain ⟨sa, hsa⟩ := hT.2.2.2 _ hstr
  exact vx_throwS (A := fun q => bs ≤ q) S.1 S.2.1 hfl S.2.2.2.1 hcls (by decide) (hts _ hk) (hts _ hini) hsa
    (vx_hat (B := XB) (fun w hw => hts w (hat1 w hw)) hat2 (fun w hw => va_Nw.use (XB_ot (List.all_eq_true.mp XB_c w hw)) (hT.2.2.1 w hw))) hgood hT.1 hT.2.1 ⟨Nat.le_refl _, fun _ _ _ => rfl, hlo⟩ (hsz.trans S.2.2.1.symm) d0 d3 d4 d6 d9 (fun x h => (hno x h).elim) hRf hRl hRc hRs hlk (fun t _ h1 h2 => ⟨hE, h1, h2⟩) hlo hc hs
theorem t_run {mcy msy mc ms : Nat} {Post : Heap → Option Value → Heap → Prop} {Px Px' : String → Prop} {Qc : Array Value → State → Outcome → State → Prop} (hr : vx_Run p l e R s m args below meth c s.heap locs cells slots mcy msy (F0 m pc ls st0) rest (fun (st : State) (o : Outcome) (t : State) => ∃ v, o = .returned v ∧ Post st.heap v t.heap) (tX Px) (fun q => bs ≤ q)) (hlo : lo bs locs) (hno : ∀ x ∈ c.exceptionTable.toList, False) (hlk : meth.locks = false) (hE : ∀ E, Px E → Px' E) (hc : cells + mcy ≤ mc) (hs : slots + msy ≤ ms)
    (k : ∀ (v : Option Value) (H1 : Heap) (locs1 : List Loc), Post s.heap v H1 → lo bs locs1 → W p l e R s m args below meth c H1 locs1 (cells + mcy) (slots + msy) (vx_MQ below Qc (tX Px') args s mc ms (fun q => bs ≤ q)) (F0 m (pc + 3) ls (v.toList ++ rest))) : W p l e R s m args below meth c s.heap locs cells slots (vx_MQ below Qc (tX Px') args s mc ms (fun q => bs ≤ q)) (F0 m pc ls st0) := by
  intro T hT X
  rcases hr T hT X with ⟨v', st₀, t, T', L, h0, X', hL, e1, -, ⟨v, hv, hp⟩, st⟩ | ⟨q, st₀, t, T', L, E, ce, h0, X', hL, e1, -, ⟨h1, h2, h3⟩, hce, hcv, hcl, st⟩
  · cases hv
    rw [h0, ← e1] at hp
    obtain ⟨t2, a1, b1⟩ := k _ T'.heap (locs ++ L) hp (hlo.app hL) T' rfl X'
    exact ⟨t2, st t2 a1, b1⟩
  · rw [h0] at h2 h3
    obtain ⟨t2, a1, b1⟩ := vx_out (Qc := Qc) (XC := tX Px') (E := E) (ce := ce) (q := q) (rest := rest) (pc := pc) (ls := ls) (fun x h => (hno x h).elim) hlk (by rw [e1]; exact hce) hcv hcl (fun t9 h9 _ => ⟨hE E h1, by rw [h9, e1]; exact h2, fun q hq => by rw [h9, e1]; exact h3 q hq⟩) (hlo.app hL) hc hs T' rfl X'
    exact ⟨t2, st.trans a1, b1⟩
theorem t_V {own C : String} {index maxL nL n b mcy msy mc ms : Nat} {y : MethodName} {bytes : ByteArray} {ret : Option FieldType} {Ts wsy : List Cond} {rm : Room} {Pre : Heap → Prop} {Post : Heap → Option Value → Heap → Prop} {Px Px' : String → Prop} {Qc : Array Value → State → Outcome → State → Prop} {As : List Value} (S : CallFix p m c cc nL s args Ts own) (hK : xK Γ s) (hT : xT bs s) (hM : Tx l y wsy rm Γ bs (.ref b :: As) Pre Post Px mcy msy) (cw : CallW R s args own C index y bytes maxL ret wsy rm mcy msy n) (hrec : ∃ cell : Cell, s.heap[b]? = some cell ∧ cell.vm.isStatics = false ∧ s.vm.findClass C = some cell.cls) (hpre : Pre s.heap) (hn : As.length = n) (hsz : ls.size = nL) (hst : st0 = As.reverse ++ .ref b :: rest) (hW : (rest.map fun v => v.category).sum ≤ 8) (hdg : decode cc pc = .ok (.invokevirtual index, 3)) (hf : cells + mcy ≤ R.cells ∧ slots + msy ≤ R.slots) (hlo : lo bs locs) (hno : ∀ x ∈ c.exceptionTable.toList, False) (hlk : meth.locks = false) (hE : ∀ E, Px E → Px' E) (hc : cells + mcy ≤ mc) (hs : slots + msy ≤ ms)
    (k : ∀ (v : Option Value) (H1 : Heap) (locs1 : List Loc), Post s.heap v H1 → lo bs locs1 → W p l e R s m args below meth c H1 locs1 (cells + mcy) (slots + msy) (vx_MQ below Qc (tX Px') args s mc ms (fun q => bs ≤ q)) (F0 m (pc + 3) ls (v.toList ++ rest))) : W p l e R s m args below meth c s.heap locs cells slots (vx_MQ below Qc (tX Px') args s mc ms (fun q => bs ≤ q)) (F0 m pc ls st0) := by
  subst hst
  exact t_run (vx_runV S hM cw ⟨t_blind, hrec, fun U hU hW => ⟨rfl, hK.moved hW.alike, hT.moved hW (fun q _ _ => by rw [hU]), by rw [hU]; exact hpre⟩⟩ rfl hn hsz rfl (lv_room hW) hdg hf) hlo hno hlk hE hc hs k
theorem t_S {own : String} {index maxL nL n mcy msy mc ms : Nat} {y : MethodName} {bytes : ByteArray} {ret : Option FieldType} {Ts wsy : List Cond} {rm : Room} {Pre : Heap → Prop} {Post : Heap → Option Value → Heap → Prop} {Px Px' : String → Prop} {Qc : Array Value → State → Outcome → State → Prop} {As : List Value} (S : CallFix p m c cc nL s args Ts own) (hK : xK Γ s) (hT : xT bs s) (hM : Tx l y wsy rm Γ bs As Pre Post Px mcy msy) (cw : CallB R s args own index y bytes maxL ret wsy rm mcy msy n ∧ (Cond.static y).before args s = true) (hpre : Pre s.heap) (hn : As.length = n) (hsz : ls.size = nL) (hst : st0 = As.reverse ++ rest) (hW : (rest.map fun v => v.category).sum ≤ 8) (hdg : decode cc pc = .ok (.invokestatic index, 3)) (hf : cells + mcy ≤ R.cells ∧ slots + msy ≤ R.slots) (hlo : lo bs locs) (hno : ∀ x ∈ c.exceptionTable.toList, False) (hlk : meth.locks = false) (hE : ∀ E, Px E → Px' E) (hc : cells + mcy ≤ mc) (hs : slots + msy ≤ ms)
    (k : ∀ (v : Option Value) (H1 : Heap) (locs1 : List Loc), Post s.heap v H1 → lo bs locs1 → W p l e R s m args below meth c H1 locs1 (cells + mcy) (slots + msy) (vx_MQ below Qc (tX Px') args s mc ms (fun q => bs ≤ q)) (F0 m (pc + 3) ls (v.toList ++ rest))) : W p l e R s m args below meth c s.heap locs cells slots (vx_MQ below Qc (tX Px') args s mc ms (fun q => bs ≤ q)) (F0 m pc ls st0) := by
  subst hst
  exact t_run (vx_runS S hM cw ⟨t_blind, fun U hU hW => ⟨rfl, hK.moved hW.alike, hT.moved hW (fun q _ _ => by rw [hU]), by rw [hU]; exact hpre⟩⟩ rfl hn hsz rfl (lv_room hW) hdg hf) hlo hno hlk hE hc hs k
end XM
/-- what lies outside a stretch of cells stays -/
def Fr (a b : Nat) (H H' : Heap) : Prop := H.size ≤ H'.size ∧ ∀ q : Nat, q < H.size → (q < a ∨ b ≤ q) → H'[q]? = H[q]?
theorem Fr.rf {a b : Nat} {H : Heap} : Fr a b H H := ⟨Nat.le_refl _, fun _ _ _ => rfl⟩
theorem Fr.put {a b q : Nat} {H0 H H1 : Heap} (h : Fr a b H0 H) (hz : H1.size = H.size) (ho : ∀ z : Nat, z ≠ q → H1[z]? = H[z]?) (h1 : a ≤ q) (h2 : q < b) : Fr a b H0 H1 :=
  ⟨by rw [hz]; exact h.1, fun z hz2 hz3 => (ho z (by omega)).trans (h.2 z hz2 hz3)⟩
theorem Fr.trans {a b : Nat} {H0 H H1 : Heap} (h : Fr a b H0 H) (h2 : Fr a b H H1) : Fr a b H0 H1 :=
  ⟨Nat.le_trans h.1 h2.1, fun z z1 z2 => (h2.2 z (Nat.lt_of_lt_of_le z1 h.1) z2).trans (h.2 z z1 z2)⟩
