/-! the framework: single cells, contracts that only read, rows over numbers -/
abbrev GG : Type := va_G × (ClassId × (ClassId × ClassId))
def xK (Γ : GG) (U : State) : Prop := va_K Γ.1 vwCl [(Γ.2.1, .int), (Γ.2.2.1, .boolean), (Γ.2.2.2, .object RX0)] U
theorem xK.moved {Γ : GG} {u U : State} (hvm : u.vm.Alike U.vm) (h : xK Γ u) : xK Γ U := va_K.moved hvm h
def Ob (Γ : GG) (ci a : Nat) (fs : List Value) (H : Heap) : Prop := va_at Γ.1 vwCl (a, .inr (ci, fs)) H
def Ai (Γ : GG) (a n : Nat) (f : Nat → Int32) (H : Heap) : Prop := va_at Γ.1 vwCl (a, .inl (Γ.2.1, n, .inl f)) H
def Az (Γ : GG) (a n : Nat) (f : Nat → Int32) (H : Heap) : Prop := va_at Γ.1 vwCl (a, .inl (Γ.2.2.1, n, .inl f)) H
def Aq (Γ : GG) (a n : Nat) (f : Nat → Option Nat) (H : Heap) : Prop := va_at Γ.1 vwCl (a, .inl (Γ.2.2.2, n, .inr (.inr (.inr (.inr f))))) H
theorem x_P1 {D : va_G} {cl : List vw_C} {q : Nat × va_E} {H : Heap} (h : va_at D cl q H) : va_P D cl [q] H := by
  intro k q' hk
  match k, hk with
  | 0, hk => cases hk; exact h
  | k + 1, hk => simp at hk
theorem Ob.kept {Γ : GG} {ci a : Nat} {fs : List Value} {H H1 : Heap} (h : Ob Γ ci a fs H) (hq : H1[a]? = H[a]?) : Ob Γ ci a fs H1 := va_at.kept h hq
theorem Ai.kept {Γ : GG} {a n : Nat} {f : Nat → Int32} {H H1 : Heap} (h : Ai Γ a n f H) (hq : H1[a]? = H[a]?) : Ai Γ a n f H1 := va_at.kept (q := (a, .inl (Γ.2.1, n, .inl f))) h hq
theorem Az.kept {Γ : GG} {a n : Nat} {f : Nat → Int32} {H H1 : Heap} (h : Az Γ a n f H) (hq : H1[a]? = H[a]?) : Az Γ a n f H1 := va_at.kept (q := (a, .inl (Γ.2.2.1, n, .inl f))) h hq
theorem Aq.kept {Γ : GG} {a n : Nat} {f : Nat → Option Nat} {H H1 : Heap} (h : Aq Γ a n f H) (hq : H1[a]? = H[a]?) : Aq Γ a n f H1 := va_at.kept (q := (a, .inl (Γ.2.2.2, n, .inr (.inr (.inr (.inr f)))))) h hq
theorem Ob.lt {Γ : GG} {ci a : Nat} {fs : List Value} {H : Heap} (h : Ob Γ ci a fs H) : a < H.size := va_at.lt h
theorem Ai.lt {Γ : GG} {a n : Nat} {f : Nat → Int32} {H : Heap} (h : Ai Γ a n f H) : a < H.size := va_at.lt (q := (a, .inl (Γ.2.1, n, .inl f))) h
theorem Az.lt {Γ : GG} {a n : Nat} {f : Nat → Int32} {H : Heap} (h : Az Γ a n f H) : a < H.size := va_at.lt (q := (a, .inl (Γ.2.2.1, n, .inl f))) h
theorem Aq.lt {Γ : GG} {a n : Nat} {f : Nat → Option Nat} {H : Heap} (h : Aq Γ a n f H) : a < H.size := va_at.lt (q := (a, .inl (Γ.2.2.2, n, .inr (.inr (.inr (.inr f)))))) h
theorem Ob.recv {Γ : GG} {ci a : Nat} {fs : List Value} {H : Heap} {s : State} {q : vw_C} (hK : xK Γ s) (h : Ob Γ ci a fs H) (hc : vwCl[ci]? = some q) : ∃ cell : Cell, H[a]? = some cell ∧ cell.vm.isStatics = false ∧ s.vm.findClass q.1 = some cell.cls :=
  va_recv (ws := [(a, .inr (ci, fs))]) (q0 := 0) hK (x_P1 h) hc rfl
/-- what was written lies above a bound -/
def lo (bs : Nat) (locs : List Loc) : Prop := ∀ q ∈ locs, bs ≤ q.base
theorem lo.nil {bs : Nat} : lo bs [] := fun _ h => by cases h
theorem lo.app1 {bs a i : Nat} {locs : List Loc} (h : lo bs locs) (ha : bs ≤ a) : lo bs (locs ++ [⟨a, i⟩]) := by
  intro q hq
  rcases List.mem_append.mp hq with h1 | h1
  · exact h q h1
  · rw [List.mem_singleton] at h1
    subst h1
    exact ha
theorem lo.app {bs : Nat} {locs L : List Loc} (h : lo bs locs) (ha : ∀ q ∈ L, bs ≤ q.base) : lo bs (locs ++ L) := by
  intro q hq
  rcases List.mem_append.mp hq with h1 | h1
  · exact h q h1
  · exact ha q h1
/-- a contract of a method that only reads, its answer one value -/
def Ro (l : Launch) (y : MethodName) (ws : List Cond) (rm : Room) (Γ : GG) (av : List Value) (Pre : Heap → Prop) (v : Option Value) : Prop :=
  Met l y ws rm (va_Pc av (fun U => xK Γ U ∧ Pre U.heap)) (fun _ st o t => o = .returned v ∧ t.heap = st.heap) 0 0 (fun _ => False)
theorem x_blind {Γ : GG} {av : List Value} {Pre : Heap → Prop} : FrameBlind (va_Pc av (fun U => xK Γ U ∧ Pre U.heap)) := fun a U g mk h => ⟨h.1, xK.moved (u := U) (U := U.calling g mk a) (Vm.Alike.refl U.vm) h.2.1, h.2.2⟩
theorem Ro.of {l : Launch} {y : MethodName} {ws ws' : List Cond} {rm : Room} {Γ : GG} {av : List Value} {Pre : Heap → Prop} {v : Option Value} {cc : ByteArray} {maxL : Nat} {ret : Option FieldType} (hy : plainName y.cls = true) (hw : ws = Cond.code y cc maxL ret :: ws') (hle : (lg_sl av).length ≤ maxL)
    (body : ∀ (p : Program) (e : Env) (s : State) (m : MethodId) (below : List Frame) (meth : Method) (c : Code), CallFix p m c cc maxL s av.toArray ws y.cls → meth.sig.returnType = ret → meth.locks = false → xK Γ s → Pre s.heap → ∀ ls : Array Slot, lv_has ls maxL (lv_args 0 av) →
      W p l e rm s m av.toArray below meth c s.heap [] 0 0 (MQ below (fun _ st o t => o = .returned v ∧ t.heap = st.heap) av.toArray s 0 0 (fun _ => False)) (F0 m 0 ls [])) : Ro l y ws rm Γ av Pre v := by
  refine Met.ofW (cc := cc) (maxL := maxL) (ret := ret) hy hw ?_
  intro p e s m args below meth c s₁ B hml hv
  obtain ⟨rfl, hK, hPre⟩ := hv
  rw [lg_entry_eq]
  exact body p e s m below meth c ⟨B.exec, B.bytes, hml, findClass_of_methodNamed B.named, atoms_spec (ws := ws) B.pre⟩ B.returns B.notSynchronized hK hPre _ (lv_entry av hle)
section XW
variable {p : Program} {l : Launch} {e : Env} {R : Room} {s : State} {m : MethodId} {args : Array Value} {below : List Frame} {meth : Method} {c : Code} {H : Heap} {locs : List Loc} {cells slots : Nat} {Q : State → Prop}
variable {cc : ByteArray} {pc : Nat} {ls : Array Slot} {rest st0 : List Value} {Γ : GG}
theorem x_e {x y : Int32} (h : x = y) (k : W p l e R s m args below meth c H locs cells slots Q (F0 m pc ls (.int y :: rest))) : W p l e R s m args below meth c H locs cells slots Q (F0 m pc ls (.int x :: rest)) := by rw [h]; exact k
theorem x_eL {x y : Int64} (h : x = y) (k : W p l e R s m args below meth c H locs cells slots Q (F0 m pc ls (.long y :: rest))) : W p l e R s m args below meth c H locs cells slots Q (F0 m pc ls (.long x :: rest)) := by rw [h]; exact k
theorem x_add (hx : p.tables.exec = Jvm.exec) (hb : c.code = cc) {a b : Nat} (hdg : decode cc pc = .ok (.iadd, 1)) (k : W p l e R s m args below meth c H locs cells slots Q (F0 m (pc + 1) ls (.int (nI (a + b)) :: rest))) : W p l e R s m args below meth c H locs cells slots Q (F0 m pc ls (.int (nI b) :: .int (nI a) :: rest)) := lv_iadd hx hb hdg (x_e (nI_add a b) k)
theorem x_sub (hx : p.tables.exec = Jvm.exec) (hb : c.code = cc) {a b : Nat} (h : b ≤ a) (hdg : decode cc pc = .ok (.isub, 1)) (k : W p l e R s m args below meth c H locs cells slots Q (F0 m (pc + 1) ls (.int (nI (a - b)) :: rest))) : W p l e R s m args below meth c H locs cells slots Q (F0 m pc ls (.int (nI b) :: .int (nI a) :: rest)) := lv_isub hx hb hdg (x_e (pk_sub h) k)
theorem x_mul (hx : p.tables.exec = Jvm.exec) (hb : c.code = cc) {a b : Nat} (hdg : decode cc pc = .ok (.imul, 1)) (k : W p l e R s m args below meth c H locs cells slots Q (F0 m (pc + 1) ls (.int (nI (a * b)) :: rest))) : W p l e R s m args below meth c H locs cells slots Q (F0 m pc ls (.int (nI b) :: .int (nI a) :: rest)) := lv_imul hx hb hdg (x_e (pk_mul a b) k)
theorem x_rem (hx : p.tables.exec = Jvm.exec) (hb : c.code = cc) {a b : Nat} (ha : a < 2 ^ 31) (h0 : 0 < b) (hb2 : b < 2 ^ 31) (hdg : decode cc pc = .ok (.irem, 1)) (k : W p l e R s m args below meth c H locs cells slots Q (F0 m (pc + 1) ls (.int (nI (a % b)) :: rest))) : W p l e R s m args below meth c H locs cells slots Q (F0 m pc ls (.int (nI b) :: .int (nI a) :: rest)) := lv_irem hx hb hdg (nI_ne0 h0 hb2) (x_e (pk_rem ha h0 hb2) k)
theorem x_div (hx : p.tables.exec = Jvm.exec) (hb : c.code = cc) {a b : Nat} (ha : a < 2 ^ 31) (h0 : 0 < b) (hb2 : b < 2 ^ 31) (hdg : decode cc pc = .ok (.idiv, 1)) (k : W p l e R s m args below meth c H locs cells slots Q (F0 m (pc + 1) ls (.int (nI (a / b)) :: rest))) : W p l e R s m args below meth c H locs cells slots Q (F0 m pc ls (.int (nI b) :: .int (nI a) :: rest)) := lv_idiv hx hb hdg (nI_ne0 h0 hb2) (x_e (pk_div ha h0 hb2) k)
theorem x_iinc (hx : p.tables.exec = Jvm.exec) (hb : c.code = cc) {i nL k n a : Nat} {lv lv' : List (Nat × Value)} (hdg : decode cc pc = .ok (.iinc i n, 3)) (h : lv_has ls nL lv) (hk : lv[k]? = some (i, .int (nI a))) (hn : i < nL) (hl : (i, Value.int (nI (a + n))) :: lv.filter (fun q => !(q.1 == i) && !(q.1 + 1 == i && q.2.category == 2)) = lv')
    (kk : ∀ ls' : Array Slot, lv_has ls' nL lv' → W p l e R s m args below meth c H locs cells slots Q (F0 m (pc + 3) ls' rest)) : W p l e R s m args below meth c H locs cells slots Q (F0 m pc ls rest) := lv_iinc hx hb hdg h hk (by show nI a + Int32.ofInt (n : Int) = nI (a + n); rw [← nI_add]; rfl) hn hl kk
theorem x_hl {ls : Array Slot} {nL : Nat} {l l' : List (Nat × Value)} (h : lv_has ls nL l) (e : l = l') : lv_has ls nL l' := e ▸ h
theorem x_loop {σ : Type} {nL : Nat} {st : List Value} (I : σ → List (Nat × Value)) (P : σ → Prop) (μ : σ → Nat)
    (step : ∀ u : σ, P u → (∀ u' : σ, P u' → μ u' < μ u → ∀ ls : Array Slot, lv_has ls nL (I u') → W p l e R s m args below meth c H locs cells slots Q (F0 m pc ls st)) → ∀ ls : Array Slot, lv_has ls nL (I u) → W p l e R s m args below meth c H locs cells slots Q (F0 m pc ls st))
    (u0 : σ) (h0 : P u0) (ls : Array Slot) (hl : lv_has ls nL (I u0)) : W p l e R s m args below meth c H locs cells slots Q (F0 m pc ls st) := by
  have key : ∀ (n : Nat) (u : σ), μ u < n → P u → ∀ ls : Array Slot, lv_has ls nL (I u) → W p l e R s m args below meth c H locs cells slots Q (F0 m pc ls st) := by
    intro n
    induction n with
    | zero => intro u hu; omega
    | succ n ih => exact fun u hu hp => step u hp (fun u' hp' hm => ih u' (by omega) hp')
  exact key (μ u0 + 1) u0 (Nat.lt_succ_self _) h0 ls hl
theorem x_idec (hx : p.tables.exec = Jvm.exec) (hb : c.code = cc) {i nL k n a : Nat} {z : Int} {lv lv' : List (Nat × Value)} (hna : n ≤ a) (hdg : decode cc pc = .ok (.iinc i z, 3)) (hz : Int32.ofInt z = -nI n) (h : lv_has ls nL lv) (hk : lv[k]? = some (i, .int (nI a))) (hn : i < nL) (hl : (i, Value.int (nI (a - n))) :: lv.filter (fun q => !(q.1 == i) && !(q.1 + 1 == i && q.2.category == 2)) = lv')
    (kk : ∀ ls' : Array Slot, lv_has ls' nL lv' → W p l e R s m args below meth c H locs cells slots Q (F0 m (pc + 3) ls' rest)) : W p l e R s m args below meth c H locs cells slots Q (F0 m pc ls rest) := lv_iinc hx hb hdg h hk (by rw [hz, ← pk_sub hna, Int32.sub_eq_add_neg]) hn hl kk
/-! branches over numbers -/
theorem x_icge (hx : p.tables.exec = Jvm.exec) (hb : c.code = cc) {a b : Nat} (ha : a < 2 ^ 31) (hb2 : b < 2 ^ 31) {off : Int} {tgt : Nat} (hdg : decode cc pc = .ok (.if_icmp .ge off, 3)) (ht : (pc : Int) + off = (tgt : Int)) (kt : b ≤ a → W p l e R s m args below meth c H locs cells slots Q (F0 m tgt ls rest)) (kf : a < b → W p l e R s m args below meth c H locs cells slots Q (F0 m (pc + 3) ls rest)) : W p l e R s m args below meth c H locs cells slots Q (F0 m pc ls (.int (nI b) :: .int (nI a) :: rest)) :=
  lv_icmp_ge hx hb hdg ht (fun h => kt ((nI_leI hb2 ha).mp h)) (fun h => kf (Nat.not_le.mp fun q => h ((nI_leI hb2 ha).mpr q)))
theorem x_icgt (hx : p.tables.exec = Jvm.exec) (hb : c.code = cc) {a b : Nat} (ha : a < 2 ^ 31) (hb2 : b < 2 ^ 31) {off : Int} {tgt : Nat} (hdg : decode cc pc = .ok (.if_icmp .gt off, 3)) (ht : (pc : Int) + off = (tgt : Int)) (kt : b < a → W p l e R s m args below meth c H locs cells slots Q (F0 m tgt ls rest)) (kf : a ≤ b → W p l e R s m args below meth c H locs cells slots Q (F0 m (pc + 3) ls rest)) : W p l e R s m args below meth c H locs cells slots Q (F0 m pc ls (.int (nI b) :: .int (nI a) :: rest)) :=
  lv_icmp_gt hx hb hdg ht (fun h => kt ((nI_ltI hb2 ha).mp h)) (fun h => kf (Nat.not_lt.mp fun q => h ((nI_ltI hb2 ha).mpr q)))
theorem x_iclt (hx : p.tables.exec = Jvm.exec) (hb : c.code = cc) {a b : Nat} (ha : a < 2 ^ 31) (hb2 : b < 2 ^ 31) {off : Int} {tgt : Nat} (hdg : decode cc pc = .ok (.if_icmp .lt off, 3)) (ht : (pc : Int) + off = (tgt : Int)) (kt : a < b → W p l e R s m args below meth c H locs cells slots Q (F0 m tgt ls rest)) (kf : b ≤ a → W p l e R s m args below meth c H locs cells slots Q (F0 m (pc + 3) ls rest)) : W p l e R s m args below meth c H locs cells slots Q (F0 m pc ls (.int (nI b) :: .int (nI a) :: rest)) :=
  lv_icmp_lt hx hb hdg ht (fun h => kt ((nI_ltI ha hb2).mp h)) (fun h => kf (Nat.not_lt.mp fun q => h ((nI_ltI ha hb2).mpr q)))
theorem x_icle (hx : p.tables.exec = Jvm.exec) (hb : c.code = cc) {a b : Nat} (ha : a < 2 ^ 31) (hb2 : b < 2 ^ 31) {off : Int} {tgt : Nat} (hdg : decode cc pc = .ok (.if_icmp .le off, 3)) (ht : (pc : Int) + off = (tgt : Int)) (kt : a ≤ b → W p l e R s m args below meth c H locs cells slots Q (F0 m tgt ls rest)) (kf : b < a → W p l e R s m args below meth c H locs cells slots Q (F0 m (pc + 3) ls rest)) : W p l e R s m args below meth c H locs cells slots Q (F0 m pc ls (.int (nI b) :: .int (nI a) :: rest)) :=
  lv_icmp_le hx hb hdg ht (fun h => kt ((nI_leI ha hb2).mp h)) (fun h => kf (Nat.not_le.mp fun q => h ((nI_leI ha hb2).mpr q)))
theorem x_iceq (hx : p.tables.exec = Jvm.exec) (hb : c.code = cc) {a b : Nat} (ha : a < 2 ^ 31) (hb2 : b < 2 ^ 31) {off : Int} {tgt : Nat} (hdg : decode cc pc = .ok (.if_icmp .eq off, 3)) (ht : (pc : Int) + off = (tgt : Int)) (kt : a = b → W p l e R s m args below meth c H locs cells slots Q (F0 m tgt ls rest)) (kf : ¬ a = b → W p l e R s m args below meth c H locs cells slots Q (F0 m (pc + 3) ls rest)) : W p l e R s m args below meth c H locs cells slots Q (F0 m pc ls (.int (nI b) :: .int (nI a) :: rest)) :=
  lv_icmp_eq hx hb hdg ht (fun h => kt ((nI_eq ha hb2).mp h)) (fun h => kf fun q => h ((nI_eq ha hb2).mpr q))
theorem x_icne (hx : p.tables.exec = Jvm.exec) (hb : c.code = cc) {a b : Nat} (ha : a < 2 ^ 31) (hb2 : b < 2 ^ 31) {off : Int} {tgt : Nat} (hdg : decode cc pc = .ok (.if_icmp .ne off, 3)) (ht : (pc : Int) + off = (tgt : Int)) (kt : ¬ a = b → W p l e R s m args below meth c H locs cells slots Q (F0 m tgt ls rest)) (kf : a = b → W p l e R s m args below meth c H locs cells slots Q (F0 m (pc + 3) ls rest)) : W p l e R s m args below meth c H locs cells slots Q (F0 m pc ls (.int (nI b) :: .int (nI a) :: rest)) :=
  lv_icmp_ne hx hb hdg ht (fun h => kt fun q => h ((nI_eq ha hb2).mpr q)) (fun h => kf ((nI_eq ha hb2).mp h))
theorem x_ifeq (hx : p.tables.exec = Jvm.exec) (hb : c.code = cc) {a : Nat} (ha : a < 2 ^ 31) {off : Int} {tgt : Nat} (hdg : decode cc pc = .ok (.ifCond .eq off, 3)) (ht : (pc : Int) + off = (tgt : Int)) (kt : a = 0 → W p l e R s m args below meth c H locs cells slots Q (F0 m tgt ls rest)) (kf : 0 < a → W p l e R s m args below meth c H locs cells slots Q (F0 m (pc + 3) ls rest)) : W p l e R s m args below meth c H locs cells slots Q (F0 m pc ls (.int (nI a) :: rest)) :=
  lv_if_eq hx hb hdg ht (fun h => kt ((nI_eq ha (by decide)).mp h)) (fun h => kf (Nat.pos_of_ne_zero fun q => h (by rw [q]; rfl)))
theorem x_ifne (hx : p.tables.exec = Jvm.exec) (hb : c.code = cc) {a : Nat} (ha : a < 2 ^ 31) {off : Int} {tgt : Nat} (hdg : decode cc pc = .ok (.ifCond .ne off, 3)) (ht : (pc : Int) + off = (tgt : Int)) (kt : 0 < a → W p l e R s m args below meth c H locs cells slots Q (F0 m tgt ls rest)) (kf : a = 0 → W p l e R s m args below meth c H locs cells slots Q (F0 m (pc + 3) ls rest)) : W p l e R s m args below meth c H locs cells slots Q (F0 m pc ls (.int (nI a) :: rest)) :=
  lv_if_ne hx hb hdg ht (fun h => kt (Nat.pos_of_ne_zero fun q => h (by rw [q]; rfl))) (fun h => kf ((nI_eq ha (by decide)).mp h))
/-! cells -/
theorem x_get {own ref C : String} {T : u_T} {N ci a index nL : Nat} {fs : List Value} {Ts : List Cond} {v : Value} (S : CallFix p m c cc nL s args Ts own) (hin : ∀ w ∈ u_ws C T N, w ∈ Ts) (hK : xK Γ s) (hO : Ob Γ ci a fs H) (hc : vwCl[ci]? = some (C, T, N)) (k : Nat) (hk : k < N) (hlink : Cond.fieldLink own index ref (T k).2.1 (T k).2.2.1 ∈ Ts) (href : (T k).1 = ref) (hv : fs[k]? = some v) (hdg : decode cc pc = .ok (.getfield index, 3))
    (kk : W p l e R s m args below meth c H locs cells slots Q (F0 m (pc + 3) ls (v :: rest))) : W p l e R s m args below meth c H locs cells slots Q (F0 m pc ls (.ref a :: rest)) :=
  va_get (ws := [(a, .inr (ci, fs))]) S.1 S.2.1 S.2.2.2.2 hin S.2.2.2.1 hK (x_P1 hO) 0 rfl hc k hk (S.2.2.2.2 _ hlink) (fun x h => by rw [← href]; exact h) hv hdg kk
theorem x_iald (hx : p.tables.exec = Jvm.exec) (hb : c.code = cc) (hK : xK Γ s) {a n i : Nat} {f : Nat → Int32} (hA : Ai Γ a n f H) (hi : i < n) (hi2 : i < 2 ^ 31) (hdg : decode cc pc = .ok (.iaload, 1)) (k : W p l e R s m args below meth c H locs cells slots Q (F0 m (pc + 1) ls (.int (f i) :: rest))) : W p l e R s m args below meth c H locs cells slots Q (F0 m pc ls (.int (nI i) :: .ref a :: rest)) := by
  have hc : (nI i).toNatClampNeg = i := nI_clamp hi2
  refine va_iald (ws := [(a, .inl (Γ.2.1, n, .inl f))]) hx hb hK (x_P1 hA) 0 0 rfl rfl (by unfold vp_in; rw [hc]; intro q; rcases q with q | q; exact nI_pos hi2 q; omega) hdg ?_
  rw [hc]
  exact k
theorem x_zald (hx : p.tables.exec = Jvm.exec) (hb : c.code = cc) (hK : xK Γ s) {a n i : Nat} {f : Nat → Int32} (hA : Az Γ a n f H) (hi : i < n) (hi2 : i < 2 ^ 31) (hdg : decode cc pc = .ok (.baload, 1)) (k : W p l e R s m args below meth c H locs cells slots Q (F0 m (pc + 1) ls (.int (f i) :: rest))) : W p l e R s m args below meth c H locs cells slots Q (F0 m pc ls (.int (nI i) :: .ref a :: rest)) := by
  have hc : (nI i).toNatClampNeg = i := nI_clamp hi2
  refine va_zald (ws := [(a, .inl (Γ.2.2.1, n, .inl f))]) hx hb hK (x_P1 hA) 0 1 rfl rfl (by unfold vp_in; rw [hc]; intro q; rcases q with q | q; exact nI_pos hi2 q; omega) hdg ?_
  rw [hc]
  exact k
theorem x_aald (hx : p.tables.exec = Jvm.exec) (hb : c.code = cc) (hK : xK Γ s) {a n i : Nat} {f : Nat → Option Nat} (hA : Aq Γ a n f H) (hi : i < n) (hi2 : i < 2 ^ 31) (hdg : decode cc pc = .ok (.aaload, 1)) (k : W p l e R s m args below meth c H locs cells slots Q (F0 m (pc + 1) ls (va_rf (f i) :: rest))) : W p l e R s m args below meth c H locs cells slots Q (F0 m pc ls (.int (nI i) :: .ref a :: rest)) := by
  have hc : (nI i).toNatClampNeg = i := nI_clamp hi2
  refine va_aldq (ws := [(a, .inl (Γ.2.2.2, n, .inr (.inr (.inr (.inr f)))))]) hx hb hK (x_P1 hA) 0 2 rfl rfl (by unfold vp_in; rw [hc]; intro q; rcases q with q | q; exact nI_pos hi2 q; omega) hdg ?_
  rw [hc]
  exact k
/-! calls of methods that only read -/
theorem ro_run {v : Option Value} (hr : va_Run p l e R s m args below meth c H locs cells slots 0 0 (F0 m pc ls st0) rest (fun (st : State) (o : Outcome) (t : State) => o = .returned v ∧ t.heap = st.heap) (fun _ => False)) (k : W p l e R s m args below meth c H locs cells slots Q (F0 m (pc + 3) ls (v.toList ++ rest))) : W p l e R s m args below meth c H locs cells slots Q (F0 m pc ls st0) := by
  intro T hT X
  obtain ⟨v', st₀, t, T', L, h0, X', hL, e1, -, ⟨hv, hh⟩, st⟩ := hr T hT X
  cases hv
  obtain ⟨t2, a1, b1⟩ := k T' (by rw [e1, hh, h0]) (Stand.forget X' (fun q h => (hL q h).elim))
  exact ⟨t2, st t2 a1, b1⟩
theorem ro_V {own C : String} {index maxL nL n b : Nat} {y : MethodName} {bytes : ByteArray} {ret : Option FieldType} {Ts wsy : List Cond} {rm : Room} {Pre : Heap → Prop} {v : Option Value} {As : List Value} (S : CallFix p m c cc nL s args Ts own) (hK : xK Γ s) (hM : Ro l y wsy rm Γ (.ref b :: As) Pre v) (cw : CallW R s args own C index y bytes maxL ret wsy rm 0 0 n) (hrec : ∃ cell : Cell, H[b]? = some cell ∧ cell.vm.isStatics = false ∧ s.vm.findClass C = some cell.cls) (hpre : Pre H) (hn : As.length = n) (hsz : ls.size = nL) (hst : st0 = As.reverse ++ .ref b :: rest) (hW : (rest.map fun v => v.category).sum ≤ 8) (hdg : decode cc pc = .ok (.invokevirtual index, 3)) (hf : cells ≤ R.cells ∧ slots ≤ R.slots)
    (k : W p l e R s m args below meth c H locs cells slots Q (F0 m (pc + 3) ls (v.toList ++ rest))) : W p l e R s m args below meth c H locs cells slots Q (F0 m pc ls st0) := by
  subst hst
  exact ro_run (va_runV S hM cw ⟨x_blind, hrec, fun U hU hW => ⟨rfl, hK.moved hW.alike, by rw [hU]; exact hpre⟩⟩ rfl hn hsz rfl (lv_room hW) hdg hf) k
theorem ro_S {own : String} {index maxL nL n : Nat} {y : MethodName} {bytes : ByteArray} {ret : Option FieldType} {Ts wsy : List Cond} {rm : Room} {Pre : Heap → Prop} {v : Option Value} {As : List Value} (S : CallFix p m c cc nL s args Ts own) (hK : xK Γ s) (hM : Ro l y wsy rm Γ As Pre v) (cw : CallB R s args own index y bytes maxL ret wsy rm 0 0 n ∧ (Cond.static y).before args s = true) (hpre : Pre H) (hn : As.length = n) (hsz : ls.size = nL) (hst : st0 = As.reverse ++ rest) (hW : (rest.map fun v => v.category).sum ≤ 8) (hdg : decode cc pc = .ok (.invokestatic index, 3)) (hf : cells ≤ R.cells ∧ slots ≤ R.slots)
    (k : W p l e R s m args below meth c H locs cells slots Q (F0 m (pc + 3) ls (v.toList ++ rest))) : W p l e R s m args below meth c H locs cells slots Q (F0 m pc ls st0) := by
  subst hst
  exact ro_run (va_runS S hM cw ⟨x_blind, fun U hU hW => ⟨rfl, hK.moved hW.alike, by rw [hU]; exact hpre⟩⟩ rfl hn hsz rfl (lv_room hW) hdg hf) k
theorem ro_iret {r : Int32} {free : Addr → Prop} (hx : p.tables.exec = Jvm.exec) (hb : c.code = cc) (hr : meth.sig.returnType = some .int) (hlk : meth.locks = false) (hdg : decode cc pc = .ok (.ireturn, 1)) : W p l e R s m args below meth c s.heap [] cells slots (MQ below (fun _ st o t => o = .returned (some (.int r)) ∧ t.heap = st.heap) args s cells slots free) (F0 m pc ls [.int r]) :=
  W.iret hx hb hr (fun t ht _ => ⟨rfl, ht⟩) (fun _ h => by cases h) hdg hlk
theorem x_nz {a : Nat} (h : a ≤ 1) : narrow .boolean (.int (nI a)) = .int (nI a) := by
  rcases (show a = 0 ∨ a = 1 by omega) with rfl | rfl <;> decide +kernel
theorem ro_zret {a : Nat} {free : Addr → Prop} (ha : a ≤ 1) (hx : p.tables.exec = Jvm.exec) (hb : c.code = cc) (hr : meth.sig.returnType = some .boolean) (hlk : meth.locks = false) (hdg : decode cc pc = .ok (.ireturn, 1)) : W p l e R s m args below meth c s.heap [] cells slots (MQ below (fun _ st o t => o = .returned (some (.int (nI a))) ∧ t.heap = st.heap) args s cells slots free) (F0 m pc ls [.int (nI a)]) :=
  W.zret hx hb hr (x_nz ha) (fun t ht _ => ⟨rfl, ht⟩) (fun _ h => by cases h) hdg hlk
end XW
