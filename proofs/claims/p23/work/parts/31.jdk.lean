/-! comparing two equal rows of 60 ints, as the JDK does it -/
def yGL : MethodName := ⟨RJx9a822, "getLong", "(Ljava/lang/Object;J)J"⟩
theorem yGL_desc : parseMethodDescriptor yGL.desc = some { parameters := [.object "java/lang/Object", .long], returnType := some .long } := by decide +kernel
/-- Unsafe, the row, which pair, its two ints, the offset -/
abbrev nG : Type := Nat × Nat × Nat × Int32 × Int32 × Int64
def nP (g : nG) (a : Array Value) (U : State) : Prop := a = #[.ref g.1, .ref g.2.1, .long g.2.2.2.2.2] ∧ (∃ (A : Cell) (k : Class) (comp : ClassId), U.heap[g.2.1]? = some A ∧ A.vm = .none ∧ U.vm.classes[A.cls]? = some k ∧ k.kind = .array comp .int ∧ A.slots[2 * g.2.2.1]? = some (.int g.2.2.2.1) ∧ A.slots[2 * g.2.2.1 + 1]? = some (.int g.2.2.2.2.1)) ∧ ¬ g.2.2.2.2.2 < 0 ∧ g.2.2.2.2.2.toNatClampNeg = 16 + 8 * g.2.2.1
theorem n_pays {l : Launch} {R : Room} {p : Program} {e : Env} {below : List Frame} {s : State} {sargs : Array Value} {len W : Nat} (hnat : (Cond.native yGL).before sargs s = true) (hinst : (Cond.instanceMethod yGL).before sargs s = true) (hfr : 1 ≤ R.frames) (hlo : W + 17 ≤ R.locals) :
    Back l R p e below s sargs yGL len W (fun A a => ∃ g : nG, nP g a A.U) (fun A a v B => B = A ∧ ∀ g : nG, nP g a A.U → v = some (.long (gL g.2.2.2.1 g.2.2.2.2.1))) :=
  Back.of_nativeQ (P := nP) (val := fun g : nG => some (.long (gL g.2.2.2.1 g.2.2.2.2.1))) (words := 4) (n_row p) (nativeInstance hnat hinst yGL_desc) hfr (by rw [show nativeFrameWords yGL.cls yGL.name 4 = 6 from by decide +kernel]; omega) fun g U a m _ hst hps hP => by
    obtain ⟨u, arr, i, x, y, off⟩ := g
    obtain ⟨rfl, ⟨A, k, comp, hA, hvm, hk, hkind, h0, h1⟩, hneg, hoff⟩ := hP
    dsimp only at hA hvm hk hkind h0 h1 hneg hoff
    refine ⟨rfl, by simp [seenByNative, hst, hps, narrow], fun fs Q hq => ?_⟩
    show wp (do let v ← UnsafeMem.get .long (.ref arr) off .plain; mark "nat.jdk_internal_misc_Unsafe.get"; Pure.pure (some v)) Q _ e false [] (U.setFrames fs)
    simp only [wp_bind']
    refine n_get (s := U.setFrames fs) (A := A) (k := k) (comp := comp) (i := i) hA hvm hk hkind hneg hoff h0 h1 fun d' acts' => ?_
    simp
    exact hq _ _
section NC
variable {p : Program} {l : Launch} {e : Env} {R : Room} {s : State} {m : MethodId} {args : Array Value} {below : List Frame} {meth : Method} {c : Code} {H : Heap} {locs : List Loc} {cells slots : Nat} {Q : State → Prop}
variable {cc : ByteArray} {pc : Nat} {ls : Array Slot} {rest : List Value} {Γ : GG}
theorem n_call {index nL u a n i : Nat} {f : Nat → Int32} {off : Int64} {own : String} {Ts : List Cond} (S : CallFix p m c cc nL s args Ts own) (hK : xK Γ s) (hlink : (Cond.methodLink own index yGL).before args s = true) (hinst : (Cond.instanceMethod yGL).before args s = true) (hsel : (Cond.selects RJx9a822 yGL yGL).before args s = true) (hnat : (Cond.native yGL).before args s = true)
    (hu : ∃ cell : Cell, H[u]? = some cell ∧ cell.vm.isStatics = false ∧ s.vm.findClass RJx9a822 = some cell.cls) (hA : Ai Γ a n f H) (hi : 2 * i + 1 < n) (hneg : ¬ off < 0) (hoff : off.toNatClampNeg = 16 + 8 * i) (hsz : ls.size = nL) (hW : (rest.map fun v => v.category).sum ≤ 8) (hdg : decode cc pc = .ok (.invokevirtual index, 3)) (hfr : 1 ≤ R.frames) (hlo : 25 ≤ R.locals)
    (k : W p l e R s m args below meth c H locs cells slots Q (F0 m (pc + 3) ls (.long (gL (f (2 * i)) (f (2 * i + 1))) :: rest))) : W p l e R s m args below meth c H locs cells slots Q (F0 m pc ls (.long off :: .ref a :: .ref u :: rest)) := by
  obtain ⟨hx, hb, hml, hown, -⟩ := S
  intro T hT X
  obtain ⟨cellB, hcB, hoB, hclB⟩ := hu
  have hcell : T.heap[u]? = some cellB := by rw [hT]; exact hcB
  obtain ⟨mk, methM, hnamed, hmethM, hstM, habM⟩ := Cond.instanceMethod_spec hinst
  obtain ⟨mk', methM', hnamed', hmethM', -, -, -, hsigM⟩ := Cond.native_spec hnat
  cases hnamed.symm.trans hnamed'
  cases hmethM.symm.trans hmethM'
  obtain ⟨c2, r2, m2, q1, q2, q3, q4, kP, hkP, hkPi⟩ := Cond.selects_spec hsel
  have hy : yGL.cls ≠ "java/lang/invoke/MethodHandle" ∧ yGL.cls ≠ "java/lang/invoke/VarHandle" := by decide
  cases hclB.symm.trans q1
  cases (State.methodFound?_of_named hnamed hy).symm.trans q2
  cases hnamed.symm.trans q3
  have hselP : selectMethod e.platform s.vm cellB.cls mk = .method mk := by rw [Launch.admits_selectMethod X.admits]; exact q4
  have hlen : ([.ref a, .long off] : List Value).length = methM.sig.parameters.length := by
    have h9 := yGL_desc.symm.trans hsigM
    rw [← Option.some.inj h9]
    rfl
  obtain ⟨vm₁, X₁, hstep₁⟩ := X.invokevirtual hx hown hlink hnamed hmethM hstM hkP hkPi hy (a := u) (cell := cellB) hcell
    (fun z h => by rw [h] at hoB; cases hoB) hselP hmethM habM hkP hkPi (g := F0 m pc ls (.long off :: .ref a :: .ref u :: rest)) rfl (argsL := [.ref a, .long off]) (rest := rest) hlen rfl (by rw [hb]; exact hdg)
  have hK1 := xK.moved (U := T.setVm vm₁) X₁.warmed.alike hK
  obtain ⟨-, k9, hk9, comp, hkind⟩ := (hK1.2 0 _ rfl).1 n (fun j => .int (f j))
  have hP : nP (u, a, i, f (2 * i), f (2 * i + 1), off) (Value.ref u :: [.ref a, .long off]).toArray (T.setVm vm₁) := by
    refine ⟨rfl, ⟨arrV Γ.2.1 n (fun j => .int (f j)), k9, comp, ?_, rfl, hk9, hkind, arrV_read _ _ (show 2 * i < n by omega), arrV_read _ _ hi⟩, hneg, hoff⟩
    show T.heap[a]? = _
    rw [hT]
    exact hA
  have hB := n_pays (l := l) (R := R) (p := p) (e := e) (below := below) (s := s) (sargs := args) (len := 3) (W := 8) hnat hinst hfr hlo
  obtain ⟨v, B, X', hpost, hsteps⟩ := hB m meth c ⟨T.setVm vm₁, locs, cells, slots⟩ { F0 m pc ls (.long off :: .ref a :: .ref u :: rest) with stack := rest } (.invokevirtual index) mk (Value.ref u :: [.ref a, .long off]).toArray X₁ rfl (hsz.trans hml.symm) (by rw [hb]; exact hdg) (lv_room hW) (X₁.named hnamed) ⟨_, hP⟩
  obtain ⟨rfl, hv⟩ := hpost
  obtain rfl := hv _ hP
  obtain ⟨t, a1, b1⟩ := k (T.setVm vm₁) hT X'
  exact ⟨t, hstep₁ _ fun acts => by rw [doInvoke_state]; exact hsteps.trans a1, b1⟩
theorem x_lcmp (hexec : p.tables.exec = Jvm.exec) (hb : c.code = cc) {x y : Int64} {v : Int32} (hdg : decode cc pc = .ok (.lcmp, 1)) (hv : (if x > y then (1 : Int32) else if x == y then 0 else -1) = v)
    (k : W p l e R s m args below meth c H locs cells slots Q (F0 m (pc + 1) ls (.int v :: rest))) : W p l e R s m args below meth c H locs cells slots Q (F0 m pc ls (.long y :: .long x :: rest)) := by
  intro T hT X
  obtain ⟨t, a, b⟩ := k T hT X
  refine ⟨t, ?_, b⟩
  rw [← hv] at a
  jvm_step X.here [X.here.top, hexec, hb, hdg]
  by_cases h1 : x > y
  · rw [if_pos h1] at a ⊢
    exact a
  · rw [if_neg h1] at a ⊢
    by_cases h2 : (x == y) = true
    · rw [if_pos h2] at a
      have h3 : x = y := eq_of_beq h2
      first | (rw [if_pos h2]; exact a) | (rw [if_pos h3]; exact a)
    · rw [if_neg h2] at a
      have h3 : ¬ x = y := fun e => h2 (by rw [e]; exact beq_self_eq_true y)
      first | (rw [if_neg h2]; exact a) | (rw [if_neg h3]; exact a)
end NC
theorem lcmp_eq (x : Int64) : (if x > x then (1 : Int32) else if x == x then 0 else -1) = nI 0 := by
  rw [if_neg (fun h => Int64.lt_irrefl h), if_pos (beq_self_eq_true x)]
  rfl
def o16 : Int64 := (nI 16).toInt64
def bO (i : Nat) : Int64 := (nI i).toInt64 <<< ((nI 3).toInt64 &&& 63)
theorem o_all : (List.range 30).all (fun i => decide (¬ o16 + bO i < 0) && (decide ((o16 + bO i).toNatClampNeg = 16 + 8 * i) && decide ((o16 + bO i) &&& 7 = 0))) = true := by decide +kernel
theorem o_ok {i : Nat} (h : i < 30) : ¬ o16 + bO i < 0 ∧ (o16 + bO i).toNatClampNeg = 16 + 8 * i ∧ (o16 + bO i) &&& 7 = 0 := by
  have h1 := List.all_eq_true.mp o_all i (List.mem_range.mpr h)
  rw [Bool.and_eq_true, Bool.and_eq_true] at h1
  exact ⟨of_decide_eq_true h1.1, of_decide_eq_true h1.2.1, of_decide_eq_true h1.2.2⟩
abbrev yGU : MethodName := yJx9a822_getLongUnaligned_f02c6
abbrev yVM : MethodName := yJ8_vectorizedMismatch_456ae
abbrev yMM : MethodName := yJ8_mismatch_05dfe
abbrev yAE : MethodName := yJ7_equals_bbcde
def wsGU : List Cond := .code yGU cJx9a822_getLongUnaligned_f02c6 4 (some .long) :: [.constantLong RJx9a822 696 7, .methodLink RJx9a822 27 yGL, .instanceMethod yGL, .selects RJx9a822 yGL yGL, .native yGL]
def wsVM : List Cond := .code yVM cJ8_vectorizedMismatch_456ae 19 (some .int) :: ([.fieldLink RJ8 20 "jdk/internal/util/ArraysSupport" "LOG2_ARRAY_LONG_INDEX_SCALE" "I", .fieldLink RJ8 26 "jdk/internal/util/ArraysSupport" "U" "Ljdk/internal/misc/Unsafe;", .fieldLink RJ8 51 "jdk/internal/util/ArraysSupport" "LOG2_ARRAY_INT_INDEX_SCALE" "I"] ++ wsV RJ8 30 RJx9a822 yGU wsGU)
def wsMM : List Cond := .code yMM cJ8_mismatch_05dfe 4 (some .int) :: ([.fieldLink RJ8 144 "jdk/internal/misc/Unsafe" "ARRAY_INT_BASE_OFFSET" "I", .fieldLink RJ8 51 "jdk/internal/util/ArraysSupport" "LOG2_ARRAY_INT_INDEX_SCALE" "I"] ++ va_wsS RJ8 122 yVM wsVM)
def wsAE : List Cond := .code yAE cJ7_equals_bbcde 3 (some .boolean) :: va_wsS RJ7 254 yMM wsMM
set_option maxRecDepth 100000 in
theorem gVM_GU : GoodIn wsVM (wsV RJ8 30 RJx9a822 yGU wsGU) := goodIn_sub (fun _ h => List.mem_cons_of_mem _ (List.mem_append_right _ h)) (by decide +kernel)
set_option maxRecDepth 100000 in
theorem gMM_VM : GoodIn wsMM (va_wsS RJ8 122 yVM wsVM) := goodIn_sub (fun _ h => List.mem_cons_of_mem _ (List.mem_append_right _ h)) (by decide +kernel)
set_option maxRecDepth 100000 in
theorem gAE_MM : GoodIn wsAE (va_wsS RJ7 254 yMM wsMM) := goodIn_sub (fun _ h => List.mem_cons_of_mem _ h) (by decide +kernel)
def xU (u : Nat) (U : State) : Prop := ∃ cell : Cell, U.heap[u]? = some cell ∧ cell.vm.isStatics = false ∧ U.vm.findClass RJx9a822 = some cell.cls
set_option maxHeartbeats 4000000 in
set_option maxRecDepth 100000 in
theorem c_GU (l : Launch) (Γ : GG) (u a n i : Nat) (f : Nat → Int32) (hi : i < 30) (hn : 2 * i + 1 < n) : Met l yGU wsGU ({ frames := 1, cells := 0, slots := 0, locals := 25 }) (va_Pc [.ref u, .ref a, .long (o16 + bO i)] (fun U => xK Γ U ∧ xU u U ∧ Ai Γ a n f U.heap)) (fun _ st o t => ∃ v, o = .returned v ∧ (v = some (.long (gL (f (2 * i)) (f (2 * i + 1)))) ∧ t.heap = st.heap)) 0 0 (fun _ => False) := by
  refine va_MetF (cc := cJx9a822_getLongUnaligned_f02c6) (maxL := 4) (ret := some .long) (by decide +kernel) rfl ?_
  intro p e s m args below meth c s₁ B hml hv
  obtain ⟨rfl, hK, hU, hA⟩ := hv
  rw [lg_entry_eq]
  have S : CallFix p m c cJx9a822_getLongUnaligned_f02c6 4 s ([.ref u, .ref a, .long (o16 + bO i)] : List Value).toArray wsGU yGU.cls := ⟨B.exec, B.bytes, hml, findClass_of_methodNamed B.named, atoms_spec (ws := wsGU) B.pre⟩
  obtain ⟨hx, hb, hml, hown, hts⟩ := id S
  have hr := B.returns
  have hlk := B.notSynchronized
  obtain ⟨h1, h2, h3⟩ := o_ok hi
  have key : ∀ ls : Array Slot, lv_has ls 4 [(0, .ref u), (1, .ref a), (2, .long (o16 + bO i))] → W p l e { frames := 1, cells := 0, slots := 0, locals := 25 } s m ([.ref u, .ref a, .long (o16 + bO i)] : List Value).toArray below meth c s.heap [] 0 0 (MQ below (fun _ st o t => ∃ v, o = .returned v ∧ (v = some (.long (gL (f (2 * i)) (f (2 * i + 1)))) ∧ t.heap = st.heap)) ([.ref u, .ref a, .long (o16 + bO i)] : List Value).toArray s 0 0 (fun _ => False)) (F0 m 0 ls []) := by
    intro ls hl
    refine lv_lload_n hx hb dJx9a822_getLongUnaligned_f02c6_0 rfl (lv_at hl 2 rfl) ?_
    refine lv_ldc2 hx hb hown (v := 7) (hts _ (by decide +kernel)) dJx9a822_getLongUnaligned_f02c6_1 ?_
    refine lv_land hx hb dJx9a822_getLongUnaligned_f02c6_4 ?_
    refine lv_lconst (v := 0) hx hb dJx9a822_getLongUnaligned_f02c6_5 (by decide +kernel) ?_
    refine x_lcmp (v := nI 0) hx hb dJx9a822_getLongUnaligned_f02c6_6 (by rw [h3]; exact lcmp_eq 0) ?_
    refine x_ifne hx hb (by omega) (tgt := 17) dJx9a822_getLongUnaligned_f02c6_7 (by decide) (fun c_1 => absurd c_1 (by decide)) (fun c_1 => ?_)
    refine lv_aload_n hx hb dJx9a822_getLongUnaligned_f02c6_10 rfl (lv_at hl 0 rfl) ?_
    refine lv_aload_n hx hb dJx9a822_getLongUnaligned_f02c6_11 rfl (lv_at hl 1 rfl) ?_
    refine lv_lload_n hx hb dJx9a822_getLongUnaligned_f02c6_12 rfl (lv_at hl 2 rfl) ?_
    refine n_call (i := i) S hK (hts _ (by decide +kernel)) (hts _ (by decide +kernel)) (hts _ (by decide +kernel)) (hts _ (by decide +kernel)) hU hA hn h1 h2 hl.1 (Nat.le_of_ble_eq_true rfl) dJx9a822_getLongUnaligned_f02c6_13 (Nat.le_of_ble_eq_true rfl) (Nat.le_of_ble_eq_true rfl) ?_
    exact W.lret hx hb hr (fun t ht _ => ⟨_, rfl, rfl, ht⟩) (fun _ h => by cases h) dJx9a822_getLongUnaligned_f02c6_16 hlk
  exact key _ (lv_entry [.ref u, .ref a, .long (o16 + bO i)] (Nat.le_of_ble_eq_true rfl))
