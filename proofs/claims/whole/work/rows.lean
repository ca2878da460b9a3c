section
-- ===== PART A: goes FIRST, ahead of the names: the tables' words, and 'selects' of the private methods out of them =====
/-- a private method of a class that the tables say can be made, by its rows of tables_1 -/
def lw_okq (q : MethodName × Nat) : Prop := (q.1.cls ≠ "java/lang/invoke/MethodHandle" ∧ q.1.cls ≠ "java/lang/invoke/VarHandle") ∧ Cond.instantiable q.1.cls q.2 ∈ tables_1 ∧ Cond.privateMethod q.1 ∈ tables_1 ∧ Cond.instanceMethod q.1 ∈ tables_1
theorem lw_p0 : lw_okq (⟨"RuneSticks", "howManyThere", "()I"⟩, 3) := ⟨⟨by decide +kernel, by decide +kernel⟩, List.mem_of_getElem? (i := 13) (by decide +kernel), List.mem_of_getElem? (i := 37) (by decide +kernel), List.mem_of_getElem? (i := 38) (by decide +kernel)⟩
theorem lw_p1 : lw_okq (⟨"RuneSticks", "thereOrNull", "(I)LRuneSticks$Stick;"⟩, 3) := ⟨⟨by decide +kernel, by decide +kernel⟩, List.mem_of_getElem? (i := 13) (by decide +kernel), List.mem_of_getElem? (i := 41) (by decide +kernel), List.mem_of_getElem? (i := 42) (by decide +kernel)⟩
theorem lw_p2 : lw_okq (⟨"RuneSticks", "stickOrNull", "(I)LRuneSticks$Stick;"⟩, 3) := ⟨⟨by decide +kernel, by decide +kernel⟩, List.mem_of_getElem? (i := 13) (by decide +kernel), List.mem_of_getElem? (i := 45) (by decide +kernel), List.mem_of_getElem? (i := 46) (by decide +kernel)⟩
theorem lw_p3 : lw_okq (⟨"RuneSticks", "sumThere", "(I)I"⟩, 3) := ⟨⟨by decide +kernel, by decide +kernel⟩, List.mem_of_getElem? (i := 13) (by decide +kernel), List.mem_of_getElem? (i := 49) (by decide +kernel), List.mem_of_getElem? (i := 50) (by decide +kernel)⟩
theorem lw_p4 : lw_okq (⟨"RuneSticks", "total", "(I)I"⟩, 3) := ⟨⟨by decide +kernel, by decide +kernel⟩, List.mem_of_getElem? (i := 13) (by decide +kernel), List.mem_of_getElem? (i := 91) (by decide +kernel), List.mem_of_getElem? (i := 92) (by decide +kernel)⟩
theorem lw_p5 : lw_okq (⟨"RuneSticks", "fittingPairs", "()I"⟩, 3) := ⟨⟨by decide +kernel, by decide +kernel⟩, List.mem_of_getElem? (i := 13) (by decide +kernel), List.mem_of_getElem? (i := 95) (by decide +kernel), List.mem_of_getElem? (i := 96) (by decide +kernel)⟩
theorem lw_p6 : lw_okq (⟨"RuneSticks", "fittingBehind", "(LRuneSticks$Stick;)I"⟩, 3) := ⟨⟨by decide +kernel, by decide +kernel⟩, List.mem_of_getElem? (i := 13) (by decide +kernel), List.mem_of_getElem? (i := 99) (by decide +kernel), List.mem_of_getElem? (i := 100) (by decide +kernel)⟩
theorem lw_p7 : lw_okq (⟨"java/lang/Throwable", "fillInStackTrace", "(I)Ljava/lang/Throwable;"⟩, 6) := ⟨⟨by decide +kernel, by decide +kernel⟩, List.mem_of_getElem? (i := 164) (by decide +kernel), List.mem_of_getElem? (i := 162) (by decide +kernel), List.mem_of_getElem? (i := 163) (by decide +kernel)⟩
theorem lw_p8 : lw_okq (⟨"RuneSticks", "needNumbersLeft", "(I)V"⟩, 3) := ⟨⟨by decide +kernel, by decide +kernel⟩, List.mem_of_getElem? (i := 13) (by decide +kernel), List.mem_of_getElem? (i := 210) (by decide +kernel), List.mem_of_getElem? (i := 211) (by decide +kernel)⟩
theorem lw_p9 : lw_okq (⟨"RuneSticks", "put", "(LRuneSticks$Stick;)I"⟩, 3) := ⟨⟨by decide +kernel, by decide +kernel⟩, List.mem_of_getElem? (i := 13) (by decide +kernel), List.mem_of_getElem? (i := 255) (by decide +kernel), List.mem_of_getElem? (i := 256) (by decide +kernel)⟩
theorem lw_p10 : lw_okq (⟨"RuneSticks", "known", "(I)LRuneSticks$Stick;"⟩, 3) := ⟨⟨by decide +kernel, by decide +kernel⟩, List.mem_of_getElem? (i := 13) (by decide +kernel), List.mem_of_getElem? (i := 267) (by decide +kernel), List.mem_of_getElem? (i := 268) (by decide +kernel)⟩
theorem lw_p11 : lw_okq (⟨"RuneSticks", "breakAt", "(LRuneSticks$Stick;I)I"⟩, 3) := ⟨⟨by decide +kernel, by decide +kernel⟩, List.mem_of_getElem? (i := 13) (by decide +kernel), List.mem_of_getElem? (i := 344) (by decide +kernel), List.mem_of_getElem? (i := 345) (by decide +kernel)⟩
theorem lw_p12 : lw_okq (⟨"RuneSticks", "joinBoth", "(LRuneSticks$Stick;LRuneSticks$Stick;II)I"⟩, 3) := ⟨⟨by decide +kernel, by decide +kernel⟩, List.mem_of_getElem? (i := 13) (by decide +kernel), List.mem_of_getElem? (i := 368) (by decide +kernel), List.mem_of_getElem? (i := 369) (by decide +kernel)⟩
theorem lw_p13 : lw_okq (⟨"RuneSticksModel", "no", "(I)I"⟩, 13) := ⟨⟨by decide +kernel, by decide +kernel⟩, List.mem_of_getElem? (i := 497) (by decide +kernel), List.mem_of_getElem? (i := 554) (by decide +kernel), List.mem_of_getElem? (i := 555) (by decide +kernel)⟩
theorem lw_p14 : lw_okq (⟨"RuneSticksModel", "there", "()I"⟩, 13) := ⟨⟨by decide +kernel, by decide +kernel⟩, List.mem_of_getElem? (i := 497) (by decide +kernel), List.mem_of_getElem? (i := 558) (by decide +kernel), List.mem_of_getElem? (i := 559) (by decide +kernel)⟩
theorem lw_p15 : lw_okq (⟨"RuneSticksModel", "add", "(IIII)I"⟩, 13) := ⟨⟨by decide +kernel, by decide +kernel⟩, List.mem_of_getElem? (i := 497) (by decide +kernel), List.mem_of_getElem? (i := 562) (by decide +kernel), List.mem_of_getElem? (i := 563) (by decide +kernel)⟩
def lw_privs_1 : List (MethodName × Nat) := [(⟨"RuneSticks", "howManyThere", "()I"⟩, 3), (⟨"RuneSticks", "thereOrNull", "(I)LRuneSticks$Stick;"⟩, 3), (⟨"RuneSticks", "stickOrNull", "(I)LRuneSticks$Stick;"⟩, 3), (⟨"RuneSticks", "sumThere", "(I)I"⟩, 3), (⟨"RuneSticks", "total", "(I)I"⟩, 3), (⟨"RuneSticks", "fittingPairs", "()I"⟩, 3), (⟨"RuneSticks", "fittingBehind", "(LRuneSticks$Stick;)I"⟩, 3), (⟨"java/lang/Throwable", "fillInStackTrace", "(I)Ljava/lang/Throwable;"⟩, 6), (⟨"RuneSticks", "needNumbersLeft", "(I)V"⟩, 3), (⟨"RuneSticks", "put", "(LRuneSticks$Stick;)I"⟩, 3), (⟨"RuneSticks", "known", "(I)LRuneSticks$Stick;"⟩, 3), (⟨"RuneSticks", "breakAt", "(LRuneSticks$Stick;I)I"⟩, 3), (⟨"RuneSticks", "joinBoth", "(LRuneSticks$Stick;LRuneSticks$Stick;II)I"⟩, 3), (⟨"RuneSticksModel", "no", "(I)I"⟩, 13), (⟨"RuneSticksModel", "there", "()I"⟩, 13), (⟨"RuneSticksModel", "add", "(IIII)I"⟩, 13)]
theorem lw_r1 : ∀ q ∈ lw_privs_1, lw_okq q := List.forall_mem_cons.mpr ⟨lw_p0, List.forall_mem_cons.mpr ⟨lw_p1, List.forall_mem_cons.mpr ⟨lw_p2, List.forall_mem_cons.mpr ⟨lw_p3, List.forall_mem_cons.mpr ⟨lw_p4, List.forall_mem_cons.mpr ⟨lw_p5, List.forall_mem_cons.mpr ⟨lw_p6, List.forall_mem_cons.mpr ⟨lw_p7, List.forall_mem_cons.mpr ⟨lw_p8, List.forall_mem_cons.mpr ⟨lw_p9, List.forall_mem_cons.mpr ⟨lw_p10, List.forall_mem_cons.mpr ⟨lw_p11, List.forall_mem_cons.mpr ⟨lw_p12, List.forall_mem_cons.mpr ⟨lw_p13, List.forall_mem_cons.mpr ⟨lw_p14, List.forall_mem_cons.mpr ⟨lw_p15, fun _ h => absurd h List.not_mem_nil⟩⟩⟩⟩⟩⟩⟩⟩⟩⟩⟩⟩⟩⟩⟩⟩
theorem lw_p16 : lw_okq (⟨"RuneSticksModel", "isSpot", "(III)Z"⟩, 13) := ⟨⟨by decide +kernel, by decide +kernel⟩, List.mem_of_getElem? (i := 497) (by decide +kernel), List.mem_of_getElem? (i := 570) (by decide +kernel), List.mem_of_getElem? (i := 571) (by decide +kernel)⟩
theorem lw_p17 : lw_okq (⟨"RuneSticksModel", "isStick", "(I)Z"⟩, 13) := ⟨⟨by decide +kernel, by decide +kernel⟩, List.mem_of_getElem? (i := 497) (by decide +kernel), List.mem_of_getElem? (i := 574) (by decide +kernel), List.mem_of_getElem? (i := 575) (by decide +kernel)⟩
theorem lw_p18 : lw_okq (⟨"RuneSticksModel", "weakest", "(I)I"⟩, 13) := ⟨⟨by decide +kernel, by decide +kernel⟩, List.mem_of_getElem? (i := 497) (by decide +kernel), List.mem_of_getElem? (i := 599) (by decide +kernel), List.mem_of_getElem? (i := 600) (by decide +kernel)⟩
theorem lw_p19 : lw_okq (⟨"RuneSticksModel", "strong", "(II)I"⟩, 13) := ⟨⟨by decide +kernel, by decide +kernel⟩, List.mem_of_getElem? (i := 497) (by decide +kernel), List.mem_of_getElem? (i := 603) (by decide +kernel), List.mem_of_getElem? (i := 604) (by decide +kernel)⟩
theorem lw_p20 : lw_okq (⟨"RuneSticksModel", "runesAt", "(II)I"⟩, 13) := ⟨⟨by decide +kernel, by decide +kernel⟩, List.mem_of_getElem? (i := 497) (by decide +kernel), List.mem_of_getElem? (i := 607) (by decide +kernel), List.mem_of_getElem? (i := 608) (by decide +kernel)⟩
theorem lw_p21 : lw_okq (⟨"RuneSticksModel", "lay", "(IIIIII)V"⟩, 13) := ⟨⟨by decide +kernel, by decide +kernel⟩, List.mem_of_getElem? (i := 497) (by decide +kernel), List.mem_of_getElem? (i := 612) (by decide +kernel), List.mem_of_getElem? (i := 613) (by decide +kernel)⟩
theorem lw_p22 : lw_okq (⟨"RuneSticksModel", "fit", "(II)Z"⟩, 13) := ⟨⟨by decide +kernel, by decide +kernel⟩, List.mem_of_getElem? (i := 497) (by decide +kernel), List.mem_of_getElem? (i := 620) (by decide +kernel), List.mem_of_getElem? (i := 621) (by decide +kernel)⟩
theorem lw_p23 : lw_okq (⟨"RuneSticksModel", "stickTold", "(II)I"⟩, 13) := ⟨⟨by decide +kernel, by decide +kernel⟩, List.mem_of_getElem? (i := 497) (by decide +kernel), List.mem_of_getElem? (i := 628) (by decide +kernel), List.mem_of_getElem? (i := 629) (by decide +kernel)⟩
theorem lw_p24 : lw_okq (⟨"RuneSticksModel", "runesOn", "(I)I"⟩, 13) := ⟨⟨by decide +kernel, by decide +kernel⟩, List.mem_of_getElem? (i := 497) (by decide +kernel), List.mem_of_getElem? (i := 632) (by decide +kernel), List.mem_of_getElem? (i := 633) (by decide +kernel)⟩
theorem lw_p25 : lw_okq (⟨"RuneSticksModel", "glued", "(I)I"⟩, 13) := ⟨⟨by decide +kernel, by decide +kernel⟩, List.mem_of_getElem? (i := 497) (by decide +kernel), List.mem_of_getElem? (i := 636) (by decide +kernel), List.mem_of_getElem? (i := 637) (by decide +kernel)⟩
theorem lw_p26 : lw_okq (⟨"RuneSticksModel", "counted", "(I)I"⟩, 13) := ⟨⟨by decide +kernel, by decide +kernel⟩, List.mem_of_getElem? (i := 497) (by decide +kernel), List.mem_of_getElem? (i := 652) (by decide +kernel), List.mem_of_getElem? (i := 653) (by decide +kernel)⟩
theorem lw_p27 : lw_okq (⟨"RuneSticksModel", "read", "(III[I)I"⟩, 13) := ⟨⟨by decide +kernel, by decide +kernel⟩, List.mem_of_getElem? (i := 497) (by decide +kernel), List.mem_of_getElem? (i := 664) (by decide +kernel), List.mem_of_getElem? (i := 665) (by decide +kernel)⟩
theorem lw_p28 : lw_okq (⟨"RuneSticksModel", "rhymeOf", "(IIII)I"⟩, 13) := ⟨⟨by decide +kernel, by decide +kernel⟩, List.mem_of_getElem? (i := 497) (by decide +kernel), List.mem_of_getElem? (i := 680) (by decide +kernel), List.mem_of_getElem? (i := 681) (by decide +kernel)⟩
def lw_privs_2 : List (MethodName × Nat) := [(⟨"RuneSticksModel", "isSpot", "(III)Z"⟩, 13), (⟨"RuneSticksModel", "isStick", "(I)Z"⟩, 13), (⟨"RuneSticksModel", "weakest", "(I)I"⟩, 13), (⟨"RuneSticksModel", "strong", "(II)I"⟩, 13), (⟨"RuneSticksModel", "runesAt", "(II)I"⟩, 13), (⟨"RuneSticksModel", "lay", "(IIIIII)V"⟩, 13), (⟨"RuneSticksModel", "fit", "(II)Z"⟩, 13), (⟨"RuneSticksModel", "stickTold", "(II)I"⟩, 13), (⟨"RuneSticksModel", "runesOn", "(I)I"⟩, 13), (⟨"RuneSticksModel", "glued", "(I)I"⟩, 13), (⟨"RuneSticksModel", "counted", "(I)I"⟩, 13), (⟨"RuneSticksModel", "read", "(III[I)I"⟩, 13), (⟨"RuneSticksModel", "rhymeOf", "(IIII)I"⟩, 13)]
theorem lw_r2 : ∀ q ∈ lw_privs_2, lw_okq q := List.forall_mem_cons.mpr ⟨lw_p16, List.forall_mem_cons.mpr ⟨lw_p17, List.forall_mem_cons.mpr ⟨lw_p18, List.forall_mem_cons.mpr ⟨lw_p19, List.forall_mem_cons.mpr ⟨lw_p20, List.forall_mem_cons.mpr ⟨lw_p21, List.forall_mem_cons.mpr ⟨lw_p22, List.forall_mem_cons.mpr ⟨lw_p23, List.forall_mem_cons.mpr ⟨lw_p24, List.forall_mem_cons.mpr ⟨lw_p25, List.forall_mem_cons.mpr ⟨lw_p26, List.forall_mem_cons.mpr ⟨lw_p27, List.forall_mem_cons.mpr ⟨lw_p28, fun _ h => absurd h List.not_mem_nil⟩⟩⟩⟩⟩⟩⟩⟩⟩⟩⟩⟩⟩
def lw_privs : List (MethodName × Nat) := lw_privs_1 ++ (lw_privs_2)
def lw_tbl : List Cond := k2_sels lw_privs ++ tables_1
theorem lw_privs_ok : ∀ q ∈ lw_privs, lw_okq q := by
  show ∀ q ∈ lw_privs_1 ++ (lw_privs_2), lw_okq q
  exact List.forall_mem_append.mpr ⟨lw_r1, lw_r2⟩
/-- the streams that the claim lets the run draw from -/
abbrev lw_cs : List Choice := [Jvm.Choice.named "NaN.bits"]
theorem lw_bits : nanBits ∈ lw_cs := by first | decide | exact List.mem_cons_self | simp [lw_cs, nanBits]
-- ===== end of PART A; then your names; then what follows =====
end
section
/-! ===== BEGIN words of one list among another's, by their places ===== -/
theorem goodIn_r {big : List Cond} (ws : List Cond) (ps : List Nat) (hp : ws = ps.filterMap (fun i => big[i]?)) (h : ws.all goodWord = true) : GoodIn big ws := by
  intro w hw
  have h1 := List.all_eq_true.mp h w hw
  rw [hp] at hw
  obtain ⟨i, -, hi⟩ := List.mem_filterMap.mp hw
  have hm : w ∈ big := by first | exact List.mem_of_getElem? hi | exact List.getElem?_mem hi
  exact ⟨hm, good_of_word h1⟩
theorem goodIn_app {big a b : List Cond} (ha : GoodIn big a) (hb : GoodIn big b) : GoodIn big (a ++ b) := fun w h => (List.mem_append.mp h).elim (ha w) (hb w)
theorem goodIn_ca {big a b : List Cond} {c : Cond} (ha : GoodIn big (c :: a)) (hb : GoodIn big b) : GoodIn big (c :: (a ++ b)) := fun w h => (List.mem_cons.mp h).elim (fun e => ha w (List.mem_cons.mpr (Or.inl e))) (fun h => (List.mem_append.mp h).elim (fun h => ha w (List.mem_cons.mpr (Or.inr h))) (hb w))
theorem goodIn_sub {big ws : List Cond} (hm : ∀ w ∈ ws, w ∈ big) (h : ws.all goodWord = true) : GoodIn big ws := fun w hw => ⟨hm w hw, good_of_word (List.all_eq_true.mp h w hw)⟩
/-! ===== END ===== -/

/-! ===== BEGIN exceptions that leave a method, and their catching by the caller (launches without stack traces) ===== -/
section VXA
/-! The laws vx_back, vx_callV, vx_callS, vx_callSW, vx_throw0, vx_throwS follow proofs of the library, with one case more: JvmDerived/Free/Laws.lean (Back.of_free), Shelf42/LK1.lean (callV, callS), Shelf/KitTraced.lean (throwNew0V, throwNewS). -/
/-- where a method has thrown q: the class by its name, the cell, what was written, the world -/
def vx_T (XC : String → State → State → Prop) (st : State) (q : Addr) (t : State) (mc ms : Nat) (free : Addr → Prop) : Prop :=
  ∃ (E : String) (ce : Cell) (L : List Loc), XC E st t ∧ t.heap[q]? = some ce ∧ ce.vm = .none ∧ st.vm.findClass E = some ce.cls ∧ st.WarmedH t.vm ∧ st.sameButNew ({ t with vm := st.vm } : State) L mc ms ∧ ∀ z ∈ L, free z.base
def vx_Q (Qc : Array Value → State → Outcome → State → Prop) (XC : String → State → State → Prop) (mc ms : Nat) (free : Addr → Prop) : Array Value → State → Outcome → State → Prop := fun a st o t =>
  (Qc a st o t ∧ ∃ L, FrameEnd st o t L mc ms ∧ ∀ q ∈ L, free q.base) ∨ ∃ q, o = .threw q ∧ vx_T XC st q t mc ms free
/-- a callee that returns or throws -/
def vx_Met (l : Launch) (y : MethodName) (ws : List Cond) (rm : Room) (Pc : Array Value → State → Prop) (Qc : Array Value → State → Outcome → State → Prop) (XC : String → State → State → Prop) (mc ms : Nat) (free : Addr → Prop) : Prop :=
  MetFree l y (headSpec ws rm) Pc (fun _ _ _ _ _ => True) (vx_Q Qc XC mc ms free)
def vx_Post (XC : String → State → State → Prop) (mc ms : Nat) (free : Addr → Prop) : Pt → Array Value → Addr → Pt → Prop := fun A a q B =>
  ∃ (g : JFrame) (mk : MethodId) (t : State) (L : List Loc) (E : String) (ce : Cell), B.U.heap = t.heap ∧ B.U.vm = t.vm ∧ XC E (A.U.calling g mk a) t ∧ t.heap[q]? = some ce ∧ ce.vm = .none ∧ A.U.vm.findClass E = some ce.cls ∧ B.locs = A.locs ++ L ∧ (∀ z ∈ L, free z.base) ∧ B.cells = A.cells + mc ∧ B.slots = A.slots + ms
def vx_Back (l : Launch) (R : Room) (p : Program) (e : Env) (below : List Frame) (s : State) (sargs : Array Value) (y : MethodName) (len W9 : Nat)
    (Pre : Pt → Array Value → Prop) (Post : Pt → Array Value → Option Value → Pt → Prop) (PostX : Pt → Array Value → Addr → Pt → Prop) : Prop :=
  ∀ (m : MethodId) (meth : Method) (c : Code) (A : Pt) (g : JFrame) (ig : Instr) (mk : MethodId) (a : Array Value),
    Stand p l e R s m sargs below meth c A.U A.locs A.cells A.slots → g.method = m → g.locals.size = c.maxLocals → decode c.code g.pc = .ok (ig, len) →
    2 * g.monitorRoom + (g.stack.map fun v => v.category).sum ≤ W9 → A.U.methodNamed? y = some mk → Pre A a →
    (∃ (v : Option Value) (B : Pt), Stand p l e R s m sargs below meth c B.U B.locs B.cells B.slots ∧ Post A a v B ∧
      Steps p.tables e below (doInvoke e (A.U.setTop g) [] mk a).1 (B.U.setTop { g with pc := g.pc + len, stack := v.toList ++ g.stack })) ∨
    (∃ (q : Addr) (B : Pt), Stand p l e R s m sargs below meth c B.U B.locs B.cells B.slots ∧ PostX A a q B ∧
      Steps p.tables e below (doInvoke e (A.U.setTop g) [] mk a).1 ((B.U.setTop g).pushFrame (.throwing q)))
section Payer
variable {l : Launch} {R : Room} {p : Program} {e : Env} {below : List Frame} {s : State} {sargs : Array Value} {y : MethodName} {len W9 : Nat}
theorem vx_back {ws : List Cond} {rm : Room} {Pc : Array Value → State → Prop} {Qc : Array Value → State → Outcome → State → Prop} {XC : String → State → State → Prop} {mc ms : Nat} {free : Addr → Prop} {bytes : ByteArray} {maxL : Nat} {ret : Option FieldType}
    (hM : vx_Met l y ws rm Pc Qc XC mc ms free) (hblind : FrameBlind Pc) (hrc : rm.cells = mc) (hrs : rm.slots = ms)
    (hframes : rm.frames + 1 ≤ R.frames) (hlocals : W9 + (maxL + 11) + rm.locals ≤ R.locals)
    (hws : ∀ w ∈ ws, ∀ a' U, s.WarmedH U.vm → w.before a' U = true) (hcode : Cond.code y bytes maxL ret ∈ ws) (hinit : ∀ a' U, s.WarmedH U.vm → (Cond.initialized y.cls).before a' U = true) :
    vx_Back l R p e below s sargs y len W9 (PreOf R mc ms Pc) (PostOf Qc mc ms free) (vx_Post XC mc ms free) := by
  intro m meth c A g ig mk a X hg hsize hdg hW hn hp
  have h1 : (headSpec ws rm).pre.before a A.U = true := atoms_intro fun w hw => hws w hw _ _ X.warmed
  have h2 : (Cond.code y bytes maxL ret).before a A.U = true := hws _ hcode _ _ X.warmed
  have h3 : (Cond.initialized y.cls).before a A.U = true := hinit _ _ X.warmed
  have h4 : A.cells + (headSpec ws rm).room.cells ≤ R.cells := by rw [show (headSpec ws rm).room.cells = mc from hrc]; exact hp.1
  have h5 : A.slots + (headSpec ws rm).room.slots ≤ R.slots := by rw [show (headSpec ws rm).room.slots = ms from hrs]; exact hp.2.1
  have hPc : Pc a (A.U.calling g mk a) := hblind _ _ _ _ hp.2.2
  obtain ⟨U, Ls, c0, s0⟩ := A
  dsimp only [Pt.U, Pt.locs, Pt.cells, Pt.slots] at h1 h2 h3 h4 h5 X hn hPc ⊢
  obtain ⟨methY, cY, hmY, hcY, -, hlY, -, -, -, -⟩ := Cond.code_spec hn h2
  obtain ⟨kY, hkY, -⟩ := className_of_methodNamed hn
  have hinitY : kY.init = .initialized := Cond.initialized_spec (findClass_of_methodNamed hn) hkY h3
  have h : At U g.method c below := by rw [hg]; exact X.here
  have hlocals9 : W9 + (maxL + 11) + (headSpec ws rm).room.locals ≤ R.locals := hlocals
  have happ : (headSpec ws rm).appliesLoose y e.platform (U.calling g mk a) = true :=
    Spec.appliesLoose_calling (g := g) h hdg hn hkY hinitY
      (X.room_calling (g := g) (R' := (headSpec ws rm).room) hsize hmY hcY hframes (by rw [hlY]; omega) h4 h5) h1
  obtain ⟨mid, hmid⟩ := h.above
  have hfr : (U.setTop g).frames = (.java g :: mid) ++ below := by rw [State.frames_setTop' g h.top, hmid]; rfl
  obtain ⟨o, s₂, hsteps, -, hend, hq⟩ := Steps.callFree hM p X.admits X.cas X.clock (acts := []) hfr happ hPc trivial
  have hq' : vx_Q Qc XC mc ms free a (U.calling g mk a) o s₂ := hq
  rw [State.frames_setTop' g h.top] at hend
  obtain ⟨g₀, hg0⟩ := Option.isSome_iff_exists.mp h.top
  obtain ⟨r, hr⟩ := State.topJava?_eq_some.mp hg0
  have hr' : (({ U with heap := s₂.heap, slotsUsed := s₂.slotsUsed } : State).setVm s₂.vm).frames = .java g₀ :: r := hr
  rcases hq' with ⟨hqc, L, hfe, hL⟩ | ⟨q, rfl, E, ce, L, hx, hce, hcv, hcl, hW₂, hsm, hL⟩
  · obtain ⟨⟨v, rfl⟩, hW₂, e2, q2, q3, q4, q5, q6⟩ := id hfe
    have e3 : s₂ = ({ (U.calling g mk a).setFrames s₂.frames with heap := s₂.heap, slotsUsed := s₂.slotsUsed } : State).setVm s₂.vm := by
      have : s₂ = ({ s₂ with vm := (U.calling g mk a).vm } : State).setVm s₂.vm := rfl
      rw [e2] at this
      exact this
    obtain ⟨c₂, i₂, len₂, hc₂, hd₂, hf₂⟩ := hend
    have hW' : U.WarmedH s₂.vm := hW₂
    have hcc : c₂ = c := by
      have h1 : s₂.code? g.method = U.code? g.method := by
        rw [State.code?_eq, State.code?_eq, hW'.alike.method?]
      exact Option.some.inj (hc₂.symm.trans (h1.trans h.code))
    subst hcc
    have hlen : len₂ = len := by rw [hdg] at hd₂; cases hd₂; rfl
    subst hlen
    have hs₂ : s₂ = (({ U with heap := s₂.heap, slotsUsed := s₂.slotsUsed } : State).setVm s₂.vm).setTop { g with pc := g.pc + len₂, stack := v.toList ++ g.stack } := by
      refine e3.trans ?_
      rw [hf₂, State.calling_eq h.top, State.setFrames_setFrames, State.setTop_of_frames _ hr', hr]
      rfl
    have hsame : U.sameButNew ({ U with heap := s₂.heap, slotsUsed := s₂.slotsUsed } : State) L mc ms := by
      refine ⟨?_, q2, q3, q4, q5, q6⟩
      obtain ⟨t, ht, -⟩ := State.frames_cons hr
      show ({ U with heap := s₂.heap, slotsUsed := s₂.slotsUsed } : State) = { U.setFrames U.frames with heap := s₂.heap, slotsUsed := s₂.slotsUsed }
      rw [State.setFrames_self ht]
    subst hg
    refine Or.inl ⟨v, ⟨(({ U with heap := s₂.heap, slotsUsed := s₂.slotsUsed } : State).setVm s₂.vm), Ls ++ L, c0 + mc, s0 + ms⟩,
      ⟨X.admits, X.cas, X.clock, X.frames, X.room, X.hears, X.method, X.code, (X.here.setHeapUsed s₂.heap s₂.slotsUsed).setVm hW'.alike, X.tail, State.WarmedH.trans X.warmed hW', X.limits, X.bytes, X.same.trans (hsame.setVm s.vm)⟩,
      ⟨g, mk, s₂, L, rfl, rfl, hqc, rfl, hL, rfl, rfl⟩, ?_⟩
    show Steps p.tables e below _ ((({ U with heap := s₂.heap, slotsUsed := s₂.slotsUsed } : State).setVm s₂.vm).setTop { g with pc := g.pc + len₂, stack := v.toList ++ g.stack })
    rw [← hs₂]
    exact hsteps
  · obtain ⟨e2, q2, q3, q4, q5, q6⟩ := id hsm
    have e3 : s₂ = ({ (U.calling g mk a).setFrames s₂.frames with heap := s₂.heap, slotsUsed := s₂.slotsUsed } : State).setVm s₂.vm := by
      have : s₂ = ({ s₂ with vm := (U.calling g mk a).vm } : State).setVm s₂.vm := rfl
      rw [e2] at this
      exact this
    have hf₂ : s₂.frames = .throwing q :: .java g :: U.frames.tail := hend
    have hW' : U.WarmedH s₂.vm := hW₂
    have hs₂ : s₂ = ((({ U with heap := s₂.heap, slotsUsed := s₂.slotsUsed } : State).setVm s₂.vm).setTop g).pushFrame (.throwing q) := by
      refine e3.trans ?_
      rw [hf₂, State.calling_eq h.top, State.setFrames_setFrames, State.pushFrame, State.frames_setTop _ hr', State.setTop_of_frames _ hr', State.setFrames_setFrames, hr]
      rfl
    have hsame : U.sameButNew ({ U with heap := s₂.heap, slotsUsed := s₂.slotsUsed } : State) L mc ms := by
      refine ⟨?_, q2, q3, q4, q5, q6⟩
      obtain ⟨t, ht, -⟩ := State.frames_cons hr
      show ({ U with heap := s₂.heap, slotsUsed := s₂.slotsUsed } : State) = { U.setFrames U.frames with heap := s₂.heap, slotsUsed := s₂.slotsUsed }
      rw [State.setFrames_self ht]
    subst hg
    refine Or.inr ⟨q, ⟨(({ U with heap := s₂.heap, slotsUsed := s₂.slotsUsed } : State).setVm s₂.vm), Ls ++ L, c0 + mc, s0 + ms⟩,
      ⟨X.admits, X.cas, X.clock, X.frames, X.room, X.hears, X.method, X.code, (X.here.setHeapUsed s₂.heap s₂.slotsUsed).setVm hW'.alike, X.tail, State.WarmedH.trans X.warmed hW', X.limits, X.bytes, X.same.trans (hsame.setVm s.vm)⟩,
      ⟨g, mk, s₂, L, E, ce, rfl, rfl, hx, hce, hcv, hcl, rfl, hL, rfl, rfl⟩, ?_⟩
    show Steps p.tables e below _ (((({ U with heap := s₂.heap, slotsUsed := s₂.slotsUsed } : State).setVm s₂.vm).setTop g).pushFrame (.throwing q))
    rw [← hs₂]
    exact hsteps
end Payer
section Calls
variable {p : Program} {l : Launch} {e : Env} {R : Room} {s : State} {m : MethodId} {args : Array Value} {below : List Frame} {meth : Method} {c : Code} {T : State} {locs : List Loc} {cells slots : Nat}
theorem vx_callV (X : Stand p l e R s m args below meth c T locs cells slots) (hexec : p.tables.exec = Jvm.exec) {own C : String} {index : Nat} {y : MethodName} {bytes : ByteArray} {maxL : Nat} {ret : Option FieldType}
    (hown : s.vm.findClass own = some m.cls) (hlink : (Cond.methodLink own index y).before args s = true) (hinst : (Cond.instanceMethod y).before args s = true) (hsel : (Cond.selects C y y).before args s = true)
    (hcode : (Cond.code y bytes maxL ret).before args s = true) (hy : y.cls ≠ "java/lang/invoke/MethodHandle" ∧ y.cls ≠ "java/lang/invoke/VarHandle")
    {W9 : Nat} {Pre : Pt → Array Value → Prop} {Post : Pt → Array Value → Option Value → Pt → Prop} {PostX : Pt → Array Value → Addr → Pt → Prop} (hK : vx_Back l R p e below s args y 3 W9 Pre Post PostX)
    {b : Addr} {cellB : Cell} (hcell : T.heap[b]? = some cellB) (hobj : cellB.vm.isStatics = false) (hcls : s.vm.findClass C = some cellB.cls)
    {g : JFrame} (hg : g.method = m) (hsize : g.locals.size = c.maxLocals) {argsL rest : List Value} (hlen : ∀ sig, parseMethodDescriptor y.desc = some sig → argsL.length = sig.parameters.length)
    (hstack : g.stack = argsL.reverse ++ .ref b :: rest) (hW : 2 * g.monitorRoom + (rest.map fun v => v.category).sum ≤ W9) (hdg : decode c.code g.pc = .ok (.invokevirtual index, 3))
    (hpre : ∀ vm₁, s.WarmedH vm₁ → Pre ⟨T.setVm vm₁, locs, cells, slots⟩ (Value.ref b :: argsL).toArray) :
    (∃ (v : Option Value) (vm₁ : Vm) (B : Pt), s.WarmedH vm₁ ∧ Stand p l e R s m args below meth c B.U B.locs B.cells B.slots ∧ Post ⟨T.setVm vm₁, locs, cells, slots⟩ (Value.ref b :: argsL).toArray v B ∧
      ∀ target, Steps p.tables e below (B.U.setTop { g with pc := g.pc + 3, stack := v.toList ++ rest }) target → Steps p.tables e below (T.setTop g) target) ∨
    (∃ (q : Addr) (vm₁ : Vm) (B : Pt), s.WarmedH vm₁ ∧ Stand p l e R s m args below meth c B.U B.locs B.cells B.slots ∧ PostX ⟨T.setVm vm₁, locs, cells, slots⟩ (Value.ref b :: argsL).toArray q B ∧
      Steps p.tables e below (T.setTop g) ((B.U.setTop { g with stack := rest }).pushFrame (.throwing q))) := by
  obtain ⟨mk, methM, hnamed, hmethM, hstM, habM⟩ := Cond.instanceMethod_spec hinst
  obtain ⟨methM', cM, hmethM', -, -, -, -, -, -, hsigM⟩ := Cond.code_spec hnamed hcode
  cases hmethM.symm.trans hmethM'
  obtain ⟨c2, r2, m2, q1, q2, q3, q4, kP, hkP, hkPi⟩ := Cond.selects_spec hsel
  cases hcls.symm.trans q1
  cases (State.methodFound?_of_named hnamed hy).symm.trans q2
  cases hnamed.symm.trans q3
  have hselP : selectMethod e.platform s.vm cellB.cls mk = .method mk := by rw [Launch.admits_selectMethod X.admits]; exact q4
  obtain ⟨vm₁, X₁, hstep₁⟩ := X.invokevirtual hexec hown hlink hnamed hmethM hstM hkP hkPi hy (a := b) (cell := cellB) hcell
    (fun z h => by rw [h] at hobj; cases hobj) hselP hmethM habM hkP hkPi (g := g) hg (argsL := argsL) (rest := rest) (hlen _ hsigM) hstack hdg
  rcases hK m meth c ⟨T.setVm vm₁, locs, cells, slots⟩ { g with stack := rest } (.invokevirtual index) mk (Value.ref b :: argsL).toArray X₁ hg hsize hdg hW (X₁.named hnamed) (hpre vm₁ X₁.warmed) with ⟨v, B, X', hpost, hsteps⟩ | ⟨q, B, X', hpost, hsteps⟩
  · exact Or.inl ⟨v, vm₁, B, X₁.warmed, X', hpost, fun target h => hstep₁ _ fun acts => by rw [doInvoke_state]; exact hsteps.trans h⟩
  · exact Or.inr ⟨q, vm₁, B, X₁.warmed, X', hpost, hstep₁ _ fun acts => by rw [doInvoke_state]; exact hsteps⟩
theorem vx_callS (X : Stand p l e R s m args below meth c T locs cells slots) (hexec : p.tables.exec = Jvm.exec) {own : String} {index : Nat} {y : MethodName} {bytes : ByteArray} {maxL : Nat} {ret : Option FieldType}
    (hown : s.vm.findClass own = some m.cls) (hlink : (Cond.methodLink own index y).before args s = true) (hstat : (Cond.static y).before args s = true) (hinit : (Cond.initialized y.cls).before args s = true)
    (hcode : (Cond.code y bytes maxL ret).before args s = true) (hy : y.cls ≠ "java/lang/invoke/MethodHandle" ∧ y.cls ≠ "java/lang/invoke/VarHandle")
    {W9 : Nat} {Pre : Pt → Array Value → Prop} {Post : Pt → Array Value → Option Value → Pt → Prop} {PostX : Pt → Array Value → Addr → Pt → Prop} (hK : vx_Back l R p e below s args y 3 W9 Pre Post PostX)
    {g : JFrame} (hg : g.method = m) (hsize : g.locals.size = c.maxLocals) {argsL rest : List Value} (hlen : ∀ sig, parseMethodDescriptor y.desc = some sig → argsL.length = sig.parameters.length)
    (hstack : g.stack = argsL.reverse ++ rest) (hW : 2 * g.monitorRoom + (rest.map fun v => v.category).sum ≤ W9) (hdg : decode c.code g.pc = .ok (.invokestatic index, 3))
    (hpre : ∀ vm₁, s.WarmedH vm₁ → Pre ⟨T.setVm vm₁, locs, cells, slots⟩ argsL.toArray) :
    (∃ (v : Option Value) (vm₁ : Vm) (B : Pt), s.WarmedH vm₁ ∧ Stand p l e R s m args below meth c B.U B.locs B.cells B.slots ∧ Post ⟨T.setVm vm₁, locs, cells, slots⟩ argsL.toArray v B ∧
      ∀ target, Steps p.tables e below (B.U.setTop { g with pc := g.pc + 3, stack := v.toList ++ rest }) target → Steps p.tables e below (T.setTop g) target) ∨
    (∃ (q : Addr) (vm₁ : Vm) (B : Pt), s.WarmedH vm₁ ∧ Stand p l e R s m args below meth c B.U B.locs B.cells B.slots ∧ PostX ⟨T.setVm vm₁, locs, cells, slots⟩ argsL.toArray q B ∧
      Steps p.tables e below (T.setTop g) ((B.U.setTop { g with stack := rest }).pushFrame (.throwing q))) := by
  obtain ⟨mk, hnamed⟩ := Cond.code_named hcode
  obtain ⟨methM, cM, hmethM, -, -, -, -, -, -, hsigM⟩ := Cond.code_spec hnamed hcode
  have hstatic : methM.isStatic = true := Cond.static_spec hnamed hmethM hstat
  obtain ⟨kP, hkP, -⟩ := className_of_methodNamed hnamed
  have hinitP : kP.init = .initialized := Cond.initialized_spec (findClass_of_methodNamed hnamed) hkP hinit
  obtain ⟨vm₁, X₁, hstep₁⟩ := X.invokestatic hexec hown hlink hnamed hmethM hstatic hkP hinitP hy (g := g) hg (argsL := argsL) (rest := rest) (hlen _ hsigM) hstack hdg
  rcases hK m meth c ⟨T.setVm vm₁, locs, cells, slots⟩ { g with stack := rest } (.invokestatic index) mk argsL.toArray X₁ hg hsize hdg hW (X₁.named hnamed) (hpre vm₁ X₁.warmed) with ⟨v, B, X', hpost, hsteps⟩ | ⟨q, B, X', hpost, hsteps⟩
  · exact Or.inl ⟨v, vm₁, B, X₁.warmed, X', hpost, fun target h => hstep₁ _ fun acts => by rw [doInvoke_state]; exact hsteps.trans h⟩
  · exact Or.inr ⟨q, vm₁, B, X₁.warmed, X', hpost, hstep₁ _ fun acts => by rw [doInvoke_state]; exact hsteps⟩
end Calls
theorem vx_cls {s : State} {T : State} {vm₁ : Vm} {E : String} {k : ClassId} (hW : s.WarmedH vm₁) (h : (T.setVm vm₁).vm.findClass E = some k) : s.vm.findClass E = some k := by
  have h1 : vm₁.findClass E = some k := h
  rw [hW.alike.findClass] at h1
  exact h1
/-- the method's frame g, with q thrown over it -/
def vx_W (p : Program) (l : Launch) (e : Env) (R : Room) (s : State) (m : MethodId) (args : Array Value) (below : List Frame) (meth : Method) (c : Code) (H : Heap) (locs : List Loc) (cells slots : Nat) (Q : State → Prop) (g : JFrame) (q : Addr) : Prop :=
  ∀ T : State, T.heap = H → Stand p l e R s m args below meth c T locs cells slots → ∃ t, Steps p.tables e below ((T.setTop g).pushFrame (.throwing q)) t ∧ Q t
def vx_Run (p : Program) (l : Launch) (e : Env) (R : Room) (s : State) (m : MethodId) (args : Array Value) (below : List Frame) (meth : Method) (c : Code) (H : Heap) (locs : List Loc) (cells slots mc ms : Nat) (g : JFrame) (rest : List Value) (Qa : State → Outcome → State → Prop) (XC : String → State → State → Prop) (free : Addr → Prop) : Prop :=
  ∀ T : State, T.heap = H → Stand p l e R s m args below meth c T locs cells slots →
    (∃ (v : Option Value) (st₀ t T' : State) (L : List Loc), st₀.heap = H ∧ Stand p l e R s m args below meth c T' (locs ++ L) (cells + mc) (slots + ms) ∧ (∀ q ∈ L, free q.base) ∧ T'.heap = t.heap ∧ T'.vm = t.vm ∧ Qa st₀ (.returned v) t ∧
      Goes p e below T g T' { g with pc := g.pc + 3, stack := v.toList ++ rest }) ∨
    (∃ (q : Addr) (st₀ t T' : State) (L : List Loc) (E : String) (ce : Cell), st₀.heap = H ∧ Stand p l e R s m args below meth c T' (locs ++ L) (cells + mc) (slots + ms) ∧ (∀ z ∈ L, free z.base) ∧ T'.heap = t.heap ∧ T'.vm = t.vm ∧ XC E st₀ t ∧ t.heap[q]? = some ce ∧ ce.vm = .none ∧ s.vm.findClass E = some ce.cls ∧
      Steps p.tables e below (T.setTop g) ((T'.setTop { g with stack := rest }).pushFrame (.throwing q)))
def vx_X {S : Type} (px : S → Prop) (B : String → S → State → Prop) (A : Nat → Prop) : String → State → State → Prop := fun E st t => ∃ u : S, px u ∧ B E u t ∧ va_F A st t
section Runs
variable {p : Program} {l : Launch} {e : Env} {R : Room} {s : State} {m : MethodId} {args : Array Value} {below : List Frame} {meth : Method} {c : Code} {H : Heap} {locs : List Loc} {cells slots : Nat}
variable {y : MethodName} {bytes cc : ByteArray} {maxL nL mc ms n index : Nat} {ret : Option FieldType} {ws : List Cond} {rm : Room} {Pc : Array Value → State → Prop} {Qc : Array Value → State → Outcome → State → Prop} {XC : String → State → State → Prop} {free : Addr → Prop} {Ts : List Cond} {own C : String} {b : Addr} {As rest : List Value} {g : JFrame}
theorem vx_callBack (cb : CallB R s args own index y bytes maxL ret ws rm mc ms n) (hM : vx_Met l y ws rm Pc Qc XC mc ms free) (hbl : FrameBlind Pc) : vx_Back l R p e below s args y 3 8 (PreOf R mc ms Pc) (PostOf Qc mc ms free) (vx_Post XC mc ms free) := by
  obtain ⟨hrc, hrs, hfr, hlo, hws, hcw, -, hini, -⟩ := cb
  exact vx_back (bytes := bytes) (maxL := maxL) (ret := ret) hM hbl hrc hrs hfr hlo hws hcw (fun a' U hW => word_at hW (Or.inl (by first | rfl | simp [Cond.onTables, Cond.keeps, Cond.steady])) hini)
theorem vx_runV (S : CallFix p m c cc nL s args Ts own) (hM : vx_Met l y ws rm Pc Qc XC mc ms free) (cw : CallW R s args own C index y bytes maxL ret ws rm mc ms n) (hp : PreV s H C b Pc As)
    (hg : g.method = m) (hn : As.length = n) (hsize : g.locals.size = nL) (hstack : g.stack = As.reverse ++ .ref b :: rest) (hW : 2 * g.monitorRoom + (rest.map fun v => v.category).sum ≤ 8) (hdg : decode cc g.pc = .ok (.invokevirtual index, 3)) (hf : cells + mc ≤ R.cells ∧ slots + ms ≤ R.slots) :
    vx_Run p l e R s m args below meth c H locs cells slots mc ms g rest (Qc (Value.ref b :: As).toArray) XC free := by
  have hK : vx_Back l R p e below s args y 3 8 (PreOf R mc ms Pc) (PostOf Qc mc ms free) (vx_Post XC mc ms free) := vx_callBack cw.1 hM hp.1
  obtain ⟨⟨-, -, -, -, -, -, hcode, -, hy, hlen, hl⟩, hin, hse⟩ := cw
  obtain ⟨hx, hb, hml, ho, -⟩ := S
  obtain ⟨-, ⟨cellB, hcB, hoB, hclB⟩, hPc⟩ := hp
  intro T hT X
  rcases vx_callV X hx (C := C) (bytes := bytes) (maxL := maxL) (ret := ret) ho hl hin hse hcode hy hK (by rw [hT]; exact hcB) hoB hclB hg (hsize.trans hml.symm) (argsL := As) (rest := rest) (fun sig h => hn.trans (hlen sig h)) hstack hW (by rw [hb]; exact hdg)
    (fun vm₁ hW₁ => ⟨hf.1, hf.2, hPc (T.setVm vm₁) hT hW₁⟩) with ⟨v, vm₁, ⟨U', l2, c2, s2⟩, hW₁, X', ⟨g', mk, t, L, e1, e2, hq, h1, hL, h2, h3⟩, st⟩ | ⟨q, vm₁, ⟨U', l2, c2, s2⟩, hW₁, X', ⟨g', mk, t, L, E, ce, e1, e2, hq, hce, hcv, hcl, h1, hL, h2, h3⟩, st⟩
  · dsimp only [Pt.U, Pt.locs, Pt.cells, Pt.slots] at X' e1 e2 h1 h2 h3 st
    subst h1; subst h2; subst h3
    exact Or.inl ⟨v, (T.setVm vm₁).calling g' mk (Value.ref b :: As).toArray, t, U', L, hT, X', hL, e1, e2, hq, st⟩
  · dsimp only [Pt.U, Pt.locs, Pt.cells, Pt.slots] at X' e1 e2 h1 h2 h3 st hcl
    subst h1; subst h2; subst h3
    exact Or.inr ⟨q, (T.setVm vm₁).calling g' mk (Value.ref b :: As).toArray, t, U', L, E, ce, hT, X', hL, e1, e2, hq, hce, hcv, vx_cls hW₁ hcl, st⟩
theorem vx_runS (S : CallFix p m c cc nL s args Ts own) (hM : vx_Met l y ws rm Pc Qc XC mc ms free) (cw : CallB R s args own index y bytes maxL ret ws rm mc ms n ∧ (Cond.static y).before args s = true) (hp : PreS s H Pc As)
    (hg : g.method = m) (hn : As.length = n) (hsize : g.locals.size = nL) (hstack : g.stack = As.reverse ++ rest) (hW : 2 * g.monitorRoom + (rest.map fun v => v.category).sum ≤ 8) (hdg : decode cc g.pc = .ok (.invokestatic index, 3)) (hf : cells + mc ≤ R.cells ∧ slots + ms ≤ R.slots) :
    vx_Run p l e R s m args below meth c H locs cells slots mc ms g rest (Qc As.toArray) XC free := by
  have hK : vx_Back l R p e below s args y 3 8 (PreOf R mc ms Pc) (PostOf Qc mc ms free) (vx_Post XC mc ms free) := vx_callBack cw.1 hM hp.1
  obtain ⟨⟨-, -, -, -, -, -, hcode, hini, hy, hlen, hl⟩, hstt⟩ := cw
  obtain ⟨hx, hb, hml, ho, -⟩ := S
  intro T hT X
  rcases vx_callS X hx (bytes := bytes) (maxL := maxL) (ret := ret) ho hl hstt hini hcode hy hK hg (hsize.trans hml.symm) (argsL := As) (rest := rest) (fun sig h => hn.trans (hlen sig h)) hstack hW (by rw [hb]; exact hdg)
    (fun vm₁ hW₁ => ⟨hf.1, hf.2, hp.2 (T.setVm vm₁) hT hW₁⟩) with ⟨v, vm₁, ⟨U', l2, c2, s2⟩, hW₁, X', ⟨g', mk, t, L, e1, e2, hq, h1, hL, h2, h3⟩, st⟩ | ⟨q, vm₁, ⟨U', l2, c2, s2⟩, hW₁, X', ⟨g', mk, t, L, E, ce, e1, e2, hq, hce, hcv, hcl, h1, hL, h2, h3⟩, st⟩
  · dsimp only [Pt.U, Pt.locs, Pt.cells, Pt.slots] at X' e1 e2 h1 h2 h3 st
    subst h1; subst h2; subst h3
    exact Or.inl ⟨v, (T.setVm vm₁).calling g' mk As.toArray, t, U', L, hT, X', hL, e1, e2, hq, st⟩
  · dsimp only [Pt.U, Pt.locs, Pt.cells, Pt.slots] at X' e1 e2 h1 h2 h3 st hcl
    subst h1; subst h2; subst h3
    exact Or.inr ⟨q, (T.setVm vm₁).calling g' mk As.toArray, t, U', L, E, ce, hT, X', hL, e1, e2, hq, hce, hcv, vx_cls hW₁ hcl, st⟩
end Runs
section Rows
variable {p : Program} {l : Launch} {e : Env} {R : Room} {s : State} {m : MethodId} {args : Array Value} {below : List Frame} {meth : Method} {c : Code} {H : Heap} {locs : List Loc} {cells slots : Nat} {Q : State → Prop}
variable {mc ms : Nat} {free : Addr → Prop} {A0 A1 : Nat → Prop} {H0 : Heap} {a : Array Value} {pc : Nat} {ls : Array Slot} {st0 rest : List Value}
theorem vx_keep {st₀ t T' : State} {L : List Loc} (h0 : st₀.heap = H) (e1 : T'.heap = t.heap) (hS : va_S A0 H0 H locs) (hA : ∀ q, q < H.size → A1 q → A0 q) (hf : ∀ q, free q → A0 q) (hL : ∀ q ∈ L, free q.base) (hF : va_F A1 st₀ t) :
    H.size ≤ T'.heap.size ∧ (∀ q : Nat, q < H.size → ¬ A1 q → T'.heap[q]? = H[q]?) ∧ va_S A0 H0 T'.heap (locs ++ L) := by
  obtain ⟨hz, hk⟩ := hF
  rw [h0] at hz hk
  exact ⟨by rw [e1]; exact hz, fun q h1 h2 => by rw [e1]; exact hk q h1 h2,
    ⟨Nat.le_trans hS.1 (by rw [e1]; exact hz), fun q h1 h2 => by rw [e1, hk q (Nat.lt_of_lt_of_le h1 hS.1) (fun z => h2 (hA q (Nat.lt_of_lt_of_le h1 hS.1) z))]; exact hS.2.1 q h1 h2, fun q hq => by
      rcases List.mem_append.mp hq with h | h
      · exact hS.2.2 q h
      · exact hf _ (hL q h)⟩⟩
theorem vx_calli {S SX : Type} {post : Int32 → S → Prop} {px : SX → Prop} {B : S → State → Prop} {BX : String → SX → State → Prop} {AX : Nat → Prop} (hr : vx_Run p l e R s m args below meth c H locs cells slots mc ms (F0 m pc ls st0) rest (va_Qi post B A1 a) (vx_X px BX AX) free) (hS : va_S A0 H0 H locs) (hA : ∀ q, q < H.size → A1 q → A0 q) (hf : ∀ q, free q → A0 q) (hAX : ∀ q, q < H.size → AX q → A0 q)
    (kx : ∀ (E : String) (ce : Cell) (q9 : Addr) (u : SX) (t : State) (H1 : Heap) (locs1 : List Loc), t.heap = H1 → s.vm.Alike t.vm → px u → BX E u t → H.size ≤ H1.size → (∀ q : Nat, q < H.size → ¬ AX q → H1[q]? = H[q]?) → va_S A0 H0 H1 locs1 → H1[q9]? = some ce → ce.vm = .none → s.vm.findClass E = some ce.cls → vx_W p l e R s m args below meth c H1 locs1 (cells + mc) (slots + ms) Q (F0 m pc ls rest) q9)
    (kk : ∀ (r : Int32) (u : S) (t : State) (H1 : Heap) (locs1 : List Loc), t.heap = H1 → s.vm.Alike t.vm → post r u → B u t → H.size ≤ H1.size → (∀ q : Nat, q < H.size → ¬ A1 q → H1[q]? = H[q]?) → va_S A0 H0 H1 locs1 → W p l e R s m args below meth c H1 locs1 (cells + mc) (slots + ms) Q (F0 m (pc + 3) ls (.int r :: rest))) : W p l e R s m args below meth c H locs cells slots Q (F0 m pc ls st0) := by
  intro T hT X
  rcases hr T hT X with ⟨v, st₀, t, T', L, h0, X', hL, e1, e2, ⟨⟨r, u, hv, hp, hb⟩, hF⟩, st⟩ | ⟨q, st₀, t, T', L, E, ce, h0, X', hL, e1, e2, ⟨u, hp, hb, hF⟩, hce, hcv, hcl, st⟩
  · cases hv
    obtain ⟨k1, k2, k3⟩ := vx_keep h0 e1 hS hA hf hL hF
    obtain ⟨t2, a1, b1⟩ := kk r u t T'.heap (locs ++ L) e1.symm (by rw [← e2]; exact X'.warmed.alike) hp hb k1 k2 k3 T' rfl X'
    exact ⟨t2, st t2 a1, b1⟩
  · obtain ⟨k1, k2, k3⟩ := vx_keep h0 e1 hS hAX hf hL hF
    obtain ⟨t2, a1, b1⟩ := kx E ce q u t T'.heap (locs ++ L) e1.symm (by rw [← e2]; exact X'.warmed.alike) hp hb k1 k2 k3 (by rw [e1]; exact hce) hcv hcl T' rfl X'
    exact ⟨t2, st.trans a1, b1⟩
theorem vx_calll {S SX : Type} {post : Int64 → S → Prop} {px : SX → Prop} {B : S → State → Prop} {BX : String → SX → State → Prop} {AX : Nat → Prop} (hr : vx_Run p l e R s m args below meth c H locs cells slots mc ms (F0 m pc ls st0) rest (va_Ql post B A1 a) (vx_X px BX AX) free) (hS : va_S A0 H0 H locs) (hA : ∀ q, q < H.size → A1 q → A0 q) (hf : ∀ q, free q → A0 q) (hAX : ∀ q, q < H.size → AX q → A0 q)
    (kx : ∀ (E : String) (ce : Cell) (q9 : Addr) (u : SX) (t : State) (H1 : Heap) (locs1 : List Loc), t.heap = H1 → s.vm.Alike t.vm → px u → BX E u t → H.size ≤ H1.size → (∀ q : Nat, q < H.size → ¬ AX q → H1[q]? = H[q]?) → va_S A0 H0 H1 locs1 → H1[q9]? = some ce → ce.vm = .none → s.vm.findClass E = some ce.cls → vx_W p l e R s m args below meth c H1 locs1 (cells + mc) (slots + ms) Q (F0 m pc ls rest) q9)
    (kk : ∀ (r : Int64) (u : S) (t : State) (H1 : Heap) (locs1 : List Loc), t.heap = H1 → s.vm.Alike t.vm → post r u → B u t → H.size ≤ H1.size → (∀ q : Nat, q < H.size → ¬ A1 q → H1[q]? = H[q]?) → va_S A0 H0 H1 locs1 → W p l e R s m args below meth c H1 locs1 (cells + mc) (slots + ms) Q (F0 m (pc + 3) ls (.long r :: rest))) : W p l e R s m args below meth c H locs cells slots Q (F0 m pc ls st0) := by
  intro T hT X
  rcases hr T hT X with ⟨v, st₀, t, T', L, h0, X', hL, e1, e2, ⟨⟨r, u, hv, hp, hb⟩, hF⟩, st⟩ | ⟨q, st₀, t, T', L, E, ce, h0, X', hL, e1, e2, ⟨u, hp, hb, hF⟩, hce, hcv, hcl, st⟩
  · cases hv
    obtain ⟨k1, k2, k3⟩ := vx_keep h0 e1 hS hA hf hL hF
    obtain ⟨t2, a1, b1⟩ := kk r u t T'.heap (locs ++ L) e1.symm (by rw [← e2]; exact X'.warmed.alike) hp hb k1 k2 k3 T' rfl X'
    exact ⟨t2, st t2 a1, b1⟩
  · obtain ⟨k1, k2, k3⟩ := vx_keep h0 e1 hS hAX hf hL hF
    obtain ⟨t2, a1, b1⟩ := kx E ce q u t T'.heap (locs ++ L) e1.symm (by rw [← e2]; exact X'.warmed.alike) hp hb k1 k2 k3 (by rw [e1]; exact hce) hcv hcl T' rfl X'
    exact ⟨t2, st.trans a1, b1⟩
theorem vx_callf {S SX : Type} {post : UInt32 → S → Prop} {px : SX → Prop} {B : S → State → Prop} {BX : String → SX → State → Prop} {AX : Nat → Prop} (hr : vx_Run p l e R s m args below meth c H locs cells slots mc ms (F0 m pc ls st0) rest (va_Qf post B A1 a) (vx_X px BX AX) free) (hS : va_S A0 H0 H locs) (hA : ∀ q, q < H.size → A1 q → A0 q) (hf : ∀ q, free q → A0 q) (hAX : ∀ q, q < H.size → AX q → A0 q)
    (kx : ∀ (E : String) (ce : Cell) (q9 : Addr) (u : SX) (t : State) (H1 : Heap) (locs1 : List Loc), t.heap = H1 → s.vm.Alike t.vm → px u → BX E u t → H.size ≤ H1.size → (∀ q : Nat, q < H.size → ¬ AX q → H1[q]? = H[q]?) → va_S A0 H0 H1 locs1 → H1[q9]? = some ce → ce.vm = .none → s.vm.findClass E = some ce.cls → vx_W p l e R s m args below meth c H1 locs1 (cells + mc) (slots + ms) Q (F0 m pc ls rest) q9)
    (kk : ∀ (r : UInt32) (u : S) (t : State) (H1 : Heap) (locs1 : List Loc), t.heap = H1 → s.vm.Alike t.vm → post r u → B u t → H.size ≤ H1.size → (∀ q : Nat, q < H.size → ¬ A1 q → H1[q]? = H[q]?) → va_S A0 H0 H1 locs1 → W p l e R s m args below meth c H1 locs1 (cells + mc) (slots + ms) Q (F0 m (pc + 3) ls (.float r :: rest))) : W p l e R s m args below meth c H locs cells slots Q (F0 m pc ls st0) := by
  intro T hT X
  rcases hr T hT X with ⟨v, st₀, t, T', L, h0, X', hL, e1, e2, ⟨⟨r, u, hv, hp, hb⟩, hF⟩, st⟩ | ⟨q, st₀, t, T', L, E, ce, h0, X', hL, e1, e2, ⟨u, hp, hb, hF⟩, hce, hcv, hcl, st⟩
  · cases hv
    obtain ⟨k1, k2, k3⟩ := vx_keep h0 e1 hS hA hf hL hF
    obtain ⟨t2, a1, b1⟩ := kk r u t T'.heap (locs ++ L) e1.symm (by rw [← e2]; exact X'.warmed.alike) hp hb k1 k2 k3 T' rfl X'
    exact ⟨t2, st t2 a1, b1⟩
  · obtain ⟨k1, k2, k3⟩ := vx_keep h0 e1 hS hAX hf hL hF
    obtain ⟨t2, a1, b1⟩ := kx E ce q u t T'.heap (locs ++ L) e1.symm (by rw [← e2]; exact X'.warmed.alike) hp hb k1 k2 k3 (by rw [e1]; exact hce) hcv hcl T' rfl X'
    exact ⟨t2, st.trans a1, b1⟩
theorem vx_calld {S SX : Type} {post : UInt64 → S → Prop} {px : SX → Prop} {B : S → State → Prop} {BX : String → SX → State → Prop} {AX : Nat → Prop} (hr : vx_Run p l e R s m args below meth c H locs cells slots mc ms (F0 m pc ls st0) rest (va_Qd post B A1 a) (vx_X px BX AX) free) (hS : va_S A0 H0 H locs) (hA : ∀ q, q < H.size → A1 q → A0 q) (hf : ∀ q, free q → A0 q) (hAX : ∀ q, q < H.size → AX q → A0 q)
    (kx : ∀ (E : String) (ce : Cell) (q9 : Addr) (u : SX) (t : State) (H1 : Heap) (locs1 : List Loc), t.heap = H1 → s.vm.Alike t.vm → px u → BX E u t → H.size ≤ H1.size → (∀ q : Nat, q < H.size → ¬ AX q → H1[q]? = H[q]?) → va_S A0 H0 H1 locs1 → H1[q9]? = some ce → ce.vm = .none → s.vm.findClass E = some ce.cls → vx_W p l e R s m args below meth c H1 locs1 (cells + mc) (slots + ms) Q (F0 m pc ls rest) q9)
    (kk : ∀ (r : UInt64) (u : S) (t : State) (H1 : Heap) (locs1 : List Loc), t.heap = H1 → s.vm.Alike t.vm → post r u → B u t → H.size ≤ H1.size → (∀ q : Nat, q < H.size → ¬ A1 q → H1[q]? = H[q]?) → va_S A0 H0 H1 locs1 → W p l e R s m args below meth c H1 locs1 (cells + mc) (slots + ms) Q (F0 m (pc + 3) ls (.double r :: rest))) : W p l e R s m args below meth c H locs cells slots Q (F0 m pc ls st0) := by
  intro T hT X
  rcases hr T hT X with ⟨v, st₀, t, T', L, h0, X', hL, e1, e2, ⟨⟨r, u, hv, hp, hb⟩, hF⟩, st⟩ | ⟨q, st₀, t, T', L, E, ce, h0, X', hL, e1, e2, ⟨u, hp, hb, hF⟩, hce, hcv, hcl, st⟩
  · cases hv
    obtain ⟨k1, k2, k3⟩ := vx_keep h0 e1 hS hA hf hL hF
    obtain ⟨t2, a1, b1⟩ := kk r u t T'.heap (locs ++ L) e1.symm (by rw [← e2]; exact X'.warmed.alike) hp hb k1 k2 k3 T' rfl X'
    exact ⟨t2, st t2 a1, b1⟩
  · obtain ⟨k1, k2, k3⟩ := vx_keep h0 e1 hS hAX hf hL hF
    obtain ⟨t2, a1, b1⟩ := kx E ce q u t T'.heap (locs ++ L) e1.symm (by rw [← e2]; exact X'.warmed.alike) hp hb k1 k2 k3 (by rw [e1]; exact hce) hcv hcl T' rfl X'
    exact ⟨t2, st.trans a1, b1⟩
theorem vx_callv {S SX : Type} {post : S → Prop} {px : SX → Prop} {B : S → State → Prop} {BX : String → SX → State → Prop} {AX : Nat → Prop} (hr : vx_Run p l e R s m args below meth c H locs cells slots mc ms (F0 m pc ls st0) rest (va_Qv post B A1 a) (vx_X px BX AX) free) (hS : va_S A0 H0 H locs) (hA : ∀ q, q < H.size → A1 q → A0 q) (hf : ∀ q, free q → A0 q) (hAX : ∀ q, q < H.size → AX q → A0 q)
    (kx : ∀ (E : String) (ce : Cell) (q9 : Addr) (u : SX) (t : State) (H1 : Heap) (locs1 : List Loc), t.heap = H1 → s.vm.Alike t.vm → px u → BX E u t → H.size ≤ H1.size → (∀ q : Nat, q < H.size → ¬ AX q → H1[q]? = H[q]?) → va_S A0 H0 H1 locs1 → H1[q9]? = some ce → ce.vm = .none → s.vm.findClass E = some ce.cls → vx_W p l e R s m args below meth c H1 locs1 (cells + mc) (slots + ms) Q (F0 m pc ls rest) q9)
    (kk : ∀ (u : S) (t : State) (H1 : Heap) (locs1 : List Loc), t.heap = H1 → s.vm.Alike t.vm → post u → B u t → H.size ≤ H1.size → (∀ q : Nat, q < H.size → ¬ A1 q → H1[q]? = H[q]?) → va_S A0 H0 H1 locs1 → W p l e R s m args below meth c H1 locs1 (cells + mc) (slots + ms) Q (F0 m (pc + 3) ls (rest))) : W p l e R s m args below meth c H locs cells slots Q (F0 m pc ls st0) := by
  intro T hT X
  rcases hr T hT X with ⟨v, st₀, t, T', L, h0, X', hL, e1, e2, ⟨⟨u, hv, hp, hb⟩, hF⟩, st⟩ | ⟨q, st₀, t, T', L, E, ce, h0, X', hL, e1, e2, ⟨u, hp, hb, hF⟩, hce, hcv, hcl, st⟩
  · cases hv
    obtain ⟨k1, k2, k3⟩ := vx_keep h0 e1 hS hA hf hL hF
    obtain ⟨t2, a1, b1⟩ := kk u t T'.heap (locs ++ L) e1.symm (by rw [← e2]; exact X'.warmed.alike) hp hb k1 k2 k3 T' rfl X'
    exact ⟨t2, st t2 a1, b1⟩
  · obtain ⟨k1, k2, k3⟩ := vx_keep h0 e1 hS hAX hf hL hF
    obtain ⟨t2, a1, b1⟩ := kx E ce q u t T'.heap (locs ++ L) e1.symm (by rw [← e2]; exact X'.warmed.alike) hp hb k1 k2 k3 (by rw [e1]; exact hce) hcv hcl T' rfl X'
    exact ⟨t2, st.trans a1, b1⟩
/-- caught by the row x of this method's table; the rows ahead don't take it -/
theorem vx_catch {own name : String} {E : String} {ce : Cell} {q : Addr} (hown : s.vm.findClass own = some m.cls) (pre : List ExceptionTableEntry) (x : ExceptionTableEntry) (suf : List ExceptionTableEntry) (hsplit : c.exceptionTable.toList = pre ++ x :: suf)
    (hpass : ∀ z ∈ pre, covers z pc = false ∨ (z.catchType ≠ 0 ∧ ∃ nm : String, (Cond.classLink own z.catchType nm).before args s = true ∧ va_Nc E nm s)) (hx : covers x pc = true) (h0 : x.catchType ≠ 0)
    (hlink : (Cond.classLink own x.catchType name).before args s = true) (hcast : (Cond.castable E name).before args s = true) (hcell : H[q]? = some ce) (hv : ce.vm = .none) (hcl : s.vm.findClass E = some ce.cls)
    (kk : W p l e R s m args below meth c H locs cells slots Q (F0 m x.handlerPc ls [.ref q])) : vx_W p l e R s m args below meth c H locs cells slots Q (F0 m pc ls rest) q := by
  intro T hT X
  have hpl : e.platform.magicAccessors = ({} : Platform).magicAccessors := by rw [X.admits.platform]
  obtain ⟨c3, c4, hc3, hc4, hasg⟩ := Cond.castable_spec hcast
  cases Option.some.inj (hc3.symm.trans hcl)
  obtain ⟨c5, hc5, hcl5⟩ := Cond.classLink_spec hown hlink e.platform hpl
  cases Option.some.inj (hc4.symm.trans hc5)
  obtain ⟨vm', X', st⟩ := X.thenCaughtThrough q (g := F0 m pc ls rest) rfl (Steps.refl _) (by rw [hT]; exact hcell) (by rw [hv]; rfl) (by obtain ⟨k9, h9, -⟩ := Vm.findClass_spec hcl; exact ⟨k9, h9⟩) pre x suf hsplit
    (fun z hz => by
      rcases hpass z hz with h | ⟨hz0, nm, hl1, hn1⟩
      · exact Or.inl h
      · obtain ⟨c6, hc6, hcl6⟩ := Cond.classLink_spec hown hl1 e.platform hpl
        obtain ⟨a8, b8, h1, h2, h3⟩ := hn1
        cases Option.some.inj (h1.symm.trans hcl)
        cases Option.some.inj (h2.symm.trans hc6)
        exact Or.inr ⟨hz0, _, hcl6, h3⟩) hx (Or.inr ⟨h0, c4, hcl5, hasg⟩)
  obtain ⟨t, a1, b1⟩ := kk (T.setVm vm') hT X'
  exact ⟨t, st.trans a1, b1⟩
end Rows
section Ends
variable {p : Program} {l : Launch} {e : Env} {R : Room} {s : State} {m : MethodId} {args : Array Value} {below : List Frame} {meth : Method} {c : Code} {H : Heap} {locs : List Loc} {cells slots : Nat} {Q : State → Prop}
variable {mc ms : Nat} {free : Addr → Prop} {A0 A1 : Nat → Prop} {H0 : Heap} {a : Array Value} {ls : Array Slot} {st0 rest : List Value}
variable {Qc : Array Value → State → Outcome → State → Prop} {XC : String → State → State → Prop}
/-- what a body that may throw owes at its end -/
def vx_MQ (below : List Frame) (Qc : Array Value → State → Outcome → State → Prop) (XC : String → State → State → Prop) (a : Array Value) (s : State) (mc ms : Nat) (free : Addr → Prop) : State → Prop := fun t =>
  ∃ o, t.status = .running ∧ Ended t below o ∧ vx_Q Qc XC mc ms free a s o t
theorem vx_ret {g : JFrame} {mc ms : Nat} (k : W p l e R s m args below meth c H locs cells slots (MQ below Qc args s mc ms free) g) : W p l e R s m args below meth c H locs cells slots (vx_MQ below Qc XC args s mc ms free) g := by
  intro T hT X
  obtain ⟨t, a1, o, b1, b2, b3, b4⟩ := k T hT X
  exact ⟨t, a1, o, b1, b2, Or.inl ⟨b3, b4⟩⟩
/-- not caught here: it goes on to the caller -/
theorem vx_widen {g : JFrame} {q : Addr} {k n : Nat} (h1 : cells ≤ k) (h2 : slots ≤ n) (kk : vx_W p l e R s m args below meth c H locs k n Q g q) : vx_W p l e R s m args below meth c H locs cells slots Q g q := fun T hT X => kk T hT (stand_widen X h1 h2)
theorem vx_out {pc : Nat} {E : String} {ce : Cell} {q : Addr} {mc ms : Nat} (hout : ∀ x ∈ c.exceptionTable.toList, covers x pc = false) (hlocks : meth.locks = false) (hcell : H[q]? = some ce) (hv : ce.vm = .none) (hcl : s.vm.findClass E = some ce.cls)
    (hx : ∀ t : State, t.heap = H → s.vm.Alike t.vm → XC E s t) (hf : ∀ z ∈ locs, free z.base) (hc : cells ≤ mc) (hs : slots ≤ ms) :
    vx_W p l e R s m args below meth c H locs cells slots (vx_MQ below Qc XC args s mc ms free) (F0 m pc ls rest) q := by
  intro T hT X
  obtain ⟨st1, hrun, hend, hW, hsm⟩ := X.leaveThrown q (g := F0 m pc ls rest) rfl rfl rfl hout hlocks
  have hcell9 : (T.setFrames (.throwing q :: below)).heap[q]? = some ce := by
    show T.heap[q]? = some ce
    rw [hT]; exact hcell
  exact ⟨_, st1, .threw q, hrun, hend, Or.inr ⟨q, rfl, E, ce, locs, hx _ hT hW.alike, hcell9, hv, hcl, hW, hsm.mono hc hs, hf⟩⟩
theorem vx_frame {U : State} {k n : Nat} (h : s.sameButNew ({ U with vm := s.vm } : State) locs k n) : s.heap.size ≤ U.heap.size ∧ ∀ q : Nat, q < s.heap.size → (∀ z ∈ locs, z.base ≠ q) → U.heap[q]? = s.heap[q]? := by
  obtain ⟨-, h2, -, -, -, h6⟩ := h
  refine ⟨h2, fun q hq hz => ?_⟩
  obtain ⟨c9, e1, e2, e3, e4⟩ := h6 q _ (Array.getElem?_eq_getElem hq)
  have hs : c9.slots = (s.heap[q]).slots := Array.ext_getElem? fun i => e4 i fun hm => hz _ hm rfl
  have h9 : c9 = s.heap[q] := by
    rw [hs] at e2
    exact e2
  have e5 : U.heap[q]? = some c9 := e1
  rw [e5, h9, Array.getElem?_eq_getElem hq]
/-- the words of a throw but the four that speak of the heap -/
def vx_no (w : Cond) : Bool := decide (w ≠ .isRef (.static Bundle.tN "UNASSIGNED_STACK" Bundle.steD)) && decide (w ≠ .isRef (.static Bundle.tN "SUPPRESSED_SENTINEL" Bundle.listD)) && decide (w ≠ .laysStatic Bundle.tN "UNASSIGNED_STACK" Bundle.steD) && decide (w ≠ .laysStatic Bundle.tN "SUPPRESSED_SENTINEL" Bundle.listD)
def vx_at0 (own : String) (ic : Nat) (X : String) (names : List String) : List Cond := (Bundle.ownAtoms0 own ic X names).filter vx_no
def vx_atS (own : String) (ic : Nat) (X : String) (names : List String) : List Cond := (Bundle.ownAtoms own ic X names).filter vx_no
/-- a word that the tables alone decide, or a good one -/
def vx_ot (w : Cond) : Bool := w.onTables || goodWord w
theorem vx_ot_at {args a' : Array Value} {s U : State} {w : Cond} (hW : s.WarmedH U.vm) (hvm : s.vm = U.vm) (hg : vx_ot w = true) (h : w.before args s = true) : w.before a' U = true := by
  simp only [vx_ot, Bool.or_eq_true] at hg
  rcases hg with hg | hg
  · exact va_tabs hg hvm h
  · exact word_at hW (good_of_word hg) h
/-- a list's words: the good ones out of the method's own list, the others by premises of their own -/
theorem vx_hat {args : Array Value} {s : State} {L B : List Cond} (h1 : ∀ w ∈ L.filter goodWord, w.before args s = true) (h2 : ∀ w ∈ L.filter (fun w => !goodWord w), w ∈ B) (h3 : ∀ w ∈ B, w.before args s = true) : ∀ w ∈ L, w.before args s = true := by
  intro w hw
  by_cases g : goodWord w = true
  · exact h1 w (List.mem_filter.mpr ⟨hw, g⟩)
  · refine h3 w (h2 w (List.mem_filter.mpr ⟨hw, ?_⟩))
    show (!goodWord w) = true
    cases hgw : goodWord w
    · rfl
    · exact absurd hgw g
theorem vx_c {args : Array Value} {s : State} {w : Cond} {B : List Cond} (h : w.before args s = true) (t : ∀ w ∈ B, w.before args s = true) : ∀ w' ∈ w :: B, w'.before args s = true := fun w' h' => (List.mem_cons.mp h').elim (fun e => by rw [e]; exact h) (t w')
theorem vx_n {args : Array Value} {s : State} : ∀ w ∈ ([] : List Cond), w.before args s = true := fun _ h => nomatch h
theorem vx_own {args : Array Value} {s : State} {L : List Cond} (h1 : ∀ w ∈ L.filter vx_no, w.before args s = true)
    (hU : (Cond.isRef (.static Bundle.tN "UNASSIGNED_STACK" Bundle.steD)).before args s = true) (hN : (Cond.isRef (.static Bundle.tN "SUPPRESSED_SENTINEL" Bundle.listD)).before args s = true)
    (lU : (Cond.laysStatic Bundle.tN "UNASSIGNED_STACK" Bundle.steD).before args s = true) (lN : (Cond.laysStatic Bundle.tN "SUPPRESSED_SENTINEL" Bundle.listD).before args s = true) : ∀ w ∈ L, w.before args s = true := by
  intro w hw
  by_cases e1 : w = .isRef (.static Bundle.tN "UNASSIGNED_STACK" Bundle.steD)
  · rw [e1]; exact hU
  · by_cases e2 : w = .isRef (.static Bundle.tN "SUPPRESSED_SENTINEL" Bundle.listD)
    · rw [e2]; exact hN
    · by_cases e3 : w = .laysStatic Bundle.tN "UNASSIGNED_STACK" Bundle.steD
      · rw [e3]; exact lU
      · by_cases e4 : w = .laysStatic Bundle.tN "SUPPRESSED_SENTINEL" Bundle.listD
        · rw [e4]; exact lN
        · exact h1 w (List.mem_filter.mpr ⟨hw, by unfold vx_no; rw [decide_eq_true e1, decide_eq_true e2, decide_eq_true e3, decide_eq_true e4]; rfl⟩)
/-- where a static field lies, its class's statics cell in H -/
def vx_L (C n d : String) (A : Nat → Prop) (U : State) (H : Heap) : Prop := ∃ (c : ClassId) (k : Class) (i : Nat) (f : Field) (a : Nat) (cell : Cell), U.vm.findClass C = some c ∧ U.fieldFound? C n d = some (c, k, i, f) ∧ f.isStatic = true ∧ k.statics = some a ∧ H[a]? = some cell ∧ cell.vm.isStatics = true ∧ cell.cls = c ∧ f.slot < cell.slots.size ∧ k.staticTypes[f.slot]? = some f.type ∧ ¬ A a
theorem vx_L.moved {C n d : String} {A : Nat → Prop} {u U : State} {H : Heap} (hvm : u.vm.Alike U.vm) (h : vx_L C n d A u H) : vx_L C n d A U H := by
  obtain ⟨c, k, i, f, a, cell, h1, h2, h3, h4, h5, h6, h7, h8, h9, h10⟩ := h
  obtain ⟨k', hi', he⟩ := State.fieldFound?_setVm hvm h2
  exact ⟨c, k', i, f, a, cell, by rw [hvm.findClass]; exact h1, hi', h3, by rw [he]; exact h4, h5, h6, h7, h8, by rw [he]; exact h9, h10⟩
theorem vx_L.kept {C n d : String} {A : Nat → Prop} {U : State} {H H1 : Heap} (h : vx_L C n d A U H) (hq : ∀ a : Nat, a < H.size → ¬ A a → H1[a]? = H[a]?) : vx_L C n d A U H1 := by
  obtain ⟨c, k, i, f, a, cell, h1, h2, h3, h4, h5, h6, h7, h8, h9, h10⟩ := h
  exact ⟨c, k, i, f, a, cell, h1, h2, h3, h4, by rw [hq a (Array.getElem?_eq_some_iff.mp h5).1 h10]; exact h5, h6, h7, h8, h9, h10⟩
theorem vx_L.narrow {C n d : String} {A B : Nat → Prop} {U : State} {H : Heap} (h : vx_L C n d A U H) (hAB : ∀ q, B q → A q) : vx_L C n d B U H := by
  obtain ⟨c, k, i, f, a, cell, h1, h2, h3, h4, h5, h6, h7, h8, h9, h10⟩ := h
  exact ⟨c, k, i, f, a, cell, h1, h2, h3, h4, h5, h6, h7, h8, h9, fun z => h10 (hAB _ z)⟩
theorem vx_L.word {C n d : String} {A : Nat → Prop} {s : State} {args : Array Value} (h : vx_L C n d A s s.heap) : (Cond.laysStatic C n d).before args s = true := by
  obtain ⟨c, k, i, f, a, cell, h1, h2, h3, h4, h5, h6, h7, h8, h9, -⟩ := h
  show (Cond.laysStatic C n d).holds args s none s [] = true
  exact Cond.laysStatic_of h1 h2 h3 h4 h5 h6 h7 h8 h9
/-- .. and what it holds: null or some reference -/
def vx_Zq (C n d : String) (A : Nat → Prop) (U : State) (H : Heap) : Prop := va_Zq C n d A U H ∧ vx_L C n d A U H
theorem vx_Zq.moved {C n d : String} {A : Nat → Prop} {u U : State} {H : Heap} (hvm : u.vm.Alike U.vm) (h : vx_Zq C n d A u H) : vx_Zq C n d A U H := ⟨va_Zq.moved hvm h.1, vx_L.moved hvm h.2⟩
theorem vx_Zq.kept {C n d : String} {A : Nat → Prop} {U : State} {H H1 : Heap} (h : vx_Zq C n d A U H) (hq : ∀ a : Nat, a < H.size → ¬ A a → H1[a]? = H[a]?) : vx_Zq C n d A U H1 := ⟨va_Zq.kept h.1 hq, vx_L.kept h.2 hq⟩
theorem vx_Zq.narrow {C n d : String} {A B : Nat → Prop} {U : State} {H : Heap} (h : vx_Zq C n d A U H) (hAB : ∀ q, B q → A q) : vx_Zq C n d B U H := ⟨va_Zq.narrow h.1 hAB, vx_L.narrow h.2 hAB⟩
theorem vx_Zqof {args : Array Value} {s : State} {C n d : String} {A : Nat → Prop} (hl : (Cond.laysStatic C n d).before args s = true) (hini : (Cond.initialized C).before args s = true) (h : (Cond.isRef (.static C n d)).before args s = true) (hA : ∀ a : Nat, a < s.heap.size → ¬ A a) : vx_Zq C n d A s s.heap := by
  refine ⟨va_Zqof hl hini h hA, ?_⟩
  obtain ⟨c, k, i, f, a, cell, h1, h2, h3, h4, h5, h6, h7, h8, h9⟩ := Cond.laysStatic_spec hl
  exact ⟨c, k, i, f, a, cell, h1, h2, h3, h4, h5, h6, h7, h8, h9, hA a (Array.getElem?_eq_some_iff.mp h5).1⟩
theorem vx_isRef {C n d : String} {v : Value} {A : Nat → Prop} {s : State} {args : Array Value} (h : va_Z C n d v A s s.heap) (hv : v.isRef = true) : (Cond.isRef (.static C n d)).before args s = true := by
  obtain ⟨cf, kf, fi, f, a, cell, h1, h2, h3, h4, h5, h6, h7, -⟩ := h
  have he : (Term.static C n d).eval args s none [] s = some v := by
    simp [Term.eval, State.fieldNamed?, h1, h2, h4, h5, h6, h7]
  simp only [Cond.before, Cond.holds, Cond.value, he]
  cases v <;> simp_all [Value.isRef]
theorem vx_isRefq {C n d : String} {A : Nat → Prop} {s : State} {args : Array Value} (h : va_Zq C n d A s s.heap) : (Cond.isRef (.static C n d)).before args s = true := by
  rcases h with h | ⟨t, h⟩
  · exact vx_isRef h rfl
  · exact vx_isRef h rfl
/-- the same frame, seen from here: as if the method were called anew in this heap -/
theorem vx_rebase {T : State} (X : Stand p l e R s m args below meth c T locs cells slots) {R' : Room} (hf : R'.frames ≤ R.frames) (hl : R'.locals ≤ R.locals) (hc : cells + R'.cells ≤ R.cells) (hs : slots + R'.slots ≤ R.slots) :
    Stand p l e R' ((T.setVm s.vm).setFrames (.invoking m args :: below)) m args below meth c T [] 0 0 := by
  have htop : (T.setVm s.vm).topJava?.isSome := X.here.top
  have hF : ((T.setVm s.vm).setFrames (.invoking m args :: below)).frames = .invoking m args :: below := State.frames_setFrames _ (State.cur_lt_of_top htop)
  obtain ⟨g₀, hg0⟩ := Option.isSome_iff_exists.mp htop
  obtain ⟨r, hr⟩ := State.topJava?_eq_some.mp hg0
  have hl9 : e.platform.stackLimits (T.setVm s.vm).me = e.platform.stackLimits s.me := X.limits
  have hb9 : (T.setVm s.vm).me.stackBytes = s.me.stackBytes := X.bytes
  refine ⟨X.admits, X.cas, X.clock, hF, ?_, X.hears, X.method, X.code, X.here, X.tail, X.warmed, ?_, ?_, ?_⟩
  · have h := X.room
    have hU : ((T.setVm s.vm).setFrames (.invoking m args :: below)).localsInUse = s.localsInUse := by
      rw [State.localsInUse_invoking hF (meth := meth) (c := c) X.method X.code, State.localsInUse_invoking X.frames X.method X.code]
    simp only [State.hasRoom, Bool.and_eq_true, decide_eq_true_eq] at h ⊢
    obtain ⟨⟨⟨⟨h1, h2, h3, h4, h5, h6⟩, h7⟩, h8⟩, h9⟩ := h
    rw [X.frames, List.length_cons] at h2 h3
    have q1 := X.heapSize
    have q2 := X.used
    simp only [hF, hU, List.length_cons, State.stackLimits_setFrames, State.stackBytes_setFrames, hl9, hb9]
    refine ⟨⟨⟨⟨by omega, by omega, by omega, by omega, by omega, h6⟩, ?_⟩, ?_⟩, X.book⟩
    · show T.heap.size + R'.cells ≤ e.platform.maxCells
      omega
    · show T.slotsUsed + R'.slots ≤ e.platform.maxSlots
      omega
  · rw [State.stackLimits_setFrames]; rfl
  · rw [State.stackBytes_setFrames]; rfl
  · refine ⟨?_, Nat.le_refl _, Nat.le_refl _, ?_, ?_, fun a c9 h9 => ⟨c9, h9, rfl, rfl, fun _ _ => rfl⟩⟩
    · obtain ⟨t, ht, -⟩ := State.frames_cons hr
      show T.setVm s.vm = { ((T.setVm s.vm).setFrames (.invoking m args :: below)).setFrames (T.setVm s.vm).frames with heap := T.heap, slotsUsed := T.slotsUsed }
      rw [State.setFrames_setFrames, State.setFrames_self ht]
      rfl
    · show T.slotsUsed = T.slotsUsed + ((T.heap.toList.drop T.heap.size).map (·.slots.size)).sum
      rw [List.drop_eq_nil_of_le (Nat.le_of_eq Array.length_toList)]
      rfl
    · show ((T.heap.toList.drop T.heap.size).map (·.slots.size)).sum ≤ 0
      rw [List.drop_eq_nil_of_le (Nat.le_of_eq Array.length_toList)]
      exact Nat.le_refl _
/-- 'throw new E()': new; dup; invokespecial; athrow -/
theorem vx_throw0 {cc : ByteArray} {pc : Nat} (hexec : p.tables.exec = Jvm.exec) (hb : c.code = cc) (hl : l.stackTraces = false) {own cls : String} {names : List String} {ik ic mc ms : Nat} {A : Nat → Prop}
    (hown : s.vm.findClass own = some m.cls) (hcls : Bundle.fit cls = true) (hnames : ∀ n ∈ names, Bundle.fit n = true)
    (hk : (Cond.classLink own ik cls).before args s = true) (hini : (Cond.initialized cls).before args s = true) (hat : ∀ w ∈ vx_at0 own ic cls names, w.before args s = true)
    (hgood : ∀ w ∈ Cond.classLink own ik cls :: Cond.initialized cls :: vx_at0 own ic cls names, vx_ot w = true)
    (hU : vx_Zq Bundle.tN "UNASSIGNED_STACK" Bundle.steD A s s.heap) (hN : vx_Zq Bundle.tN "SUPPRESSED_SENTINEL" Bundle.listD A s s.heap) (hS : va_S A s.heap H locs) (hsize : ls.size = c.maxLocals)
    (d0 : decode cc pc = .ok (.new ik, 3)) (d3 : decode cc (pc + 3) = .ok (.dup, 1)) (d4 : decode cc (pc + 4) = .ok (.invokespecial ic, 3)) (d7 : decode cc (pc + 7) = .ok (.athrow, 1))
    (hout : ∀ x ∈ c.exceptionTable.toList, covers x (pc + 7) = false)
    (hRframes : names.length + 3 < R.frames) (hRlocals : (rest.map fun v => v.category).sum + (13 * (names.length + 1) + 42) ≤ R.locals) (hRcells : cells + 1 ≤ R.cells) (hRslots : slots + 6 ≤ R.slots) (hlocks : meth.locks = false)
    (hx : ∀ t : State, s.vm.Alike t.vm → H.size ≤ t.heap.size → (∀ q : Nat, q < H.size → t.heap[q]? = H[q]?) → XC cls s t)
    (hf : ∀ z ∈ locs, free z.base) (hc : cells + 1 ≤ mc) (hs : slots + 6 ≤ ms) :
    W p l e R s m args below meth c H locs cells slots (vx_MQ below Qc XC args s mc ms free) (F0 m pc ls rest) := by
  intro T hT X
  have htr : e.platform.stackTraces = false := (show e.platform.stackTraces = l.stackTraces by rw [X.admits.platform]).trans hl
  have Y := vx_rebase X (R' := { frames := R.frames, locals := R.locals, cells := 1, slots := 6 }) (Nat.le_refl _) (Nat.le_refl _) hRcells hRslots
  obtain ⟨s', hA⟩ : ∃ z, z = (T.setVm s.vm).setFrames (.invoking m args :: below) := ⟨_, rfl⟩
  rw [← hA] at Y
  have hvm : s'.vm = s.vm := by rw [hA]; rfl
  have hhp : s'.heap = H := by rw [hA]; exact hT
  have hW0 : s.WarmedH s'.vm := by rw [hvm]; exact State.WarmedH.refl s
  have hat' : ∀ w ∈ vx_at0 own ic cls names, w.before args s' = true := fun w hw => vx_ot_at hW0 hvm.symm (hgood w (List.mem_cons_of_mem _ (List.mem_cons_of_mem _ hw))) (hat w hw)
  have hk' : (Cond.classLink own ik cls).before args s' = true := vx_ot_at hW0 hvm.symm (hgood _ List.mem_cons_self) hk
  have hini' : (Cond.initialized cls).before args s' = true := vx_ot_at hW0 hvm.symm (hgood _ (List.mem_cons_of_mem _ List.mem_cons_self)) hini
  have hU' : vx_Zq Bundle.tN "UNASSIGNED_STACK" Bundle.steD A s' s'.heap := by rw [hhp]; exact vx_Zq.moved hW0.alike (hU.kept hS.2.1)
  have hN' : vx_Zq Bundle.tN "SUPPRESSED_SENTINEL" Bundle.listD A s' s'.heap := by rw [hhp]; exact vx_Zq.moved hW0.alike (hN.kept hS.2.1)
  have h : ∀ w ∈ Bundle.ownAtoms0 own ic cls names, w.before args s' = true := vx_own hat' (vx_isRefq hU'.1) (vx_isRefq hN'.1) hU'.2.word hN'.2.word
  have hown' : s'.vm.findClass own = some m.cls := by rw [hvm]; exact hown
  have hins : (Cond.instantiable cls 6).before args s' = true := h _ (by simp [Bundle.ownAtoms0])
  obtain ⟨vm₁, cX, kX, hfX, hkX, -, -, X₁, st1⟩ := Y.newCold hexec (own := own) (C := cls) (index := ik) (n := 6) hown' hk' hins hini'
    (g := F0 m pc ls rest) rfl (by rw [hb]; exact d0) (Nat.le_refl _) (Nat.le_refl _)
  generalize hT1 : (T.setVm vm₁).pushCell { cls := cX, slots := kX.instanceTypes.map defaultValue, vm := .none } = T1 at X₁ st1
  have hcat : (Value.ref T.heap.size).category = 1 := rfl
  have hcellA : T1.heap[T.heap.size]? = some (freshCell cX kX) := by rw [← hT1]; exact State.heap_pushCell_size _ _
  have d3' : decode c.code (pc + 3) = .ok (.dup, 1) := by rw [hb]; exact d3
  obtain ⟨U, hsteps, hrun, hend, hW, hsame, ce, hce, hO⟩ := X₁.ctorThrow0 hexec htr (own := own) (cls := cls) (names := names) (ic := ic) hown' hcls hnames h (fun x hx => nomatch hx) hfX hkX hcellA (by rw [hhp, hT]; exact Nat.le_refl _)
    (g := { method := m, pc := pc + 4, locals := ls, stack := .ref T.heap.size :: .ref T.heap.size :: rest, locked := none }) rfl hsize rfl rfl (rest := rest) rfl
    (by rw [hb]; exact d4) (by rw [hb]; exact d7) hout hRframes (by simp only [List.map_cons, List.sum_cons, hcat]; omega) hlocks
  obtain ⟨f1, f2⟩ := vx_frame hsame
  rw [hhp] at f1 f2
  have hWs : s.WarmedH U.vm := State.WarmedH.trans hW0 hW
  have hcl : s.vm.findClass cls = some ce.cls := by
    have h9 := hO.cls
    rw [hvm] at h9
    exact h9
  have hall : s.sameButNew ({ U with vm := s.vm } : State) locs mc ms := by
    subst hA
    obtain ⟨e1, e2⟩ := hsame
    rw [State.setFrames_setFrames] at e1
    have h2 : (T.setVm s.vm).sameButNew ({ U with vm := s.vm } : State) [] (0 + 1) (0 + 6) := ⟨e1, e2⟩
    have h3 := X.same.trans h2
    rw [List.append_nil] at h3
    exact h3.mono hc hs
  refine ⟨U, ?_, .threw T.heap.size, hrun, hend, Or.inr ⟨T.heap.size, rfl, cls, ce, locs, hx U hWs.alike f1 (fun q hq => f2 q hq (fun z hz => nomatch hz)), hce, hO.vm, hcl, hWs, hall, hf⟩⟩
  refine st1 _ ?_
  show Steps p.tables e below (T1.setTop { method := m, pc := pc + 3, locals := ls, stack := .ref T.heap.size :: rest, locked := none }) _
  jvm_step X₁.here [X₁.here.top, hexec, d3', Value.category]
  exact hsteps
/-- 'throw new E("text")': new; dup; ldc; invokespecial; athrow -/
theorem vx_throwS {cc : ByteArray} {pc : Nat} (hexec : p.tables.exec = Jvm.exec) (hb : c.code = cc) (hl : l.stackTraces = false) {own cls text : String} {names : List String} {ik is ic mc ms sa : Nat} {A : Nat → Prop}
    (hown : s.vm.findClass own = some m.cls) (hcls : Bundle.fit cls = true) (hnames : ∀ n ∈ names, Bundle.fit n = true)
    (hk : (Cond.classLink own ik cls).before args s = true) (hini : (Cond.initialized cls).before args s = true) (hstr : vk_R own is text sa s) (hat : ∀ w ∈ vx_atS own ic cls names, w.before args s = true)
    (hgood : ∀ w ∈ Cond.classLink own ik cls :: Cond.initialized cls :: vx_atS own ic cls names, vx_ot w = true)
    (hU : vx_Zq Bundle.tN "UNASSIGNED_STACK" Bundle.steD A s s.heap) (hN : vx_Zq Bundle.tN "SUPPRESSED_SENTINEL" Bundle.listD A s s.heap) (hS : va_S A s.heap H locs) (hsize : ls.size = c.maxLocals)
    (d0 : decode cc pc = .ok (.new ik, 3)) (d3 : decode cc (pc + 3) = .ok (.dup, 1)) (d4 : decode cc (pc + 4) = .ok (.ldc is, 2)) (d6 : decode cc (pc + 6) = .ok (.invokespecial ic, 3)) (d9 : decode cc (pc + 9) = .ok (.athrow, 1))
    (hout : ∀ x ∈ c.exceptionTable.toList, covers x (pc + 9) = false)
    (hRframes : names.length + 3 < R.frames) (hRlocals : (rest.map fun v => v.category).sum + (13 * (names.length + 1) + 43) ≤ R.locals) (hRcells : cells + 1 ≤ R.cells) (hRslots : slots + 6 ≤ R.slots) (hlocks : meth.locks = false)
    (hx : ∀ t : State, s.vm.Alike t.vm → H.size ≤ t.heap.size → (∀ q : Nat, q < H.size → t.heap[q]? = H[q]?) → XC cls s t)
    (hf : ∀ z ∈ locs, free z.base) (hc : cells + 1 ≤ mc) (hs : slots + 6 ≤ ms) :
    W p l e R s m args below meth c H locs cells slots (vx_MQ below Qc XC args s mc ms free) (F0 m pc ls rest) := by
  intro T hT X
  have htr : e.platform.stackTraces = false := (show e.platform.stackTraces = l.stackTraces by rw [X.admits.platform]).trans hl
  have Y := vx_rebase X (R' := { frames := R.frames, locals := R.locals, cells := 1, slots := 6 }) (Nat.le_refl _) (Nat.le_refl _) hRcells hRslots
  obtain ⟨s', hA⟩ : ∃ z, z = (T.setVm s.vm).setFrames (.invoking m args :: below) := ⟨_, rfl⟩
  rw [← hA] at Y
  have hvm : s'.vm = s.vm := by rw [hA]; rfl
  have hhp : s'.heap = H := by rw [hA]; exact hT
  have hW0 : s.WarmedH s'.vm := by rw [hvm]; exact State.WarmedH.refl s
  have hat' : ∀ w ∈ vx_atS own ic cls names, w.before args s' = true := fun w hw => vx_ot_at hW0 hvm.symm (hgood w (List.mem_cons_of_mem _ (List.mem_cons_of_mem _ hw))) (hat w hw)
  have hk' : (Cond.classLink own ik cls).before args s' = true := vx_ot_at hW0 hvm.symm (hgood _ List.mem_cons_self) hk
  have hini' : (Cond.initialized cls).before args s' = true := vx_ot_at hW0 hvm.symm (hgood _ (List.mem_cons_of_mem _ List.mem_cons_self)) hini
  have hU' : vx_Zq Bundle.tN "UNASSIGNED_STACK" Bundle.steD A s' s'.heap := by rw [hhp]; exact vx_Zq.moved hW0.alike (hU.kept hS.2.1)
  have hN' : vx_Zq Bundle.tN "SUPPRESSED_SENTINEL" Bundle.listD A s' s'.heap := by rw [hhp]; exact vx_Zq.moved hW0.alike (hN.kept hS.2.1)
  have h : ∀ w ∈ Bundle.ownAtoms own ic cls names, w.before args s' = true := vx_own hat' (vx_isRefq hU'.1) (vx_isRefq hN'.1) hU'.2.word hN'.2.word
  have hown' : s'.vm.findClass own = some m.cls := by rw [hvm]; exact hown
  have hins : (Cond.instantiable cls 6).before args s' = true := h _ (by simp [Bundle.ownAtoms])
  obtain ⟨vm₁, cX, kX, hfX, hkX, -, -, X₁, st1⟩ := Y.newCold hexec (own := own) (C := cls) (index := ik) (n := 6) hown' hk' hins hini'
    (g := F0 m pc ls rest) rfl (by rw [hb]; exact d0) (Nat.le_refl _) (Nat.le_refl _)
  generalize hT1 : (T.setVm vm₁).pushCell { cls := cX, slots := kX.instanceTypes.map defaultValue, vm := .none } = T1 at X₁ st1
  have hcat : (Value.ref T.heap.size).category = 1 := rfl
  have hcellA : T1.heap[T.heap.size]? = some (freshCell cX kX) := by rw [← hT1]; exact State.heap_pushCell_size _ _
  have d3' : decode c.code (pc + 3) = .ok (.dup, 1) := by rw [hb]; exact d3
  have d4' : decode c.code (pc + 4) = .ok (.ldc is, 2) := by rw [hb]; exact d4
  have hstr' : vk_R own is text sa s' := vk_R.warm hW0 hstr
  obtain ⟨U, hsteps, hrun, hend, hW, hsame, ce, hce, hO⟩ := X₁.ctorThrowS hexec htr (own := own) (cls := cls) (names := names) (ic := ic) hown' hcls hnames h (fun x hx => nomatch hx) hfX hkX hcellA (by rw [hhp, hT]; exact Nat.le_refl _) (msg := .ref sa) rfl
    (g := { method := m, pc := pc + 6, locals := ls, stack := .ref sa :: .ref T.heap.size :: .ref T.heap.size :: rest, locked := none }) rfl hsize rfl rfl (rest := rest) rfl
    (by rw [hb]; exact d6) (by rw [hb]; exact d9) hout hRframes (by simp only [List.map_cons, List.sum_cons, hcat]; omega) hlocks
  obtain ⟨f1, f2⟩ := vx_frame hsame
  rw [hhp] at f1 f2
  have hWs : s.WarmedH U.vm := State.WarmedH.trans hW0 hW
  have hcl : s.vm.findClass cls = some ce.cls := by
    have h9 := hO.cls
    rw [hvm] at h9
    exact h9
  have hall : s.sameButNew ({ U with vm := s.vm } : State) locs mc ms := by
    subst hA
    obtain ⟨e1, e2⟩ := hsame
    rw [State.setFrames_setFrames] at e1
    have h2 : (T.setVm s.vm).sameButNew ({ U with vm := s.vm } : State) [] (0 + 1) (0 + 6) := ⟨e1, e2⟩
    have h3 := X.same.trans h2
    rw [List.append_nil] at h3
    exact h3.mono hc hs
  refine ⟨U, ?_, .threw T.heap.size, hrun, hend, Or.inr ⟨T.heap.size, rfl, cls, ce, locs, hx U hWs.alike f1 (fun q hq => f2 q hq (fun z hz => nomatch hz)), hce, hO.vm, hcl, hWs, hall, hf⟩⟩
  refine st1 _ ?_
  show Steps p.tables e below (T1.setTop { method := m, pc := pc + 3, locals := ls, stack := .ref T.heap.size :: rest, locked := none }) _
  jvm_step X₁.here [X₁.here.top, hexec, d3', Value.category]
  exact X₁.ldcString hexec (own := own) (text := text) (index := is) (a := sa) hown' hstr'.1 hstr'.2
    (g := { method := m, pc := pc + 4, locals := ls, stack := .ref T.heap.size :: .ref T.heap.size :: rest, locked := none }) rfl d4' _ hsteps
/-- 'throw new E("text")', the text by a wide index -/
theorem vx_throwSW {cc : ByteArray} {pc : Nat} (hexec : p.tables.exec = Jvm.exec) (hb : c.code = cc) (hl : l.stackTraces = false) {own cls text : String} {names : List String} {ik is ic mc ms sa : Nat} {A : Nat → Prop}
    (hown : s.vm.findClass own = some m.cls) (hcls : Bundle.fit cls = true) (hnames : ∀ n ∈ names, Bundle.fit n = true)
    (hk : (Cond.classLink own ik cls).before args s = true) (hini : (Cond.initialized cls).before args s = true) (hstr : vk_R own is text sa s) (hat : ∀ w ∈ vx_atS own ic cls names, w.before args s = true)
    (hgood : ∀ w ∈ Cond.classLink own ik cls :: Cond.initialized cls :: vx_atS own ic cls names, vx_ot w = true)
    (hU : vx_Zq Bundle.tN "UNASSIGNED_STACK" Bundle.steD A s s.heap) (hN : vx_Zq Bundle.tN "SUPPRESSED_SENTINEL" Bundle.listD A s s.heap) (hS : va_S A s.heap H locs) (hsize : ls.size = c.maxLocals)
    (d0 : decode cc pc = .ok (.new ik, 3)) (d3 : decode cc (pc + 3) = .ok (.dup, 1)) (d4 : decode cc (pc + 4) = .ok (.ldc_w is, 3)) (d7 : decode cc (pc + 7) = .ok (.invokespecial ic, 3)) (d10 : decode cc (pc + 10) = .ok (.athrow, 1))
    (hout : ∀ x ∈ c.exceptionTable.toList, covers x (pc + 10) = false)
    (hRframes : names.length + 3 < R.frames) (hRlocals : (rest.map fun v => v.category).sum + (13 * (names.length + 1) + 43) ≤ R.locals) (hRcells : cells + 1 ≤ R.cells) (hRslots : slots + 6 ≤ R.slots) (hlocks : meth.locks = false)
    (hx : ∀ t : State, s.vm.Alike t.vm → H.size ≤ t.heap.size → (∀ q : Nat, q < H.size → t.heap[q]? = H[q]?) → XC cls s t)
    (hf : ∀ z ∈ locs, free z.base) (hc : cells + 1 ≤ mc) (hs : slots + 6 ≤ ms) :
    W p l e R s m args below meth c H locs cells slots (vx_MQ below Qc XC args s mc ms free) (F0 m pc ls rest) := by
  intro T hT X
  have htr : e.platform.stackTraces = false := (show e.platform.stackTraces = l.stackTraces by rw [X.admits.platform]).trans hl
  have Y := vx_rebase X (R' := { frames := R.frames, locals := R.locals, cells := 1, slots := 6 }) (Nat.le_refl _) (Nat.le_refl _) hRcells hRslots
  obtain ⟨s', hA⟩ : ∃ z, z = (T.setVm s.vm).setFrames (.invoking m args :: below) := ⟨_, rfl⟩
  rw [← hA] at Y
  have hvm : s'.vm = s.vm := by rw [hA]; rfl
  have hhp : s'.heap = H := by rw [hA]; exact hT
  have hW0 : s.WarmedH s'.vm := by rw [hvm]; exact State.WarmedH.refl s
  have hat' : ∀ w ∈ vx_atS own ic cls names, w.before args s' = true := fun w hw => vx_ot_at hW0 hvm.symm (hgood w (List.mem_cons_of_mem _ (List.mem_cons_of_mem _ hw))) (hat w hw)
  have hk' : (Cond.classLink own ik cls).before args s' = true := vx_ot_at hW0 hvm.symm (hgood _ List.mem_cons_self) hk
  have hini' : (Cond.initialized cls).before args s' = true := vx_ot_at hW0 hvm.symm (hgood _ (List.mem_cons_of_mem _ List.mem_cons_self)) hini
  have hU' : vx_Zq Bundle.tN "UNASSIGNED_STACK" Bundle.steD A s' s'.heap := by rw [hhp]; exact vx_Zq.moved hW0.alike (hU.kept hS.2.1)
  have hN' : vx_Zq Bundle.tN "SUPPRESSED_SENTINEL" Bundle.listD A s' s'.heap := by rw [hhp]; exact vx_Zq.moved hW0.alike (hN.kept hS.2.1)
  have h : ∀ w ∈ Bundle.ownAtoms own ic cls names, w.before args s' = true := vx_own hat' (vx_isRefq hU'.1) (vx_isRefq hN'.1) hU'.2.word hN'.2.word
  have hown' : s'.vm.findClass own = some m.cls := by rw [hvm]; exact hown
  have hins : (Cond.instantiable cls 6).before args s' = true := h _ (by simp [Bundle.ownAtoms])
  obtain ⟨vm₁, cX, kX, hfX, hkX, -, -, X₁, st1⟩ := Y.newCold hexec (own := own) (C := cls) (index := ik) (n := 6) hown' hk' hins hini'
    (g := F0 m pc ls rest) rfl (by rw [hb]; exact d0) (Nat.le_refl _) (Nat.le_refl _)
  generalize hT1 : (T.setVm vm₁).pushCell { cls := cX, slots := kX.instanceTypes.map defaultValue, vm := .none } = T1 at X₁ st1
  have hcat : (Value.ref T.heap.size).category = 1 := rfl
  have hcellA : T1.heap[T.heap.size]? = some (freshCell cX kX) := by rw [← hT1]; exact State.heap_pushCell_size _ _
  have d3' : decode c.code (pc + 3) = .ok (.dup, 1) := by rw [hb]; exact d3
  have d4' : decode c.code (pc + 4) = .ok (.ldc_w is, 3) := by rw [hb]; exact d4
  have hstr' : vk_R own is text sa s' := vk_R.warm hW0 hstr
  obtain ⟨U, hsteps, hrun, hend, hW, hsame, ce, hce, hO⟩ := X₁.ctorThrowS hexec htr (own := own) (cls := cls) (names := names) (ic := ic) hown' hcls hnames h (fun x hx => nomatch hx) hfX hkX hcellA (by rw [hhp, hT]; exact Nat.le_refl _) (msg := .ref sa) rfl
    (g := { method := m, pc := pc + 7, locals := ls, stack := .ref sa :: .ref T.heap.size :: .ref T.heap.size :: rest, locked := none }) rfl hsize rfl rfl (rest := rest) rfl
    (by rw [hb]; exact d7) (by rw [hb]; exact d10) hout hRframes (by simp only [List.map_cons, List.sum_cons, hcat]; omega) hlocks
  obtain ⟨f1, f2⟩ := vx_frame hsame
  rw [hhp] at f1 f2
  have hWs : s.WarmedH U.vm := State.WarmedH.trans hW0 hW
  have hcl : s.vm.findClass cls = some ce.cls := by
    have h9 := hO.cls
    rw [hvm] at h9
    exact h9
  have hall : s.sameButNew ({ U with vm := s.vm } : State) locs mc ms := by
    subst hA
    obtain ⟨e1, e2⟩ := hsame
    rw [State.setFrames_setFrames] at e1
    have h2 : (T.setVm s.vm).sameButNew ({ U with vm := s.vm } : State) [] (0 + 1) (0 + 6) := ⟨e1, e2⟩
    have h3 := X.same.trans h2
    rw [List.append_nil] at h3
    exact h3.mono hc hs
  refine ⟨U, ?_, .threw T.heap.size, hrun, hend, Or.inr ⟨T.heap.size, rfl, cls, ce, locs, hx U hWs.alike f1 (fun q hq => f2 q hq (fun z hz => nomatch hz)), hce, hO.vm, hcl, hWs, hall, hf⟩⟩
  refine st1 _ ?_
  show Steps p.tables e below (T1.setTop { method := m, pc := pc + 3, locals := ls, stack := .ref T.heap.size :: rest, locked := none }) _
  jvm_step X₁.here [X₁.here.top, hexec, d3', Value.category]
  exact X₁.ldcStringW hexec (own := own) (text := text) (index := is) (a := sa) hown' hstr'.1 hstr'.2
    (g := { method := m, pc := pc + 4, locals := ls, stack := .ref T.heap.size :: .ref T.heap.size :: rest, locked := none }) rfl d4' _ hsteps
end Ends
section Bodies
variable {l : Launch}
theorem vx_ofW {y : MethodName} {ws ws' : List Cond} {rm : Room} {Pc : Array Value → State → Prop} {Qc : Array Value → State → Outcome → State → Prop} {XC : String → State → State → Prop} {mc ms : Nat} {free : Addr → Prop} {cc : ByteArray} {maxL : Nat} {ret : Option FieldType}
    (hy : plainName y.cls = true) (hw : ws = Cond.code y cc maxL ret :: ws')
    (body : ∀ p e s m args below meth c s₁, BodyLoose p l y (headSpec ws rm) cc maxL ret e s m args below meth c s₁ → c.maxLocals = maxL → (∀ x ∈ c.exceptionTable.toList, False) → Pc args s →
      W p l e (headSpec ws rm).room s m args below meth c s.heap [] 0 0 (vx_MQ below Qc XC args s mc ms free) (entryFrame m args maxL)) : vx_Met l y ws rm Pc Qc XC mc ms free := by
  refine MetFree.of_bodyS (code := cc) (maxLocals := maxL) (ret := ret) hy ?_ ?_
  · intro args s m h hn
    obtain ⟨meth, c, h1, h2, h3, h4, h5, h6, -, -⟩ := Cond.code_spec hn (atoms_spec (ws := ws) h _ (by rw [hw]; exact List.mem_cons_self))
    exact ⟨meth, c, h1, h2, h3, h4, h5, h6⟩
  · intro p e s m args below meth c s₁ B hml hP _
    have hh0 : s₁.heap = s.heap := by rw [B.state]; rfl
    have ht : ∀ x ∈ c.exceptionTable.toList, False := by
      obtain ⟨meth9, c9, h1, h2, -, -, -, -, h7, -⟩ := Cond.code_spec B.named (atoms_spec (ws := ws) B.pre _ (by rw [hw]; exact List.mem_cons_self))
      cases Option.some.inj (h1.symm.trans B.method)
      cases Option.some.inj (h2.symm.trans (Stand.of_body B).code)
      intro x hx
      rw [Array.isEmpty_iff.mp h7] at hx
      cases hx
    obtain ⟨t, a1, o, b1, b2, b3⟩ := body p e s m args below meth c s₁ B hml ht hP s₁ hh0 (Stand.of_body B)
    exact ⟨t, o, a1, b1, b2, b3⟩
/-- the table of a body with handlers -/
theorem vx_table {p : Program} {x y : MethodName} {S : Spec} {cc bytes : ByteArray} {maxL maxL' : Nat} {ret ret' : Option FieldType} {e : Env} {s s₁ : State} {m : MethodId} {args : Array Value} {below : List Frame} {meth : Method} {c : Code} {hh : List (Nat × Nat × Nat × Nat)}
    (B : BodyLoose p l y S cc maxL ret e s m args below meth c s₁) (h : (Cond.codeWith y bytes maxL' ret' hh).before args s = true) : c.exceptionTable.toList = tableOf hh := by
  obtain ⟨m9, meth9, c9, hn9, h1, h2, -, -, h6, -⟩ := Cond.codeWith_spec h
  cases Option.some.inj (hn9.symm.trans B.named)
  cases Option.some.inj (h1.symm.trans B.method)
  cases Option.some.inj (h2.symm.trans (Stand.of_body B).code)
  rw [← h6, table_eq]
end Bodies
end VXA
/-! ===== END ===== -/
/-! ===== BEGIN a static call of a method with an exception table ===== -/
section VXS
variable {p : Program} {l : Launch} {e : Env} {R : Room} {s : State} {m : MethodId} {args : Array Value} {below : List Frame} {meth : Method} {c : Code} {T : State} {H : Heap} {locs : List Loc} {cells slots : Nat}
abbrev vx_CSW (R : Room) (s : State) (args : Array Value) (own : String) (index : Nat) (y : MethodName) (bytes : ByteArray) (maxL : Nat) (ret : Option FieldType) (hh : List (Nat × Nat × Nat × Nat)) (ws : List Cond) (rm : Room) (mc ms n : Nat) : Prop :=
  (rm.cells = mc ∧ rm.slots = ms ∧ rm.frames + 1 ≤ R.frames ∧ 8 + (maxL + 11) + rm.locals ≤ R.locals ∧ (∀ w ∈ ws, ∀ (a' : Array Value) (U : State), s.WarmedH U.vm → w.before a' U = true) ∧ Cond.codeWith y bytes maxL ret hh ∈ ws) ∧
  (Cond.codeWith y bytes maxL ret hh).before args s = true ∧ (Cond.initialized y.cls).before args s = true ∧ (y.cls ≠ "java/lang/invoke/MethodHandle" ∧ y.cls ≠ "java/lang/invoke/VarHandle") ∧
  (∀ sig, parseMethodDescriptor y.desc = some sig → n = sig.parameters.length) ∧ (Cond.methodLink own index y).before args s = true ∧ (Cond.static y).before args s = true
theorem vx_cwSW {own : String} {index maxL mc ms : Nat} {y : MethodName} {bytes : ByteArray} {ret : Option FieldType} {hh : List (Nat × Nat × Nat × Nat)} {Ts ws ws' : List Cond} {rm : Room} (n : Nat) (ht : ∀ w ∈ Ts, w.before args s = true) (hT : GoodIn Ts (va_wsS own index y ws)) (hw : ws = Cond.codeWith y bytes maxL ret hh :: ws') (hrc : rm.cells = mc) (hrs : rm.slots = ms)
    (hd : y.cls ≠ "java/lang/invoke/MethodHandle" ∧ y.cls ≠ "java/lang/invoke/VarHandle" ∧ (parseMethodDescriptor y.desc).map (fun d => d.parameters.length) = some n) (hR : rm.frames + 1 ≤ R.frames ∧ 8 + (maxL + 11) + rm.locals ≤ R.locals) :
    vx_CSW R s args own index y bytes maxL ret hh ws rm mc ms n := by
  have ok : ∀ w ∈ va_wsS own index y ws, w.before args s = true := fun w h => ht w (hT w h).1
  have hG : GoodIn Ts ws := fun w h => hT w (by unfold va_wsS; exact List.mem_append_right _ h)
  have hc : Cond.codeWith y bytes maxL ret hh ∈ ws := by rw [hw]; exact List.mem_cons_self
  refine ⟨⟨hrc, hrs, hR.1, hR.2, pay_in ht hG, hc⟩, ht _ (hG _ hc).1, ok _ (by simp [va_wsS]), ⟨hd.1, hd.2.1⟩, fun sig h => ?_, ok _ (by simp [va_wsS]), ok _ (by simp [va_wsS])⟩
  have h2 := hd.2.2
  rw [h] at h2
  exact (Option.some.inj h2).symm
theorem vx_callSW (X : Stand p l e R s m args below meth c T locs cells slots) (hexec : p.tables.exec = Jvm.exec) {own : String} {index : Nat} {y : MethodName} {bytes : ByteArray} {maxL : Nat} {ret : Option FieldType} {hh : List (Nat × Nat × Nat × Nat)}
    (hown : s.vm.findClass own = some m.cls) (hlink : (Cond.methodLink own index y).before args s = true) (hstat : (Cond.static y).before args s = true) (hinit : (Cond.initialized y.cls).before args s = true)
    (hcode : (Cond.codeWith y bytes maxL ret hh).before args s = true) (hy : y.cls ≠ "java/lang/invoke/MethodHandle" ∧ y.cls ≠ "java/lang/invoke/VarHandle")
    {W9 : Nat} {Pre : Pt → Array Value → Prop} {Post : Pt → Array Value → Option Value → Pt → Prop} (hK : Back l R p e below s args y 3 W9 Pre Post)
    {g : JFrame} (hg : g.method = m) (hsize : g.locals.size = c.maxLocals) {argsL rest : List Value} (hlen : ∀ sig, parseMethodDescriptor y.desc = some sig → argsL.length = sig.parameters.length)
    (hstack : g.stack = argsL.reverse ++ rest) (hW : 2 * g.monitorRoom + (rest.map fun v => v.category).sum ≤ W9) (hdg : decode c.code g.pc = .ok (.invokestatic index, 3))
    (hpre : ∀ vm₁, s.WarmedH vm₁ → Pre ⟨T.setVm vm₁, locs, cells, slots⟩ argsL.toArray) :
    ∃ (v : Option Value) (vm₁ : Vm) (B : Pt), s.WarmedH vm₁ ∧ Stand p l e R s m args below meth c B.U B.locs B.cells B.slots ∧ Post ⟨T.setVm vm₁, locs, cells, slots⟩ argsL.toArray v B ∧
      ∀ target, Steps p.tables e below (B.U.setTop { g with pc := g.pc + 3, stack := v.toList ++ rest }) target → Steps p.tables e below (T.setTop g) target := by
  obtain ⟨mk, methM, cM, hnamed, hmethM, -, -, -, -, -, -, hsigM⟩ := Cond.codeWith_spec hcode
  have hstatic : methM.isStatic = true := Cond.static_spec hnamed hmethM hstat
  obtain ⟨kP, hkP, -⟩ := className_of_methodNamed hnamed
  have hinitP : kP.init = .initialized := Cond.initialized_spec (findClass_of_methodNamed hnamed) hkP hinit
  obtain ⟨vm₁, X₁, hstep₁⟩ := X.invokestatic hexec hown hlink hnamed hmethM hstatic hkP hinitP hy (g := g) hg (argsL := argsL) (rest := rest) (hlen _ hsigM) hstack hdg
  obtain ⟨v, B, X', hpost, hsteps⟩ := hK m meth c ⟨T.setVm vm₁, locs, cells, slots⟩ { g with stack := rest } (.invokestatic index) mk argsL.toArray X₁ hg hsize hdg hW (X₁.named hnamed) (hpre vm₁ X₁.warmed)
  exact ⟨v, vm₁, B, X₁.warmed, X', hpost, fun target h => hstep₁ _ fun acts => by rw [doInvoke_state]; exact hsteps.trans h⟩
theorem vx_runSW {y : MethodName} {bytes cc : ByteArray} {maxL nL mc ms n index : Nat} {ret : Option FieldType} {hh : List (Nat × Nat × Nat × Nat)} {ws : List Cond} {rm : Room} {Pc : Array Value → State → Prop} {Qc : Array Value → State → Outcome → State → Prop} {free : Addr → Prop} {Ts : List Cond} {own : String} {As rest : List Value} {g : JFrame}
    (S : CallFix p m c cc nL s args Ts own) (hM : Met l y ws rm Pc Qc mc ms free) (cw : vx_CSW R s args own index y bytes maxL ret hh ws rm mc ms n) (hp : PreS s H Pc As)
    (hg : g.method = m) (hn : As.length = n) (hsize : g.locals.size = nL) (hstack : g.stack = As.reverse ++ rest) (hW : 2 * g.monitorRoom + (rest.map fun v => v.category).sum ≤ 8) (hdg : decode cc g.pc = .ok (.invokestatic index, 3)) (hf : cells + mc ≤ R.cells ∧ slots + ms ≤ R.slots) :
    va_Run p l e R s m args below meth c H locs cells slots mc ms g rest (Qc As.toArray) (free) := by
  obtain ⟨⟨hrc, hrs, hfr, hlo, hws, hcw⟩, hcode, hini, hy, hlen, hl, hstt⟩ := cw
  have hK : Back l R p e below s args y 3 8 (PreOf R mc ms Pc) (PostOf Qc mc ms free) := va_backW (hh := hh) (bytes := bytes) (maxL := maxL) (ret := ret) hM hp.1 hrc hrs hfr hlo hws hcw (fun a' U hW => word_at hW (Or.inl (by first | rfl | simp [Cond.onTables, Cond.keeps, Cond.steady])) hini)
  obtain ⟨hx, hb, hml, ho, -⟩ := S
  intro T hT X
  obtain ⟨v, vm₁, ⟨U', l2, c2, s2⟩, hW₁, X', ⟨g', mk, t, L, e1, e2, hq, h1, hL, h2, h3⟩, st⟩ := vx_callSW X hx (hh := hh) (bytes := bytes) (maxL := maxL) (ret := ret) ho hl hstt hini hcode hy hK hg (hsize.trans hml.symm) (argsL := As) (rest := rest) (fun sig h => hn.trans (hlen sig h)) hstack hW (by rw [hb]; exact hdg)
    (fun vm₁ hW₁ => ⟨hf.1, hf.2, hp.2 (T.setVm vm₁) hT hW₁⟩)
  dsimp only [Pt.U, Pt.locs, Pt.cells, Pt.slots] at X' e1 e2 h1 h2 h3 st
  subst h1; subst h2; subst h3
  exact ⟨v, (T.setVm vm₁).calling g' mk As.toArray, t, U', L, hT, X', hL, e1, e2, hq, st⟩
/-- not caught here, past rows that name other classes: it goes on to the caller -/
theorem vx_outP {p : Program} {l : Launch} {e : Env} {R : Room} {s : State} {m : MethodId} {args : Array Value} {below : List Frame} {meth : Method} {c : Code} {H : Heap} {locs : List Loc} {cells slots : Nat} {free : Addr → Prop} {ls : Array Slot} {rest : List Value} {Qc : Array Value → State → Outcome → State → Prop} {XC : String → State → State → Prop}
    {pc : Nat} {own E : String} {ce : Cell} {q : Addr} {mc ms : Nat} (hown : s.vm.findClass own = some m.cls) (hlocks : meth.locks = false)
    (hpass : ∀ z ∈ c.exceptionTable.toList, covers z pc = false ∨ (z.catchType ≠ 0 ∧ ∃ nm : String, (Cond.classLink own z.catchType nm).before args s = true ∧ va_Nc E nm s)) (hcell : H[q]? = some ce) (hv : ce.vm = .none) (hcl : s.vm.findClass E = some ce.cls)
    (hx : ∀ t : State, t.heap = H → s.vm.Alike t.vm → XC E s t) (hf : ∀ z ∈ locs, free z.base) (hc : cells ≤ mc) (hs : slots ≤ ms) :
    vx_W p l e R s m args below meth c H locs cells slots (vx_MQ below Qc XC args s mc ms free) (F0 m pc ls rest) q := by
  intro T hT X
  have hpl : e.platform.magicAccessors = ({} : Platform).magicAccessors := by rw [X.admits.platform]
  obtain ⟨vm', hW', X', st⟩ := X.outThrough hlocks q (g := F0 m pc ls rest) rfl rfl rfl (cell := ce) (by rw [hT]; exact hcell) (by rw [hv]; rfl)
    (by obtain ⟨k9, h9, -⟩ := Vm.findClass_spec hcl; exact ⟨k9, h9⟩) (fun z hz => by
      rcases hpass z hz with h | ⟨hz0, nm, hl1, hn1⟩
      · exact Or.inl h
      · obtain ⟨c6, hc6, hcl6⟩ := Cond.classLink_spec hown hl1 e.platform hpl
        obtain ⟨a8, b8, h1, h2, h3⟩ := hn1
        cases Option.some.inj (h1.symm.trans hcl)
        cases Option.some.inj (h2.symm.trans hc6)
        exact Or.inr ⟨hz0, _, hcl6, h3⟩)
  obtain ⟨g₀, hfr⟩ := X'.frames_eq
  have hcell9 : ((T.setVm vm').setFrames (.throwing q :: below)).heap[q]? = some ce := by
    show T.heap[q]? = some ce
    rw [hT]; exact hcell
  have hend : Ended ((T.setVm vm').setFrames (.throwing q :: below)) below (.threw q) := State.frames_setFrames _ (State.cur_lt_of_frames hfr)
  refine ⟨(T.setVm vm').setFrames (.throwing q :: below), ?_, .threw q, X'.here.running, hend, Or.inr ⟨q, rfl, E, ce, locs, hx _ hT (X'.ends _).1.alike, hcell9, hv, hcl, (X'.ends _).1, (X'.ends _).2.mono hc hs, hf⟩⟩
  rw [X.pushThrowing_eq]
  exact st
/-- a thing of a world lies in the heap -/
theorem vx_lt {D : va_G} {cl : List vw_C} {ws : va_W} {H1 : Heap} (h : va_P D cl ws H1) {k : Nat} {q : Nat × va_E} (hk : ws[k]? = some q) : q.1 < H1.size := (h k q hk).lt
end VXS
/-! ===== END ===== -/
/-! ===== BEGIN methods with a table of their own: called by a name, returning or throwing ===== -/
section VXH
/-! vx_backW, vx_callVX, vx_callSX, vx_callVW, vx_runVW, vx_runVX, vx_runSX, vx_ofWH follow the same proofs as their sisters above (Free/Laws.lean, Shelf42/LK1.lean); vx_outP calls Shelf42/NT130.lean (outThrough). -/
section
variable {l : Launch} {R : Room} {p : Program} {e : Env} {below : List Frame} {s : State} {sargs : Array Value} {y : MethodName} {len W9 : Nat}
theorem vx_backW {ws : List Cond} {rm : Room} {Pc : Array Value → State → Prop} {Qc : Array Value → State → Outcome → State → Prop} {XC : String → State → State → Prop} {mc ms : Nat} {free : Addr → Prop} {bytes : ByteArray} {maxL : Nat} {ret : Option FieldType} {hh : List (Nat × Nat × Nat × Nat)}
    (hM : vx_Met l y ws rm Pc Qc XC mc ms free) (hblind : FrameBlind Pc) (hrc : rm.cells = mc) (hrs : rm.slots = ms)
    (hframes : rm.frames + 1 ≤ R.frames) (hlocals : W9 + (maxL + 11) + rm.locals ≤ R.locals)
    (hws : ∀ w ∈ ws, ∀ a' U, s.WarmedH U.vm → w.before a' U = true) (hcode : Cond.codeWith y bytes maxL ret hh ∈ ws) (hinit : ∀ a' U, s.WarmedH U.vm → (Cond.initialized y.cls).before a' U = true) :
    vx_Back l R p e below s sargs y len W9 (PreOf R mc ms Pc) (PostOf Qc mc ms free) (vx_Post XC mc ms free) := by
  intro m meth c A g ig mk a X hg hsize hdg hW hn hp
  have h1 : (headSpec ws rm).pre.before a A.U = true := atoms_intro fun w hw => hws w hw _ _ X.warmed
  have h2 : (Cond.codeWith y bytes maxL ret hh).before a A.U = true := hws _ hcode _ _ X.warmed
  have h3 : (Cond.initialized y.cls).before a A.U = true := hinit _ _ X.warmed
  have h4 : A.cells + (headSpec ws rm).room.cells ≤ R.cells := by rw [show (headSpec ws rm).room.cells = mc from hrc]; exact hp.1
  have h5 : A.slots + (headSpec ws rm).room.slots ≤ R.slots := by rw [show (headSpec ws rm).room.slots = ms from hrs]; exact hp.2.1
  have hPc : Pc a (A.U.calling g mk a) := hblind _ _ _ _ hp.2.2
  obtain ⟨U, Ls, c0, s0⟩ := A
  dsimp only [Pt.U, Pt.locs, Pt.cells, Pt.slots] at h1 h2 h3 h4 h5 X hn hPc ⊢
  obtain ⟨m9, methY, cY, hn9, hmY, hcY, -, hlY, -⟩ := Cond.codeWith_spec h2
  cases Option.some.inj (hn9.symm.trans hn)
  obtain ⟨kY, hkY, -⟩ := className_of_methodNamed hn
  have hinitY : kY.init = .initialized := Cond.initialized_spec (findClass_of_methodNamed hn) hkY h3
  have h : At U g.method c below := by rw [hg]; exact X.here
  have hlocals9 : W9 + (maxL + 11) + (headSpec ws rm).room.locals ≤ R.locals := hlocals
  have happ : (headSpec ws rm).appliesLoose y e.platform (U.calling g mk a) = true :=
    Spec.appliesLoose_calling (g := g) h hdg hn hkY hinitY
      (X.room_calling (g := g) (R' := (headSpec ws rm).room) hsize hmY hcY hframes (by rw [hlY]; omega) h4 h5) h1
  obtain ⟨mid, hmid⟩ := h.above
  have hfr : (U.setTop g).frames = (.java g :: mid) ++ below := by rw [State.frames_setTop' g h.top, hmid]; rfl
  obtain ⟨o, s₂, hsteps, -, hend, hq⟩ := Steps.callFree hM p X.admits X.cas X.clock (acts := []) hfr happ hPc trivial
  have hq' : vx_Q Qc XC mc ms free a (U.calling g mk a) o s₂ := hq
  rw [State.frames_setTop' g h.top] at hend
  obtain ⟨g₀, hg0⟩ := Option.isSome_iff_exists.mp h.top
  obtain ⟨r, hr⟩ := State.topJava?_eq_some.mp hg0
  have hr' : (({ U with heap := s₂.heap, slotsUsed := s₂.slotsUsed } : State).setVm s₂.vm).frames = .java g₀ :: r := hr
  rcases hq' with ⟨hqc, L, hfe, hL⟩ | ⟨q, rfl, E, ce, L, hx, hce, hcv, hcl, hW₂, hsm, hL⟩
  · obtain ⟨⟨v, rfl⟩, hW₂, e2, q2, q3, q4, q5, q6⟩ := id hfe
    have e3 : s₂ = ({ (U.calling g mk a).setFrames s₂.frames with heap := s₂.heap, slotsUsed := s₂.slotsUsed } : State).setVm s₂.vm := by
      have : s₂ = ({ s₂ with vm := (U.calling g mk a).vm } : State).setVm s₂.vm := rfl
      rw [e2] at this
      exact this
    obtain ⟨c₂, i₂, len₂, hc₂, hd₂, hf₂⟩ := hend
    have hW' : U.WarmedH s₂.vm := hW₂
    have hcc : c₂ = c := by
      have h1 : s₂.code? g.method = U.code? g.method := by
        rw [State.code?_eq, State.code?_eq, hW'.alike.method?]
      exact Option.some.inj (hc₂.symm.trans (h1.trans h.code))
    subst hcc
    have hlen : len₂ = len := by rw [hdg] at hd₂; cases hd₂; rfl
    subst hlen
    have hs₂ : s₂ = (({ U with heap := s₂.heap, slotsUsed := s₂.slotsUsed } : State).setVm s₂.vm).setTop { g with pc := g.pc + len₂, stack := v.toList ++ g.stack } := by
      refine e3.trans ?_
      rw [hf₂, State.calling_eq h.top, State.setFrames_setFrames, State.setTop_of_frames _ hr', hr]
      rfl
    have hsame : U.sameButNew ({ U with heap := s₂.heap, slotsUsed := s₂.slotsUsed } : State) L mc ms := by
      refine ⟨?_, q2, q3, q4, q5, q6⟩
      obtain ⟨t, ht, -⟩ := State.frames_cons hr
      show ({ U with heap := s₂.heap, slotsUsed := s₂.slotsUsed } : State) = { U.setFrames U.frames with heap := s₂.heap, slotsUsed := s₂.slotsUsed }
      rw [State.setFrames_self ht]
    subst hg
    refine Or.inl ⟨v, ⟨(({ U with heap := s₂.heap, slotsUsed := s₂.slotsUsed } : State).setVm s₂.vm), Ls ++ L, c0 + mc, s0 + ms⟩,
      ⟨X.admits, X.cas, X.clock, X.frames, X.room, X.hears, X.method, X.code, (X.here.setHeapUsed s₂.heap s₂.slotsUsed).setVm hW'.alike, X.tail, State.WarmedH.trans X.warmed hW', X.limits, X.bytes, X.same.trans (hsame.setVm s.vm)⟩,
      ⟨g, mk, s₂, L, rfl, rfl, hqc, rfl, hL, rfl, rfl⟩, ?_⟩
    show Steps p.tables e below _ ((({ U with heap := s₂.heap, slotsUsed := s₂.slotsUsed } : State).setVm s₂.vm).setTop { g with pc := g.pc + len₂, stack := v.toList ++ g.stack })
    rw [← hs₂]
    exact hsteps
  · obtain ⟨e2, q2, q3, q4, q5, q6⟩ := id hsm
    have e3 : s₂ = ({ (U.calling g mk a).setFrames s₂.frames with heap := s₂.heap, slotsUsed := s₂.slotsUsed } : State).setVm s₂.vm := by
      have : s₂ = ({ s₂ with vm := (U.calling g mk a).vm } : State).setVm s₂.vm := rfl
      rw [e2] at this
      exact this
    have hf₂ : s₂.frames = .throwing q :: .java g :: U.frames.tail := hend
    have hW' : U.WarmedH s₂.vm := hW₂
    have hs₂ : s₂ = ((({ U with heap := s₂.heap, slotsUsed := s₂.slotsUsed } : State).setVm s₂.vm).setTop g).pushFrame (.throwing q) := by
      refine e3.trans ?_
      rw [hf₂, State.calling_eq h.top, State.setFrames_setFrames, State.pushFrame, State.frames_setTop _ hr', State.setTop_of_frames _ hr', State.setFrames_setFrames, hr]
      rfl
    have hsame : U.sameButNew ({ U with heap := s₂.heap, slotsUsed := s₂.slotsUsed } : State) L mc ms := by
      refine ⟨?_, q2, q3, q4, q5, q6⟩
      obtain ⟨t, ht, -⟩ := State.frames_cons hr
      show ({ U with heap := s₂.heap, slotsUsed := s₂.slotsUsed } : State) = { U.setFrames U.frames with heap := s₂.heap, slotsUsed := s₂.slotsUsed }
      rw [State.setFrames_self ht]
    subst hg
    refine Or.inr ⟨q, ⟨(({ U with heap := s₂.heap, slotsUsed := s₂.slotsUsed } : State).setVm s₂.vm), Ls ++ L, c0 + mc, s0 + ms⟩,
      ⟨X.admits, X.cas, X.clock, X.frames, X.room, X.hears, X.method, X.code, (X.here.setHeapUsed s₂.heap s₂.slotsUsed).setVm hW'.alike, X.tail, State.WarmedH.trans X.warmed hW', X.limits, X.bytes, X.same.trans (hsame.setVm s.vm)⟩,
      ⟨g, mk, s₂, L, E, ce, rfl, rfl, hx, hce, hcv, hcl, rfl, hL, rfl, rfl⟩, ?_⟩
    show Steps p.tables e below _ (((({ U with heap := s₂.heap, slotsUsed := s₂.slotsUsed } : State).setVm s₂.vm).setTop g).pushFrame (.throwing q))
    rw [← hs₂]
    exact hsteps
end
variable {p : Program} {l : Launch} {e : Env} {R : Room} {s : State} {m : MethodId} {args : Array Value} {below : List Frame} {meth : Method} {c : Code} {T : State} {H : Heap} {locs : List Loc} {cells slots : Nat}
theorem vx_callVX (X : Stand p l e R s m args below meth c T locs cells slots) (hexec : p.tables.exec = Jvm.exec) {own C : String} {index : Nat} {y : MethodName} {bytes : ByteArray} {maxL : Nat} {ret : Option FieldType} {hh : List (Nat × Nat × Nat × Nat)}
    (hown : s.vm.findClass own = some m.cls) (hlink : (Cond.methodLink own index y).before args s = true) (hinst : (Cond.instanceMethod y).before args s = true) (hsel : (Cond.selects C y y).before args s = true)
    (hcode : (Cond.codeWith y bytes maxL ret hh).before args s = true) (hy : y.cls ≠ "java/lang/invoke/MethodHandle" ∧ y.cls ≠ "java/lang/invoke/VarHandle")
    {W9 : Nat} {Pre : Pt → Array Value → Prop} {Post : Pt → Array Value → Option Value → Pt → Prop} {PostX : Pt → Array Value → Addr → Pt → Prop} (hK : vx_Back l R p e below s args y 3 W9 Pre Post PostX)
    {b : Addr} {cellB : Cell} (hcell : T.heap[b]? = some cellB) (hobj : cellB.vm.isStatics = false) (hcls : s.vm.findClass C = some cellB.cls)
    {g : JFrame} (hg : g.method = m) (hsize : g.locals.size = c.maxLocals) {argsL rest : List Value} (hlen : ∀ sig, parseMethodDescriptor y.desc = some sig → argsL.length = sig.parameters.length)
    (hstack : g.stack = argsL.reverse ++ .ref b :: rest) (hW : 2 * g.monitorRoom + (rest.map fun v => v.category).sum ≤ W9) (hdg : decode c.code g.pc = .ok (.invokevirtual index, 3))
    (hpre : ∀ vm₁, s.WarmedH vm₁ → Pre ⟨T.setVm vm₁, locs, cells, slots⟩ (Value.ref b :: argsL).toArray) :
    (∃ (v : Option Value) (vm₁ : Vm) (B : Pt), s.WarmedH vm₁ ∧ Stand p l e R s m args below meth c B.U B.locs B.cells B.slots ∧ Post ⟨T.setVm vm₁, locs, cells, slots⟩ (Value.ref b :: argsL).toArray v B ∧
      ∀ target, Steps p.tables e below (B.U.setTop { g with pc := g.pc + 3, stack := v.toList ++ rest }) target → Steps p.tables e below (T.setTop g) target) ∨
    (∃ (q : Addr) (vm₁ : Vm) (B : Pt), s.WarmedH vm₁ ∧ Stand p l e R s m args below meth c B.U B.locs B.cells B.slots ∧ PostX ⟨T.setVm vm₁, locs, cells, slots⟩ (Value.ref b :: argsL).toArray q B ∧
      Steps p.tables e below (T.setTop g) ((B.U.setTop { g with stack := rest }).pushFrame (.throwing q))) := by
  obtain ⟨mk, methM, hnamed, hmethM, hstM, habM⟩ := Cond.instanceMethod_spec hinst
  obtain ⟨m8, methM', cM, hn8, hmethM', -, -, -, -, -, -, hsigM⟩ := Cond.codeWith_spec hcode
  cases Option.some.inj (hn8.symm.trans hnamed)
  cases hmethM.symm.trans hmethM'
  obtain ⟨c2, r2, m2, q1, q2, q3, q4, kP, hkP, hkPi⟩ := Cond.selects_spec hsel
  cases hcls.symm.trans q1
  cases (State.methodFound?_of_named hnamed hy).symm.trans q2
  cases hnamed.symm.trans q3
  have hselP : selectMethod e.platform s.vm cellB.cls mk = .method mk := by rw [Launch.admits_selectMethod X.admits]; exact q4
  obtain ⟨vm₁, X₁, hstep₁⟩ := X.invokevirtual hexec hown hlink hnamed hmethM hstM hkP hkPi hy (a := b) (cell := cellB) hcell
    (fun z h => by rw [h] at hobj; cases hobj) hselP hmethM habM hkP hkPi (g := g) hg (argsL := argsL) (rest := rest) (hlen _ hsigM) hstack hdg
  rcases hK m meth c ⟨T.setVm vm₁, locs, cells, slots⟩ { g with stack := rest } (.invokevirtual index) mk (Value.ref b :: argsL).toArray X₁ hg hsize hdg hW (X₁.named hnamed) (hpre vm₁ X₁.warmed) with ⟨v, B, X', hpost, hsteps⟩ | ⟨q, B, X', hpost, hsteps⟩
  · exact Or.inl ⟨v, vm₁, B, X₁.warmed, X', hpost, fun target h => hstep₁ _ fun acts => by rw [doInvoke_state]; exact hsteps.trans h⟩
  · exact Or.inr ⟨q, vm₁, B, X₁.warmed, X', hpost, hstep₁ _ fun acts => by rw [doInvoke_state]; exact hsteps⟩
theorem vx_callSX (X : Stand p l e R s m args below meth c T locs cells slots) (hexec : p.tables.exec = Jvm.exec) {own : String} {index : Nat} {y : MethodName} {bytes : ByteArray} {maxL : Nat} {ret : Option FieldType} {hh : List (Nat × Nat × Nat × Nat)}
    (hown : s.vm.findClass own = some m.cls) (hlink : (Cond.methodLink own index y).before args s = true) (hstat : (Cond.static y).before args s = true) (hinit : (Cond.initialized y.cls).before args s = true)
    (hcode : (Cond.codeWith y bytes maxL ret hh).before args s = true) (hy : y.cls ≠ "java/lang/invoke/MethodHandle" ∧ y.cls ≠ "java/lang/invoke/VarHandle")
    {W9 : Nat} {Pre : Pt → Array Value → Prop} {Post : Pt → Array Value → Option Value → Pt → Prop} {PostX : Pt → Array Value → Addr → Pt → Prop} (hK : vx_Back l R p e below s args y 3 W9 Pre Post PostX)
    {g : JFrame} (hg : g.method = m) (hsize : g.locals.size = c.maxLocals) {argsL rest : List Value} (hlen : ∀ sig, parseMethodDescriptor y.desc = some sig → argsL.length = sig.parameters.length)
    (hstack : g.stack = argsL.reverse ++ rest) (hW : 2 * g.monitorRoom + (rest.map fun v => v.category).sum ≤ W9) (hdg : decode c.code g.pc = .ok (.invokestatic index, 3))
    (hpre : ∀ vm₁, s.WarmedH vm₁ → Pre ⟨T.setVm vm₁, locs, cells, slots⟩ argsL.toArray) :
    (∃ (v : Option Value) (vm₁ : Vm) (B : Pt), s.WarmedH vm₁ ∧ Stand p l e R s m args below meth c B.U B.locs B.cells B.slots ∧ Post ⟨T.setVm vm₁, locs, cells, slots⟩ argsL.toArray v B ∧
      ∀ target, Steps p.tables e below (B.U.setTop { g with pc := g.pc + 3, stack := v.toList ++ rest }) target → Steps p.tables e below (T.setTop g) target) ∨
    (∃ (q : Addr) (vm₁ : Vm) (B : Pt), s.WarmedH vm₁ ∧ Stand p l e R s m args below meth c B.U B.locs B.cells B.slots ∧ PostX ⟨T.setVm vm₁, locs, cells, slots⟩ argsL.toArray q B ∧
      Steps p.tables e below (T.setTop g) ((B.U.setTop { g with stack := rest }).pushFrame (.throwing q))) := by
  obtain ⟨mk, methM, cM, hnamed, hmethM, -, -, -, -, -, -, hsigM⟩ := Cond.codeWith_spec hcode
  have hstatic : methM.isStatic = true := Cond.static_spec hnamed hmethM hstat
  obtain ⟨kP, hkP, -⟩ := className_of_methodNamed hnamed
  have hinitP : kP.init = .initialized := Cond.initialized_spec (findClass_of_methodNamed hnamed) hkP hinit
  obtain ⟨vm₁, X₁, hstep₁⟩ := X.invokestatic hexec hown hlink hnamed hmethM hstatic hkP hinitP hy (g := g) hg (argsL := argsL) (rest := rest) (hlen _ hsigM) hstack hdg
  rcases hK m meth c ⟨T.setVm vm₁, locs, cells, slots⟩ { g with stack := rest } (.invokestatic index) mk argsL.toArray X₁ hg hsize hdg hW (X₁.named hnamed) (hpre vm₁ X₁.warmed) with ⟨v, B, X', hpost, hsteps⟩ | ⟨q, B, X', hpost, hsteps⟩
  · exact Or.inl ⟨v, vm₁, B, X₁.warmed, X', hpost, fun target h => hstep₁ _ fun acts => by rw [doInvoke_state]; exact hsteps.trans h⟩
  · exact Or.inr ⟨q, vm₁, B, X₁.warmed, X', hpost, hstep₁ _ fun acts => by rw [doInvoke_state]; exact hsteps⟩
theorem vx_callVW (X : Stand p l e R s m args below meth c T locs cells slots) (hexec : p.tables.exec = Jvm.exec) {own C : String} {index : Nat} {y : MethodName} {bytes : ByteArray} {maxL : Nat} {ret : Option FieldType} {hh : List (Nat × Nat × Nat × Nat)}
    (hown : s.vm.findClass own = some m.cls) (hlink : (Cond.methodLink own index y).before args s = true) (hinst : (Cond.instanceMethod y).before args s = true) (hsel : (Cond.selects C y y).before args s = true)
    (hcode : (Cond.codeWith y bytes maxL ret hh).before args s = true) (hy : y.cls ≠ "java/lang/invoke/MethodHandle" ∧ y.cls ≠ "java/lang/invoke/VarHandle")
    {W9 : Nat} {Pre : Pt → Array Value → Prop} {Post : Pt → Array Value → Option Value → Pt → Prop} (hK : Back l R p e below s args y 3 W9 Pre Post)
    {b : Addr} {cellB : Cell} (hcell : T.heap[b]? = some cellB) (hobj : cellB.vm.isStatics = false) (hcls : s.vm.findClass C = some cellB.cls)
    {g : JFrame} (hg : g.method = m) (hsize : g.locals.size = c.maxLocals) {argsL rest : List Value} (hlen : ∀ sig, parseMethodDescriptor y.desc = some sig → argsL.length = sig.parameters.length)
    (hstack : g.stack = argsL.reverse ++ .ref b :: rest) (hW : 2 * g.monitorRoom + (rest.map fun v => v.category).sum ≤ W9) (hdg : decode c.code g.pc = .ok (.invokevirtual index, 3))
    (hpre : ∀ vm₁, s.WarmedH vm₁ → Pre ⟨T.setVm vm₁, locs, cells, slots⟩ (Value.ref b :: argsL).toArray) :
    ∃ (v : Option Value) (vm₁ : Vm) (B : Pt), s.WarmedH vm₁ ∧ Stand p l e R s m args below meth c B.U B.locs B.cells B.slots ∧ Post ⟨T.setVm vm₁, locs, cells, slots⟩ (Value.ref b :: argsL).toArray v B ∧
      ∀ target, Steps p.tables e below (B.U.setTop { g with pc := g.pc + 3, stack := v.toList ++ rest }) target → Steps p.tables e below (T.setTop g) target := by
  obtain ⟨mk, methM, hnamed, hmethM, hstM, habM⟩ := Cond.instanceMethod_spec hinst
  obtain ⟨m8, methM', cM, hn8, hmethM', -, -, -, -, -, -, hsigM⟩ := Cond.codeWith_spec hcode
  cases Option.some.inj (hn8.symm.trans hnamed)
  cases hmethM.symm.trans hmethM'
  obtain ⟨c2, r2, m2, q1, q2, q3, q4, kP, hkP, hkPi⟩ := Cond.selects_spec hsel
  cases hcls.symm.trans q1
  cases (State.methodFound?_of_named hnamed hy).symm.trans q2
  cases hnamed.symm.trans q3
  have hselP : selectMethod e.platform s.vm cellB.cls mk = .method mk := by rw [Launch.admits_selectMethod X.admits]; exact q4
  obtain ⟨vm₁, X₁, hstep₁⟩ := X.invokevirtual hexec hown hlink hnamed hmethM hstM hkP hkPi hy (a := b) (cell := cellB) hcell
    (fun z h => by rw [h] at hobj; cases hobj) hselP hmethM habM hkP hkPi (g := g) hg (argsL := argsL) (rest := rest) (hlen _ hsigM) hstack hdg
  obtain ⟨v, B, X', hpost, hsteps⟩ := hK m meth c ⟨T.setVm vm₁, locs, cells, slots⟩ { g with stack := rest } (.invokevirtual index) mk (Value.ref b :: argsL).toArray X₁ hg hsize hdg hW (X₁.named hnamed) (hpre vm₁ X₁.warmed)
  exact ⟨v, vm₁, B, X₁.warmed, X', hpost, fun target h => hstep₁ _ fun acts => by rw [doInvoke_state]; exact hsteps.trans h⟩
abbrev vx_CVW (R : Room) (s : State) (args : Array Value) (own C : String) (index : Nat) (y : MethodName) (bytes : ByteArray) (maxL : Nat) (ret : Option FieldType) (hh : List (Nat × Nat × Nat × Nat)) (ws : List Cond) (rm : Room) (mc ms n : Nat) : Prop :=
  (rm.cells = mc ∧ rm.slots = ms ∧ rm.frames + 1 ≤ R.frames ∧ 8 + (maxL + 11) + rm.locals ≤ R.locals ∧ (∀ w ∈ ws, ∀ (a' : Array Value) (U : State), s.WarmedH U.vm → w.before a' U = true) ∧ Cond.codeWith y bytes maxL ret hh ∈ ws) ∧
  (Cond.codeWith y bytes maxL ret hh).before args s = true ∧ (Cond.initialized y.cls).before args s = true ∧ (y.cls ≠ "java/lang/invoke/MethodHandle" ∧ y.cls ≠ "java/lang/invoke/VarHandle") ∧
  (∀ sig, parseMethodDescriptor y.desc = some sig → n = sig.parameters.length) ∧ (Cond.methodLink own index y).before args s = true ∧ (Cond.instanceMethod y).before args s = true ∧ (Cond.selects C y y).before args s = true
theorem vx_cwVW {own C : String} {index maxL mc ms : Nat} {y : MethodName} {bytes : ByteArray} {ret : Option FieldType} {hh : List (Nat × Nat × Nat × Nat)} {Ts ws ws' : List Cond} {rm : Room} (n : Nat) (ht : ∀ w ∈ Ts, w.before args s = true) (hT : GoodIn Ts (wsV own index C y ws)) (hw : ws = Cond.codeWith y bytes maxL ret hh :: ws') (hrc : rm.cells = mc) (hrs : rm.slots = ms)
    (hd : y.cls = C ∧ y.cls ≠ "java/lang/invoke/MethodHandle" ∧ y.cls ≠ "java/lang/invoke/VarHandle" ∧ (parseMethodDescriptor y.desc).map (fun d => d.parameters.length) = some n) (hR : rm.frames + 1 ≤ R.frames ∧ 8 + (maxL + 11) + rm.locals ≤ R.locals) :
    vx_CVW R s args own C index y bytes maxL ret hh ws rm mc ms n := by
  obtain ⟨hC, hd⟩ := hd
  subst hC
  have ok : ∀ w ∈ wsV own index y.cls y ws, w.before args s = true := fun w h => ht w (hT w h).1
  have hG : GoodIn Ts ws := fun w h => hT w (by unfold wsV; exact List.mem_append_right _ h)
  have hc : Cond.codeWith y bytes maxL ret hh ∈ ws := by rw [hw]; exact List.mem_cons_self
  refine ⟨⟨hrc, hrs, hR.1, hR.2, pay_in ht hG, hc⟩, ht _ (hG _ hc).1, ok _ (by simp [wsV]), ⟨hd.1, hd.2.1⟩, fun sig h => ?_, ok _ (by simp [wsV]), ok _ (by simp [wsV]), ok _ (by simp [wsV])⟩
  have h2 := hd.2.2
  rw [h] at h2
  exact (Option.some.inj h2).symm
theorem vx_runVW {y : MethodName} {bytes cc : ByteArray} {maxL nL mc ms n index : Nat} {ret : Option FieldType} {hh : List (Nat × Nat × Nat × Nat)} {ws : List Cond} {rm : Room} {Pc : Array Value → State → Prop} {Qc : Array Value → State → Outcome → State → Prop} {free : Addr → Prop} {Ts : List Cond} {own C : String} {b : Addr} {As rest : List Value} {g : JFrame}
    (S : CallFix p m c cc nL s args Ts own) (hM : Met l y ws rm Pc Qc mc ms free) (cw : vx_CVW R s args own C index y bytes maxL ret hh ws rm mc ms n) (hp : PreV s H C b Pc As)
    (hg : g.method = m) (hn : As.length = n) (hsize : g.locals.size = nL) (hstack : g.stack = As.reverse ++ .ref b :: rest) (hW : 2 * g.monitorRoom + (rest.map fun v => v.category).sum ≤ 8) (hdg : decode cc g.pc = .ok (.invokevirtual index, 3)) (hf : cells + mc ≤ R.cells ∧ slots + ms ≤ R.slots) :
    va_Run p l e R s m args below meth c H locs cells slots mc ms g rest (Qc (Value.ref b :: As).toArray) free := by
  obtain ⟨⟨hrc, hrs, hfr, hlo, hws, hcw⟩, hcode, hini, hy, hlen, hl, hin, hse⟩ := cw
  have hK : Back l R p e below s args y 3 8 (PreOf R mc ms Pc) (PostOf Qc mc ms free) := va_backW (hh := hh) (bytes := bytes) (maxL := maxL) (ret := ret) hM hp.1 hrc hrs hfr hlo hws hcw (fun a' U hW => word_at hW (Or.inl (by first | rfl | simp [Cond.onTables, Cond.keeps, Cond.steady])) hini)
  obtain ⟨hx, hb, hml, ho, -⟩ := S
  obtain ⟨-, ⟨cellB, hcB, hoB, hclB⟩, hPc⟩ := hp
  intro T hT X
  obtain ⟨v, vm₁, ⟨U', l2, c2, s2⟩, hW₁, X', ⟨g', mk, t, L, e1, e2, hq, h1, hL, h2, h3⟩, st⟩ := vx_callVW X hx (C := C) (hh := hh) (bytes := bytes) (maxL := maxL) (ret := ret) ho hl hin hse hcode hy hK (by rw [hT]; exact hcB) hoB hclB hg (hsize.trans hml.symm) (argsL := As) (rest := rest) (fun sig h => hn.trans (hlen sig h)) hstack hW (by rw [hb]; exact hdg)
    (fun vm₁ hW₁ => ⟨hf.1, hf.2, hPc (T.setVm vm₁) hT hW₁⟩)
  dsimp only [Pt.U, Pt.locs, Pt.cells, Pt.slots] at X' e1 e2 h1 h2 h3 st
  subst h1; subst h2; subst h3
  exact ⟨v, (T.setVm vm₁).calling g' mk (Value.ref b :: As).toArray, t, U', L, hT, X', hL, e1, e2, hq, st⟩
section
variable {y : MethodName} {bytes cc : ByteArray} {maxL nL mc ms n index : Nat} {ret : Option FieldType} {ws : List Cond} {rm : Room} {Pc : Array Value → State → Prop} {Qc : Array Value → State → Outcome → State → Prop} {XC : String → State → State → Prop} {free : Addr → Prop} {Ts : List Cond} {own C : String} {b : Addr} {As rest : List Value} {g : JFrame}
theorem vx_runVX {hh : List (Nat × Nat × Nat × Nat)} (S : CallFix p m c cc nL s args Ts own) (hM : vx_Met l y ws rm Pc Qc XC mc ms free) (cw : vx_CVW R s args own C index y bytes maxL ret hh ws rm mc ms n) (hp : PreV s H C b Pc As)
    (hg : g.method = m) (hn : As.length = n) (hsize : g.locals.size = nL) (hstack : g.stack = As.reverse ++ .ref b :: rest) (hW : 2 * g.monitorRoom + (rest.map fun v => v.category).sum ≤ 8) (hdg : decode cc g.pc = .ok (.invokevirtual index, 3)) (hf : cells + mc ≤ R.cells ∧ slots + ms ≤ R.slots) :
    vx_Run p l e R s m args below meth c H locs cells slots mc ms g rest (Qc (Value.ref b :: As).toArray) XC free := by
  obtain ⟨⟨hrc, hrs, hfr, hlo, hws, hcw⟩, hcode, hini, hy, hlen, hl, hin, hse⟩ := cw
  have hK : vx_Back l R p e below s args y 3 8 (PreOf R mc ms Pc) (PostOf Qc mc ms free) (vx_Post XC mc ms free) := vx_backW (hh := hh) (bytes := bytes) (maxL := maxL) (ret := ret) hM hp.1 hrc hrs hfr hlo hws hcw (fun a' U hW => word_at hW (Or.inl (by first | rfl | simp [Cond.onTables, Cond.keeps, Cond.steady])) hini)
  obtain ⟨hx, hb, hml, ho, -⟩ := S
  obtain ⟨-, ⟨cellB, hcB, hoB, hclB⟩, hPc⟩ := hp
  intro T hT X
  rcases vx_callVX X hx (C := C) (hh := hh) (bytes := bytes) (maxL := maxL) (ret := ret) ho hl hin hse hcode hy hK (by rw [hT]; exact hcB) hoB hclB hg (hsize.trans hml.symm) (argsL := As) (rest := rest) (fun sig h => hn.trans (hlen sig h)) hstack hW (by rw [hb]; exact hdg)
    (fun vm₁ hW₁ => ⟨hf.1, hf.2, hPc (T.setVm vm₁) hT hW₁⟩) with ⟨v, vm₁, ⟨U', l2, c2, s2⟩, hW₁, X', ⟨g', mk, t, L, e1, e2, hq, h1, hL, h2, h3⟩, st⟩ | ⟨q, vm₁, ⟨U', l2, c2, s2⟩, hW₁, X', ⟨g', mk, t, L, E, ce, e1, e2, hq, hce, hcv, hcl, h1, hL, h2, h3⟩, st⟩
  · dsimp only [Pt.U, Pt.locs, Pt.cells, Pt.slots] at X' e1 e2 h1 h2 h3 st
    subst h1; subst h2; subst h3
    exact Or.inl ⟨v, (T.setVm vm₁).calling g' mk (Value.ref b :: As).toArray, t, U', L, hT, X', hL, e1, e2, hq, st⟩
  · dsimp only [Pt.U, Pt.locs, Pt.cells, Pt.slots] at X' e1 e2 h1 h2 h3 st hcl
    subst h1; subst h2; subst h3
    exact Or.inr ⟨q, (T.setVm vm₁).calling g' mk (Value.ref b :: As).toArray, t, U', L, E, ce, hT, X', hL, e1, e2, hq, hce, hcv, vx_cls hW₁ hcl, st⟩
theorem vx_runSX {hh : List (Nat × Nat × Nat × Nat)} (S : CallFix p m c cc nL s args Ts own) (hM : vx_Met l y ws rm Pc Qc XC mc ms free) (cw : vx_CSW R s args own index y bytes maxL ret hh ws rm mc ms n) (hp : PreS s H Pc As)
    (hg : g.method = m) (hn : As.length = n) (hsize : g.locals.size = nL) (hstack : g.stack = As.reverse ++ rest) (hW : 2 * g.monitorRoom + (rest.map fun v => v.category).sum ≤ 8) (hdg : decode cc g.pc = .ok (.invokestatic index, 3)) (hf : cells + mc ≤ R.cells ∧ slots + ms ≤ R.slots) :
    vx_Run p l e R s m args below meth c H locs cells slots mc ms g rest (Qc As.toArray) XC free := by
  obtain ⟨⟨hrc, hrs, hfr, hlo, hws, hcw⟩, hcode, hini, hy, hlen, hl, hstt⟩ := cw
  have hK : vx_Back l R p e below s args y 3 8 (PreOf R mc ms Pc) (PostOf Qc mc ms free) (vx_Post XC mc ms free) := vx_backW (hh := hh) (bytes := bytes) (maxL := maxL) (ret := ret) hM hp.1 hrc hrs hfr hlo hws hcw (fun a' U hW => word_at hW (Or.inl (by first | rfl | simp [Cond.onTables, Cond.keeps, Cond.steady])) hini)
  obtain ⟨hx, hb, hml, ho, -⟩ := S
  intro T hT X
  rcases vx_callSX X hx (hh := hh) (bytes := bytes) (maxL := maxL) (ret := ret) ho hl hstt hini hcode hy hK hg (hsize.trans hml.symm) (argsL := As) (rest := rest) (fun sig h => hn.trans (hlen sig h)) hstack hW (by rw [hb]; exact hdg)
    (fun vm₁ hW₁ => ⟨hf.1, hf.2, hp.2 (T.setVm vm₁) hT hW₁⟩) with ⟨v, vm₁, ⟨U', l2, c2, s2⟩, hW₁, X', ⟨g', mk, t, L, e1, e2, hq, h1, hL, h2, h3⟩, st⟩ | ⟨q, vm₁, ⟨U', l2, c2, s2⟩, hW₁, X', ⟨g', mk, t, L, E, ce, e1, e2, hq, hce, hcv, hcl, h1, hL, h2, h3⟩, st⟩
  · dsimp only [Pt.U, Pt.locs, Pt.cells, Pt.slots] at X' e1 e2 h1 h2 h3 st
    subst h1; subst h2; subst h3
    exact Or.inl ⟨v, (T.setVm vm₁).calling g' mk As.toArray, t, U', L, hT, X', hL, e1, e2, hq, st⟩
  · dsimp only [Pt.U, Pt.locs, Pt.cells, Pt.slots] at X' e1 e2 h1 h2 h3 st hcl
    subst h1; subst h2; subst h3
    exact Or.inr ⟨q, (T.setVm vm₁).calling g' mk As.toArray, t, U', L, E, ce, hT, X', hL, e1, e2, hq, hce, hcv, vx_cls hW₁ hcl, st⟩
end
end VXH
theorem vx_ofWH {l : Launch} {y : MethodName} {ws ws' : List Cond} {rm : Room} {Pc : Array Value → State → Prop} {Qc : Array Value → State → Outcome → State → Prop} {XC : String → State → State → Prop} {mc ms : Nat} {free : Addr → Prop} {cc : ByteArray} {maxL : Nat} {ret : Option FieldType} {hh : List (Nat × Nat × Nat × Nat)}
    (hy : plainName y.cls = true) (hw : ws = Cond.codeWith y cc maxL ret hh :: ws')
    (body : ∀ p e s m args below meth c s₁, BodyLoose p l y (headSpec ws rm) cc maxL ret e s m args below meth c s₁ → c.maxLocals = maxL → Pc args s →
      W p l e (headSpec ws rm).room s m args below meth c s.heap [] 0 0 (vx_MQ below Qc XC args s mc ms free) (entryFrame m args maxL)) : vx_Met l y ws rm Pc Qc XC mc ms free := by
  refine MetFree.of_bodyS (code := cc) (maxLocals := maxL) (ret := ret) hy ?_ ?_
  · intro args s m h hn
    obtain ⟨m9, meth, c, hn9, h1, h2, h3, h4, -, h5, h6, -⟩ := Cond.codeWith_spec (atoms_spec (ws := ws) h _ (by rw [hw]; exact List.mem_cons_self))
    cases hn.symm.trans hn9
    exact ⟨meth, c, h1, h2, h3, h4, h5, h6⟩
  · intro p e s m args below meth c s₁ B hml hP _
    have hh0 : s₁.heap = s.heap := by rw [B.state]; rfl
    obtain ⟨t, a1, o, b1, b2, b3⟩ := body p e s m args below meth c s₁ B hml hP s₁ hh0 (Stand.of_body B)
    exact ⟨t, o, a1, b1, b2, b3⟩
/-! ===== END ===== -/
end
section
/-! ===== BEGIN printed: names, fields, word lists, decode rows ===== -/
def RX0 : String := "RuneSticks$Stick"
def TX0 : u_T := fun k => match k with
  | 0 => ("RuneSticks$Stick", "places", "I", true)
  | 1 => ("RuneSticks$Stick", "up", "I", false)
  | 2 => ("RuneSticks$Stick", "beginBreak", "I", false)
  | 3 => ("RuneSticks$Stick", "endBreak", "I", false)
  | 4 => ("RuneSticks$Stick", "gone", "Z", false)
  | 5 => ("RuneSticks$Stick", "runes", "[I", true)
  | 6 => ("RuneSticks$Stick", "bases", "[I", true)
  | _ => ("RuneSticks$Stick", "glued", "[Z", true)
def tyX0 : Nat → FieldType := fun k => match k with
  | 0 => .int
  | 1 => .int
  | 2 => .int
  | 3 => .int
  | 4 => .boolean
  | 5 => .array .int
  | 6 => .array .int
  | _ => .array .boolean
abbrev wsX00 : List Cond := u_ws RX0 TX0 8
theorem nmX0 : ∀ a, a < 8 → ∀ b, b < 8 → a ≠ b → (TX0 a).2.1 ≠ (TX0 b).2.1 := by decide +kernel
theorem tyX0_ok : ∀ k, k < 8 → parseFieldDescriptor (TX0 k).2.2.1 = some (tyX0 k) := by decide +kernel
abbrev cX0_init : ByteArray := prog_2_method_1_code
def yX0_init : MethodName := ⟨RX0, "<init>", "(I)V"⟩
abbrev cX0_hasPlace : ByteArray := prog_2_method_2_code
def yX0_hasPlace : MethodName := ⟨RX0, "hasPlace", "(II)Z"⟩
abbrev cX0_hasJoint : ByteArray := prog_2_method_3_code
def yX0_hasJoint : MethodName := ⟨RX0, "hasJoint", "(I)Z"⟩
abbrev cX0_runeAt : ByteArray := prog_2_method_4_code
def yX0_runeAt : MethodName := ⟨RX0, "runeAt", "(II)I"⟩
abbrev cX0_putRune : ByteArray := prog_2_method_5_code
def yX0_putRune : MethodName := ⟨RX0, "putRune", "(III)V"⟩
abbrev cX0_baseAt : ByteArray := prog_2_method_6_code
def yX0_baseAt : MethodName := ⟨RX0, "baseAt", "(I)I"⟩
abbrev cX0_gluedAt : ByteArray := prog_2_method_7_code
def yX0_gluedAt : MethodName := ⟨RX0, "gluedAt", "(I)Z"⟩
abbrev cX0_putJoint : ByteArray := prog_2_method_8_code
def yX0_putJoint : MethodName := ⟨RX0, "putJoint", "(IIZ)V"⟩
abbrev cX0_takePlaces : ByteArray := prog_2_method_9_code
def yX0_takePlaces : MethodName := ⟨RX0, "takePlaces", "(LRuneSticks$Stick;IIII)V"⟩
abbrev cX0_fitsAheadOf : ByteArray := prog_2_method_10_code
def yX0_fitsAheadOf : MethodName := ⟨RX0, "fitsAheadOf", "(LRuneSticks$Stick;)Z"⟩
abbrev cX0_factAt : ByteArray := prog_2_method_11_code
def yX0_factAt : MethodName := ⟨RX0, "factAt", "(I)I"⟩
abbrev cX0_runesInAll : ByteArray := prog_2_method_12_code
def yX0_runesInAll : MethodName := ⟨RX0, "runesInAll", "()I"⟩
abbrev cX0_runesAtPlace : ByteArray := prog_2_method_13_code
def yX0_runesAtPlace : MethodName := ⟨RX0, "runesAtPlace", "(I)I"⟩
abbrev cX0_gluedJoints : ByteArray := prog_2_method_14_code
def yX0_gluedJoints : MethodName := ⟨RX0, "gluedJoints", "()I"⟩
abbrev cX0_strengthAt : ByteArray := prog_2_method_15_code
def yX0_strengthAt : MethodName := ⟨RX0, "strengthAt", "(I)I"⟩
abbrev cX0_firstWeakestJoint : ByteArray := prog_2_method_16_code
def yX0_firstWeakestJoint : MethodName := ⟨RX0, "firstWeakestJoint", "()I"⟩
abbrev cX0_jointsWeakerThan : ByteArray := prog_2_method_17_code
def yX0_jointsWeakerThan : MethodName := ⟨RX0, "jointsWeakerThan", "(I)I"⟩
abbrev cX0_runeRead : ByteArray := prog_2_method_18_code
def yX0_runeRead : MethodName := ⟨RX0, "runeRead", "(III)I"⟩
abbrev cX0_placeReadUpTo : ByteArray := prog_2_method_19_code
def yX0_placeReadUpTo : MethodName := ⟨RX0, "placeReadUpTo", "(III)I"⟩
abbrev cX0_readingLength : ByteArray := prog_2_method_20_code
def yX0_readingLength : MethodName := ⟨RX0, "readingLength", "(II)I"⟩
abbrev cX0_runeOfReadingOrNone : ByteArray := prog_2_method_21_code
def yX0_runeOfReadingOrNone : MethodName := ⟨RX0, "runeOfReadingOrNone", "(II)I"⟩
abbrev cX0_readsPair : ByteArray := prog_2_method_22_code
def yX0_readsPair : MethodName := ⟨RX0, "readsPair", "(IIII)Z"⟩
abbrev cX0_addedTo : ByteArray := prog_2_method_23_code
def yX0_addedTo : MethodName := ⟨RX0, "addedTo", "(J)J"⟩
def RX1 : String := "RuneSticks"
def TX1 : u_T := fun k => match k with
  | 0 => ("RuneSticks", "sticks", "[LRuneSticks$Stick;", true)
  | 1 => ("RuneSticks", "made", "I", false)
  | _ => ("RuneSticks", "breaks", "I", false)
def tyX1 : Nat → FieldType := fun k => match k with
  | 0 => .array (.object "RuneSticks$Stick")
  | 1 => .int
  | _ => .int
abbrev wsX10 : List Cond := u_ws RX1 TX1 3
theorem nmX1 : ∀ a, a < 3 → ∀ b, b < 3 → a ≠ b → (TX1 a).2.1 ≠ (TX1 b).2.1 := by decide +kernel
theorem tyX1_ok : ∀ k, k < 3 → parseFieldDescriptor (TX1 k).2.2.1 = some (tyX1 k) := by decide +kernel
abbrev cX1_init : ByteArray := prog_1_method_1_code
def yX1_init : MethodName := ⟨RX1, "<init>", "()V"⟩
abbrev cX1_make : ByteArray := prog_1_method_2_code
def yX1_make : MethodName := ⟨RX1, "make", "(I)I"⟩
abbrev cX1_carve : ByteArray := prog_1_method_3_code
def yX1_carve : MethodName := ⟨RX1, "carve", "(IIII)I"⟩
abbrev cX1_scrape : ByteArray := prog_1_method_4_code
def yX1_scrape : MethodName := ⟨RX1, "scrape", "(III)I"⟩
abbrev cX1_roll : ByteArray := prog_1_method_5_code
def yX1_roll : MethodName := ⟨RX1, "roll", "(II)I"⟩
abbrev cX1_bend : ByteArray := prog_1_method_6_code
def yX1_bend : MethodName := ⟨RX1, "bend", "(II)I"⟩
abbrev cX1_glue : ByteArray := prog_1_method_7_code
def yX1_glue : MethodName := ⟨RX1, "glue", "(IIII)I"⟩
abbrev cX1_stick : ByteArray := prog_1_method_8_code
def yX1_stick : MethodName := ⟨RX1, "stick", "(II)I"⟩
abbrev cX1_rune : ByteArray := prog_1_method_9_code
def yX1_rune : MethodName := ⟨RX1, "rune", "(III)I"⟩
abbrev cX1_strength : ByteArray := prog_1_method_10_code
def yX1_strength : MethodName := ⟨RX1, "strength", "(II)I"⟩
abbrev cX1_count : ByteArray := prog_1_method_11_code
def yX1_count : MethodName := ⟨RX1, "count", "(I)I"⟩
abbrev cX1_fits : ByteArray := prog_1_method_12_code
def yX1_fits : MethodName := ⟨RX1, "fits", "(II)Z"⟩
abbrev cX1_size : ByteArray := prog_1_method_13_code
def yX1_size : MethodName := ⟨RX1, "size", "(II)I"⟩
abbrev cX1_reads : ByteArray := prog_1_method_14_code
def yX1_reads : MethodName := ⟨RX1, "reads", "(III)I"⟩
abbrev cX1_has : ByteArray := prog_1_method_15_code
def yX1_has : MethodName := ⟨RX1, "has", "(III)I"⟩
abbrev cX1_rhyme : ByteArray := prog_1_method_16_code
def yX1_rhyme : MethodName := ⟨RX1, "rhyme", "(III)I"⟩
abbrev cX1_best : ByteArray := prog_1_method_17_code
def yX1_best : MethodName := ⟨RX1, "best", "(III)I"⟩
abbrev cX1_pieces : ByteArray := prog_1_method_18_code
def yX1_pieces : MethodName := ⟨RX1, "pieces", "(II)I"⟩
abbrev cX1_row : ByteArray := prog_1_method_19_code
def yX1_row : MethodName := ⟨RX1, "row", "(II)I"⟩
abbrev cX1_mean : ByteArray := prog_1_method_20_code
def yX1_mean : MethodName := ⟨RX1, "mean", "()D"⟩
abbrev cX1_digest : ByteArray := prog_1_method_21_code
def yX1_digest : MethodName := ⟨RX1, "digest", "()J"⟩
abbrev cX1_known : ByteArray := prog_1_method_22_code
def yX1_known : MethodName := ⟨RX1, "known", "(I)LRuneSticks$Stick;"⟩
abbrev cX1_needNumbersLeft : ByteArray := prog_1_method_23_code
def yX1_needNumbersLeft : MethodName := ⟨RX1, "needNumbersLeft", "(I)V"⟩
abbrev cX1_needThere : ByteArray := prog_1_method_24_code
def yX1_needThere : MethodName := ⟨RX1, "needThere", "(LRuneSticks$Stick;)V"⟩
abbrev cX1_needPlace : ByteArray := prog_1_method_25_code
def yX1_needPlace : MethodName := ⟨RX1, "needPlace", "(LRuneSticks$Stick;II)V"⟩
abbrev cX1_needRune : ByteArray := prog_1_method_26_code
def yX1_needRune : MethodName := ⟨RX1, "needRune", "(I)V"⟩
abbrev cX1_needTurn : ByteArray := prog_1_method_27_code
def yX1_needTurn : MethodName := ⟨RX1, "needTurn", "(I)V"⟩
abbrev cX1_needForce : ByteArray := prog_1_method_28_code
def yX1_needForce : MethodName := ⟨RX1, "needForce", "(I)V"⟩
abbrev cX1_stickOrNull : ByteArray := prog_1_method_29_code
def yX1_stickOrNull : MethodName := ⟨RX1, "stickOrNull", "(I)LRuneSticks$Stick;"⟩
abbrev cX1_thereOrNull : ByteArray := prog_1_method_30_code
def yX1_thereOrNull : MethodName := ⟨RX1, "thereOrNull", "(I)LRuneSticks$Stick;"⟩
abbrev cX1_put : ByteArray := prog_1_method_31_code
def yX1_put : MethodName := ⟨RX1, "put", "(LRuneSticks$Stick;)I"⟩
abbrev cX1_breakAt : ByteArray := prog_1_method_32_code
def yX1_breakAt : MethodName := ⟨RX1, "breakAt", "(LRuneSticks$Stick;I)I"⟩
abbrev cX1_joinBoth : ByteArray := prog_1_method_33_code
def yX1_joinBoth : MethodName := ⟨RX1, "joinBoth", "(LRuneSticks$Stick;LRuneSticks$Stick;II)I"⟩
abbrev cX1_total : ByteArray := prog_1_method_34_code
def yX1_total : MethodName := ⟨RX1, "total", "(I)I"⟩
abbrev cX1_howManyThere : ByteArray := prog_1_method_35_code
def yX1_howManyThere : MethodName := ⟨RX1, "howManyThere", "()I"⟩
abbrev cX1_sumThere : ByteArray := prog_1_method_36_code
def yX1_sumThere : MethodName := ⟨RX1, "sumThere", "(I)I"⟩
abbrev cX1_fittingPairs : ByteArray := prog_1_method_37_code
def yX1_fittingPairs : MethodName := ⟨RX1, "fittingPairs", "()I"⟩
abbrev cX1_fittingBehind : ByteArray := prog_1_method_38_code
def yX1_fittingBehind : MethodName := ⟨RX1, "fittingBehind", "(LRuneSticks$Stick;)I"⟩
abbrev cX1_rhymeOf : ByteArray := prog_1_method_39_code
def yX1_rhymeOf : MethodName := ⟨RX1, "rhymeOf", "(LRuneSticks$Stick;ILRuneSticks$Stick;I)I"⟩
abbrev cX1_pairWorth : ByteArray := prog_1_method_40_code
def yX1_pairWorth : MethodName := ⟨RX1, "pairWorth", "(II)I"⟩
def RX2 : String := "RuneSticksModel"
def TX2 : u_T := fun k => match k with
  | 0 => ("RuneSticksModel", "thrown", "I", false)
  | 1 => ("RuneSticksModel", "sticks", "I", false)
  | 2 => ("RuneSticksModel", "breaks", "I", false)
  | 3 => ("RuneSticksModel", "places", "[I", true)
  | 4 => ("RuneSticksModel", "up", "[I", true)
  | 5 => ("RuneSticksModel", "isGone", "[I", true)
  | 6 => ("RuneSticksModel", "begin", "[I", true)
  | 7 => ("RuneSticksModel", "end", "[I", true)
  | 8 => ("RuneSticksModel", "runes", "[I", true)
  | 9 => ("RuneSticksModel", "base", "[I", true)
  | 10 => ("RuneSticksModel", "isGlued", "[I", true)
  | 11 => ("RuneSticksModel", "one", "[I", true)
  | _ => ("RuneSticksModel", "two", "[I", true)
def tyX2 : Nat → FieldType := fun k => match k with
  | 0 => .int
  | 1 => .int
  | 2 => .int
  | 3 => .array .int
  | 4 => .array .int
  | 5 => .array .int
  | 6 => .array .int
  | 7 => .array .int
  | 8 => .array .int
  | 9 => .array .int
  | 10 => .array .int
  | 11 => .array .int
  | _ => .array .int
abbrev wsX20 : List Cond := u_ws RX2 TX2 13
theorem nmX2 : ∀ a, a < 13 → ∀ b, b < 13 → a ≠ b → (TX2 a).2.1 ≠ (TX2 b).2.1 := by decide +kernel
theorem tyX2_ok : ∀ k, k < 13 → parseFieldDescriptor (TX2 k).2.2.1 = some (tyX2 k) := by decide +kernel
abbrev cX2_init : ByteArray := prog_4_method_1_code
def yX2_init : MethodName := ⟨RX2, "<init>", "()V"⟩
abbrev cX2_thrown : ByteArray := prog_4_method_2_code
def yX2_thrown : MethodName := ⟨RX2, "thrown", "()I"⟩
abbrev cX2_no : ByteArray := prog_4_method_3_code
def yX2_no : MethodName := ⟨RX2, "no", "(I)I"⟩
abbrev cX2_isIn : ByteArray := prog_4_method_4_code
def yX2_isIn : MethodName := ⟨RX2, "isIn", "(III)Z"⟩
abbrev cX2_isStick : ByteArray := prog_4_method_5_code
def yX2_isStick : MethodName := ⟨RX2, "isStick", "(I)Z"⟩
abbrev cX2_isSide : ByteArray := prog_4_method_6_code
def yX2_isSide : MethodName := ⟨RX2, "isSide", "(I)Z"⟩
abbrev cX2_isRune : ByteArray := prog_4_method_7_code
def yX2_isRune : MethodName := ⟨RX2, "isRune", "(I)Z"⟩
abbrev cX2_spot : ByteArray := prog_4_method_8_code
def yX2_spot : MethodName := ⟨RX2, "spot", "(III)I"⟩
abbrev cX2_isSpot : ByteArray := prog_4_method_9_code
def yX2_isSpot : MethodName := ⟨RX2, "isSpot", "(III)Z"⟩
abbrev cX2_there : ByteArray := prog_4_method_10_code
def yX2_there : MethodName := ⟨RX2, "there", "()I"⟩
abbrev cX2_add : ByteArray := prog_4_method_11_code
def yX2_add : MethodName := ⟨RX2, "add", "(IIII)I"⟩
abbrev cX2_make : ByteArray := prog_4_method_12_code
def yX2_make : MethodName := ⟨RX2, "make", "(I)I"⟩
abbrev cX2_carve : ByteArray := prog_4_method_13_code
def yX2_carve : MethodName := ⟨RX2, "carve", "(IIII)I"⟩
abbrev cX2_scrape : ByteArray := prog_4_method_14_code
def yX2_scrape : MethodName := ⟨RX2, "scrape", "(III)I"⟩
abbrev cX2_roll : ByteArray := prog_4_method_15_code
def yX2_roll : MethodName := ⟨RX2, "roll", "(II)I"⟩
abbrev cX2_runesAt : ByteArray := prog_4_method_16_code
def yX2_runesAt : MethodName := ⟨RX2, "runesAt", "(II)I"⟩
abbrev cX2_strong : ByteArray := prog_4_method_17_code
def yX2_strong : MethodName := ⟨RX2, "strong", "(II)I"⟩
abbrev cX2_weakest : ByteArray := prog_4_method_18_code
def yX2_weakest : MethodName := ⟨RX2, "weakest", "(I)I"⟩
abbrev cX2_lay : ByteArray := prog_4_method_19_code
def yX2_lay : MethodName := ⟨RX2, "lay", "(IIIIII)V"⟩
abbrev cX2_bend : ByteArray := prog_4_method_20_code
def yX2_bend : MethodName := ⟨RX2, "bend", "(II)I"⟩
abbrev cX2_fit : ByteArray := prog_4_method_21_code
def yX2_fit : MethodName := ⟨RX2, "fit", "(II)Z"⟩
abbrev cX2_glue : ByteArray := prog_4_method_22_code
def yX2_glue : MethodName := ⟨RX2, "glue", "(IIII)I"⟩
abbrev cX2_runesOn : ByteArray := prog_4_method_23_code
def yX2_runesOn : MethodName := ⟨RX2, "runesOn", "(I)I"⟩
abbrev cX2_glued : ByteArray := prog_4_method_24_code
def yX2_glued : MethodName := ⟨RX2, "glued", "(I)I"⟩
abbrev cX2_stickTold : ByteArray := prog_4_method_25_code
def yX2_stickTold : MethodName := ⟨RX2, "stickTold", "(II)I"⟩
abbrev cX2_stick : ByteArray := prog_4_method_26_code
def yX2_stick : MethodName := ⟨RX2, "stick", "(II)I"⟩
abbrev cX2_rune : ByteArray := prog_4_method_27_code
def yX2_rune : MethodName := ⟨RX2, "rune", "(III)I"⟩
abbrev cX2_strength : ByteArray := prog_4_method_28_code
def yX2_strength : MethodName := ⟨RX2, "strength", "(II)I"⟩
abbrev cX2_counted : ByteArray := prog_4_method_29_code
def yX2_counted : MethodName := ⟨RX2, "counted", "(I)I"⟩
abbrev cX2_count : ByteArray := prog_4_method_30_code
def yX2_count : MethodName := ⟨RX2, "count", "(I)I"⟩
abbrev cX2_fits : ByteArray := prog_4_method_31_code
def yX2_fits : MethodName := ⟨RX2, "fits", "(II)Z"⟩
abbrev cX2_read : ByteArray := prog_4_method_32_code
def yX2_read : MethodName := ⟨RX2, "read", "(III[I)I"⟩
abbrev cX2_size : ByteArray := prog_4_method_33_code
def yX2_size : MethodName := ⟨RX2, "size", "(II)I"⟩
abbrev cX2_reads : ByteArray := prog_4_method_34_code
def yX2_reads : MethodName := ⟨RX2, "reads", "(III)I"⟩
abbrev cX2_has : ByteArray := prog_4_method_35_code
def yX2_has : MethodName := ⟨RX2, "has", "(III)I"⟩
abbrev cX2_rhymeOf : ByteArray := prog_4_method_36_code
def yX2_rhymeOf : MethodName := ⟨RX2, "rhymeOf", "(IIII)I"⟩
abbrev cX2_rhyme : ByteArray := prog_4_method_37_code
def yX2_rhyme : MethodName := ⟨RX2, "rhyme", "(III)I"⟩
abbrev cX2_best : ByteArray := prog_4_method_38_code
def yX2_best : MethodName := ⟨RX2, "best", "(III)I"⟩
abbrev cX2_pieces : ByteArray := prog_4_method_39_code
def yX2_pieces : MethodName := ⟨RX2, "pieces", "(II)I"⟩
abbrev cX2_row : ByteArray := prog_4_method_40_code
def yX2_row : MethodName := ⟨RX2, "row", "(II)I"⟩
abbrev cX2_mean : ByteArray := prog_4_method_41_code
def yX2_mean : MethodName := ⟨RX2, "mean", "()D"⟩
abbrev cX2_digest : ByteArray := prog_4_method_42_code
def yX2_digest : MethodName := ⟨RX2, "digest", "()J"⟩
def RJx145de : String := "java/io/Serializable"
def TJx145de : u_T := fun k => match k with
  | _ => ("", "", "", false)
def tyJx145de : Nat → FieldType := fun k => match k with
  | _ => .int
abbrev wsJx145de0 : List Cond := u_ws RJx145de TJx145de 0
theorem nmJx145de : ∀ a, a < 0 → ∀ b, b < 0 → a ≠ b → (TJx145de a).2.1 ≠ (TJx145de b).2.1 := by decide +kernel
theorem tyJx145de_ok : ∀ k, k < 0 → parseFieldDescriptor (TJx145de k).2.2.1 = some (tyJx145de k) := by decide +kernel
def RJ9 : String := "java/lang/Math"
def TJ9 : u_T := fun k => match k with
  | _ => ("", "", "", false)
def tyJ9 : Nat → FieldType := fun k => match k with
  | _ => .int
abbrev wsJ90 : List Cond := u_ws RJ9 TJ9 0
theorem nmJ9 : ∀ a, a < 0 → ∀ b, b < 0 → a ≠ b → (TJ9 a).2.1 ≠ (TJ9 b).2.1 := by decide +kernel
theorem tyJ9_ok : ∀ k, k < 0 → parseFieldDescriptor (TJ9 k).2.2.1 = some (tyJ9 k) := by decide +kernel
abbrev cJ9_max_7cf53 : ByteArray := prog_9_method_65_code
def yJ9_max_7cf53 : MethodName := ⟨RJ9, "max", "(II)I"⟩
def RJ0 : String := "java/lang/String"
def TJ0 : u_T := fun k => match k with
  | _ => ("", "", "", false)
def tyJ0 : Nat → FieldType := fun k => match k with
  | _ => .int
abbrev wsJ00 : List Cond := u_ws RJ0 TJ0 0
theorem nmJ0 : ∀ a, a < 0 → ∀ b, b < 0 → a ≠ b → (TJ0 a).2.1 ≠ (TJ0 b).2.1 := by decide +kernel
theorem tyJ0_ok : ∀ k, k < 0 → parseFieldDescriptor (TJ0 k).2.2.1 = some (tyJ0 k) := by decide +kernel
def RJ7 : String := "java/util/Arrays"
def TJ7 : u_T := fun k => match k with
  | _ => ("", "", "", false)
def tyJ7 : Nat → FieldType := fun k => match k with
  | _ => .int
abbrev wsJ70 : List Cond := u_ws RJ7 TJ7 0
theorem nmJ7 : ∀ a, a < 0 → ∀ b, b < 0 → a ≠ b → (TJ7 a).2.1 ≠ (TJ7 b).2.1 := by decide +kernel
theorem tyJ7_ok : ∀ k, k < 0 → parseFieldDescriptor (TJ7 k).2.2.1 = some (tyJ7 k) := by decide +kernel
abbrev cJ7_fill_53178 : ByteArray := prog_13_method_103_code
def yJ7_fill_53178 : MethodName := ⟨RJ7, "fill", "([II)V"⟩
def RL : String := "RuneSticksLaw"
abbrev cL_make : ByteArray := method_3_code
def yL_make : MethodName := ⟨RL, "make", "(LRuneSticks;I[J)I"⟩
abbrev cL_carve : ByteArray := method_4_code
def yL_carve : MethodName := ⟨RL, "carve", "(LRuneSticks;IIII[J)I"⟩
abbrev cL_scrape : ByteArray := method_5_code
def yL_scrape : MethodName := ⟨RL, "scrape", "(LRuneSticks;III[J)I"⟩
abbrev cL_roll : ByteArray := method_6_code
def yL_roll : MethodName := ⟨RL, "roll", "(LRuneSticks;II[J)I"⟩
abbrev cL_bend : ByteArray := method_7_code
def yL_bend : MethodName := ⟨RL, "bend", "(LRuneSticks;II[J)I"⟩
abbrev cL_glue : ByteArray := method_8_code
def yL_glue : MethodName := ⟨RL, "glue", "(LRuneSticks;IIII[J)I"⟩
abbrev cL_stick : ByteArray := method_9_code
def yL_stick : MethodName := ⟨RL, "stick", "(LRuneSticks;II[J)I"⟩
abbrev cL_rune : ByteArray := method_10_code
def yL_rune : MethodName := ⟨RL, "rune", "(LRuneSticks;III[J)I"⟩
abbrev cL_strength : ByteArray := method_11_code
def yL_strength : MethodName := ⟨RL, "strength", "(LRuneSticks;II[J)I"⟩
abbrev cL_count : ByteArray := method_12_code
def yL_count : MethodName := ⟨RL, "count", "(LRuneSticks;I[J)I"⟩
abbrev cL_fits : ByteArray := method_13_code
def yL_fits : MethodName := ⟨RL, "fits", "(LRuneSticks;II[J)I"⟩
abbrev cL_size : ByteArray := method_14_code
def yL_size : MethodName := ⟨RL, "size", "(LRuneSticks;II[J)I"⟩
abbrev cL_reads : ByteArray := method_15_code
def yL_reads : MethodName := ⟨RL, "reads", "(LRuneSticks;III[J)I"⟩
abbrev cL_has : ByteArray := method_16_code
def yL_has : MethodName := ⟨RL, "has", "(LRuneSticks;III[J)I"⟩
abbrev cL_rhyme : ByteArray := method_17_code
def yL_rhyme : MethodName := ⟨RL, "rhyme", "(LRuneSticks;III[J)I"⟩
abbrev cL_best : ByteArray := method_18_code
def yL_best : MethodName := ⟨RL, "best", "(LRuneSticks;III[J)I"⟩
abbrev cL_pieces : ByteArray := method_19_code
def yL_pieces : MethodName := ⟨RL, "pieces", "(LRuneSticks;II[J)I"⟩
abbrev cL_row : ByteArray := method_20_code
def yL_row : MethodName := ⟨RL, "row", "(LRuneSticks;II[J)I"⟩
abbrev cL_law : ByteArray := code
def yL_law : MethodName := ⟨RL, "law", "([I)Z"⟩
def wsJ7_fill_53178 : List Cond := .code yJ7_fill_53178 cJ7_fill_53178 4 none :: ([])
def wsX0_init : List Cond := .code yX0_init cX0_init 2 none :: ([.methodLink RX0 3 objectInit, .instanceMethod objectInit, .code objectInit ⟨#[0xb1]⟩ 1 none, .fieldLink RX0 9 "RuneSticks$Stick" "places" "I", .fieldLink RX0 15 "RuneSticks$Stick" "up" "I", .fieldLink RX0 18 "RuneSticks$Stick" "beginBreak" "I", .fieldLink RX0 21 "RuneSticks$Stick" "endBreak" "I", .fieldLink RX0 24 "RuneSticks$Stick" "gone" "Z", .arrayClass .int, .fieldLink RX0 28 "RuneSticks$Stick" "runes" "[I", .fieldLink RX0 32 "RuneSticks$Stick" "bases" "[I", .arrayClass .boolean, .fieldLink RX0 35 "RuneSticks$Stick" "glued" "[Z", .methodLink RX0 39 yJ7_fill_53178, .static yJ7_fill_53178, .initialized RJ7, .code yJ7_fill_53178 cJ7_fill_53178 4 none] ++ wsX00)
def wsX0_hasPlace : List Cond := .code yX0_hasPlace cX0_hasPlace 3 (some .boolean) :: ([.fieldLink RX0 9 "RuneSticks$Stick" "places" "I"] ++ wsX00)
def wsX0_hasJoint : List Cond := .code yX0_hasJoint cX0_hasJoint 2 (some .boolean) :: ([.fieldLink RX0 9 "RuneSticks$Stick" "places" "I"] ++ wsX00)
def wsX0_runeAt : List Cond := .code yX0_runeAt cX0_runeAt 3 (some .int) :: ([.fieldLink RX0 28 "RuneSticks$Stick" "runes" "[I", .methodLink RX0 45 yX0_hasPlace, .instanceMethod yX0_hasPlace, .selects RX0 yX0_hasPlace yX0_hasPlace, .initialized RX0, .code yX0_hasPlace cX0_hasPlace 3 (some .boolean), .fieldLink RX0 9 "RuneSticks$Stick" "places" "I"] ++ wsX00)
def wsX0_putRune : List Cond := .code yX0_putRune cX0_putRune 4 none :: ([.fieldLink RX0 28 "RuneSticks$Stick" "runes" "[I", .methodLink RX0 45 yX0_hasPlace, .instanceMethod yX0_hasPlace, .selects RX0 yX0_hasPlace yX0_hasPlace, .initialized RX0, .code yX0_hasPlace cX0_hasPlace 3 (some .boolean), .fieldLink RX0 9 "RuneSticks$Stick" "places" "I"] ++ wsX00)
def wsX0_baseAt : List Cond := .code yX0_baseAt cX0_baseAt 2 (some .int) :: ([.fieldLink RX0 32 "RuneSticks$Stick" "bases" "[I", .methodLink RX0 49 yX0_hasJoint, .instanceMethod yX0_hasJoint, .selects RX0 yX0_hasJoint yX0_hasJoint, .initialized RX0, .code yX0_hasJoint cX0_hasJoint 2 (some .boolean), .fieldLink RX0 9 "RuneSticks$Stick" "places" "I"] ++ wsX00)
def wsX0_gluedAt : List Cond := .code yX0_gluedAt cX0_gluedAt 2 (some .boolean) :: ([.fieldLink RX0 35 "RuneSticks$Stick" "glued" "[Z", .methodLink RX0 49 yX0_hasJoint, .instanceMethod yX0_hasJoint, .selects RX0 yX0_hasJoint yX0_hasJoint, .initialized RX0, .code yX0_hasJoint cX0_hasJoint 2 (some .boolean), .fieldLink RX0 9 "RuneSticks$Stick" "places" "I"] ++ wsX00)
def wsX0_putJoint : List Cond := .code yX0_putJoint cX0_putJoint 4 none :: ([.fieldLink RX0 32 "RuneSticks$Stick" "bases" "[I", .fieldLink RX0 35 "RuneSticks$Stick" "glued" "[Z", .methodLink RX0 49 yX0_hasJoint, .instanceMethod yX0_hasJoint, .selects RX0 yX0_hasJoint yX0_hasJoint, .initialized RX0, .code yX0_hasJoint cX0_hasJoint 2 (some .boolean), .fieldLink RX0 9 "RuneSticks$Stick" "places" "I"] ++ wsX00)
def wsX0_takePlaces_r1 : List Cond := [Cond.methodLink RX0 53 yX0_runeAt, Cond.instanceMethod yX0_runeAt, Cond.selects RX0 yX0_runeAt yX0_runeAt, Cond.initialized RX0, Cond.code yX0_runeAt cX0_runeAt 3 (some .int), Cond.fieldLink RX0 28 "RuneSticks$Stick" "runes" "[I", Cond.methodLink RX0 45 yX0_hasPlace, Cond.instanceMethod yX0_hasPlace, Cond.selects RX0 yX0_hasPlace yX0_hasPlace, Cond.code yX0_hasPlace cX0_hasPlace 3 (some .boolean), Cond.fieldLink RX0 9 "RuneSticks$Stick" "places" "I", Cond.methodLink RX0 57 yX0_putRune, Cond.instanceMethod yX0_putRune, Cond.selects RX0 yX0_putRune yX0_putRune, Cond.code yX0_putRune cX0_putRune 4 none, Cond.methodLink RX0 61 yX0_baseAt, Cond.instanceMethod yX0_baseAt, Cond.selects RX0 yX0_baseAt yX0_baseAt, Cond.code yX0_baseAt cX0_baseAt 2 (some .int), Cond.fieldLink RX0 32 "RuneSticks$Stick" "bases" "[I", Cond.methodLink RX0 49 yX0_hasJoint, Cond.instanceMethod yX0_hasJoint, Cond.selects RX0 yX0_hasJoint yX0_hasJoint, Cond.code yX0_hasJoint cX0_hasJoint 2 (some .boolean)]
def wsX0_takePlaces_r2 : List Cond := [Cond.methodLink RX0 65 yX0_gluedAt, Cond.instanceMethod yX0_gluedAt, Cond.selects RX0 yX0_gluedAt yX0_gluedAt, Cond.code yX0_gluedAt cX0_gluedAt 2 (some .boolean), Cond.fieldLink RX0 35 "RuneSticks$Stick" "glued" "[Z", Cond.methodLink RX0 68 yX0_putJoint, Cond.instanceMethod yX0_putJoint, Cond.selects RX0 yX0_putJoint yX0_putJoint, Cond.code yX0_putJoint cX0_putJoint 4 none]
def wsX0_takePlaces : List Cond := .code yX0_takePlaces cX0_takePlaces 8 none :: ((wsX0_takePlaces_r1 ++ wsX0_takePlaces_r2) ++ wsX00)
def wsX0_fitsAheadOf : List Cond := .code yX0_fitsAheadOf cX0_fitsAheadOf 2 (some .boolean) :: ([.fieldLink RX0 21 "RuneSticks$Stick" "endBreak" "I", .fieldLink RX0 18 "RuneSticks$Stick" "beginBreak" "I"] ++ wsX00)
def wsX0_runesAtPlace : List Cond := .code yX0_runesAtPlace cX0_runesAtPlace 4 (some .int) :: ([.methodLink RX0 53 yX0_runeAt, .instanceMethod yX0_runeAt, .selects RX0 yX0_runeAt yX0_runeAt, .initialized RX0, .code yX0_runeAt cX0_runeAt 3 (some .int), .fieldLink RX0 28 "RuneSticks$Stick" "runes" "[I", .methodLink RX0 45 yX0_hasPlace, .instanceMethod yX0_hasPlace, .selects RX0 yX0_hasPlace yX0_hasPlace, .code yX0_hasPlace cX0_hasPlace 3 (some .boolean), .fieldLink RX0 9 "RuneSticks$Stick" "places" "I"] ++ wsX00)
def wsX0_runesInAll : List Cond := .code yX0_runesInAll cX0_runesInAll 3 (some .int) :: ([.fieldLink RX0 9 "RuneSticks$Stick" "places" "I", .methodLink RX0 79 yX0_runesAtPlace, .instanceMethod yX0_runesAtPlace, .selects RX0 yX0_runesAtPlace yX0_runesAtPlace, .initialized RX0, .code yX0_runesAtPlace cX0_runesAtPlace 4 (some .int), .methodLink RX0 53 yX0_runeAt, .instanceMethod yX0_runeAt, .selects RX0 yX0_runeAt yX0_runeAt, .code yX0_runeAt cX0_runeAt 3 (some .int), .fieldLink RX0 28 "RuneSticks$Stick" "runes" "[I", .methodLink RX0 45 yX0_hasPlace, .instanceMethod yX0_hasPlace, .selects RX0 yX0_hasPlace yX0_hasPlace, .code yX0_hasPlace cX0_hasPlace 3 (some .boolean)] ++ wsX00)
def wsX0_gluedJoints : List Cond := .code yX0_gluedJoints cX0_gluedJoints 3 (some .int) :: ([.fieldLink RX0 9 "RuneSticks$Stick" "places" "I", .methodLink RX0 65 yX0_gluedAt, .instanceMethod yX0_gluedAt, .selects RX0 yX0_gluedAt yX0_gluedAt, .initialized RX0, .code yX0_gluedAt cX0_gluedAt 2 (some .boolean), .fieldLink RX0 35 "RuneSticks$Stick" "glued" "[Z", .methodLink RX0 49 yX0_hasJoint, .instanceMethod yX0_hasJoint, .selects RX0 yX0_hasJoint yX0_hasJoint, .code yX0_hasJoint cX0_hasJoint 2 (some .boolean)] ++ wsX00)
def wsX0_factAt_r1 : List Cond := [Cond.fieldLink RX0 9 "RuneSticks$Stick" "places" "I", Cond.fieldLink RX0 15 "RuneSticks$Stick" "up" "I", Cond.fieldLink RX0 18 "RuneSticks$Stick" "beginBreak" "I", Cond.fieldLink RX0 21 "RuneSticks$Stick" "endBreak" "I", Cond.fieldLink RX0 24 "RuneSticks$Stick" "gone" "Z", Cond.methodLink RX0 72 yX0_runesInAll, Cond.instanceMethod yX0_runesInAll, Cond.selects RX0 yX0_runesInAll yX0_runesInAll, Cond.initialized RX0, Cond.code yX0_runesInAll cX0_runesInAll 3 (some .int), Cond.methodLink RX0 79 yX0_runesAtPlace, Cond.instanceMethod yX0_runesAtPlace, Cond.selects RX0 yX0_runesAtPlace yX0_runesAtPlace, Cond.code yX0_runesAtPlace cX0_runesAtPlace 4 (some .int), Cond.methodLink RX0 53 yX0_runeAt, Cond.instanceMethod yX0_runeAt, Cond.selects RX0 yX0_runeAt yX0_runeAt, Cond.code yX0_runeAt cX0_runeAt 3 (some .int), Cond.fieldLink RX0 28 "RuneSticks$Stick" "runes" "[I", Cond.methodLink RX0 45 yX0_hasPlace, Cond.instanceMethod yX0_hasPlace, Cond.selects RX0 yX0_hasPlace yX0_hasPlace, Cond.code yX0_hasPlace cX0_hasPlace 3 (some .boolean), Cond.methodLink RX0 76 yX0_gluedJoints]
def wsX0_factAt_r2 : List Cond := [Cond.instanceMethod yX0_gluedJoints, Cond.selects RX0 yX0_gluedJoints yX0_gluedJoints, Cond.code yX0_gluedJoints cX0_gluedJoints 3 (some .int), Cond.methodLink RX0 65 yX0_gluedAt, Cond.instanceMethod yX0_gluedAt, Cond.selects RX0 yX0_gluedAt yX0_gluedAt, Cond.code yX0_gluedAt cX0_gluedAt 2 (some .boolean), Cond.fieldLink RX0 35 "RuneSticks$Stick" "glued" "[Z", Cond.methodLink RX0 49 yX0_hasJoint, Cond.instanceMethod yX0_hasJoint, Cond.selects RX0 yX0_hasJoint yX0_hasJoint, Cond.code yX0_hasJoint cX0_hasJoint 2 (some .boolean)]
def wsX0_factAt : List Cond := .code yX0_factAt cX0_factAt 2 (some .int) :: ((wsX0_factAt_r1 ++ wsX0_factAt_r2) ++ wsX00)
def wsX0_strengthAt_r1 : List Cond := [Cond.methodLink RX0 82 Lib.Math.max.name, Cond.static Lib.Math.max.name, Cond.initialized "java/lang/Math", Cond.code Lib.Math.max.name Lib.Math.max.code 2 (some .int), Cond.methodLink RX0 61 yX0_baseAt, Cond.instanceMethod yX0_baseAt, Cond.selects RX0 yX0_baseAt yX0_baseAt, Cond.initialized RX0, Cond.code yX0_baseAt cX0_baseAt 2 (some .int), Cond.fieldLink RX0 32 "RuneSticks$Stick" "bases" "[I", Cond.methodLink RX0 49 yX0_hasJoint, Cond.instanceMethod yX0_hasJoint, Cond.selects RX0 yX0_hasJoint yX0_hasJoint, Cond.code yX0_hasJoint cX0_hasJoint 2 (some .boolean), Cond.fieldLink RX0 9 "RuneSticks$Stick" "places" "I", Cond.methodLink RX0 79 yX0_runesAtPlace, Cond.instanceMethod yX0_runesAtPlace, Cond.selects RX0 yX0_runesAtPlace yX0_runesAtPlace, Cond.code yX0_runesAtPlace cX0_runesAtPlace 4 (some .int), Cond.methodLink RX0 53 yX0_runeAt, Cond.instanceMethod yX0_runeAt, Cond.selects RX0 yX0_runeAt yX0_runeAt, Cond.code yX0_runeAt cX0_runeAt 3 (some .int), Cond.fieldLink RX0 28 "RuneSticks$Stick" "runes" "[I"]
def wsX0_strengthAt_r2 : List Cond := [Cond.methodLink RX0 45 yX0_hasPlace, Cond.instanceMethod yX0_hasPlace, Cond.selects RX0 yX0_hasPlace yX0_hasPlace, Cond.code yX0_hasPlace cX0_hasPlace 3 (some .boolean)]
def wsX0_strengthAt : List Cond := .code yX0_strengthAt cX0_strengthAt 2 (some .int) :: ((wsX0_strengthAt_r1 ++ wsX0_strengthAt_r2) ++ wsX00)
def wsX0_firstWeakestJoint_r1 : List Cond := [Cond.fieldLink RX0 9 "RuneSticks$Stick" "places" "I", Cond.methodLink RX0 87 yX0_strengthAt, Cond.instanceMethod yX0_strengthAt, Cond.selects RX0 yX0_strengthAt yX0_strengthAt, Cond.initialized RX0, Cond.code yX0_strengthAt cX0_strengthAt 2 (some .int), Cond.methodLink RX0 82 Lib.Math.max.name, Cond.static Lib.Math.max.name, Cond.initialized "java/lang/Math", Cond.code Lib.Math.max.name Lib.Math.max.code 2 (some .int), Cond.methodLink RX0 61 yX0_baseAt, Cond.instanceMethod yX0_baseAt, Cond.selects RX0 yX0_baseAt yX0_baseAt, Cond.code yX0_baseAt cX0_baseAt 2 (some .int), Cond.fieldLink RX0 32 "RuneSticks$Stick" "bases" "[I", Cond.methodLink RX0 49 yX0_hasJoint, Cond.instanceMethod yX0_hasJoint, Cond.selects RX0 yX0_hasJoint yX0_hasJoint, Cond.code yX0_hasJoint cX0_hasJoint 2 (some .boolean), Cond.methodLink RX0 79 yX0_runesAtPlace, Cond.instanceMethod yX0_runesAtPlace, Cond.selects RX0 yX0_runesAtPlace yX0_runesAtPlace, Cond.code yX0_runesAtPlace cX0_runesAtPlace 4 (some .int), Cond.methodLink RX0 53 yX0_runeAt]
def wsX0_firstWeakestJoint_r2 : List Cond := [Cond.instanceMethod yX0_runeAt, Cond.selects RX0 yX0_runeAt yX0_runeAt, Cond.code yX0_runeAt cX0_runeAt 3 (some .int), Cond.fieldLink RX0 28 "RuneSticks$Stick" "runes" "[I", Cond.methodLink RX0 45 yX0_hasPlace, Cond.instanceMethod yX0_hasPlace, Cond.selects RX0 yX0_hasPlace yX0_hasPlace, Cond.code yX0_hasPlace cX0_hasPlace 3 (some .boolean)]
def wsX0_firstWeakestJoint : List Cond := .code yX0_firstWeakestJoint cX0_firstWeakestJoint 3 (some .int) :: ((wsX0_firstWeakestJoint_r1 ++ wsX0_firstWeakestJoint_r2) ++ wsX00)
def wsX0_jointsWeakerThan_r1 : List Cond := [Cond.fieldLink RX0 9 "RuneSticks$Stick" "places" "I", Cond.methodLink RX0 87 yX0_strengthAt, Cond.instanceMethod yX0_strengthAt, Cond.selects RX0 yX0_strengthAt yX0_strengthAt, Cond.initialized RX0, Cond.code yX0_strengthAt cX0_strengthAt 2 (some .int), Cond.methodLink RX0 82 Lib.Math.max.name, Cond.static Lib.Math.max.name, Cond.initialized "java/lang/Math", Cond.code Lib.Math.max.name Lib.Math.max.code 2 (some .int), Cond.methodLink RX0 61 yX0_baseAt, Cond.instanceMethod yX0_baseAt, Cond.selects RX0 yX0_baseAt yX0_baseAt, Cond.code yX0_baseAt cX0_baseAt 2 (some .int), Cond.fieldLink RX0 32 "RuneSticks$Stick" "bases" "[I", Cond.methodLink RX0 49 yX0_hasJoint, Cond.instanceMethod yX0_hasJoint, Cond.selects RX0 yX0_hasJoint yX0_hasJoint, Cond.code yX0_hasJoint cX0_hasJoint 2 (some .boolean), Cond.methodLink RX0 79 yX0_runesAtPlace, Cond.instanceMethod yX0_runesAtPlace, Cond.selects RX0 yX0_runesAtPlace yX0_runesAtPlace, Cond.code yX0_runesAtPlace cX0_runesAtPlace 4 (some .int), Cond.methodLink RX0 53 yX0_runeAt]
def wsX0_jointsWeakerThan_r2 : List Cond := [Cond.instanceMethod yX0_runeAt, Cond.selects RX0 yX0_runeAt yX0_runeAt, Cond.code yX0_runeAt cX0_runeAt 3 (some .int), Cond.fieldLink RX0 28 "RuneSticks$Stick" "runes" "[I", Cond.methodLink RX0 45 yX0_hasPlace, Cond.instanceMethod yX0_hasPlace, Cond.selects RX0 yX0_hasPlace yX0_hasPlace, Cond.code yX0_hasPlace cX0_hasPlace 3 (some .boolean)]
def wsX0_jointsWeakerThan : List Cond := .code yX0_jointsWeakerThan cX0_jointsWeakerThan 4 (some .int) :: ((wsX0_jointsWeakerThan_r1 ++ wsX0_jointsWeakerThan_r2) ++ wsX00)
def wsX0_runeRead : List Cond := .code yX0_runeRead cX0_runeRead 4 (some .int) :: ([.methodLink RX0 45 yX0_hasPlace, .instanceMethod yX0_hasPlace, .selects RX0 yX0_hasPlace yX0_hasPlace, .initialized RX0, .code yX0_hasPlace cX0_hasPlace 3 (some .boolean), .fieldLink RX0 9 "RuneSticks$Stick" "places" "I", .methodLink RX0 53 yX0_runeAt, .instanceMethod yX0_runeAt, .selects RX0 yX0_runeAt yX0_runeAt, .code yX0_runeAt cX0_runeAt 3 (some .int), .fieldLink RX0 28 "RuneSticks$Stick" "runes" "[I"] ++ wsX00)
def wsX0_placeReadUpTo : List Cond := .code yX0_placeReadUpTo cX0_placeReadUpTo 5 (some .int) :: ([.methodLink RX0 90 yX0_runeRead, .instanceMethod yX0_runeRead, .selects RX0 yX0_runeRead yX0_runeRead, .initialized RX0, .code yX0_runeRead cX0_runeRead 4 (some .int), .methodLink RX0 45 yX0_hasPlace, .instanceMethod yX0_hasPlace, .selects RX0 yX0_hasPlace yX0_hasPlace, .code yX0_hasPlace cX0_hasPlace 3 (some .boolean), .fieldLink RX0 9 "RuneSticks$Stick" "places" "I", .methodLink RX0 53 yX0_runeAt, .instanceMethod yX0_runeAt, .selects RX0 yX0_runeAt yX0_runeAt, .code yX0_runeAt cX0_runeAt 3 (some .int), .fieldLink RX0 28 "RuneSticks$Stick" "runes" "[I"] ++ wsX00)
def wsX0_readingLength : List Cond := .code yX0_readingLength cX0_readingLength 5 (some .int) :: ([.fieldLink RX0 9 "RuneSticks$Stick" "places" "I", .methodLink RX0 90 yX0_runeRead, .instanceMethod yX0_runeRead, .selects RX0 yX0_runeRead yX0_runeRead, .initialized RX0, .code yX0_runeRead cX0_runeRead 4 (some .int), .methodLink RX0 45 yX0_hasPlace, .instanceMethod yX0_hasPlace, .selects RX0 yX0_hasPlace yX0_hasPlace, .code yX0_hasPlace cX0_hasPlace 3 (some .boolean), .methodLink RX0 53 yX0_runeAt, .instanceMethod yX0_runeAt, .selects RX0 yX0_runeAt yX0_runeAt, .code yX0_runeAt cX0_runeAt 3 (some .int), .fieldLink RX0 28 "RuneSticks$Stick" "runes" "[I"] ++ wsX00)
def wsX0_runeOfReadingOrNone : List Cond := .code yX0_runeOfReadingOrNone cX0_runeOfReadingOrNone 6 (some .int) :: ([.fieldLink RX0 9 "RuneSticks$Stick" "places" "I", .fieldLink RX0 15 "RuneSticks$Stick" "up" "I", .methodLink RX0 90 yX0_runeRead, .instanceMethod yX0_runeRead, .selects RX0 yX0_runeRead yX0_runeRead, .initialized RX0, .code yX0_runeRead cX0_runeRead 4 (some .int), .methodLink RX0 45 yX0_hasPlace, .instanceMethod yX0_hasPlace, .selects RX0 yX0_hasPlace yX0_hasPlace, .code yX0_hasPlace cX0_hasPlace 3 (some .boolean), .methodLink RX0 53 yX0_runeAt, .instanceMethod yX0_runeAt, .selects RX0 yX0_runeAt yX0_runeAt, .code yX0_runeAt cX0_runeAt 3 (some .int), .fieldLink RX0 28 "RuneSticks$Stick" "runes" "[I"] ++ wsX00)
def wsX0_readsPair : List Cond := .code yX0_readsPair cX0_readsPair 8 (some .boolean) :: ([.fieldLink RX0 9 "RuneSticks$Stick" "places" "I", .methodLink RX0 90 yX0_runeRead, .instanceMethod yX0_runeRead, .selects RX0 yX0_runeRead yX0_runeRead, .initialized RX0, .code yX0_runeRead cX0_runeRead 4 (some .int), .methodLink RX0 45 yX0_hasPlace, .instanceMethod yX0_hasPlace, .selects RX0 yX0_hasPlace yX0_hasPlace, .code yX0_hasPlace cX0_hasPlace 3 (some .boolean), .methodLink RX0 53 yX0_runeAt, .instanceMethod yX0_runeAt, .selects RX0 yX0_runeAt yX0_runeAt, .code yX0_runeAt cX0_runeAt 3 (some .int), .fieldLink RX0 28 "RuneSticks$Stick" "runes" "[I"] ++ wsX00)
def wsX0_addedTo_r1 : List Cond := [Cond.constantLong RX0 94 (31), Cond.fieldLink RX0 9 "RuneSticks$Stick" "places" "I", Cond.methodLink RX0 96 yX0_factAt, Cond.instanceMethod yX0_factAt, Cond.selects RX0 yX0_factAt yX0_factAt, Cond.initialized RX0, Cond.code yX0_factAt cX0_factAt 2 (some .int), Cond.fieldLink RX0 15 "RuneSticks$Stick" "up" "I", Cond.fieldLink RX0 18 "RuneSticks$Stick" "beginBreak" "I", Cond.fieldLink RX0 21 "RuneSticks$Stick" "endBreak" "I", Cond.fieldLink RX0 24 "RuneSticks$Stick" "gone" "Z", Cond.methodLink RX0 72 yX0_runesInAll, Cond.instanceMethod yX0_runesInAll, Cond.selects RX0 yX0_runesInAll yX0_runesInAll, Cond.code yX0_runesInAll cX0_runesInAll 3 (some .int), Cond.methodLink RX0 79 yX0_runesAtPlace, Cond.instanceMethod yX0_runesAtPlace, Cond.selects RX0 yX0_runesAtPlace yX0_runesAtPlace, Cond.code yX0_runesAtPlace cX0_runesAtPlace 4 (some .int), Cond.methodLink RX0 53 yX0_runeAt, Cond.instanceMethod yX0_runeAt, Cond.selects RX0 yX0_runeAt yX0_runeAt, Cond.code yX0_runeAt cX0_runeAt 3 (some .int), Cond.fieldLink RX0 28 "RuneSticks$Stick" "runes" "[I"]
def wsX0_addedTo_r2 : List Cond := [Cond.methodLink RX0 45 yX0_hasPlace, Cond.instanceMethod yX0_hasPlace, Cond.selects RX0 yX0_hasPlace yX0_hasPlace, Cond.code yX0_hasPlace cX0_hasPlace 3 (some .boolean), Cond.methodLink RX0 76 yX0_gluedJoints, Cond.instanceMethod yX0_gluedJoints, Cond.selects RX0 yX0_gluedJoints yX0_gluedJoints, Cond.code yX0_gluedJoints cX0_gluedJoints 3 (some .int), Cond.methodLink RX0 65 yX0_gluedAt, Cond.instanceMethod yX0_gluedAt, Cond.selects RX0 yX0_gluedAt yX0_gluedAt, Cond.code yX0_gluedAt cX0_gluedAt 2 (some .boolean), Cond.fieldLink RX0 35 "RuneSticks$Stick" "glued" "[Z", Cond.methodLink RX0 49 yX0_hasJoint, Cond.instanceMethod yX0_hasJoint, Cond.selects RX0 yX0_hasJoint yX0_hasJoint, Cond.code yX0_hasJoint cX0_hasJoint 2 (some .boolean), Cond.methodLink RX0 61 yX0_baseAt, Cond.instanceMethod yX0_baseAt, Cond.selects RX0 yX0_baseAt yX0_baseAt, Cond.code yX0_baseAt cX0_baseAt 2 (some .int), Cond.fieldLink RX0 32 "RuneSticks$Stick" "bases" "[I"]
def wsX0_addedTo : List Cond := .code yX0_addedTo cX0_addedTo 7 (some .long) :: ((wsX0_addedTo_r1 ++ wsX0_addedTo_r2) ++ wsX00)
def wsX1_init : List Cond := .code yX1_init cX1_init 1 none :: ([.methodLink RX1 3 objectInit, .instanceMethod objectInit, .code objectInit ⟨#[0xb1]⟩ 1 none, .classLink RX1 9 RX0, .fieldLink RX1 11 "RuneSticks" "sticks" "[LRuneSticks$Stick;", .fieldLink RX1 15 "RuneSticks" "made" "I", .fieldLink RX1 19 "RuneSticks" "breaks" "I"] ++ wsX10)
def wsX1_stickOrNull : List Cond := .code yX1_stickOrNull cX1_stickOrNull 2 (some (.object "RuneSticks$Stick")) :: ([.fieldLink RX1 11 "RuneSticks" "sticks" "[LRuneSticks$Stick;"] ++ wsX10)
def wsX1_thereOrNull : List Cond := .code yX1_thereOrNull cX1_thereOrNull 3 (some (.object "RuneSticks$Stick")) :: ([.fieldLink RX1 126 "RuneSticks$Stick" "gone" "Z", .methodLink RX1 166 yX1_stickOrNull, .instanceMethod yX1_stickOrNull, .selects RX1 yX1_stickOrNull yX1_stickOrNull, .initialized RX1, .code yX1_stickOrNull cX1_stickOrNull 2 (some (.object "RuneSticks$Stick")), .fieldLink RX1 11 "RuneSticks" "sticks" "[LRuneSticks$Stick;"] ++ wsX00 ++ wsX10)
def wsX1_howManyThere : List Cond := .code yX1_howManyThere cX1_howManyThere 3 (some .int) :: ([.fieldLink RX1 15 "RuneSticks" "made" "I", .methodLink RX1 156 yX1_thereOrNull, .instanceMethod yX1_thereOrNull, .selects RX1 yX1_thereOrNull yX1_thereOrNull, .initialized RX1, .code yX1_thereOrNull cX1_thereOrNull 3 (some (.object "RuneSticks$Stick")), .fieldLink RX1 126 "RuneSticks$Stick" "gone" "Z", .methodLink RX1 166 yX1_stickOrNull, .instanceMethod yX1_stickOrNull, .selects RX1 yX1_stickOrNull yX1_stickOrNull, .code yX1_stickOrNull cX1_stickOrNull 2 (some (.object "RuneSticks$Stick")), .fieldLink RX1 11 "RuneSticks" "sticks" "[LRuneSticks$Stick;"] ++ wsX10 ++ wsX00)
def wsX1_needNumbersLeft : List Cond := .code yX1_needNumbersLeft cX1_needNumbersLeft 2 none :: ([.classLink RX1 33 "java/lang/IllegalStateException", .initialized "java/lang/IllegalStateException", .fieldLink RX1 15 "RuneSticks" "made" "I"] ++ wsX10 ++ (vx_atS RX1 37 "java/lang/IllegalStateException" ["java/lang/RuntimeException", "java/lang/Exception"]).filter goodWord)
def wsX1_put : List Cond := .code yX1_put cX1_put 3 (some .int) :: ([.fieldLink RX1 15 "RuneSticks" "made" "I", .fieldLink RX1 11 "RuneSticks" "sticks" "[LRuneSticks$Stick;"] ++ wsX10)
def wsX1_make_r1 : List Cond := [Cond.classLink RX1 22 "java/lang/IllegalArgumentException", Cond.initialized "java/lang/IllegalArgumentException", Cond.classLink RX1 33 "java/lang/IllegalStateException", Cond.initialized "java/lang/IllegalStateException", Cond.classLink RX1 9 RX0, Cond.instantiable RX0 8, Cond.initialized RX0, Cond.methodLink RX1 29 yX1_howManyThere, Cond.instanceMethod yX1_howManyThere, Cond.selects RX1 yX1_howManyThere yX1_howManyThere, Cond.initialized RX1, Cond.code yX1_howManyThere cX1_howManyThere 3 (some .int), Cond.fieldLink RX1 15 "RuneSticks" "made" "I", Cond.methodLink RX1 156 yX1_thereOrNull, Cond.instanceMethod yX1_thereOrNull, Cond.selects RX1 yX1_thereOrNull yX1_thereOrNull, Cond.code yX1_thereOrNull cX1_thereOrNull 3 (some (.object "RuneSticks$Stick")), Cond.fieldLink RX1 126 "RuneSticks$Stick" "gone" "Z", Cond.methodLink RX1 166 yX1_stickOrNull, Cond.instanceMethod yX1_stickOrNull, Cond.selects RX1 yX1_stickOrNull yX1_stickOrNull, Cond.code yX1_stickOrNull cX1_stickOrNull 2 (some (.object "RuneSticks$Stick")), Cond.fieldLink RX1 11 "RuneSticks" "sticks" "[LRuneSticks$Stick;", Cond.methodLink RX1 38 yX1_needNumbersLeft]
def wsX1_make_r2 : List Cond := [Cond.instanceMethod yX1_needNumbersLeft, Cond.selects RX1 yX1_needNumbersLeft yX1_needNumbersLeft, Cond.code yX1_needNumbersLeft cX1_needNumbersLeft 2 none, Cond.methodLink RX1 42 yX0_init, Cond.instanceMethod yX0_init, Cond.code yX0_init cX0_init 2 none, Cond.methodLink RX0 3 objectInit, Cond.instanceMethod objectInit, Cond.code objectInit ⟨#[0xb1]⟩ 1 none, Cond.fieldLink RX0 9 "RuneSticks$Stick" "places" "I", Cond.fieldLink RX0 15 "RuneSticks$Stick" "up" "I", Cond.fieldLink RX0 18 "RuneSticks$Stick" "beginBreak" "I", Cond.fieldLink RX0 21 "RuneSticks$Stick" "endBreak" "I", Cond.fieldLink RX0 24 "RuneSticks$Stick" "gone" "Z", Cond.arrayClass .int, Cond.fieldLink RX0 28 "RuneSticks$Stick" "runes" "[I", Cond.fieldLink RX0 32 "RuneSticks$Stick" "bases" "[I", Cond.arrayClass .boolean, Cond.fieldLink RX0 35 "RuneSticks$Stick" "glued" "[Z", Cond.methodLink RX0 39 yJ7_fill_53178, Cond.static yJ7_fill_53178, Cond.initialized RJ7, Cond.code yJ7_fill_53178 cJ7_fill_53178 4 none, Cond.methodLink RX1 44 yX1_put]
def wsX1_make_r3 : List Cond := [Cond.instanceMethod yX1_put, Cond.selects RX1 yX1_put yX1_put, Cond.code yX1_put cX1_put 3 (some .int)]
def wsX1_make : List Cond := .code yX1_make cX1_make 2 (some .int) :: ((wsX1_make_r1 ++ (wsX1_make_r2 ++ wsX1_make_r3)) ++ wsX00 ++ wsX10 ++ (vx_atS RX1 26 "java/lang/IllegalArgumentException" ["java/lang/RuntimeException", "java/lang/Exception"]).filter goodWord ++ (vx_atS RX1 37 "java/lang/IllegalStateException" ["java/lang/RuntimeException", "java/lang/Exception"]).filter goodWord)
def wsX1_known : List Cond := .code yX1_known cX1_known 3 (some (.object "RuneSticks$Stick")) :: ([.classLink RX1 107 "java/lang/IndexOutOfBoundsException", .initialized "java/lang/IndexOutOfBoundsException", .methodLink RX1 166 yX1_stickOrNull, .instanceMethod yX1_stickOrNull, .selects RX1 yX1_stickOrNull yX1_stickOrNull, .initialized RX1, .code yX1_stickOrNull cX1_stickOrNull 2 (some (.object "RuneSticks$Stick")), .fieldLink RX1 11 "RuneSticks" "sticks" "[LRuneSticks$Stick;"] ++ wsX10 ++ (vx_atS RX1 111 "java/lang/IndexOutOfBoundsException" ["java/lang/RuntimeException", "java/lang/Exception"]).filter goodWord)
def wsX1_needPlace : List Cond := .code yX1_needPlace cX1_needPlace 3 none :: ([.classLink RX1 107 "java/lang/IndexOutOfBoundsException", .initialized "java/lang/IndexOutOfBoundsException", .methodLink RX1 179 yX0_hasPlace, .instanceMethod yX0_hasPlace, .selects RX0 yX0_hasPlace yX0_hasPlace, .initialized RX0, .code yX0_hasPlace cX0_hasPlace 3 (some .boolean), .fieldLink RX0 9 "RuneSticks$Stick" "places" "I"] ++ wsX00 ++ (vx_atS RX1 111 "java/lang/IndexOutOfBoundsException" ["java/lang/RuntimeException", "java/lang/Exception"]).filter goodWord)
def wsX1_needRune : List Cond := .code yX1_needRune cX1_needRune 1 none :: ([.classLink RX1 22 "java/lang/IllegalArgumentException", .initialized "java/lang/IllegalArgumentException"] ++ (vx_atS RX1 26 "java/lang/IllegalArgumentException" ["java/lang/RuntimeException", "java/lang/Exception"]).filter goodWord)
def wsX1_needThere : List Cond := .code yX1_needThere cX1_needThere 1 none :: ([.classLink RX1 33 "java/lang/IllegalStateException", .initialized "java/lang/IllegalStateException", .fieldLink RX1 126 "RuneSticks$Stick" "gone" "Z"] ++ wsX00 ++ (vx_atS RX1 37 "java/lang/IllegalStateException" ["java/lang/RuntimeException", "java/lang/Exception"]).filter goodWord)
def wsX1_carve_r1 : List Cond := [Cond.methodLink RX1 48 yX1_known, Cond.instanceMethod yX1_known, Cond.selects RX1 yX1_known yX1_known, Cond.initialized RX1, Cond.code yX1_known cX1_known 3 (some (.object "RuneSticks$Stick")), Cond.classLink RX1 107 "java/lang/IndexOutOfBoundsException", Cond.initialized "java/lang/IndexOutOfBoundsException", Cond.methodLink RX1 166 yX1_stickOrNull, Cond.instanceMethod yX1_stickOrNull, Cond.selects RX1 yX1_stickOrNull yX1_stickOrNull, Cond.code yX1_stickOrNull cX1_stickOrNull 2 (some (.object "RuneSticks$Stick")), Cond.fieldLink RX1 11 "RuneSticks" "sticks" "[LRuneSticks$Stick;", Cond.methodLink RX1 52 yX1_needPlace, Cond.static yX1_needPlace, Cond.code yX1_needPlace cX1_needPlace 3 none, Cond.methodLink RX1 179 yX0_hasPlace, Cond.instanceMethod yX0_hasPlace, Cond.selects RX0 yX0_hasPlace yX0_hasPlace, Cond.initialized RX0, Cond.code yX0_hasPlace cX0_hasPlace 3 (some .boolean), Cond.fieldLink RX0 9 "RuneSticks$Stick" "places" "I", Cond.methodLink RX1 56 yX1_needRune, Cond.static yX1_needRune, Cond.code yX1_needRune cX1_needRune 1 none]
def wsX1_carve_r2 : List Cond := [Cond.classLink RX1 22 "java/lang/IllegalArgumentException", Cond.initialized "java/lang/IllegalArgumentException", Cond.methodLink RX1 59 yX1_needThere, Cond.static yX1_needThere, Cond.code yX1_needThere cX1_needThere 1 none, Cond.classLink RX1 33 "java/lang/IllegalStateException", Cond.initialized "java/lang/IllegalStateException", Cond.fieldLink RX1 126 "RuneSticks$Stick" "gone" "Z", Cond.methodLink RX1 63 yX0_runeAt, Cond.instanceMethod yX0_runeAt, Cond.selects RX0 yX0_runeAt yX0_runeAt, Cond.code yX0_runeAt cX0_runeAt 3 (some .int), Cond.fieldLink RX0 28 "RuneSticks$Stick" "runes" "[I", Cond.methodLink RX0 45 yX0_hasPlace, Cond.methodLink RX1 67 yX0_putRune, Cond.instanceMethod yX0_putRune, Cond.selects RX0 yX0_putRune yX0_putRune, Cond.code yX0_putRune cX0_putRune 4 none]
def wsX1_carve : List Cond := .code yX1_carve cX1_carve 7 (some .int) :: ((wsX1_carve_r1 ++ wsX1_carve_r2) ++ wsX10 ++ wsX00 ++ (vx_atS RX1 111 "java/lang/IndexOutOfBoundsException" ["java/lang/RuntimeException", "java/lang/Exception"]).filter goodWord ++ (vx_atS RX1 26 "java/lang/IllegalArgumentException" ["java/lang/RuntimeException", "java/lang/Exception"]).filter goodWord ++ (vx_atS RX1 37 "java/lang/IllegalStateException" ["java/lang/RuntimeException", "java/lang/Exception"]).filter goodWord)
def wsX1_scrape_r1 : List Cond := [Cond.classLink RX1 33 "java/lang/IllegalStateException", Cond.initialized "java/lang/IllegalStateException", Cond.methodLink RX1 48 yX1_known, Cond.instanceMethod yX1_known, Cond.selects RX1 yX1_known yX1_known, Cond.initialized RX1, Cond.code yX1_known cX1_known 3 (some (.object "RuneSticks$Stick")), Cond.classLink RX1 107 "java/lang/IndexOutOfBoundsException", Cond.initialized "java/lang/IndexOutOfBoundsException", Cond.methodLink RX1 166 yX1_stickOrNull, Cond.instanceMethod yX1_stickOrNull, Cond.selects RX1 yX1_stickOrNull yX1_stickOrNull, Cond.code yX1_stickOrNull cX1_stickOrNull 2 (some (.object "RuneSticks$Stick")), Cond.fieldLink RX1 11 "RuneSticks" "sticks" "[LRuneSticks$Stick;", Cond.methodLink RX1 52 yX1_needPlace, Cond.static yX1_needPlace, Cond.code yX1_needPlace cX1_needPlace 3 none, Cond.methodLink RX1 179 yX0_hasPlace, Cond.instanceMethod yX0_hasPlace, Cond.selects RX0 yX0_hasPlace yX0_hasPlace, Cond.initialized RX0, Cond.code yX0_hasPlace cX0_hasPlace 3 (some .boolean), Cond.fieldLink RX0 9 "RuneSticks$Stick" "places" "I", Cond.methodLink RX1 59 yX1_needThere]
def wsX1_scrape_r2 : List Cond := [Cond.static yX1_needThere, Cond.code yX1_needThere cX1_needThere 1 none, Cond.fieldLink RX1 126 "RuneSticks$Stick" "gone" "Z", Cond.methodLink RX1 63 yX0_runeAt, Cond.instanceMethod yX0_runeAt, Cond.selects RX0 yX0_runeAt yX0_runeAt, Cond.code yX0_runeAt cX0_runeAt 3 (some .int), Cond.fieldLink RX0 28 "RuneSticks$Stick" "runes" "[I", Cond.methodLink RX0 45 yX0_hasPlace, Cond.methodLink RX1 67 yX0_putRune, Cond.instanceMethod yX0_putRune, Cond.selects RX0 yX0_putRune yX0_putRune, Cond.code yX0_putRune cX0_putRune 4 none]
def wsX1_scrape : List Cond := .code yX1_scrape cX1_scrape 6 (some .int) :: ((wsX1_scrape_r1 ++ wsX1_scrape_r2) ++ wsX10 ++ wsX00 ++ (vx_atS RX1 37 "java/lang/IllegalStateException" ["java/lang/RuntimeException", "java/lang/Exception"]).filter goodWord ++ (vx_atS RX1 111 "java/lang/IndexOutOfBoundsException" ["java/lang/RuntimeException", "java/lang/Exception"]).filter goodWord)
def wsX1_roll : List Cond := .code yX1_roll cX1_roll 4 (some .int) :: ([.classLink RX1 22 "java/lang/IllegalArgumentException", .initialized "java/lang/IllegalArgumentException", .fieldLink RX1 75 "RuneSticks$Stick" "up" "I", .methodLink RX1 48 yX1_known, .instanceMethod yX1_known, .selects RX1 yX1_known yX1_known, .initialized RX1, .code yX1_known cX1_known 3 (some (.object "RuneSticks$Stick")), .classLink RX1 107 "java/lang/IndexOutOfBoundsException", .initialized "java/lang/IndexOutOfBoundsException", .methodLink RX1 166 yX1_stickOrNull, .instanceMethod yX1_stickOrNull, .selects RX1 yX1_stickOrNull yX1_stickOrNull, .code yX1_stickOrNull cX1_stickOrNull 2 (some (.object "RuneSticks$Stick")), .fieldLink RX1 11 "RuneSticks" "sticks" "[LRuneSticks$Stick;", .methodLink RX1 59 yX1_needThere, .static yX1_needThere, .code yX1_needThere cX1_needThere 1 none, .classLink RX1 33 "java/lang/IllegalStateException", .initialized "java/lang/IllegalStateException", .fieldLink RX1 126 "RuneSticks$Stick" "gone" "Z"] ++ wsX00 ++ wsX10 ++ (vx_atS RX1 26 "java/lang/IllegalArgumentException" ["java/lang/RuntimeException", "java/lang/Exception"]).filter goodWord ++ (vx_atS RX1 111 "java/lang/IndexOutOfBoundsException" ["java/lang/RuntimeException", "java/lang/Exception"]).filter goodWord ++ (vx_atS RX1 37 "java/lang/IllegalStateException" ["java/lang/RuntimeException", "java/lang/Exception"]).filter goodWord)
def wsX1_needForce : List Cond := .code yX1_needForce cX1_needForce 1 none :: ([.classLink RX1 22 "java/lang/IllegalArgumentException", .initialized "java/lang/IllegalArgumentException"] ++ (vx_atS RX1 26 "java/lang/IllegalArgumentException" ["java/lang/RuntimeException", "java/lang/Exception"]).filter goodWord)
def wsX1_breakAt_r1 : List Cond := [Cond.classLink RX1 9 RX0, Cond.instantiable RX0 8, Cond.initialized RX0, Cond.fieldLink RX1 75 "RuneSticks$Stick" "up" "I", Cond.fieldLink RX1 195 "RuneSticks$Stick" "beginBreak" "I", Cond.fieldLink RX1 19 "RuneSticks" "breaks" "I", Cond.fieldLink RX1 198 "RuneSticks$Stick" "endBreak" "I", Cond.fieldLink RX1 98 "RuneSticks$Stick" "places" "I", Cond.fieldLink RX1 126 "RuneSticks$Stick" "gone" "Z", Cond.methodLink RX1 42 yX0_init, Cond.instanceMethod yX0_init, Cond.code yX0_init cX0_init 2 none, Cond.methodLink RX0 3 objectInit, Cond.instanceMethod objectInit, Cond.code objectInit ⟨#[0xb1]⟩ 1 none, Cond.fieldLink RX0 9 "RuneSticks$Stick" "places" "I", Cond.fieldLink RX0 15 "RuneSticks$Stick" "up" "I", Cond.fieldLink RX0 18 "RuneSticks$Stick" "beginBreak" "I", Cond.fieldLink RX0 21 "RuneSticks$Stick" "endBreak" "I", Cond.fieldLink RX0 24 "RuneSticks$Stick" "gone" "Z", Cond.arrayClass .int, Cond.fieldLink RX0 28 "RuneSticks$Stick" "runes" "[I", Cond.fieldLink RX0 32 "RuneSticks$Stick" "bases" "[I", Cond.arrayClass .boolean]
def wsX1_breakAt_r2 : List Cond := [Cond.fieldLink RX0 35 "RuneSticks$Stick" "glued" "[Z", Cond.methodLink RX0 39 yJ7_fill_53178, Cond.static yJ7_fill_53178, Cond.initialized RJ7, Cond.code yJ7_fill_53178 cJ7_fill_53178 4 none, Cond.methodLink RX1 191 yX0_takePlaces, Cond.instanceMethod yX0_takePlaces, Cond.selects RX0 yX0_takePlaces yX0_takePlaces, Cond.code yX0_takePlaces cX0_takePlaces 8 none, Cond.methodLink RX0 53 yX0_runeAt, Cond.instanceMethod yX0_runeAt, Cond.selects RX0 yX0_runeAt yX0_runeAt, Cond.code yX0_runeAt cX0_runeAt 3 (some .int), Cond.methodLink RX0 45 yX0_hasPlace, Cond.instanceMethod yX0_hasPlace, Cond.selects RX0 yX0_hasPlace yX0_hasPlace, Cond.code yX0_hasPlace cX0_hasPlace 3 (some .boolean), Cond.methodLink RX0 57 yX0_putRune, Cond.instanceMethod yX0_putRune, Cond.selects RX0 yX0_putRune yX0_putRune, Cond.code yX0_putRune cX0_putRune 4 none, Cond.methodLink RX0 61 yX0_baseAt, Cond.instanceMethod yX0_baseAt, Cond.selects RX0 yX0_baseAt yX0_baseAt]
def wsX1_breakAt_r3 : List Cond := [Cond.code yX0_baseAt cX0_baseAt 2 (some .int), Cond.methodLink RX0 49 yX0_hasJoint, Cond.instanceMethod yX0_hasJoint, Cond.selects RX0 yX0_hasJoint yX0_hasJoint, Cond.code yX0_hasJoint cX0_hasJoint 2 (some .boolean), Cond.methodLink RX0 65 yX0_gluedAt, Cond.instanceMethod yX0_gluedAt, Cond.selects RX0 yX0_gluedAt yX0_gluedAt, Cond.code yX0_gluedAt cX0_gluedAt 2 (some .boolean), Cond.methodLink RX0 68 yX0_putJoint, Cond.instanceMethod yX0_putJoint, Cond.selects RX0 yX0_putJoint yX0_putJoint, Cond.code yX0_putJoint cX0_putJoint 4 none, Cond.methodLink RX1 44 yX1_put, Cond.instanceMethod yX1_put, Cond.selects RX1 yX1_put yX1_put, Cond.initialized RX1, Cond.code yX1_put cX1_put 3 (some .int), Cond.fieldLink RX1 15 "RuneSticks" "made" "I", Cond.fieldLink RX1 11 "RuneSticks" "sticks" "[LRuneSticks$Stick;"]
def wsX1_breakAt : List Cond := .code yX1_breakAt cX1_breakAt 7 (some .int) :: ((wsX1_breakAt_r1 ++ (wsX1_breakAt_r2 ++ wsX1_breakAt_r3)) ++ wsX00 ++ wsX10)
def wsX1_bend_r1 : List Cond := [Cond.classLink RX1 33 "java/lang/IllegalStateException", Cond.initialized "java/lang/IllegalStateException", Cond.methodLink RX1 48 yX1_known, Cond.instanceMethod yX1_known, Cond.selects RX1 yX1_known yX1_known, Cond.initialized RX1, Cond.code yX1_known cX1_known 3 (some (.object "RuneSticks$Stick")), Cond.classLink RX1 107 "java/lang/IndexOutOfBoundsException", Cond.initialized "java/lang/IndexOutOfBoundsException", Cond.methodLink RX1 166 yX1_stickOrNull, Cond.instanceMethod yX1_stickOrNull, Cond.selects RX1 yX1_stickOrNull yX1_stickOrNull, Cond.code yX1_stickOrNull cX1_stickOrNull 2 (some (.object "RuneSticks$Stick")), Cond.fieldLink RX1 11 "RuneSticks" "sticks" "[LRuneSticks$Stick;", Cond.methodLink RX1 78 yX1_needForce, Cond.static yX1_needForce, Cond.code yX1_needForce cX1_needForce 1 none, Cond.classLink RX1 22 "java/lang/IllegalArgumentException", Cond.initialized "java/lang/IllegalArgumentException", Cond.methodLink RX1 59 yX1_needThere, Cond.static yX1_needThere, Cond.code yX1_needThere cX1_needThere 1 none, Cond.fieldLink RX1 126 "RuneSticks$Stick" "gone" "Z", Cond.methodLink RX1 81 yX0_firstWeakestJoint]
def wsX1_bend_r2 : List Cond := [Cond.instanceMethod yX0_firstWeakestJoint, Cond.selects RX0 yX0_firstWeakestJoint yX0_firstWeakestJoint, Cond.initialized RX0, Cond.code yX0_firstWeakestJoint cX0_firstWeakestJoint 3 (some .int), Cond.fieldLink RX0 9 "RuneSticks$Stick" "places" "I", Cond.methodLink RX0 87 yX0_strengthAt, Cond.instanceMethod yX0_strengthAt, Cond.selects RX0 yX0_strengthAt yX0_strengthAt, Cond.code yX0_strengthAt cX0_strengthAt 2 (some .int), Cond.methodLink RX0 82 Lib.Math.max.name, Cond.static Lib.Math.max.name, Cond.initialized "java/lang/Math", Cond.code Lib.Math.max.name Lib.Math.max.code 2 (some .int), Cond.methodLink RX0 61 yX0_baseAt, Cond.instanceMethod yX0_baseAt, Cond.selects RX0 yX0_baseAt yX0_baseAt, Cond.code yX0_baseAt cX0_baseAt 2 (some .int), Cond.fieldLink RX0 32 "RuneSticks$Stick" "bases" "[I", Cond.methodLink RX0 49 yX0_hasJoint, Cond.instanceMethod yX0_hasJoint, Cond.selects RX0 yX0_hasJoint yX0_hasJoint, Cond.code yX0_hasJoint cX0_hasJoint 2 (some .boolean), Cond.methodLink RX0 79 yX0_runesAtPlace, Cond.instanceMethod yX0_runesAtPlace]
def wsX1_bend_r3 : List Cond := [Cond.selects RX0 yX0_runesAtPlace yX0_runesAtPlace, Cond.code yX0_runesAtPlace cX0_runesAtPlace 4 (some .int), Cond.methodLink RX0 53 yX0_runeAt, Cond.instanceMethod yX0_runeAt, Cond.selects RX0 yX0_runeAt yX0_runeAt, Cond.code yX0_runeAt cX0_runeAt 3 (some .int), Cond.fieldLink RX0 28 "RuneSticks$Stick" "runes" "[I", Cond.methodLink RX0 45 yX0_hasPlace, Cond.instanceMethod yX0_hasPlace, Cond.selects RX0 yX0_hasPlace yX0_hasPlace, Cond.code yX0_hasPlace cX0_hasPlace 3 (some .boolean), Cond.methodLink RX1 84 yX0_strengthAt, Cond.methodLink RX1 29 yX1_howManyThere, Cond.instanceMethod yX1_howManyThere, Cond.selects RX1 yX1_howManyThere yX1_howManyThere, Cond.code yX1_howManyThere cX1_howManyThere 3 (some .int), Cond.fieldLink RX1 15 "RuneSticks" "made" "I", Cond.methodLink RX1 156 yX1_thereOrNull, Cond.instanceMethod yX1_thereOrNull, Cond.selects RX1 yX1_thereOrNull yX1_thereOrNull, Cond.code yX1_thereOrNull cX1_thereOrNull 3 (some (.object "RuneSticks$Stick")), Cond.methodLink RX1 38 yX1_needNumbersLeft, Cond.instanceMethod yX1_needNumbersLeft, Cond.selects RX1 yX1_needNumbersLeft yX1_needNumbersLeft]
def wsX1_bend_r4 : List Cond := [Cond.code yX1_needNumbersLeft cX1_needNumbersLeft 2 none, Cond.methodLink RX1 88 yX1_breakAt, Cond.instanceMethod yX1_breakAt, Cond.selects RX1 yX1_breakAt yX1_breakAt, Cond.code yX1_breakAt cX1_breakAt 7 (some .int), Cond.classLink RX1 9 RX0, Cond.instantiable RX0 8, Cond.fieldLink RX1 75 "RuneSticks$Stick" "up" "I", Cond.fieldLink RX1 195 "RuneSticks$Stick" "beginBreak" "I", Cond.fieldLink RX1 19 "RuneSticks" "breaks" "I", Cond.fieldLink RX1 198 "RuneSticks$Stick" "endBreak" "I", Cond.fieldLink RX1 98 "RuneSticks$Stick" "places" "I", Cond.methodLink RX1 42 yX0_init, Cond.instanceMethod yX0_init, Cond.code yX0_init cX0_init 2 none, Cond.methodLink RX0 3 objectInit, Cond.instanceMethod objectInit, Cond.code objectInit ⟨#[0xb1]⟩ 1 none, Cond.fieldLink RX0 15 "RuneSticks$Stick" "up" "I", Cond.fieldLink RX0 18 "RuneSticks$Stick" "beginBreak" "I", Cond.fieldLink RX0 21 "RuneSticks$Stick" "endBreak" "I", Cond.fieldLink RX0 24 "RuneSticks$Stick" "gone" "Z", Cond.arrayClass .int, Cond.arrayClass .boolean]
def wsX1_bend_r5 : List Cond := [Cond.fieldLink RX0 35 "RuneSticks$Stick" "glued" "[Z", Cond.methodLink RX0 39 yJ7_fill_53178, Cond.static yJ7_fill_53178, Cond.initialized RJ7, Cond.code yJ7_fill_53178 cJ7_fill_53178 4 none, Cond.methodLink RX1 191 yX0_takePlaces, Cond.instanceMethod yX0_takePlaces, Cond.selects RX0 yX0_takePlaces yX0_takePlaces, Cond.code yX0_takePlaces cX0_takePlaces 8 none, Cond.methodLink RX0 57 yX0_putRune, Cond.instanceMethod yX0_putRune, Cond.selects RX0 yX0_putRune yX0_putRune, Cond.code yX0_putRune cX0_putRune 4 none, Cond.methodLink RX0 65 yX0_gluedAt, Cond.instanceMethod yX0_gluedAt, Cond.selects RX0 yX0_gluedAt yX0_gluedAt, Cond.code yX0_gluedAt cX0_gluedAt 2 (some .boolean), Cond.methodLink RX0 68 yX0_putJoint, Cond.instanceMethod yX0_putJoint, Cond.selects RX0 yX0_putJoint yX0_putJoint, Cond.code yX0_putJoint cX0_putJoint 4 none, Cond.methodLink RX1 44 yX1_put, Cond.instanceMethod yX1_put, Cond.selects RX1 yX1_put yX1_put]
def wsX1_bend_r6 : List Cond := [Cond.code yX1_put cX1_put 3 (some .int)]
def wsX1_bend : List Cond := .code yX1_bend cX1_bend 5 (some .int) :: ((wsX1_bend_r1 ++ (wsX1_bend_r2 ++ (wsX1_bend_r3 ++ (wsX1_bend_r4 ++ (wsX1_bend_r5 ++ wsX1_bend_r6))))) ++ wsX10 ++ wsX00 ++ (vx_atS RX1 37 "java/lang/IllegalStateException" ["java/lang/RuntimeException", "java/lang/Exception"]).filter goodWord ++ (vx_atS RX1 111 "java/lang/IndexOutOfBoundsException" ["java/lang/RuntimeException", "java/lang/Exception"]).filter goodWord ++ (vx_atS RX1 26 "java/lang/IllegalArgumentException" ["java/lang/RuntimeException", "java/lang/Exception"]).filter goodWord)
def wsX1_joinBoth_r1 : List Cond := [Cond.classLink RX1 9 RX0, Cond.instantiable RX0 8, Cond.initialized RX0, Cond.fieldLink RX1 98 "RuneSticks$Stick" "places" "I", Cond.fieldLink RX1 75 "RuneSticks$Stick" "up" "I", Cond.fieldLink RX1 195 "RuneSticks$Stick" "beginBreak" "I", Cond.fieldLink RX1 198 "RuneSticks$Stick" "endBreak" "I", Cond.fieldLink RX1 126 "RuneSticks$Stick" "gone" "Z", Cond.methodLink RX1 130 yX0_fitsAheadOf, Cond.instanceMethod yX0_fitsAheadOf, Cond.selects RX0 yX0_fitsAheadOf yX0_fitsAheadOf, Cond.code yX0_fitsAheadOf cX0_fitsAheadOf 2 (some .boolean), Cond.fieldLink RX0 21 "RuneSticks$Stick" "endBreak" "I", Cond.fieldLink RX0 18 "RuneSticks$Stick" "beginBreak" "I", Cond.methodLink RX1 42 yX0_init, Cond.instanceMethod yX0_init, Cond.code yX0_init cX0_init 2 none, Cond.methodLink RX0 3 objectInit, Cond.instanceMethod objectInit, Cond.code objectInit ⟨#[0xb1]⟩ 1 none, Cond.fieldLink RX0 9 "RuneSticks$Stick" "places" "I", Cond.fieldLink RX0 15 "RuneSticks$Stick" "up" "I", Cond.fieldLink RX0 24 "RuneSticks$Stick" "gone" "Z", Cond.arrayClass .int]
def wsX1_joinBoth_r2 : List Cond := [Cond.fieldLink RX0 28 "RuneSticks$Stick" "runes" "[I", Cond.fieldLink RX0 32 "RuneSticks$Stick" "bases" "[I", Cond.arrayClass .boolean, Cond.fieldLink RX0 35 "RuneSticks$Stick" "glued" "[Z", Cond.methodLink RX0 39 yJ7_fill_53178, Cond.static yJ7_fill_53178, Cond.initialized RJ7, Cond.code yJ7_fill_53178 cJ7_fill_53178 4 none, Cond.methodLink RX1 191 yX0_takePlaces, Cond.instanceMethod yX0_takePlaces, Cond.selects RX0 yX0_takePlaces yX0_takePlaces, Cond.code yX0_takePlaces cX0_takePlaces 8 none, Cond.methodLink RX0 53 yX0_runeAt, Cond.instanceMethod yX0_runeAt, Cond.selects RX0 yX0_runeAt yX0_runeAt, Cond.code yX0_runeAt cX0_runeAt 3 (some .int), Cond.methodLink RX0 45 yX0_hasPlace, Cond.instanceMethod yX0_hasPlace, Cond.selects RX0 yX0_hasPlace yX0_hasPlace, Cond.code yX0_hasPlace cX0_hasPlace 3 (some .boolean), Cond.methodLink RX0 57 yX0_putRune, Cond.instanceMethod yX0_putRune, Cond.selects RX0 yX0_putRune yX0_putRune, Cond.code yX0_putRune cX0_putRune 4 none]
def wsX1_joinBoth_r3 : List Cond := [Cond.methodLink RX0 61 yX0_baseAt, Cond.instanceMethod yX0_baseAt, Cond.selects RX0 yX0_baseAt yX0_baseAt, Cond.code yX0_baseAt cX0_baseAt 2 (some .int), Cond.methodLink RX0 49 yX0_hasJoint, Cond.instanceMethod yX0_hasJoint, Cond.selects RX0 yX0_hasJoint yX0_hasJoint, Cond.code yX0_hasJoint cX0_hasJoint 2 (some .boolean), Cond.methodLink RX0 65 yX0_gluedAt, Cond.instanceMethod yX0_gluedAt, Cond.selects RX0 yX0_gluedAt yX0_gluedAt, Cond.code yX0_gluedAt cX0_gluedAt 2 (some .boolean), Cond.methodLink RX0 68 yX0_putJoint, Cond.instanceMethod yX0_putJoint, Cond.selects RX0 yX0_putJoint yX0_putJoint, Cond.code yX0_putJoint cX0_putJoint 4 none, Cond.methodLink RX1 201 yX0_putJoint, Cond.methodLink RX1 44 yX1_put, Cond.instanceMethod yX1_put, Cond.selects RX1 yX1_put yX1_put, Cond.initialized RX1, Cond.code yX1_put cX1_put 3 (some .int), Cond.fieldLink RX1 15 "RuneSticks" "made" "I", Cond.fieldLink RX1 11 "RuneSticks" "sticks" "[LRuneSticks$Stick;"]
def wsX1_joinBoth : List Cond := .code yX1_joinBoth cX1_joinBoth 7 (some .int) :: ((wsX1_joinBoth_r1 ++ (wsX1_joinBoth_r2 ++ wsX1_joinBoth_r3)) ++ wsX00 ++ wsX10)
def wsX1_glue_r1 : List Cond := [Cond.classLink RX1 22 "java/lang/IllegalArgumentException", Cond.initialized "java/lang/IllegalArgumentException", Cond.classLink RX1 33 "java/lang/IllegalStateException", Cond.initialized "java/lang/IllegalStateException", Cond.fieldLink RX1 98 "RuneSticks$Stick" "places" "I", Cond.methodLink RX1 48 yX1_known, Cond.instanceMethod yX1_known, Cond.selects RX1 yX1_known yX1_known, Cond.initialized RX1, Cond.code yX1_known cX1_known 3 (some (.object "RuneSticks$Stick")), Cond.classLink RX1 107 "java/lang/IndexOutOfBoundsException", Cond.initialized "java/lang/IndexOutOfBoundsException", Cond.methodLink RX1 166 yX1_stickOrNull, Cond.instanceMethod yX1_stickOrNull, Cond.selects RX1 yX1_stickOrNull yX1_stickOrNull, Cond.code yX1_stickOrNull cX1_stickOrNull 2 (some (.object "RuneSticks$Stick")), Cond.fieldLink RX1 11 "RuneSticks" "sticks" "[LRuneSticks$Stick;", Cond.methodLink RX1 59 yX1_needThere, Cond.static yX1_needThere, Cond.code yX1_needThere cX1_needThere 1 none, Cond.fieldLink RX1 126 "RuneSticks$Stick" "gone" "Z", Cond.methodLink RX1 38 yX1_needNumbersLeft, Cond.instanceMethod yX1_needNumbersLeft, Cond.selects RX1 yX1_needNumbersLeft yX1_needNumbersLeft]
def wsX1_glue_r2 : List Cond := [Cond.code yX1_needNumbersLeft cX1_needNumbersLeft 2 none, Cond.fieldLink RX1 15 "RuneSticks" "made" "I", Cond.methodLink RX1 103 yX1_joinBoth, Cond.instanceMethod yX1_joinBoth, Cond.selects RX1 yX1_joinBoth yX1_joinBoth, Cond.code yX1_joinBoth cX1_joinBoth 7 (some .int), Cond.classLink RX1 9 RX0, Cond.instantiable RX0 8, Cond.initialized RX0, Cond.fieldLink RX1 75 "RuneSticks$Stick" "up" "I", Cond.fieldLink RX1 195 "RuneSticks$Stick" "beginBreak" "I", Cond.fieldLink RX1 198 "RuneSticks$Stick" "endBreak" "I", Cond.methodLink RX1 130 yX0_fitsAheadOf, Cond.instanceMethod yX0_fitsAheadOf, Cond.selects RX0 yX0_fitsAheadOf yX0_fitsAheadOf, Cond.code yX0_fitsAheadOf cX0_fitsAheadOf 2 (some .boolean), Cond.fieldLink RX0 21 "RuneSticks$Stick" "endBreak" "I", Cond.fieldLink RX0 18 "RuneSticks$Stick" "beginBreak" "I", Cond.methodLink RX1 42 yX0_init, Cond.instanceMethod yX0_init, Cond.code yX0_init cX0_init 2 none, Cond.methodLink RX0 3 objectInit, Cond.instanceMethod objectInit, Cond.code objectInit ⟨#[0xb1]⟩ 1 none]
def wsX1_glue_r3 : List Cond := [Cond.fieldLink RX0 9 "RuneSticks$Stick" "places" "I", Cond.fieldLink RX0 15 "RuneSticks$Stick" "up" "I", Cond.fieldLink RX0 24 "RuneSticks$Stick" "gone" "Z", Cond.arrayClass .int, Cond.fieldLink RX0 28 "RuneSticks$Stick" "runes" "[I", Cond.fieldLink RX0 32 "RuneSticks$Stick" "bases" "[I", Cond.arrayClass .boolean, Cond.fieldLink RX0 35 "RuneSticks$Stick" "glued" "[Z", Cond.methodLink RX0 39 yJ7_fill_53178, Cond.static yJ7_fill_53178, Cond.initialized RJ7, Cond.code yJ7_fill_53178 cJ7_fill_53178 4 none, Cond.methodLink RX1 191 yX0_takePlaces, Cond.instanceMethod yX0_takePlaces, Cond.selects RX0 yX0_takePlaces yX0_takePlaces, Cond.code yX0_takePlaces cX0_takePlaces 8 none, Cond.methodLink RX0 53 yX0_runeAt, Cond.instanceMethod yX0_runeAt, Cond.selects RX0 yX0_runeAt yX0_runeAt, Cond.code yX0_runeAt cX0_runeAt 3 (some .int), Cond.methodLink RX0 45 yX0_hasPlace, Cond.instanceMethod yX0_hasPlace, Cond.selects RX0 yX0_hasPlace yX0_hasPlace, Cond.code yX0_hasPlace cX0_hasPlace 3 (some .boolean)]
def wsX1_glue_r4 : List Cond := [Cond.methodLink RX0 57 yX0_putRune, Cond.instanceMethod yX0_putRune, Cond.selects RX0 yX0_putRune yX0_putRune, Cond.code yX0_putRune cX0_putRune 4 none, Cond.methodLink RX0 61 yX0_baseAt, Cond.instanceMethod yX0_baseAt, Cond.selects RX0 yX0_baseAt yX0_baseAt, Cond.code yX0_baseAt cX0_baseAt 2 (some .int), Cond.methodLink RX0 49 yX0_hasJoint, Cond.instanceMethod yX0_hasJoint, Cond.selects RX0 yX0_hasJoint yX0_hasJoint, Cond.code yX0_hasJoint cX0_hasJoint 2 (some .boolean), Cond.methodLink RX0 65 yX0_gluedAt, Cond.instanceMethod yX0_gluedAt, Cond.selects RX0 yX0_gluedAt yX0_gluedAt, Cond.code yX0_gluedAt cX0_gluedAt 2 (some .boolean), Cond.methodLink RX0 68 yX0_putJoint, Cond.instanceMethod yX0_putJoint, Cond.selects RX0 yX0_putJoint yX0_putJoint, Cond.code yX0_putJoint cX0_putJoint 4 none, Cond.methodLink RX1 201 yX0_putJoint, Cond.methodLink RX1 44 yX1_put, Cond.instanceMethod yX1_put, Cond.selects RX1 yX1_put yX1_put]
def wsX1_glue_r5 : List Cond := [Cond.code yX1_put cX1_put 3 (some .int)]
def wsX1_glue : List Cond := .code yX1_glue cX1_glue 7 (some .int) :: ((wsX1_glue_r1 ++ (wsX1_glue_r2 ++ (wsX1_glue_r3 ++ (wsX1_glue_r4 ++ wsX1_glue_r5)))) ++ wsX00 ++ wsX10 ++ (vx_atS RX1 26 "java/lang/IllegalArgumentException" ["java/lang/RuntimeException", "java/lang/Exception"]).filter goodWord ++ (vx_atS RX1 37 "java/lang/IllegalStateException" ["java/lang/RuntimeException", "java/lang/Exception"]).filter goodWord ++ (vx_atS RX1 111 "java/lang/IndexOutOfBoundsException" ["java/lang/RuntimeException", "java/lang/Exception"]).filter goodWord)
def wsX1_stick_r1 : List Cond := [Cond.classLink RX1 107 "java/lang/IndexOutOfBoundsException", Cond.initialized "java/lang/IndexOutOfBoundsException", Cond.methodLink RX1 48 yX1_known, Cond.instanceMethod yX1_known, Cond.selects RX1 yX1_known yX1_known, Cond.initialized RX1, Cond.code yX1_known cX1_known 3 (some (.object "RuneSticks$Stick")), Cond.methodLink RX1 166 yX1_stickOrNull, Cond.instanceMethod yX1_stickOrNull, Cond.selects RX1 yX1_stickOrNull yX1_stickOrNull, Cond.code yX1_stickOrNull cX1_stickOrNull 2 (some (.object "RuneSticks$Stick")), Cond.fieldLink RX1 11 "RuneSticks" "sticks" "[LRuneSticks$Stick;", Cond.methodLink RX1 112 yX0_factAt, Cond.instanceMethod yX0_factAt, Cond.selects RX0 yX0_factAt yX0_factAt, Cond.initialized RX0, Cond.code yX0_factAt cX0_factAt 2 (some .int), Cond.fieldLink RX0 9 "RuneSticks$Stick" "places" "I", Cond.fieldLink RX0 15 "RuneSticks$Stick" "up" "I", Cond.fieldLink RX0 18 "RuneSticks$Stick" "beginBreak" "I", Cond.fieldLink RX0 21 "RuneSticks$Stick" "endBreak" "I", Cond.fieldLink RX0 24 "RuneSticks$Stick" "gone" "Z", Cond.methodLink RX0 72 yX0_runesInAll, Cond.instanceMethod yX0_runesInAll]
def wsX1_stick_r2 : List Cond := [Cond.selects RX0 yX0_runesInAll yX0_runesInAll, Cond.code yX0_runesInAll cX0_runesInAll 3 (some .int), Cond.methodLink RX0 79 yX0_runesAtPlace, Cond.instanceMethod yX0_runesAtPlace, Cond.selects RX0 yX0_runesAtPlace yX0_runesAtPlace, Cond.code yX0_runesAtPlace cX0_runesAtPlace 4 (some .int), Cond.methodLink RX0 53 yX0_runeAt, Cond.instanceMethod yX0_runeAt, Cond.selects RX0 yX0_runeAt yX0_runeAt, Cond.code yX0_runeAt cX0_runeAt 3 (some .int), Cond.fieldLink RX0 28 "RuneSticks$Stick" "runes" "[I", Cond.methodLink RX0 45 yX0_hasPlace, Cond.instanceMethod yX0_hasPlace, Cond.selects RX0 yX0_hasPlace yX0_hasPlace, Cond.code yX0_hasPlace cX0_hasPlace 3 (some .boolean), Cond.methodLink RX0 76 yX0_gluedJoints, Cond.instanceMethod yX0_gluedJoints, Cond.selects RX0 yX0_gluedJoints yX0_gluedJoints, Cond.code yX0_gluedJoints cX0_gluedJoints 3 (some .int), Cond.methodLink RX0 65 yX0_gluedAt, Cond.instanceMethod yX0_gluedAt, Cond.selects RX0 yX0_gluedAt yX0_gluedAt, Cond.code yX0_gluedAt cX0_gluedAt 2 (some .boolean), Cond.fieldLink RX0 35 "RuneSticks$Stick" "glued" "[Z"]
def wsX1_stick_r3 : List Cond := [Cond.methodLink RX0 49 yX0_hasJoint, Cond.instanceMethod yX0_hasJoint, Cond.selects RX0 yX0_hasJoint yX0_hasJoint, Cond.code yX0_hasJoint cX0_hasJoint 2 (some .boolean)]
def wsX1_stick : List Cond := .code yX1_stick cX1_stick 4 (some .int) :: ((wsX1_stick_r1 ++ (wsX1_stick_r2 ++ wsX1_stick_r3)) ++ wsX10 ++ wsX00 ++ (vx_atS RX1 111 "java/lang/IndexOutOfBoundsException" ["java/lang/RuntimeException", "java/lang/Exception"]).filter goodWord)
def wsX1_rune_r1 : List Cond := [Cond.methodLink RX1 48 yX1_known, Cond.instanceMethod yX1_known, Cond.selects RX1 yX1_known yX1_known, Cond.initialized RX1, Cond.code yX1_known cX1_known 3 (some (.object "RuneSticks$Stick")), Cond.classLink RX1 107 "java/lang/IndexOutOfBoundsException", Cond.initialized "java/lang/IndexOutOfBoundsException", Cond.methodLink RX1 166 yX1_stickOrNull, Cond.instanceMethod yX1_stickOrNull, Cond.selects RX1 yX1_stickOrNull yX1_stickOrNull, Cond.code yX1_stickOrNull cX1_stickOrNull 2 (some (.object "RuneSticks$Stick")), Cond.fieldLink RX1 11 "RuneSticks" "sticks" "[LRuneSticks$Stick;", Cond.methodLink RX1 52 yX1_needPlace, Cond.static yX1_needPlace, Cond.code yX1_needPlace cX1_needPlace 3 none, Cond.methodLink RX1 179 yX0_hasPlace, Cond.instanceMethod yX0_hasPlace, Cond.selects RX0 yX0_hasPlace yX0_hasPlace, Cond.initialized RX0, Cond.code yX0_hasPlace cX0_hasPlace 3 (some .boolean), Cond.fieldLink RX0 9 "RuneSticks$Stick" "places" "I", Cond.methodLink RX1 63 yX0_runeAt, Cond.instanceMethod yX0_runeAt, Cond.selects RX0 yX0_runeAt yX0_runeAt]
def wsX1_rune_r2 : List Cond := [Cond.code yX0_runeAt cX0_runeAt 3 (some .int), Cond.fieldLink RX0 28 "RuneSticks$Stick" "runes" "[I", Cond.methodLink RX0 45 yX0_hasPlace]
def wsX1_rune : List Cond := .code yX1_rune cX1_rune 5 (some .int) :: ((wsX1_rune_r1 ++ wsX1_rune_r2) ++ wsX10 ++ wsX00 ++ (vx_atS RX1 111 "java/lang/IndexOutOfBoundsException" ["java/lang/RuntimeException", "java/lang/Exception"]).filter goodWord)
def wsX1_strength_r1 : List Cond := [Cond.classLink RX1 107 "java/lang/IndexOutOfBoundsException", Cond.initialized "java/lang/IndexOutOfBoundsException", Cond.methodLink RX1 48 yX1_known, Cond.instanceMethod yX1_known, Cond.selects RX1 yX1_known yX1_known, Cond.initialized RX1, Cond.code yX1_known cX1_known 3 (some (.object "RuneSticks$Stick")), Cond.methodLink RX1 166 yX1_stickOrNull, Cond.instanceMethod yX1_stickOrNull, Cond.selects RX1 yX1_stickOrNull yX1_stickOrNull, Cond.code yX1_stickOrNull cX1_stickOrNull 2 (some (.object "RuneSticks$Stick")), Cond.fieldLink RX1 11 "RuneSticks" "sticks" "[LRuneSticks$Stick;", Cond.methodLink RX1 115 yX0_hasJoint, Cond.instanceMethod yX0_hasJoint, Cond.selects RX0 yX0_hasJoint yX0_hasJoint, Cond.initialized RX0, Cond.code yX0_hasJoint cX0_hasJoint 2 (some .boolean), Cond.fieldLink RX0 9 "RuneSticks$Stick" "places" "I", Cond.methodLink RX1 84 yX0_strengthAt, Cond.instanceMethod yX0_strengthAt, Cond.selects RX0 yX0_strengthAt yX0_strengthAt, Cond.code yX0_strengthAt cX0_strengthAt 2 (some .int), Cond.methodLink RX0 82 Lib.Math.max.name, Cond.static Lib.Math.max.name]
def wsX1_strength_r2 : List Cond := [Cond.initialized "java/lang/Math", Cond.code Lib.Math.max.name Lib.Math.max.code 2 (some .int), Cond.methodLink RX0 61 yX0_baseAt, Cond.instanceMethod yX0_baseAt, Cond.selects RX0 yX0_baseAt yX0_baseAt, Cond.code yX0_baseAt cX0_baseAt 2 (some .int), Cond.fieldLink RX0 32 "RuneSticks$Stick" "bases" "[I", Cond.methodLink RX0 49 yX0_hasJoint, Cond.methodLink RX0 79 yX0_runesAtPlace, Cond.instanceMethod yX0_runesAtPlace, Cond.selects RX0 yX0_runesAtPlace yX0_runesAtPlace, Cond.code yX0_runesAtPlace cX0_runesAtPlace 4 (some .int), Cond.methodLink RX0 53 yX0_runeAt, Cond.instanceMethod yX0_runeAt, Cond.selects RX0 yX0_runeAt yX0_runeAt, Cond.code yX0_runeAt cX0_runeAt 3 (some .int), Cond.fieldLink RX0 28 "RuneSticks$Stick" "runes" "[I", Cond.methodLink RX0 45 yX0_hasPlace, Cond.instanceMethod yX0_hasPlace, Cond.selects RX0 yX0_hasPlace yX0_hasPlace, Cond.code yX0_hasPlace cX0_hasPlace 3 (some .boolean)]
def wsX1_strength : List Cond := .code yX1_strength cX1_strength 4 (some .int) :: ((wsX1_strength_r1 ++ wsX1_strength_r2) ++ wsX10 ++ wsX00 ++ (vx_atS RX1 111 "java/lang/IndexOutOfBoundsException" ["java/lang/RuntimeException", "java/lang/Exception"]).filter goodWord)
def wsX1_sumThere_r1 : List Cond := [Cond.fieldLink RX1 15 "RuneSticks" "made" "I", Cond.methodLink RX1 156 yX1_thereOrNull, Cond.instanceMethod yX1_thereOrNull, Cond.selects RX1 yX1_thereOrNull yX1_thereOrNull, Cond.initialized RX1, Cond.code yX1_thereOrNull cX1_thereOrNull 3 (some (.object "RuneSticks$Stick")), Cond.fieldLink RX1 126 "RuneSticks$Stick" "gone" "Z", Cond.methodLink RX1 166 yX1_stickOrNull, Cond.instanceMethod yX1_stickOrNull, Cond.selects RX1 yX1_stickOrNull yX1_stickOrNull, Cond.code yX1_stickOrNull cX1_stickOrNull 2 (some (.object "RuneSticks$Stick")), Cond.fieldLink RX1 11 "RuneSticks" "sticks" "[LRuneSticks$Stick;", Cond.methodLink RX1 112 yX0_factAt, Cond.instanceMethod yX0_factAt, Cond.selects RX0 yX0_factAt yX0_factAt, Cond.initialized RX0, Cond.code yX0_factAt cX0_factAt 2 (some .int), Cond.fieldLink RX0 9 "RuneSticks$Stick" "places" "I", Cond.fieldLink RX0 15 "RuneSticks$Stick" "up" "I", Cond.fieldLink RX0 18 "RuneSticks$Stick" "beginBreak" "I", Cond.fieldLink RX0 21 "RuneSticks$Stick" "endBreak" "I", Cond.fieldLink RX0 24 "RuneSticks$Stick" "gone" "Z", Cond.methodLink RX0 72 yX0_runesInAll, Cond.instanceMethod yX0_runesInAll]
def wsX1_sumThere_r2 : List Cond := [Cond.selects RX0 yX0_runesInAll yX0_runesInAll, Cond.code yX0_runesInAll cX0_runesInAll 3 (some .int), Cond.methodLink RX0 79 yX0_runesAtPlace, Cond.instanceMethod yX0_runesAtPlace, Cond.selects RX0 yX0_runesAtPlace yX0_runesAtPlace, Cond.code yX0_runesAtPlace cX0_runesAtPlace 4 (some .int), Cond.methodLink RX0 53 yX0_runeAt, Cond.instanceMethod yX0_runeAt, Cond.selects RX0 yX0_runeAt yX0_runeAt, Cond.code yX0_runeAt cX0_runeAt 3 (some .int), Cond.fieldLink RX0 28 "RuneSticks$Stick" "runes" "[I", Cond.methodLink RX0 45 yX0_hasPlace, Cond.instanceMethod yX0_hasPlace, Cond.selects RX0 yX0_hasPlace yX0_hasPlace, Cond.code yX0_hasPlace cX0_hasPlace 3 (some .boolean), Cond.methodLink RX0 76 yX0_gluedJoints, Cond.instanceMethod yX0_gluedJoints, Cond.selects RX0 yX0_gluedJoints yX0_gluedJoints, Cond.code yX0_gluedJoints cX0_gluedJoints 3 (some .int), Cond.methodLink RX0 65 yX0_gluedAt, Cond.instanceMethod yX0_gluedAt, Cond.selects RX0 yX0_gluedAt yX0_gluedAt, Cond.code yX0_gluedAt cX0_gluedAt 2 (some .boolean), Cond.fieldLink RX0 35 "RuneSticks$Stick" "glued" "[Z"]
def wsX1_sumThere_r3 : List Cond := [Cond.methodLink RX0 49 yX0_hasJoint, Cond.instanceMethod yX0_hasJoint, Cond.selects RX0 yX0_hasJoint yX0_hasJoint, Cond.code yX0_hasJoint cX0_hasJoint 2 (some .boolean)]
def wsX1_sumThere : List Cond := .code yX1_sumThere cX1_sumThere 5 (some .int) :: ((wsX1_sumThere_r1 ++ (wsX1_sumThere_r2 ++ wsX1_sumThere_r3)) ++ wsX10 ++ wsX00)
def wsX1_fittingBehind : List Cond := .code yX1_fittingBehind cX1_fittingBehind 5 (some .int) :: ([.fieldLink RX1 15 "RuneSticks" "made" "I", .methodLink RX1 156 yX1_thereOrNull, .instanceMethod yX1_thereOrNull, .selects RX1 yX1_thereOrNull yX1_thereOrNull, .initialized RX1, .code yX1_thereOrNull cX1_thereOrNull 3 (some (.object "RuneSticks$Stick")), .fieldLink RX1 126 "RuneSticks$Stick" "gone" "Z", .methodLink RX1 166 yX1_stickOrNull, .instanceMethod yX1_stickOrNull, .selects RX1 yX1_stickOrNull yX1_stickOrNull, .code yX1_stickOrNull cX1_stickOrNull 2 (some (.object "RuneSticks$Stick")), .fieldLink RX1 11 "RuneSticks" "sticks" "[LRuneSticks$Stick;", .methodLink RX1 130 yX0_fitsAheadOf, .instanceMethod yX0_fitsAheadOf, .selects RX0 yX0_fitsAheadOf yX0_fitsAheadOf, .initialized RX0, .code yX0_fitsAheadOf cX0_fitsAheadOf 2 (some .boolean), .fieldLink RX0 21 "RuneSticks$Stick" "endBreak" "I", .fieldLink RX0 18 "RuneSticks$Stick" "beginBreak" "I"] ++ wsX10 ++ wsX00)
def wsX1_fittingPairs : List Cond := .code yX1_fittingPairs cX1_fittingPairs 4 (some .int) :: ([.fieldLink RX1 15 "RuneSticks" "made" "I", .methodLink RX1 156 yX1_thereOrNull, .instanceMethod yX1_thereOrNull, .selects RX1 yX1_thereOrNull yX1_thereOrNull, .initialized RX1, .code yX1_thereOrNull cX1_thereOrNull 3 (some (.object "RuneSticks$Stick")), .fieldLink RX1 126 "RuneSticks$Stick" "gone" "Z", .methodLink RX1 166 yX1_stickOrNull, .instanceMethod yX1_stickOrNull, .selects RX1 yX1_stickOrNull yX1_stickOrNull, .code yX1_stickOrNull cX1_stickOrNull 2 (some (.object "RuneSticks$Stick")), .fieldLink RX1 11 "RuneSticks" "sticks" "[LRuneSticks$Stick;", .methodLink RX1 208 yX1_fittingBehind, .instanceMethod yX1_fittingBehind, .selects RX1 yX1_fittingBehind yX1_fittingBehind, .code yX1_fittingBehind cX1_fittingBehind 5 (some .int), .methodLink RX1 130 yX0_fitsAheadOf, .instanceMethod yX0_fitsAheadOf, .selects RX0 yX0_fitsAheadOf yX0_fitsAheadOf, .initialized RX0, .code yX0_fitsAheadOf cX0_fitsAheadOf 2 (some .boolean), .fieldLink RX0 21 "RuneSticks$Stick" "endBreak" "I", .fieldLink RX0 18 "RuneSticks$Stick" "beginBreak" "I"] ++ wsX10 ++ wsX00)
def wsX1_total_r1 : List Cond := [Cond.fieldLink RX1 15 "RuneSticks" "made" "I", Cond.fieldLink RX1 19 "RuneSticks" "breaks" "I", Cond.methodLink RX1 29 yX1_howManyThere, Cond.instanceMethod yX1_howManyThere, Cond.selects RX1 yX1_howManyThere yX1_howManyThere, Cond.initialized RX1, Cond.code yX1_howManyThere cX1_howManyThere 3 (some .int), Cond.methodLink RX1 156 yX1_thereOrNull, Cond.instanceMethod yX1_thereOrNull, Cond.selects RX1 yX1_thereOrNull yX1_thereOrNull, Cond.code yX1_thereOrNull cX1_thereOrNull 3 (some (.object "RuneSticks$Stick")), Cond.fieldLink RX1 126 "RuneSticks$Stick" "gone" "Z", Cond.methodLink RX1 166 yX1_stickOrNull, Cond.instanceMethod yX1_stickOrNull, Cond.selects RX1 yX1_stickOrNull yX1_stickOrNull, Cond.code yX1_stickOrNull cX1_stickOrNull 2 (some (.object "RuneSticks$Stick")), Cond.fieldLink RX1 11 "RuneSticks" "sticks" "[LRuneSticks$Stick;", Cond.methodLink RX1 159 yX1_sumThere, Cond.instanceMethod yX1_sumThere, Cond.selects RX1 yX1_sumThere yX1_sumThere, Cond.code yX1_sumThere cX1_sumThere 5 (some .int), Cond.methodLink RX1 112 yX0_factAt, Cond.instanceMethod yX0_factAt, Cond.selects RX0 yX0_factAt yX0_factAt]
def wsX1_total_r2 : List Cond := [Cond.initialized RX0, Cond.code yX0_factAt cX0_factAt 2 (some .int), Cond.fieldLink RX0 9 "RuneSticks$Stick" "places" "I", Cond.fieldLink RX0 15 "RuneSticks$Stick" "up" "I", Cond.fieldLink RX0 18 "RuneSticks$Stick" "beginBreak" "I", Cond.fieldLink RX0 21 "RuneSticks$Stick" "endBreak" "I", Cond.fieldLink RX0 24 "RuneSticks$Stick" "gone" "Z", Cond.methodLink RX0 72 yX0_runesInAll, Cond.instanceMethod yX0_runesInAll, Cond.selects RX0 yX0_runesInAll yX0_runesInAll, Cond.code yX0_runesInAll cX0_runesInAll 3 (some .int), Cond.methodLink RX0 79 yX0_runesAtPlace, Cond.instanceMethod yX0_runesAtPlace, Cond.selects RX0 yX0_runesAtPlace yX0_runesAtPlace, Cond.code yX0_runesAtPlace cX0_runesAtPlace 4 (some .int), Cond.methodLink RX0 53 yX0_runeAt, Cond.instanceMethod yX0_runeAt, Cond.selects RX0 yX0_runeAt yX0_runeAt, Cond.code yX0_runeAt cX0_runeAt 3 (some .int), Cond.fieldLink RX0 28 "RuneSticks$Stick" "runes" "[I", Cond.methodLink RX0 45 yX0_hasPlace, Cond.instanceMethod yX0_hasPlace, Cond.selects RX0 yX0_hasPlace yX0_hasPlace, Cond.code yX0_hasPlace cX0_hasPlace 3 (some .boolean)]
def wsX1_total_r3 : List Cond := [Cond.methodLink RX0 76 yX0_gluedJoints, Cond.instanceMethod yX0_gluedJoints, Cond.selects RX0 yX0_gluedJoints yX0_gluedJoints, Cond.code yX0_gluedJoints cX0_gluedJoints 3 (some .int), Cond.methodLink RX0 65 yX0_gluedAt, Cond.instanceMethod yX0_gluedAt, Cond.selects RX0 yX0_gluedAt yX0_gluedAt, Cond.code yX0_gluedAt cX0_gluedAt 2 (some .boolean), Cond.fieldLink RX0 35 "RuneSticks$Stick" "glued" "[Z", Cond.methodLink RX0 49 yX0_hasJoint, Cond.instanceMethod yX0_hasJoint, Cond.selects RX0 yX0_hasJoint yX0_hasJoint, Cond.code yX0_hasJoint cX0_hasJoint 2 (some .boolean), Cond.methodLink RX1 205 yX1_fittingPairs, Cond.instanceMethod yX1_fittingPairs, Cond.selects RX1 yX1_fittingPairs yX1_fittingPairs, Cond.code yX1_fittingPairs cX1_fittingPairs 4 (some .int), Cond.methodLink RX1 208 yX1_fittingBehind, Cond.instanceMethod yX1_fittingBehind, Cond.selects RX1 yX1_fittingBehind yX1_fittingBehind, Cond.code yX1_fittingBehind cX1_fittingBehind 5 (some .int), Cond.methodLink RX1 130 yX0_fitsAheadOf, Cond.instanceMethod yX0_fitsAheadOf, Cond.selects RX0 yX0_fitsAheadOf yX0_fitsAheadOf]
def wsX1_total_r4 : List Cond := [Cond.code yX0_fitsAheadOf cX0_fitsAheadOf 2 (some .boolean)]
def wsX1_total : List Cond := .code yX1_total cX1_total 2 (some .int) :: ((wsX1_total_r1 ++ (wsX1_total_r2 ++ (wsX1_total_r3 ++ wsX1_total_r4))) ++ wsX10 ++ wsX00)
def wsX1_count_r1 : List Cond := [Cond.classLink RX1 107 "java/lang/IndexOutOfBoundsException", Cond.initialized "java/lang/IndexOutOfBoundsException", Cond.methodLink RX1 123 yX1_total, Cond.instanceMethod yX1_total, Cond.selects RX1 yX1_total yX1_total, Cond.initialized RX1, Cond.code yX1_total cX1_total 2 (some .int), Cond.fieldLink RX1 15 "RuneSticks" "made" "I", Cond.fieldLink RX1 19 "RuneSticks" "breaks" "I", Cond.methodLink RX1 29 yX1_howManyThere, Cond.instanceMethod yX1_howManyThere, Cond.selects RX1 yX1_howManyThere yX1_howManyThere, Cond.code yX1_howManyThere cX1_howManyThere 3 (some .int), Cond.methodLink RX1 156 yX1_thereOrNull, Cond.instanceMethod yX1_thereOrNull, Cond.selects RX1 yX1_thereOrNull yX1_thereOrNull, Cond.code yX1_thereOrNull cX1_thereOrNull 3 (some (.object "RuneSticks$Stick")), Cond.fieldLink RX1 126 "RuneSticks$Stick" "gone" "Z", Cond.methodLink RX1 166 yX1_stickOrNull, Cond.instanceMethod yX1_stickOrNull, Cond.selects RX1 yX1_stickOrNull yX1_stickOrNull, Cond.code yX1_stickOrNull cX1_stickOrNull 2 (some (.object "RuneSticks$Stick")), Cond.fieldLink RX1 11 "RuneSticks" "sticks" "[LRuneSticks$Stick;", Cond.methodLink RX1 159 yX1_sumThere]
def wsX1_count_r2 : List Cond := [Cond.instanceMethod yX1_sumThere, Cond.selects RX1 yX1_sumThere yX1_sumThere, Cond.code yX1_sumThere cX1_sumThere 5 (some .int), Cond.methodLink RX1 112 yX0_factAt, Cond.instanceMethod yX0_factAt, Cond.selects RX0 yX0_factAt yX0_factAt, Cond.initialized RX0, Cond.code yX0_factAt cX0_factAt 2 (some .int), Cond.fieldLink RX0 9 "RuneSticks$Stick" "places" "I", Cond.fieldLink RX0 15 "RuneSticks$Stick" "up" "I", Cond.fieldLink RX0 18 "RuneSticks$Stick" "beginBreak" "I", Cond.fieldLink RX0 21 "RuneSticks$Stick" "endBreak" "I", Cond.fieldLink RX0 24 "RuneSticks$Stick" "gone" "Z", Cond.methodLink RX0 72 yX0_runesInAll, Cond.instanceMethod yX0_runesInAll, Cond.selects RX0 yX0_runesInAll yX0_runesInAll, Cond.code yX0_runesInAll cX0_runesInAll 3 (some .int), Cond.methodLink RX0 79 yX0_runesAtPlace, Cond.instanceMethod yX0_runesAtPlace, Cond.selects RX0 yX0_runesAtPlace yX0_runesAtPlace, Cond.code yX0_runesAtPlace cX0_runesAtPlace 4 (some .int), Cond.methodLink RX0 53 yX0_runeAt, Cond.instanceMethod yX0_runeAt, Cond.selects RX0 yX0_runeAt yX0_runeAt]
def wsX1_count_r3 : List Cond := [Cond.code yX0_runeAt cX0_runeAt 3 (some .int), Cond.fieldLink RX0 28 "RuneSticks$Stick" "runes" "[I", Cond.methodLink RX0 45 yX0_hasPlace, Cond.instanceMethod yX0_hasPlace, Cond.selects RX0 yX0_hasPlace yX0_hasPlace, Cond.code yX0_hasPlace cX0_hasPlace 3 (some .boolean), Cond.methodLink RX0 76 yX0_gluedJoints, Cond.instanceMethod yX0_gluedJoints, Cond.selects RX0 yX0_gluedJoints yX0_gluedJoints, Cond.code yX0_gluedJoints cX0_gluedJoints 3 (some .int), Cond.methodLink RX0 65 yX0_gluedAt, Cond.instanceMethod yX0_gluedAt, Cond.selects RX0 yX0_gluedAt yX0_gluedAt, Cond.code yX0_gluedAt cX0_gluedAt 2 (some .boolean), Cond.fieldLink RX0 35 "RuneSticks$Stick" "glued" "[Z", Cond.methodLink RX0 49 yX0_hasJoint, Cond.instanceMethod yX0_hasJoint, Cond.selects RX0 yX0_hasJoint yX0_hasJoint, Cond.code yX0_hasJoint cX0_hasJoint 2 (some .boolean), Cond.methodLink RX1 205 yX1_fittingPairs, Cond.instanceMethod yX1_fittingPairs, Cond.selects RX1 yX1_fittingPairs yX1_fittingPairs, Cond.code yX1_fittingPairs cX1_fittingPairs 4 (some .int), Cond.methodLink RX1 208 yX1_fittingBehind]
def wsX1_count_r4 : List Cond := [Cond.instanceMethod yX1_fittingBehind, Cond.selects RX1 yX1_fittingBehind yX1_fittingBehind, Cond.code yX1_fittingBehind cX1_fittingBehind 5 (some .int), Cond.methodLink RX1 130 yX0_fitsAheadOf, Cond.instanceMethod yX0_fitsAheadOf, Cond.selects RX0 yX0_fitsAheadOf yX0_fitsAheadOf, Cond.code yX0_fitsAheadOf cX0_fitsAheadOf 2 (some .boolean)]
def wsX1_count : List Cond := .code yX1_count cX1_count 2 (some .int) :: ((wsX1_count_r1 ++ (wsX1_count_r2 ++ (wsX1_count_r3 ++ wsX1_count_r4))) ++ wsX10 ++ wsX00 ++ (vx_atS RX1 111 "java/lang/IndexOutOfBoundsException" ["java/lang/RuntimeException", "java/lang/Exception"]).filter goodWord)
def wsX1_fits : List Cond := .code yX1_fits cX1_fits 5 (some .boolean) :: ([.fieldLink RX1 126 "RuneSticks$Stick" "gone" "Z", .methodLink RX1 48 yX1_known, .instanceMethod yX1_known, .selects RX1 yX1_known yX1_known, .initialized RX1, .code yX1_known cX1_known 3 (some (.object "RuneSticks$Stick")), .classLink RX1 107 "java/lang/IndexOutOfBoundsException", .initialized "java/lang/IndexOutOfBoundsException", .methodLink RX1 166 yX1_stickOrNull, .instanceMethod yX1_stickOrNull, .selects RX1 yX1_stickOrNull yX1_stickOrNull, .code yX1_stickOrNull cX1_stickOrNull 2 (some (.object "RuneSticks$Stick")), .fieldLink RX1 11 "RuneSticks" "sticks" "[LRuneSticks$Stick;", .methodLink RX1 130 yX0_fitsAheadOf, .instanceMethod yX0_fitsAheadOf, .selects RX0 yX0_fitsAheadOf yX0_fitsAheadOf, .initialized RX0, .code yX0_fitsAheadOf cX0_fitsAheadOf 2 (some .boolean), .fieldLink RX0 21 "RuneSticks$Stick" "endBreak" "I", .fieldLink RX0 18 "RuneSticks$Stick" "beginBreak" "I"] ++ wsX00 ++ wsX10 ++ (vx_atS RX1 111 "java/lang/IndexOutOfBoundsException" ["java/lang/RuntimeException", "java/lang/Exception"]).filter goodWord)
def wsX1_needTurn : List Cond := .code yX1_needTurn cX1_needTurn 1 none :: ([.classLink RX1 22 "java/lang/IllegalArgumentException", .initialized "java/lang/IllegalArgumentException"] ++ (vx_atS RX1 26 "java/lang/IllegalArgumentException" ["java/lang/RuntimeException", "java/lang/Exception"]).filter goodWord)
def wsX1_size_r1 : List Cond := [Cond.fieldLink RX1 75 "RuneSticks$Stick" "up" "I", Cond.methodLink RX1 48 yX1_known, Cond.instanceMethod yX1_known, Cond.selects RX1 yX1_known yX1_known, Cond.initialized RX1, Cond.code yX1_known cX1_known 3 (some (.object "RuneSticks$Stick")), Cond.classLink RX1 107 "java/lang/IndexOutOfBoundsException", Cond.initialized "java/lang/IndexOutOfBoundsException", Cond.methodLink RX1 166 yX1_stickOrNull, Cond.instanceMethod yX1_stickOrNull, Cond.selects RX1 yX1_stickOrNull yX1_stickOrNull, Cond.code yX1_stickOrNull cX1_stickOrNull 2 (some (.object "RuneSticks$Stick")), Cond.fieldLink RX1 11 "RuneSticks" "sticks" "[LRuneSticks$Stick;", Cond.methodLink RX1 134 yX1_needTurn, Cond.static yX1_needTurn, Cond.code yX1_needTurn cX1_needTurn 1 none, Cond.classLink RX1 22 "java/lang/IllegalArgumentException", Cond.initialized "java/lang/IllegalArgumentException", Cond.methodLink RX1 137 yX0_readingLength, Cond.instanceMethod yX0_readingLength, Cond.selects RX0 yX0_readingLength yX0_readingLength, Cond.initialized RX0, Cond.code yX0_readingLength cX0_readingLength 5 (some .int), Cond.fieldLink RX0 9 "RuneSticks$Stick" "places" "I"]
def wsX1_size_r2 : List Cond := [Cond.methodLink RX0 90 yX0_runeRead, Cond.instanceMethod yX0_runeRead, Cond.selects RX0 yX0_runeRead yX0_runeRead, Cond.code yX0_runeRead cX0_runeRead 4 (some .int), Cond.methodLink RX0 45 yX0_hasPlace, Cond.instanceMethod yX0_hasPlace, Cond.selects RX0 yX0_hasPlace yX0_hasPlace, Cond.code yX0_hasPlace cX0_hasPlace 3 (some .boolean), Cond.methodLink RX0 53 yX0_runeAt, Cond.instanceMethod yX0_runeAt, Cond.selects RX0 yX0_runeAt yX0_runeAt, Cond.code yX0_runeAt cX0_runeAt 3 (some .int), Cond.fieldLink RX0 28 "RuneSticks$Stick" "runes" "[I"]
def wsX1_size : List Cond := .code yX1_size cX1_size 4 (some .int) :: ((wsX1_size_r1 ++ wsX1_size_r2) ++ wsX00 ++ wsX10 ++ (vx_atS RX1 111 "java/lang/IndexOutOfBoundsException" ["java/lang/RuntimeException", "java/lang/Exception"]).filter goodWord ++ (vx_atS RX1 26 "java/lang/IllegalArgumentException" ["java/lang/RuntimeException", "java/lang/Exception"]).filter goodWord)
def wsX1_reads_r1 : List Cond := [Cond.classLink RX1 22 "java/lang/IllegalArgumentException", Cond.initialized "java/lang/IllegalArgumentException", Cond.methodLink RX1 48 yX1_known, Cond.instanceMethod yX1_known, Cond.selects RX1 yX1_known yX1_known, Cond.initialized RX1, Cond.code yX1_known cX1_known 3 (some (.object "RuneSticks$Stick")), Cond.classLink RX1 107 "java/lang/IndexOutOfBoundsException", Cond.initialized "java/lang/IndexOutOfBoundsException", Cond.methodLink RX1 166 yX1_stickOrNull, Cond.instanceMethod yX1_stickOrNull, Cond.selects RX1 yX1_stickOrNull yX1_stickOrNull, Cond.code yX1_stickOrNull cX1_stickOrNull 2 (some (.object "RuneSticks$Stick")), Cond.fieldLink RX1 11 "RuneSticks" "sticks" "[LRuneSticks$Stick;", Cond.methodLink RX1 134 yX1_needTurn, Cond.static yX1_needTurn, Cond.code yX1_needTurn cX1_needTurn 1 none, Cond.methodLink RX1 140 yX0_runeOfReadingOrNone, Cond.instanceMethod yX0_runeOfReadingOrNone, Cond.selects RX0 yX0_runeOfReadingOrNone yX0_runeOfReadingOrNone, Cond.initialized RX0, Cond.code yX0_runeOfReadingOrNone cX0_runeOfReadingOrNone 6 (some .int), Cond.fieldLink RX0 9 "RuneSticks$Stick" "places" "I", Cond.fieldLink RX0 15 "RuneSticks$Stick" "up" "I"]
def wsX1_reads_r2 : List Cond := [Cond.methodLink RX0 90 yX0_runeRead, Cond.instanceMethod yX0_runeRead, Cond.selects RX0 yX0_runeRead yX0_runeRead, Cond.code yX0_runeRead cX0_runeRead 4 (some .int), Cond.methodLink RX0 45 yX0_hasPlace, Cond.instanceMethod yX0_hasPlace, Cond.selects RX0 yX0_hasPlace yX0_hasPlace, Cond.code yX0_hasPlace cX0_hasPlace 3 (some .boolean), Cond.methodLink RX0 53 yX0_runeAt, Cond.instanceMethod yX0_runeAt, Cond.selects RX0 yX0_runeAt yX0_runeAt, Cond.code yX0_runeAt cX0_runeAt 3 (some .int), Cond.fieldLink RX0 28 "RuneSticks$Stick" "runes" "[I"]
def wsX1_reads : List Cond := .code yX1_reads cX1_reads 6 (some .int) :: ((wsX1_reads_r1 ++ wsX1_reads_r2) ++ wsX10 ++ wsX00 ++ (vx_atS RX1 26 "java/lang/IllegalArgumentException" ["java/lang/RuntimeException", "java/lang/Exception"]).filter goodWord ++ (vx_atS RX1 111 "java/lang/IndexOutOfBoundsException" ["java/lang/RuntimeException", "java/lang/Exception"]).filter goodWord)
def wsX1_has_r1 : List Cond := [Cond.methodLink RX1 48 yX1_known, Cond.instanceMethod yX1_known, Cond.selects RX1 yX1_known yX1_known, Cond.initialized RX1, Cond.code yX1_known cX1_known 3 (some (.object "RuneSticks$Stick")), Cond.classLink RX1 107 "java/lang/IndexOutOfBoundsException", Cond.initialized "java/lang/IndexOutOfBoundsException", Cond.methodLink RX1 166 yX1_stickOrNull, Cond.instanceMethod yX1_stickOrNull, Cond.selects RX1 yX1_stickOrNull yX1_stickOrNull, Cond.code yX1_stickOrNull cX1_stickOrNull 2 (some (.object "RuneSticks$Stick")), Cond.fieldLink RX1 11 "RuneSticks" "sticks" "[LRuneSticks$Stick;", Cond.methodLink RX1 56 yX1_needRune, Cond.static yX1_needRune, Cond.code yX1_needRune cX1_needRune 1 none, Cond.classLink RX1 22 "java/lang/IllegalArgumentException", Cond.initialized "java/lang/IllegalArgumentException", Cond.methodLink RX1 145 yX0_readsPair, Cond.instanceMethod yX0_readsPair, Cond.selects RX0 yX0_readsPair yX0_readsPair, Cond.initialized RX0, Cond.code yX0_readsPair cX0_readsPair 8 (some .boolean), Cond.fieldLink RX0 9 "RuneSticks$Stick" "places" "I", Cond.methodLink RX0 90 yX0_runeRead]
def wsX1_has_r2 : List Cond := [Cond.instanceMethod yX0_runeRead, Cond.selects RX0 yX0_runeRead yX0_runeRead, Cond.code yX0_runeRead cX0_runeRead 4 (some .int), Cond.methodLink RX0 45 yX0_hasPlace, Cond.instanceMethod yX0_hasPlace, Cond.selects RX0 yX0_hasPlace yX0_hasPlace, Cond.code yX0_hasPlace cX0_hasPlace 3 (some .boolean), Cond.methodLink RX0 53 yX0_runeAt, Cond.instanceMethod yX0_runeAt, Cond.selects RX0 yX0_runeAt yX0_runeAt, Cond.code yX0_runeAt cX0_runeAt 3 (some .int), Cond.fieldLink RX0 28 "RuneSticks$Stick" "runes" "[I"]
def wsX1_has : List Cond := .code yX1_has cX1_has 8 (some .int) :: ((wsX1_has_r1 ++ wsX1_has_r2) ++ wsX10 ++ wsX00 ++ (vx_atS RX1 111 "java/lang/IndexOutOfBoundsException" ["java/lang/RuntimeException", "java/lang/Exception"]).filter goodWord ++ (vx_atS RX1 26 "java/lang/IllegalArgumentException" ["java/lang/RuntimeException", "java/lang/Exception"]).filter goodWord)
def wsX1_pairWorth : List Cond := .code yX1_pairWorth cX1_pairWorth 2 (some .int) :: ([])
def wsX1_rhymeOf_r1 : List Cond := [Cond.fieldLink RX1 98 "RuneSticks$Stick" "places" "I", Cond.fieldLink RX1 75 "RuneSticks$Stick" "up" "I", Cond.methodLink RX1 211 yX0_placeReadUpTo, Cond.instanceMethod yX0_placeReadUpTo, Cond.selects RX0 yX0_placeReadUpTo yX0_placeReadUpTo, Cond.initialized RX0, Cond.code yX0_placeReadUpTo cX0_placeReadUpTo 5 (some .int), Cond.methodLink RX0 90 yX0_runeRead, Cond.instanceMethod yX0_runeRead, Cond.selects RX0 yX0_runeRead yX0_runeRead, Cond.code yX0_runeRead cX0_runeRead 4 (some .int), Cond.methodLink RX0 45 yX0_hasPlace, Cond.instanceMethod yX0_hasPlace, Cond.selects RX0 yX0_hasPlace yX0_hasPlace, Cond.code yX0_hasPlace cX0_hasPlace 3 (some .boolean), Cond.fieldLink RX0 9 "RuneSticks$Stick" "places" "I", Cond.methodLink RX0 53 yX0_runeAt, Cond.instanceMethod yX0_runeAt, Cond.selects RX0 yX0_runeAt yX0_runeAt, Cond.code yX0_runeAt cX0_runeAt 3 (some .int), Cond.fieldLink RX0 28 "RuneSticks$Stick" "runes" "[I", Cond.methodLink RX1 215 yX0_runeRead, Cond.methodLink RX1 218 yX1_pairWorth, Cond.static yX1_pairWorth]
def wsX1_rhymeOf_r2 : List Cond := [Cond.initialized RX1, Cond.code yX1_pairWorth cX1_pairWorth 2 (some .int)]
def wsX1_rhymeOf : List Cond := .code yX1_rhymeOf cX1_rhymeOf 9 (some .int) :: ((wsX1_rhymeOf_r1 ++ wsX1_rhymeOf_r2) ++ wsX00)
def wsX1_rhyme_r1 : List Cond := [Cond.fieldLink RX1 75 "RuneSticks$Stick" "up" "I", Cond.methodLink RX1 48 yX1_known, Cond.instanceMethod yX1_known, Cond.selects RX1 yX1_known yX1_known, Cond.initialized RX1, Cond.code yX1_known cX1_known 3 (some (.object "RuneSticks$Stick")), Cond.classLink RX1 107 "java/lang/IndexOutOfBoundsException", Cond.initialized "java/lang/IndexOutOfBoundsException", Cond.methodLink RX1 166 yX1_stickOrNull, Cond.instanceMethod yX1_stickOrNull, Cond.selects RX1 yX1_stickOrNull yX1_stickOrNull, Cond.code yX1_stickOrNull cX1_stickOrNull 2 (some (.object "RuneSticks$Stick")), Cond.fieldLink RX1 11 "RuneSticks" "sticks" "[LRuneSticks$Stick;", Cond.methodLink RX1 134 yX1_needTurn, Cond.static yX1_needTurn, Cond.code yX1_needTurn cX1_needTurn 1 none, Cond.classLink RX1 22 "java/lang/IllegalArgumentException", Cond.initialized "java/lang/IllegalArgumentException", Cond.methodLink RX1 149 yX1_rhymeOf, Cond.static yX1_rhymeOf, Cond.code yX1_rhymeOf cX1_rhymeOf 9 (some .int), Cond.fieldLink RX1 98 "RuneSticks$Stick" "places" "I", Cond.methodLink RX1 211 yX0_placeReadUpTo, Cond.instanceMethod yX0_placeReadUpTo]
def wsX1_rhyme_r2 : List Cond := [Cond.selects RX0 yX0_placeReadUpTo yX0_placeReadUpTo, Cond.initialized RX0, Cond.code yX0_placeReadUpTo cX0_placeReadUpTo 5 (some .int), Cond.methodLink RX0 90 yX0_runeRead, Cond.instanceMethod yX0_runeRead, Cond.selects RX0 yX0_runeRead yX0_runeRead, Cond.code yX0_runeRead cX0_runeRead 4 (some .int), Cond.methodLink RX0 45 yX0_hasPlace, Cond.instanceMethod yX0_hasPlace, Cond.selects RX0 yX0_hasPlace yX0_hasPlace, Cond.code yX0_hasPlace cX0_hasPlace 3 (some .boolean), Cond.fieldLink RX0 9 "RuneSticks$Stick" "places" "I", Cond.methodLink RX0 53 yX0_runeAt, Cond.instanceMethod yX0_runeAt, Cond.selects RX0 yX0_runeAt yX0_runeAt, Cond.code yX0_runeAt cX0_runeAt 3 (some .int), Cond.fieldLink RX0 28 "RuneSticks$Stick" "runes" "[I", Cond.methodLink RX1 215 yX0_runeRead, Cond.methodLink RX1 218 yX1_pairWorth, Cond.static yX1_pairWorth, Cond.code yX1_pairWorth cX1_pairWorth 2 (some .int)]
def wsX1_rhyme : List Cond := .code yX1_rhyme cX1_rhyme 6 (some .int) :: ((wsX1_rhyme_r1 ++ wsX1_rhyme_r2) ++ wsX00 ++ wsX10 ++ (vx_atS RX1 111 "java/lang/IndexOutOfBoundsException" ["java/lang/RuntimeException", "java/lang/Exception"]).filter goodWord ++ (vx_atS RX1 26 "java/lang/IllegalArgumentException" ["java/lang/RuntimeException", "java/lang/Exception"]).filter goodWord)
def wsX1_best_r1 : List Cond := [Cond.methodLink RX1 48 yX1_known, Cond.instanceMethod yX1_known, Cond.selects RX1 yX1_known yX1_known, Cond.initialized RX1, Cond.code yX1_known cX1_known 3 (some (.object "RuneSticks$Stick")), Cond.classLink RX1 107 "java/lang/IndexOutOfBoundsException", Cond.initialized "java/lang/IndexOutOfBoundsException", Cond.methodLink RX1 166 yX1_stickOrNull, Cond.instanceMethod yX1_stickOrNull, Cond.selects RX1 yX1_stickOrNull yX1_stickOrNull, Cond.code yX1_stickOrNull cX1_stickOrNull 2 (some (.object "RuneSticks$Stick")), Cond.fieldLink RX1 11 "RuneSticks" "sticks" "[LRuneSticks$Stick;", Cond.methodLink RX1 134 yX1_needTurn, Cond.static yX1_needTurn, Cond.code yX1_needTurn cX1_needTurn 1 none, Cond.classLink RX1 22 "java/lang/IllegalArgumentException", Cond.initialized "java/lang/IllegalArgumentException", Cond.methodLink RX1 149 yX1_rhymeOf, Cond.static yX1_rhymeOf, Cond.code yX1_rhymeOf cX1_rhymeOf 9 (some .int), Cond.fieldLink RX1 98 "RuneSticks$Stick" "places" "I", Cond.fieldLink RX1 75 "RuneSticks$Stick" "up" "I", Cond.methodLink RX1 211 yX0_placeReadUpTo, Cond.instanceMethod yX0_placeReadUpTo]
def wsX1_best_r2 : List Cond := [Cond.selects RX0 yX0_placeReadUpTo yX0_placeReadUpTo, Cond.initialized RX0, Cond.code yX0_placeReadUpTo cX0_placeReadUpTo 5 (some .int), Cond.methodLink RX0 90 yX0_runeRead, Cond.instanceMethod yX0_runeRead, Cond.selects RX0 yX0_runeRead yX0_runeRead, Cond.code yX0_runeRead cX0_runeRead 4 (some .int), Cond.methodLink RX0 45 yX0_hasPlace, Cond.instanceMethod yX0_hasPlace, Cond.selects RX0 yX0_hasPlace yX0_hasPlace, Cond.code yX0_hasPlace cX0_hasPlace 3 (some .boolean), Cond.fieldLink RX0 9 "RuneSticks$Stick" "places" "I", Cond.methodLink RX0 53 yX0_runeAt, Cond.instanceMethod yX0_runeAt, Cond.selects RX0 yX0_runeAt yX0_runeAt, Cond.code yX0_runeAt cX0_runeAt 3 (some .int), Cond.fieldLink RX0 28 "RuneSticks$Stick" "runes" "[I", Cond.methodLink RX1 215 yX0_runeRead, Cond.methodLink RX1 218 yX1_pairWorth, Cond.static yX1_pairWorth, Cond.code yX1_pairWorth cX1_pairWorth 2 (some .int)]
def wsX1_best : List Cond := .code yX1_best cX1_best 10 (some .int) :: ((wsX1_best_r1 ++ wsX1_best_r2) ++ wsX10 ++ wsX00 ++ (vx_atS RX1 111 "java/lang/IndexOutOfBoundsException" ["java/lang/RuntimeException", "java/lang/Exception"]).filter goodWord ++ (vx_atS RX1 26 "java/lang/IllegalArgumentException" ["java/lang/RuntimeException", "java/lang/Exception"]).filter goodWord)
def wsX1_pieces_r1 : List Cond := [Cond.methodLink RX1 48 yX1_known, Cond.instanceMethod yX1_known, Cond.selects RX1 yX1_known yX1_known, Cond.initialized RX1, Cond.code yX1_known cX1_known 3 (some (.object "RuneSticks$Stick")), Cond.classLink RX1 107 "java/lang/IndexOutOfBoundsException", Cond.initialized "java/lang/IndexOutOfBoundsException", Cond.methodLink RX1 166 yX1_stickOrNull, Cond.instanceMethod yX1_stickOrNull, Cond.selects RX1 yX1_stickOrNull yX1_stickOrNull, Cond.code yX1_stickOrNull cX1_stickOrNull 2 (some (.object "RuneSticks$Stick")), Cond.fieldLink RX1 11 "RuneSticks" "sticks" "[LRuneSticks$Stick;", Cond.methodLink RX1 78 yX1_needForce, Cond.static yX1_needForce, Cond.code yX1_needForce cX1_needForce 1 none, Cond.classLink RX1 22 "java/lang/IllegalArgumentException", Cond.initialized "java/lang/IllegalArgumentException", Cond.methodLink RX1 153 yX0_jointsWeakerThan, Cond.instanceMethod yX0_jointsWeakerThan, Cond.selects RX0 yX0_jointsWeakerThan yX0_jointsWeakerThan, Cond.initialized RX0, Cond.code yX0_jointsWeakerThan cX0_jointsWeakerThan 4 (some .int), Cond.fieldLink RX0 9 "RuneSticks$Stick" "places" "I", Cond.methodLink RX0 87 yX0_strengthAt]
def wsX1_pieces_r2 : List Cond := [Cond.instanceMethod yX0_strengthAt, Cond.selects RX0 yX0_strengthAt yX0_strengthAt, Cond.code yX0_strengthAt cX0_strengthAt 2 (some .int), Cond.methodLink RX0 82 Lib.Math.max.name, Cond.static Lib.Math.max.name, Cond.initialized "java/lang/Math", Cond.code Lib.Math.max.name Lib.Math.max.code 2 (some .int), Cond.methodLink RX0 61 yX0_baseAt, Cond.instanceMethod yX0_baseAt, Cond.selects RX0 yX0_baseAt yX0_baseAt, Cond.code yX0_baseAt cX0_baseAt 2 (some .int), Cond.fieldLink RX0 32 "RuneSticks$Stick" "bases" "[I", Cond.methodLink RX0 49 yX0_hasJoint, Cond.instanceMethod yX0_hasJoint, Cond.selects RX0 yX0_hasJoint yX0_hasJoint, Cond.code yX0_hasJoint cX0_hasJoint 2 (some .boolean), Cond.methodLink RX0 79 yX0_runesAtPlace, Cond.instanceMethod yX0_runesAtPlace, Cond.selects RX0 yX0_runesAtPlace yX0_runesAtPlace, Cond.code yX0_runesAtPlace cX0_runesAtPlace 4 (some .int), Cond.methodLink RX0 53 yX0_runeAt, Cond.instanceMethod yX0_runeAt, Cond.selects RX0 yX0_runeAt yX0_runeAt, Cond.code yX0_runeAt cX0_runeAt 3 (some .int)]
def wsX1_pieces_r3 : List Cond := [Cond.fieldLink RX0 28 "RuneSticks$Stick" "runes" "[I", Cond.methodLink RX0 45 yX0_hasPlace, Cond.instanceMethod yX0_hasPlace, Cond.selects RX0 yX0_hasPlace yX0_hasPlace, Cond.code yX0_hasPlace cX0_hasPlace 3 (some .boolean)]
def wsX1_pieces : List Cond := .code yX1_pieces cX1_pieces 4 (some .int) :: ((wsX1_pieces_r1 ++ (wsX1_pieces_r2 ++ wsX1_pieces_r3)) ++ wsX10 ++ wsX00 ++ (vx_atS RX1 111 "java/lang/IndexOutOfBoundsException" ["java/lang/RuntimeException", "java/lang/Exception"]).filter goodWord ++ (vx_atS RX1 26 "java/lang/IllegalArgumentException" ["java/lang/RuntimeException", "java/lang/Exception"]).filter goodWord)
def wsX1_row_r1 : List Cond := [Cond.fieldLink RX1 15 "RuneSticks" "made" "I", Cond.fieldLink RX1 75 "RuneSticks$Stick" "up" "I", Cond.methodLink RX1 48 yX1_known, Cond.instanceMethod yX1_known, Cond.selects RX1 yX1_known yX1_known, Cond.initialized RX1, Cond.code yX1_known cX1_known 3 (some (.object "RuneSticks$Stick")), Cond.classLink RX1 107 "java/lang/IndexOutOfBoundsException", Cond.initialized "java/lang/IndexOutOfBoundsException", Cond.methodLink RX1 166 yX1_stickOrNull, Cond.instanceMethod yX1_stickOrNull, Cond.selects RX1 yX1_stickOrNull yX1_stickOrNull, Cond.code yX1_stickOrNull cX1_stickOrNull 2 (some (.object "RuneSticks$Stick")), Cond.fieldLink RX1 11 "RuneSticks" "sticks" "[LRuneSticks$Stick;", Cond.methodLink RX1 134 yX1_needTurn, Cond.static yX1_needTurn, Cond.code yX1_needTurn cX1_needTurn 1 none, Cond.classLink RX1 22 "java/lang/IllegalArgumentException", Cond.initialized "java/lang/IllegalArgumentException", Cond.methodLink RX1 59 yX1_needThere, Cond.static yX1_needThere, Cond.code yX1_needThere cX1_needThere 1 none, Cond.classLink RX1 33 "java/lang/IllegalStateException", Cond.initialized "java/lang/IllegalStateException"]
def wsX1_row_r2 : List Cond := [Cond.fieldLink RX1 126 "RuneSticks$Stick" "gone" "Z", Cond.methodLink RX1 156 yX1_thereOrNull, Cond.instanceMethod yX1_thereOrNull, Cond.selects RX1 yX1_thereOrNull yX1_thereOrNull, Cond.code yX1_thereOrNull cX1_thereOrNull 3 (some (.object "RuneSticks$Stick")), Cond.methodLink RX1 149 yX1_rhymeOf, Cond.static yX1_rhymeOf, Cond.code yX1_rhymeOf cX1_rhymeOf 9 (some .int), Cond.fieldLink RX1 98 "RuneSticks$Stick" "places" "I", Cond.methodLink RX1 211 yX0_placeReadUpTo, Cond.instanceMethod yX0_placeReadUpTo, Cond.selects RX0 yX0_placeReadUpTo yX0_placeReadUpTo, Cond.initialized RX0, Cond.code yX0_placeReadUpTo cX0_placeReadUpTo 5 (some .int), Cond.methodLink RX0 90 yX0_runeRead, Cond.instanceMethod yX0_runeRead, Cond.selects RX0 yX0_runeRead yX0_runeRead, Cond.code yX0_runeRead cX0_runeRead 4 (some .int), Cond.methodLink RX0 45 yX0_hasPlace, Cond.instanceMethod yX0_hasPlace, Cond.selects RX0 yX0_hasPlace yX0_hasPlace, Cond.code yX0_hasPlace cX0_hasPlace 3 (some .boolean), Cond.fieldLink RX0 9 "RuneSticks$Stick" "places" "I", Cond.methodLink RX0 53 yX0_runeAt]
def wsX1_row_r3 : List Cond := [Cond.instanceMethod yX0_runeAt, Cond.selects RX0 yX0_runeAt yX0_runeAt, Cond.code yX0_runeAt cX0_runeAt 3 (some .int), Cond.fieldLink RX0 28 "RuneSticks$Stick" "runes" "[I", Cond.methodLink RX1 215 yX0_runeRead, Cond.methodLink RX1 218 yX1_pairWorth, Cond.static yX1_pairWorth, Cond.code yX1_pairWorth cX1_pairWorth 2 (some .int)]
def wsX1_row : List Cond := .code yX1_row cX1_row 7 (some .int) :: ((wsX1_row_r1 ++ (wsX1_row_r2 ++ wsX1_row_r3)) ++ wsX10 ++ wsX00 ++ (vx_atS RX1 111 "java/lang/IndexOutOfBoundsException" ["java/lang/RuntimeException", "java/lang/Exception"]).filter goodWord ++ (vx_atS RX1 26 "java/lang/IllegalArgumentException" ["java/lang/RuntimeException", "java/lang/Exception"]).filter goodWord ++ (vx_atS RX1 37 "java/lang/IllegalStateException" ["java/lang/RuntimeException", "java/lang/Exception"]).filter goodWord)
def wsX1_mean_r1 : List Cond := [Cond.methodLink RX1 29 yX1_howManyThere, Cond.instanceMethod yX1_howManyThere, Cond.selects RX1 yX1_howManyThere yX1_howManyThere, Cond.initialized RX1, Cond.code yX1_howManyThere cX1_howManyThere 3 (some .int), Cond.fieldLink RX1 15 "RuneSticks" "made" "I", Cond.methodLink RX1 156 yX1_thereOrNull, Cond.instanceMethod yX1_thereOrNull, Cond.selects RX1 yX1_thereOrNull yX1_thereOrNull, Cond.code yX1_thereOrNull cX1_thereOrNull 3 (some (.object "RuneSticks$Stick")), Cond.fieldLink RX1 126 "RuneSticks$Stick" "gone" "Z", Cond.methodLink RX1 166 yX1_stickOrNull, Cond.instanceMethod yX1_stickOrNull, Cond.selects RX1 yX1_stickOrNull yX1_stickOrNull, Cond.code yX1_stickOrNull cX1_stickOrNull 2 (some (.object "RuneSticks$Stick")), Cond.fieldLink RX1 11 "RuneSticks" "sticks" "[LRuneSticks$Stick;", Cond.methodLink RX1 159 yX1_sumThere, Cond.instanceMethod yX1_sumThere, Cond.selects RX1 yX1_sumThere yX1_sumThere, Cond.code yX1_sumThere cX1_sumThere 5 (some .int), Cond.methodLink RX1 112 yX0_factAt, Cond.instanceMethod yX0_factAt, Cond.selects RX0 yX0_factAt yX0_factAt, Cond.initialized RX0]
def wsX1_mean_r2 : List Cond := [Cond.code yX0_factAt cX0_factAt 2 (some .int), Cond.fieldLink RX0 9 "RuneSticks$Stick" "places" "I", Cond.fieldLink RX0 15 "RuneSticks$Stick" "up" "I", Cond.fieldLink RX0 18 "RuneSticks$Stick" "beginBreak" "I", Cond.fieldLink RX0 21 "RuneSticks$Stick" "endBreak" "I", Cond.fieldLink RX0 24 "RuneSticks$Stick" "gone" "Z", Cond.methodLink RX0 72 yX0_runesInAll, Cond.instanceMethod yX0_runesInAll, Cond.selects RX0 yX0_runesInAll yX0_runesInAll, Cond.code yX0_runesInAll cX0_runesInAll 3 (some .int), Cond.methodLink RX0 79 yX0_runesAtPlace, Cond.instanceMethod yX0_runesAtPlace, Cond.selects RX0 yX0_runesAtPlace yX0_runesAtPlace, Cond.code yX0_runesAtPlace cX0_runesAtPlace 4 (some .int), Cond.methodLink RX0 53 yX0_runeAt, Cond.instanceMethod yX0_runeAt, Cond.selects RX0 yX0_runeAt yX0_runeAt, Cond.code yX0_runeAt cX0_runeAt 3 (some .int), Cond.fieldLink RX0 28 "RuneSticks$Stick" "runes" "[I", Cond.methodLink RX0 45 yX0_hasPlace, Cond.instanceMethod yX0_hasPlace, Cond.selects RX0 yX0_hasPlace yX0_hasPlace, Cond.code yX0_hasPlace cX0_hasPlace 3 (some .boolean), Cond.methodLink RX0 76 yX0_gluedJoints]
def wsX1_mean_r3 : List Cond := [Cond.instanceMethod yX0_gluedJoints, Cond.selects RX0 yX0_gluedJoints yX0_gluedJoints, Cond.code yX0_gluedJoints cX0_gluedJoints 3 (some .int), Cond.methodLink RX0 65 yX0_gluedAt, Cond.instanceMethod yX0_gluedAt, Cond.selects RX0 yX0_gluedAt yX0_gluedAt, Cond.code yX0_gluedAt cX0_gluedAt 2 (some .boolean), Cond.fieldLink RX0 35 "RuneSticks$Stick" "glued" "[Z", Cond.methodLink RX0 49 yX0_hasJoint, Cond.instanceMethod yX0_hasJoint, Cond.selects RX0 yX0_hasJoint yX0_hasJoint, Cond.code yX0_hasJoint cX0_hasJoint 2 (some .boolean)]
def wsX1_mean : List Cond := .code yX1_mean cX1_mean 2 (some .double) :: ((wsX1_mean_r1 ++ (wsX1_mean_r2 ++ wsX1_mean_r3)) ++ wsX10 ++ wsX00)
def wsX1_digest_r1 : List Cond := [Cond.constantLong RX1 162 (1019), Cond.constantLong RX1 164 (31), Cond.fieldLink RX1 15 "RuneSticks" "made" "I", Cond.methodLink RX1 123 yX1_total, Cond.instanceMethod yX1_total, Cond.selects RX1 yX1_total yX1_total, Cond.initialized RX1, Cond.code yX1_total cX1_total 2 (some .int), Cond.fieldLink RX1 19 "RuneSticks" "breaks" "I", Cond.methodLink RX1 29 yX1_howManyThere, Cond.instanceMethod yX1_howManyThere, Cond.selects RX1 yX1_howManyThere yX1_howManyThere, Cond.code yX1_howManyThere cX1_howManyThere 3 (some .int), Cond.methodLink RX1 156 yX1_thereOrNull, Cond.instanceMethod yX1_thereOrNull, Cond.selects RX1 yX1_thereOrNull yX1_thereOrNull, Cond.code yX1_thereOrNull cX1_thereOrNull 3 (some (.object "RuneSticks$Stick")), Cond.fieldLink RX1 126 "RuneSticks$Stick" "gone" "Z", Cond.methodLink RX1 166 yX1_stickOrNull, Cond.instanceMethod yX1_stickOrNull, Cond.selects RX1 yX1_stickOrNull yX1_stickOrNull, Cond.code yX1_stickOrNull cX1_stickOrNull 2 (some (.object "RuneSticks$Stick")), Cond.fieldLink RX1 11 "RuneSticks" "sticks" "[LRuneSticks$Stick;", Cond.methodLink RX1 159 yX1_sumThere]
def wsX1_digest_r2 : List Cond := [Cond.instanceMethod yX1_sumThere, Cond.selects RX1 yX1_sumThere yX1_sumThere, Cond.code yX1_sumThere cX1_sumThere 5 (some .int), Cond.methodLink RX1 112 yX0_factAt, Cond.instanceMethod yX0_factAt, Cond.selects RX0 yX0_factAt yX0_factAt, Cond.initialized RX0, Cond.code yX0_factAt cX0_factAt 2 (some .int), Cond.fieldLink RX0 9 "RuneSticks$Stick" "places" "I", Cond.fieldLink RX0 15 "RuneSticks$Stick" "up" "I", Cond.fieldLink RX0 18 "RuneSticks$Stick" "beginBreak" "I", Cond.fieldLink RX0 21 "RuneSticks$Stick" "endBreak" "I", Cond.fieldLink RX0 24 "RuneSticks$Stick" "gone" "Z", Cond.methodLink RX0 72 yX0_runesInAll, Cond.instanceMethod yX0_runesInAll, Cond.selects RX0 yX0_runesInAll yX0_runesInAll, Cond.code yX0_runesInAll cX0_runesInAll 3 (some .int), Cond.methodLink RX0 79 yX0_runesAtPlace, Cond.instanceMethod yX0_runesAtPlace, Cond.selects RX0 yX0_runesAtPlace yX0_runesAtPlace, Cond.code yX0_runesAtPlace cX0_runesAtPlace 4 (some .int), Cond.methodLink RX0 53 yX0_runeAt, Cond.instanceMethod yX0_runeAt, Cond.selects RX0 yX0_runeAt yX0_runeAt]
def wsX1_digest_r3 : List Cond := [Cond.code yX0_runeAt cX0_runeAt 3 (some .int), Cond.fieldLink RX0 28 "RuneSticks$Stick" "runes" "[I", Cond.methodLink RX0 45 yX0_hasPlace, Cond.instanceMethod yX0_hasPlace, Cond.selects RX0 yX0_hasPlace yX0_hasPlace, Cond.code yX0_hasPlace cX0_hasPlace 3 (some .boolean), Cond.methodLink RX0 76 yX0_gluedJoints, Cond.instanceMethod yX0_gluedJoints, Cond.selects RX0 yX0_gluedJoints yX0_gluedJoints, Cond.code yX0_gluedJoints cX0_gluedJoints 3 (some .int), Cond.methodLink RX0 65 yX0_gluedAt, Cond.instanceMethod yX0_gluedAt, Cond.selects RX0 yX0_gluedAt yX0_gluedAt, Cond.code yX0_gluedAt cX0_gluedAt 2 (some .boolean), Cond.fieldLink RX0 35 "RuneSticks$Stick" "glued" "[Z", Cond.methodLink RX0 49 yX0_hasJoint, Cond.instanceMethod yX0_hasJoint, Cond.selects RX0 yX0_hasJoint yX0_hasJoint, Cond.code yX0_hasJoint cX0_hasJoint 2 (some .boolean), Cond.methodLink RX1 205 yX1_fittingPairs, Cond.instanceMethod yX1_fittingPairs, Cond.selects RX1 yX1_fittingPairs yX1_fittingPairs, Cond.code yX1_fittingPairs cX1_fittingPairs 4 (some .int), Cond.methodLink RX1 208 yX1_fittingBehind]
def wsX1_digest_r4 : List Cond := [Cond.instanceMethod yX1_fittingBehind, Cond.selects RX1 yX1_fittingBehind yX1_fittingBehind, Cond.code yX1_fittingBehind cX1_fittingBehind 5 (some .int), Cond.methodLink RX1 130 yX0_fitsAheadOf, Cond.instanceMethod yX0_fitsAheadOf, Cond.selects RX0 yX0_fitsAheadOf yX0_fitsAheadOf, Cond.code yX0_fitsAheadOf cX0_fitsAheadOf 2 (some .boolean), Cond.methodLink RX1 169 yX0_addedTo, Cond.instanceMethod yX0_addedTo, Cond.selects RX0 yX0_addedTo yX0_addedTo, Cond.code yX0_addedTo cX0_addedTo 7 (some .long), Cond.constantLong RX0 94 (31), Cond.methodLink RX0 96 yX0_factAt, Cond.methodLink RX0 61 yX0_baseAt, Cond.instanceMethod yX0_baseAt, Cond.selects RX0 yX0_baseAt yX0_baseAt, Cond.code yX0_baseAt cX0_baseAt 2 (some .int), Cond.fieldLink RX0 32 "RuneSticks$Stick" "bases" "[I"]
def wsX1_digest : List Cond := .code yX1_digest cX1_digest 5 (some .long) :: ((wsX1_digest_r1 ++ (wsX1_digest_r2 ++ (wsX1_digest_r3 ++ wsX1_digest_r4))) ++ wsX10 ++ wsX00)
def wsX2_init : List Cond := .code yX2_init cX2_init 1 none :: ([.methodLink RX2 1 objectInit, .instanceMethod objectInit, .code objectInit ⟨#[0xb1]⟩ 1 none, .arrayClass .int, .fieldLink RX2 9 "RuneSticksModel" "places" "[I", .fieldLink RX2 13 "RuneSticksModel" "up" "[I", .fieldLink RX2 16 "RuneSticksModel" "isGone" "[I", .fieldLink RX2 19 "RuneSticksModel" "begin" "[I", .fieldLink RX2 22 "RuneSticksModel" "end" "[I", .fieldLink RX2 25 "RuneSticksModel" "runes" "[I", .fieldLink RX2 28 "RuneSticksModel" "base" "[I", .fieldLink RX2 31 "RuneSticksModel" "isGlued" "[I", .fieldLink RX2 34 "RuneSticksModel" "one" "[I", .fieldLink RX2 37 "RuneSticksModel" "two" "[I"] ++ wsX20)
def wsX2_thrown : List Cond := .code yX2_thrown cX2_thrown 1 (some .int) :: ([.fieldLink RX2 40 "RuneSticksModel" "thrown" "I"] ++ wsX20)
def wsX2_no : List Cond := .code yX2_no cX2_no 2 (some .int) :: ([.fieldLink RX2 40 "RuneSticksModel" "thrown" "I"] ++ wsX20)
def wsX2_isIn : List Cond := .code yX2_isIn cX2_isIn 3 (some .boolean) :: ([])
def wsX2_isStick : List Cond := .code yX2_isStick cX2_isStick 2 (some .boolean) :: ([.fieldLink RX2 44 "RuneSticksModel" "sticks" "I", .methodLink RX2 47 yX2_isIn, .static yX2_isIn, .initialized RX2, .code yX2_isIn cX2_isIn 3 (some .boolean)] ++ wsX20)
def wsX2_isSide : List Cond := .code yX2_isSide cX2_isSide 1 (some .boolean) :: ([.methodLink RX2 47 yX2_isIn, .static yX2_isIn, .initialized RX2, .code yX2_isIn cX2_isIn 3 (some .boolean)])
def wsX2_isRune : List Cond := .code yX2_isRune cX2_isRune 1 (some .boolean) :: ([.methodLink RX2 47 yX2_isIn, .static yX2_isIn, .initialized RX2, .code yX2_isIn cX2_isIn 3 (some .boolean)])
def wsX2_spot : List Cond := .code yX2_spot cX2_spot 3 (some .int) :: ([])
def wsX2_isSpot : List Cond := .code yX2_isSpot cX2_isSpot 4 (some .boolean) :: ([.fieldLink RX2 9 "RuneSticksModel" "places" "[I", .methodLink RX2 51 yX2_isStick, .instanceMethod yX2_isStick, .selects RX2 yX2_isStick yX2_isStick, .initialized RX2, .code yX2_isStick cX2_isStick 2 (some .boolean), .fieldLink RX2 44 "RuneSticksModel" "sticks" "I", .methodLink RX2 47 yX2_isIn, .static yX2_isIn, .code yX2_isIn cX2_isIn 3 (some .boolean), .methodLink RX2 55 yX2_isSide, .static yX2_isSide, .code yX2_isSide cX2_isSide 1 (some .boolean)] ++ wsX20)
def wsX2_there : List Cond := .code yX2_there cX2_there 3 (some .int) :: ([.fieldLink RX2 44 "RuneSticksModel" "sticks" "I", .fieldLink RX2 16 "RuneSticksModel" "isGone" "[I"] ++ wsX20)
def wsX2_add : List Cond := .code yX2_add cX2_add 6 (some .int) :: ([.fieldLink RX2 9 "RuneSticksModel" "places" "[I", .fieldLink RX2 44 "RuneSticksModel" "sticks" "I", .fieldLink RX2 13 "RuneSticksModel" "up" "[I", .fieldLink RX2 19 "RuneSticksModel" "begin" "[I", .fieldLink RX2 22 "RuneSticksModel" "end" "[I", .fieldLink RX2 28 "RuneSticksModel" "base" "[I", .fieldLink RX2 31 "RuneSticksModel" "isGlued" "[I"] ++ wsX20)
def wsX2_make_r1 : List Cond := [Cond.fieldLink RX2 40 "RuneSticksModel" "thrown" "I", Cond.fieldLink RX2 44 "RuneSticksModel" "sticks" "I", Cond.methodLink RX2 47 yX2_isIn, Cond.static yX2_isIn, Cond.initialized RX2, Cond.code yX2_isIn cX2_isIn 3 (some .boolean), Cond.methodLink RX2 58 yX2_no, Cond.instanceMethod yX2_no, Cond.selects RX2 yX2_no yX2_no, Cond.code yX2_no cX2_no 2 (some .int), Cond.methodLink RX2 62 yX2_there, Cond.instanceMethod yX2_there, Cond.selects RX2 yX2_there yX2_there, Cond.code yX2_there cX2_there 3 (some .int), Cond.fieldLink RX2 16 "RuneSticksModel" "isGone" "[I", Cond.methodLink RX2 66 yX2_add, Cond.instanceMethod yX2_add, Cond.selects RX2 yX2_add yX2_add, Cond.code yX2_add cX2_add 6 (some .int), Cond.fieldLink RX2 9 "RuneSticksModel" "places" "[I", Cond.fieldLink RX2 13 "RuneSticksModel" "up" "[I", Cond.fieldLink RX2 19 "RuneSticksModel" "begin" "[I", Cond.fieldLink RX2 22 "RuneSticksModel" "end" "[I", Cond.fieldLink RX2 28 "RuneSticksModel" "base" "[I"]
def wsX2_make_r2 : List Cond := [Cond.fieldLink RX2 31 "RuneSticksModel" "isGlued" "[I"]
def wsX2_make : List Cond := .code yX2_make cX2_make 2 (some .int) :: ((wsX2_make_r1 ++ wsX2_make_r2) ++ wsX20)
def wsX2_carve_r1 : List Cond := [Cond.fieldLink RX2 40 "RuneSticksModel" "thrown" "I", Cond.fieldLink RX2 16 "RuneSticksModel" "isGone" "[I", Cond.fieldLink RX2 25 "RuneSticksModel" "runes" "[I", Cond.methodLink RX2 70 yX2_isSpot, Cond.instanceMethod yX2_isSpot, Cond.selects RX2 yX2_isSpot yX2_isSpot, Cond.initialized RX2, Cond.code yX2_isSpot cX2_isSpot 4 (some .boolean), Cond.fieldLink RX2 9 "RuneSticksModel" "places" "[I", Cond.methodLink RX2 51 yX2_isStick, Cond.instanceMethod yX2_isStick, Cond.selects RX2 yX2_isStick yX2_isStick, Cond.code yX2_isStick cX2_isStick 2 (some .boolean), Cond.fieldLink RX2 44 "RuneSticksModel" "sticks" "I", Cond.methodLink RX2 47 yX2_isIn, Cond.static yX2_isIn, Cond.code yX2_isIn cX2_isIn 3 (some .boolean), Cond.methodLink RX2 55 yX2_isSide, Cond.static yX2_isSide, Cond.code yX2_isSide cX2_isSide 1 (some .boolean), Cond.methodLink RX2 58 yX2_no, Cond.instanceMethod yX2_no, Cond.selects RX2 yX2_no yX2_no, Cond.code yX2_no cX2_no 2 (some .int)]
def wsX2_carve_r2 : List Cond := [Cond.methodLink RX2 73 yX2_isRune, Cond.static yX2_isRune, Cond.code yX2_isRune cX2_isRune 1 (some .boolean), Cond.methodLink RX2 76 yX2_spot, Cond.static yX2_spot, Cond.code yX2_spot cX2_spot 3 (some .int)]
def wsX2_carve : List Cond := .code yX2_carve cX2_carve 7 (some .int) :: ((wsX2_carve_r1 ++ wsX2_carve_r2) ++ wsX20)
def wsX2_scrape_r1 : List Cond := [Cond.fieldLink RX2 40 "RuneSticksModel" "thrown" "I", Cond.fieldLink RX2 16 "RuneSticksModel" "isGone" "[I", Cond.fieldLink RX2 25 "RuneSticksModel" "runes" "[I", Cond.methodLink RX2 70 yX2_isSpot, Cond.instanceMethod yX2_isSpot, Cond.selects RX2 yX2_isSpot yX2_isSpot, Cond.initialized RX2, Cond.code yX2_isSpot cX2_isSpot 4 (some .boolean), Cond.fieldLink RX2 9 "RuneSticksModel" "places" "[I", Cond.methodLink RX2 51 yX2_isStick, Cond.instanceMethod yX2_isStick, Cond.selects RX2 yX2_isStick yX2_isStick, Cond.code yX2_isStick cX2_isStick 2 (some .boolean), Cond.fieldLink RX2 44 "RuneSticksModel" "sticks" "I", Cond.methodLink RX2 47 yX2_isIn, Cond.static yX2_isIn, Cond.code yX2_isIn cX2_isIn 3 (some .boolean), Cond.methodLink RX2 55 yX2_isSide, Cond.static yX2_isSide, Cond.code yX2_isSide cX2_isSide 1 (some .boolean), Cond.methodLink RX2 58 yX2_no, Cond.instanceMethod yX2_no, Cond.selects RX2 yX2_no yX2_no, Cond.code yX2_no cX2_no 2 (some .int)]
def wsX2_scrape_r2 : List Cond := [Cond.methodLink RX2 76 yX2_spot, Cond.static yX2_spot, Cond.code yX2_spot cX2_spot 3 (some .int)]
def wsX2_scrape : List Cond := .code yX2_scrape cX2_scrape 6 (some .int) :: ((wsX2_scrape_r1 ++ wsX2_scrape_r2) ++ wsX20)
def wsX2_roll : List Cond := .code yX2_roll cX2_roll 3 (some .int) :: ([.fieldLink RX2 40 "RuneSticksModel" "thrown" "I", .fieldLink RX2 16 "RuneSticksModel" "isGone" "[I", .fieldLink RX2 13 "RuneSticksModel" "up" "[I", .methodLink RX2 51 yX2_isStick, .instanceMethod yX2_isStick, .selects RX2 yX2_isStick yX2_isStick, .initialized RX2, .code yX2_isStick cX2_isStick 2 (some .boolean), .fieldLink RX2 44 "RuneSticksModel" "sticks" "I", .methodLink RX2 47 yX2_isIn, .static yX2_isIn, .code yX2_isIn cX2_isIn 3 (some .boolean), .methodLink RX2 58 yX2_no, .instanceMethod yX2_no, .selects RX2 yX2_no yX2_no, .code yX2_no cX2_no 2 (some .int)] ++ wsX20)
def wsX2_runesAt : List Cond := .code yX2_runesAt cX2_runesAt 5 (some .int) :: ([.fieldLink RX2 25 "RuneSticksModel" "runes" "[I", .methodLink RX2 76 yX2_spot, .static yX2_spot, .initialized RX2, .code yX2_spot cX2_spot 3 (some .int)] ++ wsX20)
def wsX2_strong : List Cond := .code yX2_strong cX2_strong 3 (some .int) :: ([.fieldLink RX2 28 "RuneSticksModel" "base" "[I", .methodLink RX2 84 Lib.Math.max.name, .static Lib.Math.max.name, .initialized "java/lang/Math", .code Lib.Math.max.name Lib.Math.max.code 2 (some .int), .methodLink RX2 80 yX2_runesAt, .instanceMethod yX2_runesAt, .selects RX2 yX2_runesAt yX2_runesAt, .initialized RX2, .code yX2_runesAt cX2_runesAt 5 (some .int), .fieldLink RX2 25 "RuneSticksModel" "runes" "[I", .methodLink RX2 76 yX2_spot, .static yX2_spot, .code yX2_spot cX2_spot 3 (some .int)] ++ wsX20)
def wsX2_weakest : List Cond := .code yX2_weakest cX2_weakest 4 (some .int) :: ([.fieldLink RX2 9 "RuneSticksModel" "places" "[I", .methodLink RX2 89 yX2_strong, .instanceMethod yX2_strong, .selects RX2 yX2_strong yX2_strong, .initialized RX2, .code yX2_strong cX2_strong 3 (some .int), .fieldLink RX2 28 "RuneSticksModel" "base" "[I", .methodLink RX2 84 Lib.Math.max.name, .static Lib.Math.max.name, .initialized "java/lang/Math", .code Lib.Math.max.name Lib.Math.max.code 2 (some .int), .methodLink RX2 80 yX2_runesAt, .instanceMethod yX2_runesAt, .selects RX2 yX2_runesAt yX2_runesAt, .code yX2_runesAt cX2_runesAt 5 (some .int), .fieldLink RX2 25 "RuneSticksModel" "runes" "[I", .methodLink RX2 76 yX2_spot, .static yX2_spot, .code yX2_spot cX2_spot 3 (some .int)] ++ wsX20)
def wsX2_lay : List Cond := .code yX2_lay cX2_lay 9 none :: ([.fieldLink RX2 25 "RuneSticksModel" "runes" "[I", .fieldLink RX2 28 "RuneSticksModel" "base" "[I", .fieldLink RX2 31 "RuneSticksModel" "isGlued" "[I", .methodLink RX2 76 yX2_spot, .static yX2_spot, .initialized RX2, .code yX2_spot cX2_spot 3 (some .int)] ++ wsX20)
def wsX2_bend_r1 : List Cond := [Cond.fieldLink RX2 40 "RuneSticksModel" "thrown" "I", Cond.fieldLink RX2 16 "RuneSticksModel" "isGone" "[I", Cond.fieldLink RX2 44 "RuneSticksModel" "sticks" "I", Cond.fieldLink RX2 13 "RuneSticksModel" "up" "[I", Cond.fieldLink RX2 19 "RuneSticksModel" "begin" "[I", Cond.fieldLink RX2 95 "RuneSticksModel" "breaks" "I", Cond.fieldLink RX2 9 "RuneSticksModel" "places" "[I", Cond.fieldLink RX2 22 "RuneSticksModel" "end" "[I", Cond.methodLink RX2 51 yX2_isStick, Cond.instanceMethod yX2_isStick, Cond.selects RX2 yX2_isStick yX2_isStick, Cond.initialized RX2, Cond.code yX2_isStick cX2_isStick 2 (some .boolean), Cond.methodLink RX2 47 yX2_isIn, Cond.static yX2_isIn, Cond.code yX2_isIn cX2_isIn 3 (some .boolean), Cond.methodLink RX2 58 yX2_no, Cond.instanceMethod yX2_no, Cond.selects RX2 yX2_no yX2_no, Cond.code yX2_no cX2_no 2 (some .int), Cond.methodLink RX2 92 yX2_weakest, Cond.instanceMethod yX2_weakest, Cond.selects RX2 yX2_weakest yX2_weakest, Cond.code yX2_weakest cX2_weakest 4 (some .int)]
def wsX2_bend_r2 : List Cond := [Cond.methodLink RX2 89 yX2_strong, Cond.instanceMethod yX2_strong, Cond.selects RX2 yX2_strong yX2_strong, Cond.code yX2_strong cX2_strong 3 (some .int), Cond.fieldLink RX2 28 "RuneSticksModel" "base" "[I", Cond.methodLink RX2 84 Lib.Math.max.name, Cond.static Lib.Math.max.name, Cond.initialized "java/lang/Math", Cond.code Lib.Math.max.name Lib.Math.max.code 2 (some .int), Cond.methodLink RX2 80 yX2_runesAt, Cond.instanceMethod yX2_runesAt, Cond.selects RX2 yX2_runesAt yX2_runesAt, Cond.code yX2_runesAt cX2_runesAt 5 (some .int), Cond.fieldLink RX2 25 "RuneSticksModel" "runes" "[I", Cond.methodLink RX2 76 yX2_spot, Cond.static yX2_spot, Cond.code yX2_spot cX2_spot 3 (some .int), Cond.methodLink RX2 62 yX2_there, Cond.instanceMethod yX2_there, Cond.selects RX2 yX2_there yX2_there, Cond.code yX2_there cX2_there 3 (some .int), Cond.methodLink RX2 66 yX2_add, Cond.instanceMethod yX2_add, Cond.selects RX2 yX2_add yX2_add]
def wsX2_bend_r3 : List Cond := [Cond.code yX2_add cX2_add 6 (some .int), Cond.fieldLink RX2 31 "RuneSticksModel" "isGlued" "[I", Cond.methodLink RX2 98 yX2_lay, Cond.instanceMethod yX2_lay, Cond.selects RX2 yX2_lay yX2_lay, Cond.code yX2_lay cX2_lay 9 none]
def wsX2_bend : List Cond := .code yX2_bend cX2_bend 7 (some .int) :: ((wsX2_bend_r1 ++ (wsX2_bend_r2 ++ wsX2_bend_r3)) ++ wsX20)
def wsX2_fit : List Cond := .code yX2_fit cX2_fit 3 (some .boolean) :: ([.fieldLink RX2 16 "RuneSticksModel" "isGone" "[I", .fieldLink RX2 22 "RuneSticksModel" "end" "[I", .fieldLink RX2 19 "RuneSticksModel" "begin" "[I"] ++ wsX20)
def wsX2_glue_r1 : List Cond := [Cond.fieldLink RX2 40 "RuneSticksModel" "thrown" "I", Cond.fieldLink RX2 16 "RuneSticksModel" "isGone" "[I", Cond.fieldLink RX2 9 "RuneSticksModel" "places" "[I", Cond.fieldLink RX2 44 "RuneSticksModel" "sticks" "I", Cond.fieldLink RX2 13 "RuneSticksModel" "up" "[I", Cond.fieldLink RX2 19 "RuneSticksModel" "begin" "[I", Cond.fieldLink RX2 22 "RuneSticksModel" "end" "[I", Cond.fieldLink RX2 28 "RuneSticksModel" "base" "[I", Cond.fieldLink RX2 31 "RuneSticksModel" "isGlued" "[I", Cond.methodLink RX2 51 yX2_isStick, Cond.instanceMethod yX2_isStick, Cond.selects RX2 yX2_isStick yX2_isStick, Cond.initialized RX2, Cond.code yX2_isStick cX2_isStick 2 (some .boolean), Cond.methodLink RX2 47 yX2_isIn, Cond.static yX2_isIn, Cond.code yX2_isIn cX2_isIn 3 (some .boolean), Cond.methodLink RX2 58 yX2_no, Cond.instanceMethod yX2_no, Cond.selects RX2 yX2_no yX2_no, Cond.code yX2_no cX2_no 2 (some .int), Cond.methodLink RX2 102 yX2_fit, Cond.instanceMethod yX2_fit, Cond.selects RX2 yX2_fit yX2_fit]
def wsX2_glue_r2 : List Cond := [Cond.code yX2_fit cX2_fit 3 (some .boolean), Cond.methodLink RX2 66 yX2_add, Cond.instanceMethod yX2_add, Cond.selects RX2 yX2_add yX2_add, Cond.code yX2_add cX2_add 6 (some .int), Cond.methodLink RX2 98 yX2_lay, Cond.instanceMethod yX2_lay, Cond.selects RX2 yX2_lay yX2_lay, Cond.code yX2_lay cX2_lay 9 none, Cond.fieldLink RX2 25 "RuneSticksModel" "runes" "[I", Cond.methodLink RX2 76 yX2_spot, Cond.static yX2_spot, Cond.code yX2_spot cX2_spot 3 (some .int)]
def wsX2_glue : List Cond := .code yX2_glue cX2_glue 7 (some .int) :: ((wsX2_glue_r1 ++ wsX2_glue_r2) ++ wsX20)
def wsX2_runesOn : List Cond := .code yX2_runesOn cX2_runesOn 4 (some .int) :: ([.fieldLink RX2 9 "RuneSticksModel" "places" "[I", .methodLink RX2 80 yX2_runesAt, .instanceMethod yX2_runesAt, .selects RX2 yX2_runesAt yX2_runesAt, .initialized RX2, .code yX2_runesAt cX2_runesAt 5 (some .int), .fieldLink RX2 25 "RuneSticksModel" "runes" "[I", .methodLink RX2 76 yX2_spot, .static yX2_spot, .code yX2_spot cX2_spot 3 (some .int)] ++ wsX20)
def wsX2_glued : List Cond := .code yX2_glued cX2_glued 4 (some .int) :: ([.fieldLink RX2 9 "RuneSticksModel" "places" "[I", .fieldLink RX2 31 "RuneSticksModel" "isGlued" "[I"] ++ wsX20)
def wsX2_stickTold : List Cond := .code yX2_stickTold cX2_stickTold 4 (some .int) :: ([.arrayClass .int, .fieldLink RX2 9 "RuneSticksModel" "places" "[I", .fieldLink RX2 13 "RuneSticksModel" "up" "[I", .fieldLink RX2 19 "RuneSticksModel" "begin" "[I", .fieldLink RX2 22 "RuneSticksModel" "end" "[I", .fieldLink RX2 16 "RuneSticksModel" "isGone" "[I", .methodLink RX2 106 yX2_runesOn, .instanceMethod yX2_runesOn, .selects RX2 yX2_runesOn yX2_runesOn, .initialized RX2, .code yX2_runesOn cX2_runesOn 4 (some .int), .methodLink RX2 80 yX2_runesAt, .instanceMethod yX2_runesAt, .selects RX2 yX2_runesAt yX2_runesAt, .code yX2_runesAt cX2_runesAt 5 (some .int), .fieldLink RX2 25 "RuneSticksModel" "runes" "[I", .methodLink RX2 76 yX2_spot, .static yX2_spot, .code yX2_spot cX2_spot 3 (some .int), .methodLink RX2 109 yX2_glued, .instanceMethod yX2_glued, .selects RX2 yX2_glued yX2_glued, .code yX2_glued cX2_glued 4 (some .int), .fieldLink RX2 31 "RuneSticksModel" "isGlued" "[I"] ++ wsX20)
def wsX2_stick_r1 : List Cond := [Cond.fieldLink RX2 40 "RuneSticksModel" "thrown" "I", Cond.methodLink RX2 51 yX2_isStick, Cond.instanceMethod yX2_isStick, Cond.selects RX2 yX2_isStick yX2_isStick, Cond.initialized RX2, Cond.code yX2_isStick cX2_isStick 2 (some .boolean), Cond.fieldLink RX2 44 "RuneSticksModel" "sticks" "I", Cond.methodLink RX2 47 yX2_isIn, Cond.static yX2_isIn, Cond.code yX2_isIn cX2_isIn 3 (some .boolean), Cond.methodLink RX2 112 yX2_stickTold, Cond.instanceMethod yX2_stickTold, Cond.selects RX2 yX2_stickTold yX2_stickTold, Cond.code yX2_stickTold cX2_stickTold 4 (some .int), Cond.arrayClass .int, Cond.fieldLink RX2 9 "RuneSticksModel" "places" "[I", Cond.fieldLink RX2 13 "RuneSticksModel" "up" "[I", Cond.fieldLink RX2 19 "RuneSticksModel" "begin" "[I", Cond.fieldLink RX2 22 "RuneSticksModel" "end" "[I", Cond.fieldLink RX2 16 "RuneSticksModel" "isGone" "[I", Cond.methodLink RX2 106 yX2_runesOn, Cond.instanceMethod yX2_runesOn, Cond.selects RX2 yX2_runesOn yX2_runesOn, Cond.code yX2_runesOn cX2_runesOn 4 (some .int)]
def wsX2_stick_r2 : List Cond := [Cond.methodLink RX2 80 yX2_runesAt, Cond.instanceMethod yX2_runesAt, Cond.selects RX2 yX2_runesAt yX2_runesAt, Cond.code yX2_runesAt cX2_runesAt 5 (some .int), Cond.fieldLink RX2 25 "RuneSticksModel" "runes" "[I", Cond.methodLink RX2 76 yX2_spot, Cond.static yX2_spot, Cond.code yX2_spot cX2_spot 3 (some .int), Cond.methodLink RX2 109 yX2_glued, Cond.instanceMethod yX2_glued, Cond.selects RX2 yX2_glued yX2_glued, Cond.code yX2_glued cX2_glued 4 (some .int), Cond.fieldLink RX2 31 "RuneSticksModel" "isGlued" "[I", Cond.methodLink RX2 58 yX2_no, Cond.instanceMethod yX2_no, Cond.selects RX2 yX2_no yX2_no, Cond.code yX2_no cX2_no 2 (some .int)]
def wsX2_stick : List Cond := .code yX2_stick cX2_stick 3 (some .int) :: ((wsX2_stick_r1 ++ wsX2_stick_r2) ++ wsX20)
def wsX2_rune_r1 : List Cond := [Cond.fieldLink RX2 40 "RuneSticksModel" "thrown" "I", Cond.fieldLink RX2 25 "RuneSticksModel" "runes" "[I", Cond.methodLink RX2 70 yX2_isSpot, Cond.instanceMethod yX2_isSpot, Cond.selects RX2 yX2_isSpot yX2_isSpot, Cond.initialized RX2, Cond.code yX2_isSpot cX2_isSpot 4 (some .boolean), Cond.fieldLink RX2 9 "RuneSticksModel" "places" "[I", Cond.methodLink RX2 51 yX2_isStick, Cond.instanceMethod yX2_isStick, Cond.selects RX2 yX2_isStick yX2_isStick, Cond.code yX2_isStick cX2_isStick 2 (some .boolean), Cond.fieldLink RX2 44 "RuneSticksModel" "sticks" "I", Cond.methodLink RX2 47 yX2_isIn, Cond.static yX2_isIn, Cond.code yX2_isIn cX2_isIn 3 (some .boolean), Cond.methodLink RX2 55 yX2_isSide, Cond.static yX2_isSide, Cond.code yX2_isSide cX2_isSide 1 (some .boolean), Cond.methodLink RX2 76 yX2_spot, Cond.static yX2_spot, Cond.code yX2_spot cX2_spot 3 (some .int), Cond.methodLink RX2 58 yX2_no, Cond.instanceMethod yX2_no]
def wsX2_rune_r2 : List Cond := [Cond.selects RX2 yX2_no yX2_no, Cond.code yX2_no cX2_no 2 (some .int)]
def wsX2_rune : List Cond := .code yX2_rune cX2_rune 4 (some .int) :: ((wsX2_rune_r1 ++ wsX2_rune_r2) ++ wsX20)
def wsX2_strength_r1 : List Cond := [Cond.fieldLink RX2 40 "RuneSticksModel" "thrown" "I", Cond.fieldLink RX2 9 "RuneSticksModel" "places" "[I", Cond.methodLink RX2 51 yX2_isStick, Cond.instanceMethod yX2_isStick, Cond.selects RX2 yX2_isStick yX2_isStick, Cond.initialized RX2, Cond.code yX2_isStick cX2_isStick 2 (some .boolean), Cond.fieldLink RX2 44 "RuneSticksModel" "sticks" "I", Cond.methodLink RX2 47 yX2_isIn, Cond.static yX2_isIn, Cond.code yX2_isIn cX2_isIn 3 (some .boolean), Cond.methodLink RX2 89 yX2_strong, Cond.instanceMethod yX2_strong, Cond.selects RX2 yX2_strong yX2_strong, Cond.code yX2_strong cX2_strong 3 (some .int), Cond.fieldLink RX2 28 "RuneSticksModel" "base" "[I", Cond.methodLink RX2 84 Lib.Math.max.name, Cond.static Lib.Math.max.name, Cond.initialized "java/lang/Math", Cond.code Lib.Math.max.name Lib.Math.max.code 2 (some .int), Cond.methodLink RX2 80 yX2_runesAt, Cond.instanceMethod yX2_runesAt, Cond.selects RX2 yX2_runesAt yX2_runesAt, Cond.code yX2_runesAt cX2_runesAt 5 (some .int)]
def wsX2_strength_r2 : List Cond := [Cond.fieldLink RX2 25 "RuneSticksModel" "runes" "[I", Cond.methodLink RX2 76 yX2_spot, Cond.static yX2_spot, Cond.code yX2_spot cX2_spot 3 (some .int), Cond.methodLink RX2 58 yX2_no, Cond.instanceMethod yX2_no, Cond.selects RX2 yX2_no yX2_no, Cond.code yX2_no cX2_no 2 (some .int)]
def wsX2_strength : List Cond := .code yX2_strength cX2_strength 3 (some .int) :: ((wsX2_strength_r1 ++ wsX2_strength_r2) ++ wsX20)
def wsX2_counted_r1 : List Cond := [Cond.fieldLink RX2 44 "RuneSticksModel" "sticks" "I", Cond.fieldLink RX2 16 "RuneSticksModel" "isGone" "[I", Cond.fieldLink RX2 9 "RuneSticksModel" "places" "[I", Cond.arrayClass .int, Cond.fieldLink RX2 95 "RuneSticksModel" "breaks" "I", Cond.methodLink RX2 106 yX2_runesOn, Cond.instanceMethod yX2_runesOn, Cond.selects RX2 yX2_runesOn yX2_runesOn, Cond.initialized RX2, Cond.code yX2_runesOn cX2_runesOn 4 (some .int), Cond.methodLink RX2 80 yX2_runesAt, Cond.instanceMethod yX2_runesAt, Cond.selects RX2 yX2_runesAt yX2_runesAt, Cond.code yX2_runesAt cX2_runesAt 5 (some .int), Cond.fieldLink RX2 25 "RuneSticksModel" "runes" "[I", Cond.methodLink RX2 76 yX2_spot, Cond.static yX2_spot, Cond.code yX2_spot cX2_spot 3 (some .int), Cond.methodLink RX2 109 yX2_glued, Cond.instanceMethod yX2_glued, Cond.selects RX2 yX2_glued yX2_glued, Cond.code yX2_glued cX2_glued 4 (some .int), Cond.fieldLink RX2 31 "RuneSticksModel" "isGlued" "[I", Cond.methodLink RX2 102 yX2_fit]
def wsX2_counted_r2 : List Cond := [Cond.instanceMethod yX2_fit, Cond.selects RX2 yX2_fit yX2_fit, Cond.code yX2_fit cX2_fit 3 (some .boolean), Cond.fieldLink RX2 22 "RuneSticksModel" "end" "[I", Cond.fieldLink RX2 19 "RuneSticksModel" "begin" "[I", Cond.methodLink RX2 62 yX2_there, Cond.instanceMethod yX2_there, Cond.selects RX2 yX2_there yX2_there, Cond.code yX2_there cX2_there 3 (some .int)]
def wsX2_counted : List Cond := .code yX2_counted cX2_counted 8 (some .int) :: ((wsX2_counted_r1 ++ wsX2_counted_r2) ++ wsX20)
def wsX2_count_r1 : List Cond := [Cond.fieldLink RX2 40 "RuneSticksModel" "thrown" "I", Cond.methodLink RX2 47 yX2_isIn, Cond.static yX2_isIn, Cond.initialized RX2, Cond.code yX2_isIn cX2_isIn 3 (some .boolean), Cond.methodLink RX2 115 yX2_counted, Cond.instanceMethod yX2_counted, Cond.selects RX2 yX2_counted yX2_counted, Cond.code yX2_counted cX2_counted 8 (some .int), Cond.fieldLink RX2 44 "RuneSticksModel" "sticks" "I", Cond.fieldLink RX2 16 "RuneSticksModel" "isGone" "[I", Cond.fieldLink RX2 9 "RuneSticksModel" "places" "[I", Cond.arrayClass .int, Cond.fieldLink RX2 95 "RuneSticksModel" "breaks" "I", Cond.methodLink RX2 106 yX2_runesOn, Cond.instanceMethod yX2_runesOn, Cond.selects RX2 yX2_runesOn yX2_runesOn, Cond.code yX2_runesOn cX2_runesOn 4 (some .int), Cond.methodLink RX2 80 yX2_runesAt, Cond.instanceMethod yX2_runesAt, Cond.selects RX2 yX2_runesAt yX2_runesAt, Cond.code yX2_runesAt cX2_runesAt 5 (some .int), Cond.fieldLink RX2 25 "RuneSticksModel" "runes" "[I", Cond.methodLink RX2 76 yX2_spot]
def wsX2_count_r2 : List Cond := [Cond.static yX2_spot, Cond.code yX2_spot cX2_spot 3 (some .int), Cond.methodLink RX2 109 yX2_glued, Cond.instanceMethod yX2_glued, Cond.selects RX2 yX2_glued yX2_glued, Cond.code yX2_glued cX2_glued 4 (some .int), Cond.fieldLink RX2 31 "RuneSticksModel" "isGlued" "[I", Cond.methodLink RX2 102 yX2_fit, Cond.instanceMethod yX2_fit, Cond.selects RX2 yX2_fit yX2_fit, Cond.code yX2_fit cX2_fit 3 (some .boolean), Cond.fieldLink RX2 22 "RuneSticksModel" "end" "[I", Cond.fieldLink RX2 19 "RuneSticksModel" "begin" "[I", Cond.methodLink RX2 62 yX2_there, Cond.instanceMethod yX2_there, Cond.selects RX2 yX2_there yX2_there, Cond.code yX2_there cX2_there 3 (some .int), Cond.methodLink RX2 58 yX2_no, Cond.instanceMethod yX2_no, Cond.selects RX2 yX2_no yX2_no, Cond.code yX2_no cX2_no 2 (some .int)]
def wsX2_count : List Cond := .code yX2_count cX2_count 2 (some .int) :: ((wsX2_count_r1 ++ wsX2_count_r2) ++ wsX20)
def wsX2_fits : List Cond := .code yX2_fits cX2_fits 3 (some .boolean) :: ([.fieldLink RX2 40 "RuneSticksModel" "thrown" "I", .methodLink RX2 51 yX2_isStick, .instanceMethod yX2_isStick, .selects RX2 yX2_isStick yX2_isStick, .initialized RX2, .code yX2_isStick cX2_isStick 2 (some .boolean), .fieldLink RX2 44 "RuneSticksModel" "sticks" "I", .methodLink RX2 47 yX2_isIn, .static yX2_isIn, .code yX2_isIn cX2_isIn 3 (some .boolean), .methodLink RX2 102 yX2_fit, .instanceMethod yX2_fit, .selects RX2 yX2_fit yX2_fit, .code yX2_fit cX2_fit 3 (some .boolean), .fieldLink RX2 16 "RuneSticksModel" "isGone" "[I", .fieldLink RX2 22 "RuneSticksModel" "end" "[I", .fieldLink RX2 19 "RuneSticksModel" "begin" "[I", .methodLink RX2 58 yX2_no, .instanceMethod yX2_no, .selects RX2 yX2_no yX2_no, .code yX2_no cX2_no 2 (some .int)] ++ wsX20)
def wsX2_read : List Cond := .code yX2_read cX2_read 8 (some .int) :: ([.fieldLink RX2 9 "RuneSticksModel" "places" "[I", .fieldLink RX2 25 "RuneSticksModel" "runes" "[I", .methodLink RX2 76 yX2_spot, .static yX2_spot, .initialized RX2, .code yX2_spot cX2_spot 3 (some .int)] ++ wsX20)
def wsX2_size_r1 : List Cond := [Cond.fieldLink RX2 40 "RuneSticksModel" "thrown" "I", Cond.fieldLink RX2 13 "RuneSticksModel" "up" "[I", Cond.fieldLink RX2 34 "RuneSticksModel" "one" "[I", Cond.methodLink RX2 51 yX2_isStick, Cond.instanceMethod yX2_isStick, Cond.selects RX2 yX2_isStick yX2_isStick, Cond.initialized RX2, Cond.code yX2_isStick cX2_isStick 2 (some .boolean), Cond.fieldLink RX2 44 "RuneSticksModel" "sticks" "I", Cond.methodLink RX2 47 yX2_isIn, Cond.static yX2_isIn, Cond.code yX2_isIn cX2_isIn 3 (some .boolean), Cond.methodLink RX2 58 yX2_no, Cond.instanceMethod yX2_no, Cond.selects RX2 yX2_no yX2_no, Cond.code yX2_no cX2_no 2 (some .int), Cond.methodLink RX2 118 yX2_read, Cond.instanceMethod yX2_read, Cond.selects RX2 yX2_read yX2_read, Cond.code yX2_read cX2_read 8 (some .int), Cond.fieldLink RX2 9 "RuneSticksModel" "places" "[I", Cond.fieldLink RX2 25 "RuneSticksModel" "runes" "[I", Cond.methodLink RX2 76 yX2_spot, Cond.static yX2_spot]
def wsX2_size_r2 : List Cond := [Cond.code yX2_spot cX2_spot 3 (some .int)]
def wsX2_size : List Cond := .code yX2_size cX2_size 3 (some .int) :: ((wsX2_size_r1 ++ wsX2_size_r2) ++ wsX20)
def wsX2_reads_r1 : List Cond := [Cond.fieldLink RX2 40 "RuneSticksModel" "thrown" "I", Cond.fieldLink RX2 13 "RuneSticksModel" "up" "[I", Cond.fieldLink RX2 34 "RuneSticksModel" "one" "[I", Cond.methodLink RX2 51 yX2_isStick, Cond.instanceMethod yX2_isStick, Cond.selects RX2 yX2_isStick yX2_isStick, Cond.initialized RX2, Cond.code yX2_isStick cX2_isStick 2 (some .boolean), Cond.fieldLink RX2 44 "RuneSticksModel" "sticks" "I", Cond.methodLink RX2 47 yX2_isIn, Cond.static yX2_isIn, Cond.code yX2_isIn cX2_isIn 3 (some .boolean), Cond.methodLink RX2 58 yX2_no, Cond.instanceMethod yX2_no, Cond.selects RX2 yX2_no yX2_no, Cond.code yX2_no cX2_no 2 (some .int), Cond.methodLink RX2 118 yX2_read, Cond.instanceMethod yX2_read, Cond.selects RX2 yX2_read yX2_read, Cond.code yX2_read cX2_read 8 (some .int), Cond.fieldLink RX2 9 "RuneSticksModel" "places" "[I", Cond.fieldLink RX2 25 "RuneSticksModel" "runes" "[I", Cond.methodLink RX2 76 yX2_spot, Cond.static yX2_spot]
def wsX2_reads_r2 : List Cond := [Cond.code yX2_spot cX2_spot 3 (some .int)]
def wsX2_reads : List Cond := .code yX2_reads cX2_reads 4 (some .int) :: ((wsX2_reads_r1 ++ wsX2_reads_r2) ++ wsX20)
def wsX2_has_r1 : List Cond := [Cond.fieldLink RX2 40 "RuneSticksModel" "thrown" "I", Cond.fieldLink RX2 34 "RuneSticksModel" "one" "[I", Cond.methodLink RX2 51 yX2_isStick, Cond.instanceMethod yX2_isStick, Cond.selects RX2 yX2_isStick yX2_isStick, Cond.initialized RX2, Cond.code yX2_isStick cX2_isStick 2 (some .boolean), Cond.fieldLink RX2 44 "RuneSticksModel" "sticks" "I", Cond.methodLink RX2 47 yX2_isIn, Cond.static yX2_isIn, Cond.code yX2_isIn cX2_isIn 3 (some .boolean), Cond.methodLink RX2 58 yX2_no, Cond.instanceMethod yX2_no, Cond.selects RX2 yX2_no yX2_no, Cond.code yX2_no cX2_no 2 (some .int), Cond.methodLink RX2 73 yX2_isRune, Cond.static yX2_isRune, Cond.code yX2_isRune cX2_isRune 1 (some .boolean), Cond.methodLink RX2 118 yX2_read, Cond.instanceMethod yX2_read, Cond.selects RX2 yX2_read yX2_read, Cond.code yX2_read cX2_read 8 (some .int), Cond.fieldLink RX2 9 "RuneSticksModel" "places" "[I", Cond.fieldLink RX2 25 "RuneSticksModel" "runes" "[I"]
def wsX2_has_r2 : List Cond := [Cond.methodLink RX2 76 yX2_spot, Cond.static yX2_spot, Cond.code yX2_spot cX2_spot 3 (some .int)]
def wsX2_has : List Cond := .code yX2_has cX2_has 9 (some .int) :: ((wsX2_has_r1 ++ wsX2_has_r2) ++ wsX20)
def wsX2_rhymeOf : List Cond := .code yX2_rhymeOf cX2_rhymeOf 8 (some .int) :: ([.fieldLink RX2 34 "RuneSticksModel" "one" "[I", .fieldLink RX2 13 "RuneSticksModel" "up" "[I", .fieldLink RX2 37 "RuneSticksModel" "two" "[I", .methodLink RX2 118 yX2_read, .instanceMethod yX2_read, .selects RX2 yX2_read yX2_read, .initialized RX2, .code yX2_read cX2_read 8 (some .int), .fieldLink RX2 9 "RuneSticksModel" "places" "[I", .fieldLink RX2 25 "RuneSticksModel" "runes" "[I", .methodLink RX2 76 yX2_spot, .static yX2_spot, .code yX2_spot cX2_spot 3 (some .int)] ++ wsX20)
def wsX2_rhyme_r1 : List Cond := [Cond.fieldLink RX2 40 "RuneSticksModel" "thrown" "I", Cond.fieldLink RX2 13 "RuneSticksModel" "up" "[I", Cond.methodLink RX2 51 yX2_isStick, Cond.instanceMethod yX2_isStick, Cond.selects RX2 yX2_isStick yX2_isStick, Cond.initialized RX2, Cond.code yX2_isStick cX2_isStick 2 (some .boolean), Cond.fieldLink RX2 44 "RuneSticksModel" "sticks" "I", Cond.methodLink RX2 47 yX2_isIn, Cond.static yX2_isIn, Cond.code yX2_isIn cX2_isIn 3 (some .boolean), Cond.methodLink RX2 58 yX2_no, Cond.instanceMethod yX2_no, Cond.selects RX2 yX2_no yX2_no, Cond.code yX2_no cX2_no 2 (some .int), Cond.methodLink RX2 122 yX2_rhymeOf, Cond.instanceMethod yX2_rhymeOf, Cond.selects RX2 yX2_rhymeOf yX2_rhymeOf, Cond.code yX2_rhymeOf cX2_rhymeOf 8 (some .int), Cond.fieldLink RX2 34 "RuneSticksModel" "one" "[I", Cond.fieldLink RX2 37 "RuneSticksModel" "two" "[I", Cond.methodLink RX2 118 yX2_read, Cond.instanceMethod yX2_read, Cond.selects RX2 yX2_read yX2_read]
def wsX2_rhyme_r2 : List Cond := [Cond.code yX2_read cX2_read 8 (some .int), Cond.fieldLink RX2 9 "RuneSticksModel" "places" "[I", Cond.fieldLink RX2 25 "RuneSticksModel" "runes" "[I", Cond.methodLink RX2 76 yX2_spot, Cond.static yX2_spot, Cond.code yX2_spot cX2_spot 3 (some .int)]
def wsX2_rhyme : List Cond := .code yX2_rhyme cX2_rhyme 4 (some .int) :: ((wsX2_rhyme_r1 ++ wsX2_rhyme_r2) ++ wsX20)
def wsX2_best_r1 : List Cond := [Cond.fieldLink RX2 40 "RuneSticksModel" "thrown" "I", Cond.methodLink RX2 51 yX2_isStick, Cond.instanceMethod yX2_isStick, Cond.selects RX2 yX2_isStick yX2_isStick, Cond.initialized RX2, Cond.code yX2_isStick cX2_isStick 2 (some .boolean), Cond.fieldLink RX2 44 "RuneSticksModel" "sticks" "I", Cond.methodLink RX2 47 yX2_isIn, Cond.static yX2_isIn, Cond.code yX2_isIn cX2_isIn 3 (some .boolean), Cond.methodLink RX2 58 yX2_no, Cond.instanceMethod yX2_no, Cond.selects RX2 yX2_no yX2_no, Cond.code yX2_no cX2_no 2 (some .int), Cond.methodLink RX2 122 yX2_rhymeOf, Cond.instanceMethod yX2_rhymeOf, Cond.selects RX2 yX2_rhymeOf yX2_rhymeOf, Cond.code yX2_rhymeOf cX2_rhymeOf 8 (some .int), Cond.fieldLink RX2 34 "RuneSticksModel" "one" "[I", Cond.fieldLink RX2 13 "RuneSticksModel" "up" "[I", Cond.fieldLink RX2 37 "RuneSticksModel" "two" "[I", Cond.methodLink RX2 118 yX2_read, Cond.instanceMethod yX2_read, Cond.selects RX2 yX2_read yX2_read]
def wsX2_best_r2 : List Cond := [Cond.code yX2_read cX2_read 8 (some .int), Cond.fieldLink RX2 9 "RuneSticksModel" "places" "[I", Cond.fieldLink RX2 25 "RuneSticksModel" "runes" "[I", Cond.methodLink RX2 76 yX2_spot, Cond.static yX2_spot, Cond.code yX2_spot cX2_spot 3 (some .int)]
def wsX2_best : List Cond := .code yX2_best cX2_best 6 (some .int) :: ((wsX2_best_r1 ++ wsX2_best_r2) ++ wsX20)
def wsX2_pieces_r1 : List Cond := [Cond.fieldLink RX2 40 "RuneSticksModel" "thrown" "I", Cond.fieldLink RX2 9 "RuneSticksModel" "places" "[I", Cond.methodLink RX2 51 yX2_isStick, Cond.instanceMethod yX2_isStick, Cond.selects RX2 yX2_isStick yX2_isStick, Cond.initialized RX2, Cond.code yX2_isStick cX2_isStick 2 (some .boolean), Cond.fieldLink RX2 44 "RuneSticksModel" "sticks" "I", Cond.methodLink RX2 47 yX2_isIn, Cond.static yX2_isIn, Cond.code yX2_isIn cX2_isIn 3 (some .boolean), Cond.methodLink RX2 58 yX2_no, Cond.instanceMethod yX2_no, Cond.selects RX2 yX2_no yX2_no, Cond.code yX2_no cX2_no 2 (some .int), Cond.methodLink RX2 89 yX2_strong, Cond.instanceMethod yX2_strong, Cond.selects RX2 yX2_strong yX2_strong, Cond.code yX2_strong cX2_strong 3 (some .int), Cond.fieldLink RX2 28 "RuneSticksModel" "base" "[I", Cond.methodLink RX2 84 Lib.Math.max.name, Cond.static Lib.Math.max.name, Cond.initialized "java/lang/Math", Cond.code Lib.Math.max.name Lib.Math.max.code 2 (some .int)]
def wsX2_pieces_r2 : List Cond := [Cond.methodLink RX2 80 yX2_runesAt, Cond.instanceMethod yX2_runesAt, Cond.selects RX2 yX2_runesAt yX2_runesAt, Cond.code yX2_runesAt cX2_runesAt 5 (some .int), Cond.fieldLink RX2 25 "RuneSticksModel" "runes" "[I", Cond.methodLink RX2 76 yX2_spot, Cond.static yX2_spot, Cond.code yX2_spot cX2_spot 3 (some .int)]
def wsX2_pieces : List Cond := .code yX2_pieces cX2_pieces 5 (some .int) :: ((wsX2_pieces_r1 ++ wsX2_pieces_r2) ++ wsX20)
def wsX2_row_r1 : List Cond := [Cond.fieldLink RX2 40 "RuneSticksModel" "thrown" "I", Cond.fieldLink RX2 16 "RuneSticksModel" "isGone" "[I", Cond.fieldLink RX2 44 "RuneSticksModel" "sticks" "I", Cond.fieldLink RX2 13 "RuneSticksModel" "up" "[I", Cond.methodLink RX2 51 yX2_isStick, Cond.instanceMethod yX2_isStick, Cond.selects RX2 yX2_isStick yX2_isStick, Cond.initialized RX2, Cond.code yX2_isStick cX2_isStick 2 (some .boolean), Cond.methodLink RX2 47 yX2_isIn, Cond.static yX2_isIn, Cond.code yX2_isIn cX2_isIn 3 (some .boolean), Cond.methodLink RX2 58 yX2_no, Cond.instanceMethod yX2_no, Cond.selects RX2 yX2_no yX2_no, Cond.code yX2_no cX2_no 2 (some .int), Cond.methodLink RX2 122 yX2_rhymeOf, Cond.instanceMethod yX2_rhymeOf, Cond.selects RX2 yX2_rhymeOf yX2_rhymeOf, Cond.code yX2_rhymeOf cX2_rhymeOf 8 (some .int), Cond.fieldLink RX2 34 "RuneSticksModel" "one" "[I", Cond.fieldLink RX2 37 "RuneSticksModel" "two" "[I", Cond.methodLink RX2 118 yX2_read, Cond.instanceMethod yX2_read]
def wsX2_row_r2 : List Cond := [Cond.selects RX2 yX2_read yX2_read, Cond.code yX2_read cX2_read 8 (some .int), Cond.fieldLink RX2 9 "RuneSticksModel" "places" "[I", Cond.fieldLink RX2 25 "RuneSticksModel" "runes" "[I", Cond.methodLink RX2 76 yX2_spot, Cond.static yX2_spot, Cond.code yX2_spot cX2_spot 3 (some .int)]
def wsX2_row : List Cond := .code yX2_row cX2_row 11 (some .int) :: ((wsX2_row_r1 ++ wsX2_row_r2) ++ wsX20)
def wsX2_mean_r1 : List Cond := [Cond.fieldLink RX2 40 "RuneSticksModel" "thrown" "I", Cond.methodLink RX2 62 yX2_there, Cond.instanceMethod yX2_there, Cond.selects RX2 yX2_there yX2_there, Cond.initialized RX2, Cond.code yX2_there cX2_there 3 (some .int), Cond.fieldLink RX2 44 "RuneSticksModel" "sticks" "I", Cond.fieldLink RX2 16 "RuneSticksModel" "isGone" "[I", Cond.methodLink RX2 115 yX2_counted, Cond.instanceMethod yX2_counted, Cond.selects RX2 yX2_counted yX2_counted, Cond.code yX2_counted cX2_counted 8 (some .int), Cond.fieldLink RX2 9 "RuneSticksModel" "places" "[I", Cond.arrayClass .int, Cond.fieldLink RX2 95 "RuneSticksModel" "breaks" "I", Cond.methodLink RX2 106 yX2_runesOn, Cond.instanceMethod yX2_runesOn, Cond.selects RX2 yX2_runesOn yX2_runesOn, Cond.code yX2_runesOn cX2_runesOn 4 (some .int), Cond.methodLink RX2 80 yX2_runesAt, Cond.instanceMethod yX2_runesAt, Cond.selects RX2 yX2_runesAt yX2_runesAt, Cond.code yX2_runesAt cX2_runesAt 5 (some .int), Cond.fieldLink RX2 25 "RuneSticksModel" "runes" "[I"]
def wsX2_mean_r2 : List Cond := [Cond.methodLink RX2 76 yX2_spot, Cond.static yX2_spot, Cond.code yX2_spot cX2_spot 3 (some .int), Cond.methodLink RX2 109 yX2_glued, Cond.instanceMethod yX2_glued, Cond.selects RX2 yX2_glued yX2_glued, Cond.code yX2_glued cX2_glued 4 (some .int), Cond.fieldLink RX2 31 "RuneSticksModel" "isGlued" "[I", Cond.methodLink RX2 102 yX2_fit, Cond.instanceMethod yX2_fit, Cond.selects RX2 yX2_fit yX2_fit, Cond.code yX2_fit cX2_fit 3 (some .boolean), Cond.fieldLink RX2 22 "RuneSticksModel" "end" "[I", Cond.fieldLink RX2 19 "RuneSticksModel" "begin" "[I"]
def wsX2_mean : List Cond := .code yX2_mean cX2_mean 1 (some .double) :: ((wsX2_mean_r1 ++ wsX2_mean_r2) ++ wsX20)
def wsX2_digest_r1 : List Cond := [Cond.fieldLink RX2 40 "RuneSticksModel" "thrown" "I", Cond.constantLong RX2 125 (1019), Cond.constantLong RX2 127 (31), Cond.fieldLink RX2 44 "RuneSticksModel" "sticks" "I", Cond.fieldLink RX2 9 "RuneSticksModel" "places" "[I", Cond.fieldLink RX2 25 "RuneSticksModel" "runes" "[I", Cond.fieldLink RX2 28 "RuneSticksModel" "base" "[I", Cond.methodLink RX2 115 yX2_counted, Cond.instanceMethod yX2_counted, Cond.selects RX2 yX2_counted yX2_counted, Cond.initialized RX2, Cond.code yX2_counted cX2_counted 8 (some .int), Cond.fieldLink RX2 16 "RuneSticksModel" "isGone" "[I", Cond.arrayClass .int, Cond.fieldLink RX2 95 "RuneSticksModel" "breaks" "I", Cond.methodLink RX2 106 yX2_runesOn, Cond.instanceMethod yX2_runesOn, Cond.selects RX2 yX2_runesOn yX2_runesOn, Cond.code yX2_runesOn cX2_runesOn 4 (some .int), Cond.methodLink RX2 80 yX2_runesAt, Cond.instanceMethod yX2_runesAt, Cond.selects RX2 yX2_runesAt yX2_runesAt, Cond.code yX2_runesAt cX2_runesAt 5 (some .int), Cond.methodLink RX2 76 yX2_spot]
def wsX2_digest_r2 : List Cond := [Cond.static yX2_spot, Cond.code yX2_spot cX2_spot 3 (some .int), Cond.methodLink RX2 109 yX2_glued, Cond.instanceMethod yX2_glued, Cond.selects RX2 yX2_glued yX2_glued, Cond.code yX2_glued cX2_glued 4 (some .int), Cond.fieldLink RX2 31 "RuneSticksModel" "isGlued" "[I", Cond.methodLink RX2 102 yX2_fit, Cond.instanceMethod yX2_fit, Cond.selects RX2 yX2_fit yX2_fit, Cond.code yX2_fit cX2_fit 3 (some .boolean), Cond.fieldLink RX2 22 "RuneSticksModel" "end" "[I", Cond.fieldLink RX2 19 "RuneSticksModel" "begin" "[I", Cond.methodLink RX2 62 yX2_there, Cond.instanceMethod yX2_there, Cond.selects RX2 yX2_there yX2_there, Cond.code yX2_there cX2_there 3 (some .int), Cond.methodLink RX2 112 yX2_stickTold, Cond.instanceMethod yX2_stickTold, Cond.selects RX2 yX2_stickTold yX2_stickTold, Cond.code yX2_stickTold cX2_stickTold 4 (some .int), Cond.fieldLink RX2 13 "RuneSticksModel" "up" "[I"]
def wsX2_digest : List Cond := .code yX2_digest cX2_digest 5 (some .long) :: ((wsX2_digest_r1 ++ wsX2_digest_r2) ++ wsX20)
def wsJ9_max_7cf53 : List Cond := .code yJ9_max_7cf53 cJ9_max_7cf53 2 (some .int) :: ([])
def wsL_make_r1 : List Cond := [Cond.classLink RL 13 "java/lang/IllegalArgumentException", Cond.classLink RL 15 "java/lang/IllegalStateException", Cond.methodLink RL 7 yX1_make, Cond.instanceMethod yX1_make, Cond.selects RX1 yX1_make yX1_make, Cond.initialized RX1, Cond.code yX1_make cX1_make 2 (some .int), Cond.classLink RX1 22 "java/lang/IllegalArgumentException", Cond.initialized "java/lang/IllegalArgumentException", Cond.classLink RX1 33 "java/lang/IllegalStateException", Cond.initialized "java/lang/IllegalStateException", Cond.classLink RX1 9 RX0, Cond.instantiable RX0 8, Cond.initialized RX0, Cond.methodLink RX1 29 yX1_howManyThere, Cond.instanceMethod yX1_howManyThere, Cond.selects RX1 yX1_howManyThere yX1_howManyThere, Cond.code yX1_howManyThere cX1_howManyThere 3 (some .int), Cond.fieldLink RX1 15 "RuneSticks" "made" "I", Cond.methodLink RX1 156 yX1_thereOrNull, Cond.instanceMethod yX1_thereOrNull, Cond.selects RX1 yX1_thereOrNull yX1_thereOrNull, Cond.code yX1_thereOrNull cX1_thereOrNull 3 (some (.object "RuneSticks$Stick")), Cond.fieldLink RX1 126 "RuneSticks$Stick" "gone" "Z"]
def wsL_make_r2 : List Cond := [Cond.methodLink RX1 166 yX1_stickOrNull, Cond.instanceMethod yX1_stickOrNull, Cond.selects RX1 yX1_stickOrNull yX1_stickOrNull, Cond.code yX1_stickOrNull cX1_stickOrNull 2 (some (.object "RuneSticks$Stick")), Cond.fieldLink RX1 11 "RuneSticks" "sticks" "[LRuneSticks$Stick;", Cond.methodLink RX1 38 yX1_needNumbersLeft, Cond.instanceMethod yX1_needNumbersLeft, Cond.selects RX1 yX1_needNumbersLeft yX1_needNumbersLeft, Cond.code yX1_needNumbersLeft cX1_needNumbersLeft 2 none, Cond.methodLink RX1 42 yX0_init, Cond.instanceMethod yX0_init, Cond.code yX0_init cX0_init 2 none, Cond.methodLink RX0 3 objectInit, Cond.instanceMethod objectInit, Cond.code objectInit ⟨#[0xb1]⟩ 1 none, Cond.fieldLink RX0 9 "RuneSticks$Stick" "places" "I", Cond.fieldLink RX0 15 "RuneSticks$Stick" "up" "I", Cond.fieldLink RX0 18 "RuneSticks$Stick" "beginBreak" "I", Cond.fieldLink RX0 21 "RuneSticks$Stick" "endBreak" "I", Cond.fieldLink RX0 24 "RuneSticks$Stick" "gone" "Z", Cond.arrayClass .int, Cond.fieldLink RX0 28 "RuneSticks$Stick" "runes" "[I", Cond.fieldLink RX0 32 "RuneSticks$Stick" "bases" "[I", Cond.arrayClass .boolean]
def wsL_make_r3 : List Cond := [Cond.fieldLink RX0 35 "RuneSticks$Stick" "glued" "[Z", Cond.methodLink RX0 39 yJ7_fill_53178, Cond.static yJ7_fill_53178, Cond.initialized RJ7, Cond.code yJ7_fill_53178 cJ7_fill_53178 4 none, Cond.methodLink RX1 44 yX1_put, Cond.instanceMethod yX1_put, Cond.selects RX1 yX1_put yX1_put, Cond.code yX1_put cX1_put 3 (some .int)]
def wsL_make : List Cond := .codeWith yL_make cL_make 4 (some .int) [(0, 9, 12, 13), (0, 9, 15, 15)] :: ((wsL_make_r1 ++ (wsL_make_r2 ++ wsL_make_r3)) ++ wsX00 ++ wsX10 ++ (vx_atS RX1 26 "java/lang/IllegalArgumentException" ["java/lang/RuntimeException", "java/lang/Exception"]).filter goodWord ++ (vx_atS RX1 37 "java/lang/IllegalStateException" ["java/lang/RuntimeException", "java/lang/Exception"]).filter goodWord)
def wsL_carve_r1 : List Cond := [Cond.classLink RL 21 "java/lang/IndexOutOfBoundsException", Cond.classLink RL 13 "java/lang/IllegalArgumentException", Cond.classLink RL 15 "java/lang/IllegalStateException", Cond.methodLink RL 17 yX1_carve, Cond.instanceMethod yX1_carve, Cond.selects RX1 yX1_carve yX1_carve, Cond.initialized RX1, Cond.code yX1_carve cX1_carve 7 (some .int), Cond.methodLink RX1 48 yX1_known, Cond.instanceMethod yX1_known, Cond.selects RX1 yX1_known yX1_known, Cond.code yX1_known cX1_known 3 (some (.object "RuneSticks$Stick")), Cond.classLink RX1 107 "java/lang/IndexOutOfBoundsException", Cond.initialized "java/lang/IndexOutOfBoundsException", Cond.methodLink RX1 166 yX1_stickOrNull, Cond.instanceMethod yX1_stickOrNull, Cond.selects RX1 yX1_stickOrNull yX1_stickOrNull, Cond.code yX1_stickOrNull cX1_stickOrNull 2 (some (.object "RuneSticks$Stick")), Cond.fieldLink RX1 11 "RuneSticks" "sticks" "[LRuneSticks$Stick;", Cond.methodLink RX1 52 yX1_needPlace, Cond.static yX1_needPlace, Cond.code yX1_needPlace cX1_needPlace 3 none, Cond.methodLink RX1 179 yX0_hasPlace, Cond.instanceMethod yX0_hasPlace]
def wsL_carve_r2 : List Cond := [Cond.selects RX0 yX0_hasPlace yX0_hasPlace, Cond.initialized RX0, Cond.code yX0_hasPlace cX0_hasPlace 3 (some .boolean), Cond.fieldLink RX0 9 "RuneSticks$Stick" "places" "I", Cond.methodLink RX1 56 yX1_needRune, Cond.static yX1_needRune, Cond.code yX1_needRune cX1_needRune 1 none, Cond.classLink RX1 22 "java/lang/IllegalArgumentException", Cond.initialized "java/lang/IllegalArgumentException", Cond.methodLink RX1 59 yX1_needThere, Cond.static yX1_needThere, Cond.code yX1_needThere cX1_needThere 1 none, Cond.classLink RX1 33 "java/lang/IllegalStateException", Cond.initialized "java/lang/IllegalStateException", Cond.fieldLink RX1 126 "RuneSticks$Stick" "gone" "Z", Cond.methodLink RX1 63 yX0_runeAt, Cond.instanceMethod yX0_runeAt, Cond.selects RX0 yX0_runeAt yX0_runeAt, Cond.code yX0_runeAt cX0_runeAt 3 (some .int), Cond.fieldLink RX0 28 "RuneSticks$Stick" "runes" "[I", Cond.methodLink RX0 45 yX0_hasPlace, Cond.methodLink RX1 67 yX0_putRune, Cond.instanceMethod yX0_putRune, Cond.selects RX0 yX0_putRune yX0_putRune]
def wsL_carve_r3 : List Cond := [Cond.code yX0_putRune cX0_putRune 4 none]
def wsL_carve : List Cond := .codeWith yL_carve cL_carve 7 (some .int) [(0, 14, 17, 21), (0, 14, 21, 13), (0, 14, 25, 15)] :: ((wsL_carve_r1 ++ (wsL_carve_r2 ++ wsL_carve_r3)) ++ wsX10 ++ wsX00 ++ (vx_atS RX1 111 "java/lang/IndexOutOfBoundsException" ["java/lang/RuntimeException", "java/lang/Exception"]).filter goodWord ++ (vx_atS RX1 26 "java/lang/IllegalArgumentException" ["java/lang/RuntimeException", "java/lang/Exception"]).filter goodWord ++ (vx_atS RX1 37 "java/lang/IllegalStateException" ["java/lang/RuntimeException", "java/lang/Exception"]).filter goodWord)
def wsL_scrape_r1 : List Cond := [Cond.classLink RL 21 "java/lang/IndexOutOfBoundsException", Cond.classLink RL 15 "java/lang/IllegalStateException", Cond.methodLink RL 23 yX1_scrape, Cond.instanceMethod yX1_scrape, Cond.selects RX1 yX1_scrape yX1_scrape, Cond.initialized RX1, Cond.code yX1_scrape cX1_scrape 6 (some .int), Cond.classLink RX1 33 "java/lang/IllegalStateException", Cond.initialized "java/lang/IllegalStateException", Cond.methodLink RX1 48 yX1_known, Cond.instanceMethod yX1_known, Cond.selects RX1 yX1_known yX1_known, Cond.code yX1_known cX1_known 3 (some (.object "RuneSticks$Stick")), Cond.classLink RX1 107 "java/lang/IndexOutOfBoundsException", Cond.initialized "java/lang/IndexOutOfBoundsException", Cond.methodLink RX1 166 yX1_stickOrNull, Cond.instanceMethod yX1_stickOrNull, Cond.selects RX1 yX1_stickOrNull yX1_stickOrNull, Cond.code yX1_stickOrNull cX1_stickOrNull 2 (some (.object "RuneSticks$Stick")), Cond.fieldLink RX1 11 "RuneSticks" "sticks" "[LRuneSticks$Stick;", Cond.methodLink RX1 52 yX1_needPlace, Cond.static yX1_needPlace, Cond.code yX1_needPlace cX1_needPlace 3 none, Cond.methodLink RX1 179 yX0_hasPlace]
def wsL_scrape_r2 : List Cond := [Cond.instanceMethod yX0_hasPlace, Cond.selects RX0 yX0_hasPlace yX0_hasPlace, Cond.initialized RX0, Cond.code yX0_hasPlace cX0_hasPlace 3 (some .boolean), Cond.fieldLink RX0 9 "RuneSticks$Stick" "places" "I", Cond.methodLink RX1 59 yX1_needThere, Cond.static yX1_needThere, Cond.code yX1_needThere cX1_needThere 1 none, Cond.fieldLink RX1 126 "RuneSticks$Stick" "gone" "Z", Cond.methodLink RX1 63 yX0_runeAt, Cond.instanceMethod yX0_runeAt, Cond.selects RX0 yX0_runeAt yX0_runeAt, Cond.code yX0_runeAt cX0_runeAt 3 (some .int), Cond.fieldLink RX0 28 "RuneSticks$Stick" "runes" "[I", Cond.methodLink RX0 45 yX0_hasPlace, Cond.methodLink RX1 67 yX0_putRune, Cond.instanceMethod yX0_putRune, Cond.selects RX0 yX0_putRune yX0_putRune, Cond.code yX0_putRune cX0_putRune 4 none]
def wsL_scrape : List Cond := .codeWith yL_scrape cL_scrape 6 (some .int) [(0, 12, 15, 21), (0, 12, 19, 15)] :: ((wsL_scrape_r1 ++ wsL_scrape_r2) ++ wsX10 ++ wsX00 ++ (vx_atS RX1 37 "java/lang/IllegalStateException" ["java/lang/RuntimeException", "java/lang/Exception"]).filter goodWord ++ (vx_atS RX1 111 "java/lang/IndexOutOfBoundsException" ["java/lang/RuntimeException", "java/lang/Exception"]).filter goodWord)
def wsL_roll_r1 : List Cond := [Cond.classLink RL 21 "java/lang/IndexOutOfBoundsException", Cond.classLink RL 13 "java/lang/IllegalArgumentException", Cond.classLink RL 15 "java/lang/IllegalStateException", Cond.methodLink RL 27 yX1_roll, Cond.instanceMethod yX1_roll, Cond.selects RX1 yX1_roll yX1_roll, Cond.initialized RX1, Cond.code yX1_roll cX1_roll 4 (some .int), Cond.classLink RX1 22 "java/lang/IllegalArgumentException", Cond.initialized "java/lang/IllegalArgumentException", Cond.fieldLink RX1 75 "RuneSticks$Stick" "up" "I", Cond.methodLink RX1 48 yX1_known, Cond.instanceMethod yX1_known, Cond.selects RX1 yX1_known yX1_known, Cond.code yX1_known cX1_known 3 (some (.object "RuneSticks$Stick")), Cond.classLink RX1 107 "java/lang/IndexOutOfBoundsException", Cond.initialized "java/lang/IndexOutOfBoundsException", Cond.methodLink RX1 166 yX1_stickOrNull, Cond.instanceMethod yX1_stickOrNull, Cond.selects RX1 yX1_stickOrNull yX1_stickOrNull, Cond.code yX1_stickOrNull cX1_stickOrNull 2 (some (.object "RuneSticks$Stick")), Cond.fieldLink RX1 11 "RuneSticks" "sticks" "[LRuneSticks$Stick;", Cond.methodLink RX1 59 yX1_needThere, Cond.static yX1_needThere]
def wsL_roll_r2 : List Cond := [Cond.code yX1_needThere cX1_needThere 1 none, Cond.classLink RX1 33 "java/lang/IllegalStateException", Cond.initialized "java/lang/IllegalStateException", Cond.fieldLink RX1 126 "RuneSticks$Stick" "gone" "Z"]
def wsL_roll : List Cond := .codeWith yL_roll cL_roll 5 (some .int) [(0, 10, 13, 21), (0, 10, 17, 13), (0, 10, 21, 15)] :: ((wsL_roll_r1 ++ wsL_roll_r2) ++ wsX00 ++ wsX10 ++ (vx_atS RX1 26 "java/lang/IllegalArgumentException" ["java/lang/RuntimeException", "java/lang/Exception"]).filter goodWord ++ (vx_atS RX1 111 "java/lang/IndexOutOfBoundsException" ["java/lang/RuntimeException", "java/lang/Exception"]).filter goodWord ++ (vx_atS RX1 37 "java/lang/IllegalStateException" ["java/lang/RuntimeException", "java/lang/Exception"]).filter goodWord)
def wsL_bend_r1 : List Cond := [Cond.classLink RL 21 "java/lang/IndexOutOfBoundsException", Cond.classLink RL 13 "java/lang/IllegalArgumentException", Cond.classLink RL 15 "java/lang/IllegalStateException", Cond.methodLink RL 31 yX1_bend, Cond.instanceMethod yX1_bend, Cond.selects RX1 yX1_bend yX1_bend, Cond.initialized RX1, Cond.code yX1_bend cX1_bend 5 (some .int), Cond.classLink RX1 33 "java/lang/IllegalStateException", Cond.initialized "java/lang/IllegalStateException", Cond.methodLink RX1 48 yX1_known, Cond.instanceMethod yX1_known, Cond.selects RX1 yX1_known yX1_known, Cond.code yX1_known cX1_known 3 (some (.object "RuneSticks$Stick")), Cond.classLink RX1 107 "java/lang/IndexOutOfBoundsException", Cond.initialized "java/lang/IndexOutOfBoundsException", Cond.methodLink RX1 166 yX1_stickOrNull, Cond.instanceMethod yX1_stickOrNull, Cond.selects RX1 yX1_stickOrNull yX1_stickOrNull, Cond.code yX1_stickOrNull cX1_stickOrNull 2 (some (.object "RuneSticks$Stick")), Cond.fieldLink RX1 11 "RuneSticks" "sticks" "[LRuneSticks$Stick;", Cond.methodLink RX1 78 yX1_needForce, Cond.static yX1_needForce, Cond.code yX1_needForce cX1_needForce 1 none]
def wsL_bend_r2 : List Cond := [Cond.classLink RX1 22 "java/lang/IllegalArgumentException", Cond.initialized "java/lang/IllegalArgumentException", Cond.methodLink RX1 59 yX1_needThere, Cond.static yX1_needThere, Cond.code yX1_needThere cX1_needThere 1 none, Cond.fieldLink RX1 126 "RuneSticks$Stick" "gone" "Z", Cond.methodLink RX1 81 yX0_firstWeakestJoint, Cond.instanceMethod yX0_firstWeakestJoint, Cond.selects RX0 yX0_firstWeakestJoint yX0_firstWeakestJoint, Cond.initialized RX0, Cond.code yX0_firstWeakestJoint cX0_firstWeakestJoint 3 (some .int), Cond.fieldLink RX0 9 "RuneSticks$Stick" "places" "I", Cond.methodLink RX0 87 yX0_strengthAt, Cond.instanceMethod yX0_strengthAt, Cond.selects RX0 yX0_strengthAt yX0_strengthAt, Cond.code yX0_strengthAt cX0_strengthAt 2 (some .int), Cond.methodLink RX0 82 Lib.Math.max.name, Cond.static Lib.Math.max.name, Cond.initialized "java/lang/Math", Cond.code Lib.Math.max.name Lib.Math.max.code 2 (some .int), Cond.methodLink RX0 61 yX0_baseAt, Cond.instanceMethod yX0_baseAt, Cond.selects RX0 yX0_baseAt yX0_baseAt, Cond.code yX0_baseAt cX0_baseAt 2 (some .int)]
def wsL_bend_r3 : List Cond := [Cond.fieldLink RX0 32 "RuneSticks$Stick" "bases" "[I", Cond.methodLink RX0 49 yX0_hasJoint, Cond.instanceMethod yX0_hasJoint, Cond.selects RX0 yX0_hasJoint yX0_hasJoint, Cond.code yX0_hasJoint cX0_hasJoint 2 (some .boolean), Cond.methodLink RX0 79 yX0_runesAtPlace, Cond.instanceMethod yX0_runesAtPlace, Cond.selects RX0 yX0_runesAtPlace yX0_runesAtPlace, Cond.code yX0_runesAtPlace cX0_runesAtPlace 4 (some .int), Cond.methodLink RX0 53 yX0_runeAt, Cond.instanceMethod yX0_runeAt, Cond.selects RX0 yX0_runeAt yX0_runeAt, Cond.code yX0_runeAt cX0_runeAt 3 (some .int), Cond.fieldLink RX0 28 "RuneSticks$Stick" "runes" "[I", Cond.methodLink RX0 45 yX0_hasPlace, Cond.instanceMethod yX0_hasPlace, Cond.selects RX0 yX0_hasPlace yX0_hasPlace, Cond.code yX0_hasPlace cX0_hasPlace 3 (some .boolean), Cond.methodLink RX1 84 yX0_strengthAt, Cond.methodLink RX1 29 yX1_howManyThere, Cond.instanceMethod yX1_howManyThere, Cond.selects RX1 yX1_howManyThere yX1_howManyThere, Cond.code yX1_howManyThere cX1_howManyThere 3 (some .int), Cond.fieldLink RX1 15 "RuneSticks" "made" "I"]
def wsL_bend_r4 : List Cond := [Cond.methodLink RX1 156 yX1_thereOrNull, Cond.instanceMethod yX1_thereOrNull, Cond.selects RX1 yX1_thereOrNull yX1_thereOrNull, Cond.code yX1_thereOrNull cX1_thereOrNull 3 (some (.object "RuneSticks$Stick")), Cond.methodLink RX1 38 yX1_needNumbersLeft, Cond.instanceMethod yX1_needNumbersLeft, Cond.selects RX1 yX1_needNumbersLeft yX1_needNumbersLeft, Cond.code yX1_needNumbersLeft cX1_needNumbersLeft 2 none, Cond.methodLink RX1 88 yX1_breakAt, Cond.instanceMethod yX1_breakAt, Cond.selects RX1 yX1_breakAt yX1_breakAt, Cond.code yX1_breakAt cX1_breakAt 7 (some .int), Cond.classLink RX1 9 RX0, Cond.instantiable RX0 8, Cond.fieldLink RX1 75 "RuneSticks$Stick" "up" "I", Cond.fieldLink RX1 195 "RuneSticks$Stick" "beginBreak" "I", Cond.fieldLink RX1 19 "RuneSticks" "breaks" "I", Cond.fieldLink RX1 198 "RuneSticks$Stick" "endBreak" "I", Cond.fieldLink RX1 98 "RuneSticks$Stick" "places" "I", Cond.methodLink RX1 42 yX0_init, Cond.instanceMethod yX0_init, Cond.code yX0_init cX0_init 2 none, Cond.methodLink RX0 3 objectInit, Cond.instanceMethod objectInit]
def wsL_bend_r5 : List Cond := [Cond.code objectInit ⟨#[0xb1]⟩ 1 none, Cond.fieldLink RX0 15 "RuneSticks$Stick" "up" "I", Cond.fieldLink RX0 18 "RuneSticks$Stick" "beginBreak" "I", Cond.fieldLink RX0 21 "RuneSticks$Stick" "endBreak" "I", Cond.fieldLink RX0 24 "RuneSticks$Stick" "gone" "Z", Cond.arrayClass .int, Cond.arrayClass .boolean, Cond.fieldLink RX0 35 "RuneSticks$Stick" "glued" "[Z", Cond.methodLink RX0 39 yJ7_fill_53178, Cond.static yJ7_fill_53178, Cond.initialized RJ7, Cond.code yJ7_fill_53178 cJ7_fill_53178 4 none, Cond.methodLink RX1 191 yX0_takePlaces, Cond.instanceMethod yX0_takePlaces, Cond.selects RX0 yX0_takePlaces yX0_takePlaces, Cond.code yX0_takePlaces cX0_takePlaces 8 none, Cond.methodLink RX0 57 yX0_putRune, Cond.instanceMethod yX0_putRune, Cond.selects RX0 yX0_putRune yX0_putRune, Cond.code yX0_putRune cX0_putRune 4 none, Cond.methodLink RX0 65 yX0_gluedAt, Cond.instanceMethod yX0_gluedAt, Cond.selects RX0 yX0_gluedAt yX0_gluedAt, Cond.code yX0_gluedAt cX0_gluedAt 2 (some .boolean)]
def wsL_bend_r6 : List Cond := [Cond.methodLink RX0 68 yX0_putJoint, Cond.instanceMethod yX0_putJoint, Cond.selects RX0 yX0_putJoint yX0_putJoint, Cond.code yX0_putJoint cX0_putJoint 4 none, Cond.methodLink RX1 44 yX1_put, Cond.instanceMethod yX1_put, Cond.selects RX1 yX1_put yX1_put, Cond.code yX1_put cX1_put 3 (some .int)]
def wsL_bend : List Cond := .codeWith yL_bend cL_bend 5 (some .int) [(0, 10, 13, 21), (0, 10, 17, 13), (0, 10, 21, 15)] :: ((wsL_bend_r1 ++ (wsL_bend_r2 ++ (wsL_bend_r3 ++ (wsL_bend_r4 ++ (wsL_bend_r5 ++ wsL_bend_r6))))) ++ wsX10 ++ wsX00 ++ (vx_atS RX1 37 "java/lang/IllegalStateException" ["java/lang/RuntimeException", "java/lang/Exception"]).filter goodWord ++ (vx_atS RX1 111 "java/lang/IndexOutOfBoundsException" ["java/lang/RuntimeException", "java/lang/Exception"]).filter goodWord ++ (vx_atS RX1 26 "java/lang/IllegalArgumentException" ["java/lang/RuntimeException", "java/lang/Exception"]).filter goodWord)
def wsL_glue_r1 : List Cond := [Cond.classLink RL 21 "java/lang/IndexOutOfBoundsException", Cond.classLink RL 13 "java/lang/IllegalArgumentException", Cond.classLink RL 15 "java/lang/IllegalStateException", Cond.methodLink RL 34 yX1_glue, Cond.instanceMethod yX1_glue, Cond.selects RX1 yX1_glue yX1_glue, Cond.initialized RX1, Cond.code yX1_glue cX1_glue 7 (some .int), Cond.classLink RX1 22 "java/lang/IllegalArgumentException", Cond.initialized "java/lang/IllegalArgumentException", Cond.classLink RX1 33 "java/lang/IllegalStateException", Cond.initialized "java/lang/IllegalStateException", Cond.fieldLink RX1 98 "RuneSticks$Stick" "places" "I", Cond.methodLink RX1 48 yX1_known, Cond.instanceMethod yX1_known, Cond.selects RX1 yX1_known yX1_known, Cond.code yX1_known cX1_known 3 (some (.object "RuneSticks$Stick")), Cond.classLink RX1 107 "java/lang/IndexOutOfBoundsException", Cond.initialized "java/lang/IndexOutOfBoundsException", Cond.methodLink RX1 166 yX1_stickOrNull, Cond.instanceMethod yX1_stickOrNull, Cond.selects RX1 yX1_stickOrNull yX1_stickOrNull, Cond.code yX1_stickOrNull cX1_stickOrNull 2 (some (.object "RuneSticks$Stick")), Cond.fieldLink RX1 11 "RuneSticks" "sticks" "[LRuneSticks$Stick;"]
def wsL_glue_r2 : List Cond := [Cond.methodLink RX1 59 yX1_needThere, Cond.static yX1_needThere, Cond.code yX1_needThere cX1_needThere 1 none, Cond.fieldLink RX1 126 "RuneSticks$Stick" "gone" "Z", Cond.methodLink RX1 38 yX1_needNumbersLeft, Cond.instanceMethod yX1_needNumbersLeft, Cond.selects RX1 yX1_needNumbersLeft yX1_needNumbersLeft, Cond.code yX1_needNumbersLeft cX1_needNumbersLeft 2 none, Cond.fieldLink RX1 15 "RuneSticks" "made" "I", Cond.methodLink RX1 103 yX1_joinBoth, Cond.instanceMethod yX1_joinBoth, Cond.selects RX1 yX1_joinBoth yX1_joinBoth, Cond.code yX1_joinBoth cX1_joinBoth 7 (some .int), Cond.classLink RX1 9 RX0, Cond.instantiable RX0 8, Cond.initialized RX0, Cond.fieldLink RX1 75 "RuneSticks$Stick" "up" "I", Cond.fieldLink RX1 195 "RuneSticks$Stick" "beginBreak" "I", Cond.fieldLink RX1 198 "RuneSticks$Stick" "endBreak" "I", Cond.methodLink RX1 130 yX0_fitsAheadOf, Cond.instanceMethod yX0_fitsAheadOf, Cond.selects RX0 yX0_fitsAheadOf yX0_fitsAheadOf, Cond.code yX0_fitsAheadOf cX0_fitsAheadOf 2 (some .boolean), Cond.fieldLink RX0 21 "RuneSticks$Stick" "endBreak" "I"]
def wsL_glue_r3 : List Cond := [Cond.fieldLink RX0 18 "RuneSticks$Stick" "beginBreak" "I", Cond.methodLink RX1 42 yX0_init, Cond.instanceMethod yX0_init, Cond.code yX0_init cX0_init 2 none, Cond.methodLink RX0 3 objectInit, Cond.instanceMethod objectInit, Cond.code objectInit ⟨#[0xb1]⟩ 1 none, Cond.fieldLink RX0 9 "RuneSticks$Stick" "places" "I", Cond.fieldLink RX0 15 "RuneSticks$Stick" "up" "I", Cond.fieldLink RX0 24 "RuneSticks$Stick" "gone" "Z", Cond.arrayClass .int, Cond.fieldLink RX0 28 "RuneSticks$Stick" "runes" "[I", Cond.fieldLink RX0 32 "RuneSticks$Stick" "bases" "[I", Cond.arrayClass .boolean, Cond.fieldLink RX0 35 "RuneSticks$Stick" "glued" "[Z", Cond.methodLink RX0 39 yJ7_fill_53178, Cond.static yJ7_fill_53178, Cond.initialized RJ7, Cond.code yJ7_fill_53178 cJ7_fill_53178 4 none, Cond.methodLink RX1 191 yX0_takePlaces, Cond.instanceMethod yX0_takePlaces, Cond.selects RX0 yX0_takePlaces yX0_takePlaces, Cond.code yX0_takePlaces cX0_takePlaces 8 none, Cond.methodLink RX0 53 yX0_runeAt]
def wsL_glue_r4 : List Cond := [Cond.instanceMethod yX0_runeAt, Cond.selects RX0 yX0_runeAt yX0_runeAt, Cond.code yX0_runeAt cX0_runeAt 3 (some .int), Cond.methodLink RX0 45 yX0_hasPlace, Cond.instanceMethod yX0_hasPlace, Cond.selects RX0 yX0_hasPlace yX0_hasPlace, Cond.code yX0_hasPlace cX0_hasPlace 3 (some .boolean), Cond.methodLink RX0 57 yX0_putRune, Cond.instanceMethod yX0_putRune, Cond.selects RX0 yX0_putRune yX0_putRune, Cond.code yX0_putRune cX0_putRune 4 none, Cond.methodLink RX0 61 yX0_baseAt, Cond.instanceMethod yX0_baseAt, Cond.selects RX0 yX0_baseAt yX0_baseAt, Cond.code yX0_baseAt cX0_baseAt 2 (some .int), Cond.methodLink RX0 49 yX0_hasJoint, Cond.instanceMethod yX0_hasJoint, Cond.selects RX0 yX0_hasJoint yX0_hasJoint, Cond.code yX0_hasJoint cX0_hasJoint 2 (some .boolean), Cond.methodLink RX0 65 yX0_gluedAt, Cond.instanceMethod yX0_gluedAt, Cond.selects RX0 yX0_gluedAt yX0_gluedAt, Cond.code yX0_gluedAt cX0_gluedAt 2 (some .boolean), Cond.methodLink RX0 68 yX0_putJoint]
def wsL_glue_r5 : List Cond := [Cond.instanceMethod yX0_putJoint, Cond.selects RX0 yX0_putJoint yX0_putJoint, Cond.code yX0_putJoint cX0_putJoint 4 none, Cond.methodLink RX1 201 yX0_putJoint, Cond.methodLink RX1 44 yX1_put, Cond.instanceMethod yX1_put, Cond.selects RX1 yX1_put yX1_put, Cond.code yX1_put cX1_put 3 (some .int)]
def wsL_glue : List Cond := .codeWith yL_glue cL_glue 7 (some .int) [(0, 14, 17, 21), (0, 14, 21, 13), (0, 14, 25, 15)] :: ((wsL_glue_r1 ++ (wsL_glue_r2 ++ (wsL_glue_r3 ++ (wsL_glue_r4 ++ wsL_glue_r5)))) ++ wsX00 ++ wsX10 ++ (vx_atS RX1 26 "java/lang/IllegalArgumentException" ["java/lang/RuntimeException", "java/lang/Exception"]).filter goodWord ++ (vx_atS RX1 37 "java/lang/IllegalStateException" ["java/lang/RuntimeException", "java/lang/Exception"]).filter goodWord ++ (vx_atS RX1 111 "java/lang/IndexOutOfBoundsException" ["java/lang/RuntimeException", "java/lang/Exception"]).filter goodWord)
def wsL_stick_r1 : List Cond := [Cond.classLink RL 21 "java/lang/IndexOutOfBoundsException", Cond.methodLink RL 37 yX1_stick, Cond.instanceMethod yX1_stick, Cond.selects RX1 yX1_stick yX1_stick, Cond.initialized RX1, Cond.code yX1_stick cX1_stick 4 (some .int), Cond.classLink RX1 107 "java/lang/IndexOutOfBoundsException", Cond.initialized "java/lang/IndexOutOfBoundsException", Cond.methodLink RX1 48 yX1_known, Cond.instanceMethod yX1_known, Cond.selects RX1 yX1_known yX1_known, Cond.code yX1_known cX1_known 3 (some (.object "RuneSticks$Stick")), Cond.methodLink RX1 166 yX1_stickOrNull, Cond.instanceMethod yX1_stickOrNull, Cond.selects RX1 yX1_stickOrNull yX1_stickOrNull, Cond.code yX1_stickOrNull cX1_stickOrNull 2 (some (.object "RuneSticks$Stick")), Cond.fieldLink RX1 11 "RuneSticks" "sticks" "[LRuneSticks$Stick;", Cond.methodLink RX1 112 yX0_factAt, Cond.instanceMethod yX0_factAt, Cond.selects RX0 yX0_factAt yX0_factAt, Cond.initialized RX0, Cond.code yX0_factAt cX0_factAt 2 (some .int), Cond.fieldLink RX0 9 "RuneSticks$Stick" "places" "I", Cond.fieldLink RX0 15 "RuneSticks$Stick" "up" "I"]
def wsL_stick_r2 : List Cond := [Cond.fieldLink RX0 18 "RuneSticks$Stick" "beginBreak" "I", Cond.fieldLink RX0 21 "RuneSticks$Stick" "endBreak" "I", Cond.fieldLink RX0 24 "RuneSticks$Stick" "gone" "Z", Cond.methodLink RX0 72 yX0_runesInAll, Cond.instanceMethod yX0_runesInAll, Cond.selects RX0 yX0_runesInAll yX0_runesInAll, Cond.code yX0_runesInAll cX0_runesInAll 3 (some .int), Cond.methodLink RX0 79 yX0_runesAtPlace, Cond.instanceMethod yX0_runesAtPlace, Cond.selects RX0 yX0_runesAtPlace yX0_runesAtPlace, Cond.code yX0_runesAtPlace cX0_runesAtPlace 4 (some .int), Cond.methodLink RX0 53 yX0_runeAt, Cond.instanceMethod yX0_runeAt, Cond.selects RX0 yX0_runeAt yX0_runeAt, Cond.code yX0_runeAt cX0_runeAt 3 (some .int), Cond.fieldLink RX0 28 "RuneSticks$Stick" "runes" "[I", Cond.methodLink RX0 45 yX0_hasPlace, Cond.instanceMethod yX0_hasPlace, Cond.selects RX0 yX0_hasPlace yX0_hasPlace, Cond.code yX0_hasPlace cX0_hasPlace 3 (some .boolean), Cond.methodLink RX0 76 yX0_gluedJoints, Cond.instanceMethod yX0_gluedJoints, Cond.selects RX0 yX0_gluedJoints yX0_gluedJoints, Cond.code yX0_gluedJoints cX0_gluedJoints 3 (some .int)]
def wsL_stick_r3 : List Cond := [Cond.methodLink RX0 65 yX0_gluedAt, Cond.instanceMethod yX0_gluedAt, Cond.selects RX0 yX0_gluedAt yX0_gluedAt, Cond.code yX0_gluedAt cX0_gluedAt 2 (some .boolean), Cond.fieldLink RX0 35 "RuneSticks$Stick" "glued" "[Z", Cond.methodLink RX0 49 yX0_hasJoint, Cond.instanceMethod yX0_hasJoint, Cond.selects RX0 yX0_hasJoint yX0_hasJoint, Cond.code yX0_hasJoint cX0_hasJoint 2 (some .boolean)]
def wsL_stick : List Cond := .codeWith yL_stick cL_stick 5 (some .int) [(0, 10, 13, 21)] :: ((wsL_stick_r1 ++ (wsL_stick_r2 ++ wsL_stick_r3)) ++ wsX10 ++ wsX00 ++ (vx_atS RX1 111 "java/lang/IndexOutOfBoundsException" ["java/lang/RuntimeException", "java/lang/Exception"]).filter goodWord)
def wsL_rune_r1 : List Cond := [Cond.classLink RL 21 "java/lang/IndexOutOfBoundsException", Cond.methodLink RL 40 yX1_rune, Cond.instanceMethod yX1_rune, Cond.selects RX1 yX1_rune yX1_rune, Cond.initialized RX1, Cond.code yX1_rune cX1_rune 5 (some .int), Cond.methodLink RX1 48 yX1_known, Cond.instanceMethod yX1_known, Cond.selects RX1 yX1_known yX1_known, Cond.code yX1_known cX1_known 3 (some (.object "RuneSticks$Stick")), Cond.classLink RX1 107 "java/lang/IndexOutOfBoundsException", Cond.initialized "java/lang/IndexOutOfBoundsException", Cond.methodLink RX1 166 yX1_stickOrNull, Cond.instanceMethod yX1_stickOrNull, Cond.selects RX1 yX1_stickOrNull yX1_stickOrNull, Cond.code yX1_stickOrNull cX1_stickOrNull 2 (some (.object "RuneSticks$Stick")), Cond.fieldLink RX1 11 "RuneSticks" "sticks" "[LRuneSticks$Stick;", Cond.methodLink RX1 52 yX1_needPlace, Cond.static yX1_needPlace, Cond.code yX1_needPlace cX1_needPlace 3 none, Cond.methodLink RX1 179 yX0_hasPlace, Cond.instanceMethod yX0_hasPlace, Cond.selects RX0 yX0_hasPlace yX0_hasPlace, Cond.initialized RX0]
def wsL_rune_r2 : List Cond := [Cond.code yX0_hasPlace cX0_hasPlace 3 (some .boolean), Cond.fieldLink RX0 9 "RuneSticks$Stick" "places" "I", Cond.methodLink RX1 63 yX0_runeAt, Cond.instanceMethod yX0_runeAt, Cond.selects RX0 yX0_runeAt yX0_runeAt, Cond.code yX0_runeAt cX0_runeAt 3 (some .int), Cond.fieldLink RX0 28 "RuneSticks$Stick" "runes" "[I", Cond.methodLink RX0 45 yX0_hasPlace]
def wsL_rune : List Cond := .codeWith yL_rune cL_rune 6 (some .int) [(0, 12, 15, 21)] :: ((wsL_rune_r1 ++ wsL_rune_r2) ++ wsX10 ++ wsX00 ++ (vx_atS RX1 111 "java/lang/IndexOutOfBoundsException" ["java/lang/RuntimeException", "java/lang/Exception"]).filter goodWord)
def wsL_strength_r1 : List Cond := [Cond.classLink RL 21 "java/lang/IndexOutOfBoundsException", Cond.methodLink RL 43 yX1_strength, Cond.instanceMethod yX1_strength, Cond.selects RX1 yX1_strength yX1_strength, Cond.initialized RX1, Cond.code yX1_strength cX1_strength 4 (some .int), Cond.classLink RX1 107 "java/lang/IndexOutOfBoundsException", Cond.initialized "java/lang/IndexOutOfBoundsException", Cond.methodLink RX1 48 yX1_known, Cond.instanceMethod yX1_known, Cond.selects RX1 yX1_known yX1_known, Cond.code yX1_known cX1_known 3 (some (.object "RuneSticks$Stick")), Cond.methodLink RX1 166 yX1_stickOrNull, Cond.instanceMethod yX1_stickOrNull, Cond.selects RX1 yX1_stickOrNull yX1_stickOrNull, Cond.code yX1_stickOrNull cX1_stickOrNull 2 (some (.object "RuneSticks$Stick")), Cond.fieldLink RX1 11 "RuneSticks" "sticks" "[LRuneSticks$Stick;", Cond.methodLink RX1 115 yX0_hasJoint, Cond.instanceMethod yX0_hasJoint, Cond.selects RX0 yX0_hasJoint yX0_hasJoint, Cond.initialized RX0, Cond.code yX0_hasJoint cX0_hasJoint 2 (some .boolean), Cond.fieldLink RX0 9 "RuneSticks$Stick" "places" "I", Cond.methodLink RX1 84 yX0_strengthAt]
def wsL_strength_r2 : List Cond := [Cond.instanceMethod yX0_strengthAt, Cond.selects RX0 yX0_strengthAt yX0_strengthAt, Cond.code yX0_strengthAt cX0_strengthAt 2 (some .int), Cond.methodLink RX0 82 Lib.Math.max.name, Cond.static Lib.Math.max.name, Cond.initialized "java/lang/Math", Cond.code Lib.Math.max.name Lib.Math.max.code 2 (some .int), Cond.methodLink RX0 61 yX0_baseAt, Cond.instanceMethod yX0_baseAt, Cond.selects RX0 yX0_baseAt yX0_baseAt, Cond.code yX0_baseAt cX0_baseAt 2 (some .int), Cond.fieldLink RX0 32 "RuneSticks$Stick" "bases" "[I", Cond.methodLink RX0 49 yX0_hasJoint, Cond.methodLink RX0 79 yX0_runesAtPlace, Cond.instanceMethod yX0_runesAtPlace, Cond.selects RX0 yX0_runesAtPlace yX0_runesAtPlace, Cond.code yX0_runesAtPlace cX0_runesAtPlace 4 (some .int), Cond.methodLink RX0 53 yX0_runeAt, Cond.instanceMethod yX0_runeAt, Cond.selects RX0 yX0_runeAt yX0_runeAt, Cond.code yX0_runeAt cX0_runeAt 3 (some .int), Cond.fieldLink RX0 28 "RuneSticks$Stick" "runes" "[I", Cond.methodLink RX0 45 yX0_hasPlace, Cond.instanceMethod yX0_hasPlace]
def wsL_strength_r3 : List Cond := [Cond.selects RX0 yX0_hasPlace yX0_hasPlace, Cond.code yX0_hasPlace cX0_hasPlace 3 (some .boolean)]
def wsL_strength : List Cond := .codeWith yL_strength cL_strength 5 (some .int) [(0, 10, 13, 21)] :: ((wsL_strength_r1 ++ (wsL_strength_r2 ++ wsL_strength_r3)) ++ wsX10 ++ wsX00 ++ (vx_atS RX1 111 "java/lang/IndexOutOfBoundsException" ["java/lang/RuntimeException", "java/lang/Exception"]).filter goodWord)
def wsL_count_r1 : List Cond := [Cond.classLink RL 21 "java/lang/IndexOutOfBoundsException", Cond.methodLink RL 46 yX1_count, Cond.instanceMethod yX1_count, Cond.selects RX1 yX1_count yX1_count, Cond.initialized RX1, Cond.code yX1_count cX1_count 2 (some .int), Cond.classLink RX1 107 "java/lang/IndexOutOfBoundsException", Cond.initialized "java/lang/IndexOutOfBoundsException", Cond.methodLink RX1 123 yX1_total, Cond.instanceMethod yX1_total, Cond.selects RX1 yX1_total yX1_total, Cond.code yX1_total cX1_total 2 (some .int), Cond.fieldLink RX1 15 "RuneSticks" "made" "I", Cond.fieldLink RX1 19 "RuneSticks" "breaks" "I", Cond.methodLink RX1 29 yX1_howManyThere, Cond.instanceMethod yX1_howManyThere, Cond.selects RX1 yX1_howManyThere yX1_howManyThere, Cond.code yX1_howManyThere cX1_howManyThere 3 (some .int), Cond.methodLink RX1 156 yX1_thereOrNull, Cond.instanceMethod yX1_thereOrNull, Cond.selects RX1 yX1_thereOrNull yX1_thereOrNull, Cond.code yX1_thereOrNull cX1_thereOrNull 3 (some (.object "RuneSticks$Stick")), Cond.fieldLink RX1 126 "RuneSticks$Stick" "gone" "Z", Cond.methodLink RX1 166 yX1_stickOrNull]
def wsL_count_r2 : List Cond := [Cond.instanceMethod yX1_stickOrNull, Cond.selects RX1 yX1_stickOrNull yX1_stickOrNull, Cond.code yX1_stickOrNull cX1_stickOrNull 2 (some (.object "RuneSticks$Stick")), Cond.fieldLink RX1 11 "RuneSticks" "sticks" "[LRuneSticks$Stick;", Cond.methodLink RX1 159 yX1_sumThere, Cond.instanceMethod yX1_sumThere, Cond.selects RX1 yX1_sumThere yX1_sumThere, Cond.code yX1_sumThere cX1_sumThere 5 (some .int), Cond.methodLink RX1 112 yX0_factAt, Cond.instanceMethod yX0_factAt, Cond.selects RX0 yX0_factAt yX0_factAt, Cond.initialized RX0, Cond.code yX0_factAt cX0_factAt 2 (some .int), Cond.fieldLink RX0 9 "RuneSticks$Stick" "places" "I", Cond.fieldLink RX0 15 "RuneSticks$Stick" "up" "I", Cond.fieldLink RX0 18 "RuneSticks$Stick" "beginBreak" "I", Cond.fieldLink RX0 21 "RuneSticks$Stick" "endBreak" "I", Cond.fieldLink RX0 24 "RuneSticks$Stick" "gone" "Z", Cond.methodLink RX0 72 yX0_runesInAll, Cond.instanceMethod yX0_runesInAll, Cond.selects RX0 yX0_runesInAll yX0_runesInAll, Cond.code yX0_runesInAll cX0_runesInAll 3 (some .int), Cond.methodLink RX0 79 yX0_runesAtPlace, Cond.instanceMethod yX0_runesAtPlace]
def wsL_count_r3 : List Cond := [Cond.selects RX0 yX0_runesAtPlace yX0_runesAtPlace, Cond.code yX0_runesAtPlace cX0_runesAtPlace 4 (some .int), Cond.methodLink RX0 53 yX0_runeAt, Cond.instanceMethod yX0_runeAt, Cond.selects RX0 yX0_runeAt yX0_runeAt, Cond.code yX0_runeAt cX0_runeAt 3 (some .int), Cond.fieldLink RX0 28 "RuneSticks$Stick" "runes" "[I", Cond.methodLink RX0 45 yX0_hasPlace, Cond.instanceMethod yX0_hasPlace, Cond.selects RX0 yX0_hasPlace yX0_hasPlace, Cond.code yX0_hasPlace cX0_hasPlace 3 (some .boolean), Cond.methodLink RX0 76 yX0_gluedJoints, Cond.instanceMethod yX0_gluedJoints, Cond.selects RX0 yX0_gluedJoints yX0_gluedJoints, Cond.code yX0_gluedJoints cX0_gluedJoints 3 (some .int), Cond.methodLink RX0 65 yX0_gluedAt, Cond.instanceMethod yX0_gluedAt, Cond.selects RX0 yX0_gluedAt yX0_gluedAt, Cond.code yX0_gluedAt cX0_gluedAt 2 (some .boolean), Cond.fieldLink RX0 35 "RuneSticks$Stick" "glued" "[Z", Cond.methodLink RX0 49 yX0_hasJoint, Cond.instanceMethod yX0_hasJoint, Cond.selects RX0 yX0_hasJoint yX0_hasJoint, Cond.code yX0_hasJoint cX0_hasJoint 2 (some .boolean)]
def wsL_count_r4 : List Cond := [Cond.methodLink RX1 205 yX1_fittingPairs, Cond.instanceMethod yX1_fittingPairs, Cond.selects RX1 yX1_fittingPairs yX1_fittingPairs, Cond.code yX1_fittingPairs cX1_fittingPairs 4 (some .int), Cond.methodLink RX1 208 yX1_fittingBehind, Cond.instanceMethod yX1_fittingBehind, Cond.selects RX1 yX1_fittingBehind yX1_fittingBehind, Cond.code yX1_fittingBehind cX1_fittingBehind 5 (some .int), Cond.methodLink RX1 130 yX0_fitsAheadOf, Cond.instanceMethod yX0_fitsAheadOf, Cond.selects RX0 yX0_fitsAheadOf yX0_fitsAheadOf, Cond.code yX0_fitsAheadOf cX0_fitsAheadOf 2 (some .boolean)]
def wsL_count : List Cond := .codeWith yL_count cL_count 4 (some .int) [(0, 9, 12, 21)] :: ((wsL_count_r1 ++ (wsL_count_r2 ++ (wsL_count_r3 ++ wsL_count_r4))) ++ wsX10 ++ wsX00 ++ (vx_atS RX1 111 "java/lang/IndexOutOfBoundsException" ["java/lang/RuntimeException", "java/lang/Exception"]).filter goodWord)
def wsL_fits_r1 : List Cond := [Cond.classLink RL 21 "java/lang/IndexOutOfBoundsException", Cond.methodLink RL 49 yX1_fits, Cond.instanceMethod yX1_fits, Cond.selects RX1 yX1_fits yX1_fits, Cond.initialized RX1, Cond.code yX1_fits cX1_fits 5 (some .boolean), Cond.fieldLink RX1 126 "RuneSticks$Stick" "gone" "Z", Cond.methodLink RX1 48 yX1_known, Cond.instanceMethod yX1_known, Cond.selects RX1 yX1_known yX1_known, Cond.code yX1_known cX1_known 3 (some (.object "RuneSticks$Stick")), Cond.classLink RX1 107 "java/lang/IndexOutOfBoundsException", Cond.initialized "java/lang/IndexOutOfBoundsException", Cond.methodLink RX1 166 yX1_stickOrNull, Cond.instanceMethod yX1_stickOrNull, Cond.selects RX1 yX1_stickOrNull yX1_stickOrNull, Cond.code yX1_stickOrNull cX1_stickOrNull 2 (some (.object "RuneSticks$Stick")), Cond.fieldLink RX1 11 "RuneSticks" "sticks" "[LRuneSticks$Stick;", Cond.methodLink RX1 130 yX0_fitsAheadOf, Cond.instanceMethod yX0_fitsAheadOf, Cond.selects RX0 yX0_fitsAheadOf yX0_fitsAheadOf, Cond.initialized RX0, Cond.code yX0_fitsAheadOf cX0_fitsAheadOf 2 (some .boolean), Cond.fieldLink RX0 21 "RuneSticks$Stick" "endBreak" "I"]
def wsL_fits_r2 : List Cond := [Cond.fieldLink RX0 18 "RuneSticks$Stick" "beginBreak" "I"]
def wsL_fits : List Cond := .codeWith yL_fits cL_fits 5 (some .int) [(0, 17, 20, 21)] :: ((wsL_fits_r1 ++ wsL_fits_r2) ++ wsX00 ++ wsX10 ++ (vx_atS RX1 111 "java/lang/IndexOutOfBoundsException" ["java/lang/RuntimeException", "java/lang/Exception"]).filter goodWord)
def wsL_size_r1 : List Cond := [Cond.classLink RL 21 "java/lang/IndexOutOfBoundsException", Cond.classLink RL 13 "java/lang/IllegalArgumentException", Cond.methodLink RL 53 yX1_size, Cond.instanceMethod yX1_size, Cond.selects RX1 yX1_size yX1_size, Cond.initialized RX1, Cond.code yX1_size cX1_size 4 (some .int), Cond.fieldLink RX1 75 "RuneSticks$Stick" "up" "I", Cond.methodLink RX1 48 yX1_known, Cond.instanceMethod yX1_known, Cond.selects RX1 yX1_known yX1_known, Cond.code yX1_known cX1_known 3 (some (.object "RuneSticks$Stick")), Cond.classLink RX1 107 "java/lang/IndexOutOfBoundsException", Cond.initialized "java/lang/IndexOutOfBoundsException", Cond.methodLink RX1 166 yX1_stickOrNull, Cond.instanceMethod yX1_stickOrNull, Cond.selects RX1 yX1_stickOrNull yX1_stickOrNull, Cond.code yX1_stickOrNull cX1_stickOrNull 2 (some (.object "RuneSticks$Stick")), Cond.fieldLink RX1 11 "RuneSticks" "sticks" "[LRuneSticks$Stick;", Cond.methodLink RX1 134 yX1_needTurn, Cond.static yX1_needTurn, Cond.code yX1_needTurn cX1_needTurn 1 none, Cond.classLink RX1 22 "java/lang/IllegalArgumentException", Cond.initialized "java/lang/IllegalArgumentException"]
def wsL_size_r2 : List Cond := [Cond.methodLink RX1 137 yX0_readingLength, Cond.instanceMethod yX0_readingLength, Cond.selects RX0 yX0_readingLength yX0_readingLength, Cond.initialized RX0, Cond.code yX0_readingLength cX0_readingLength 5 (some .int), Cond.fieldLink RX0 9 "RuneSticks$Stick" "places" "I", Cond.methodLink RX0 90 yX0_runeRead, Cond.instanceMethod yX0_runeRead, Cond.selects RX0 yX0_runeRead yX0_runeRead, Cond.code yX0_runeRead cX0_runeRead 4 (some .int), Cond.methodLink RX0 45 yX0_hasPlace, Cond.instanceMethod yX0_hasPlace, Cond.selects RX0 yX0_hasPlace yX0_hasPlace, Cond.code yX0_hasPlace cX0_hasPlace 3 (some .boolean), Cond.methodLink RX0 53 yX0_runeAt, Cond.instanceMethod yX0_runeAt, Cond.selects RX0 yX0_runeAt yX0_runeAt, Cond.code yX0_runeAt cX0_runeAt 3 (some .int), Cond.fieldLink RX0 28 "RuneSticks$Stick" "runes" "[I"]
def wsL_size : List Cond := .codeWith yL_size cL_size 5 (some .int) [(0, 10, 13, 21), (0, 10, 17, 13)] :: ((wsL_size_r1 ++ wsL_size_r2) ++ wsX00 ++ wsX10 ++ (vx_atS RX1 111 "java/lang/IndexOutOfBoundsException" ["java/lang/RuntimeException", "java/lang/Exception"]).filter goodWord ++ (vx_atS RX1 26 "java/lang/IllegalArgumentException" ["java/lang/RuntimeException", "java/lang/Exception"]).filter goodWord)
def wsL_reads_r1 : List Cond := [Cond.classLink RL 21 "java/lang/IndexOutOfBoundsException", Cond.classLink RL 13 "java/lang/IllegalArgumentException", Cond.methodLink RL 56 yX1_reads, Cond.instanceMethod yX1_reads, Cond.selects RX1 yX1_reads yX1_reads, Cond.initialized RX1, Cond.code yX1_reads cX1_reads 6 (some .int), Cond.classLink RX1 22 "java/lang/IllegalArgumentException", Cond.initialized "java/lang/IllegalArgumentException", Cond.methodLink RX1 48 yX1_known, Cond.instanceMethod yX1_known, Cond.selects RX1 yX1_known yX1_known, Cond.code yX1_known cX1_known 3 (some (.object "RuneSticks$Stick")), Cond.classLink RX1 107 "java/lang/IndexOutOfBoundsException", Cond.initialized "java/lang/IndexOutOfBoundsException", Cond.methodLink RX1 166 yX1_stickOrNull, Cond.instanceMethod yX1_stickOrNull, Cond.selects RX1 yX1_stickOrNull yX1_stickOrNull, Cond.code yX1_stickOrNull cX1_stickOrNull 2 (some (.object "RuneSticks$Stick")), Cond.fieldLink RX1 11 "RuneSticks" "sticks" "[LRuneSticks$Stick;", Cond.methodLink RX1 134 yX1_needTurn, Cond.static yX1_needTurn, Cond.code yX1_needTurn cX1_needTurn 1 none, Cond.methodLink RX1 140 yX0_runeOfReadingOrNone]
def wsL_reads_r2 : List Cond := [Cond.instanceMethod yX0_runeOfReadingOrNone, Cond.selects RX0 yX0_runeOfReadingOrNone yX0_runeOfReadingOrNone, Cond.initialized RX0, Cond.code yX0_runeOfReadingOrNone cX0_runeOfReadingOrNone 6 (some .int), Cond.fieldLink RX0 9 "RuneSticks$Stick" "places" "I", Cond.fieldLink RX0 15 "RuneSticks$Stick" "up" "I", Cond.methodLink RX0 90 yX0_runeRead, Cond.instanceMethod yX0_runeRead, Cond.selects RX0 yX0_runeRead yX0_runeRead, Cond.code yX0_runeRead cX0_runeRead 4 (some .int), Cond.methodLink RX0 45 yX0_hasPlace, Cond.instanceMethod yX0_hasPlace, Cond.selects RX0 yX0_hasPlace yX0_hasPlace, Cond.code yX0_hasPlace cX0_hasPlace 3 (some .boolean), Cond.methodLink RX0 53 yX0_runeAt, Cond.instanceMethod yX0_runeAt, Cond.selects RX0 yX0_runeAt yX0_runeAt, Cond.code yX0_runeAt cX0_runeAt 3 (some .int), Cond.fieldLink RX0 28 "RuneSticks$Stick" "runes" "[I"]
def wsL_reads : List Cond := .codeWith yL_reads cL_reads 6 (some .int) [(0, 12, 15, 21), (0, 12, 19, 13)] :: ((wsL_reads_r1 ++ wsL_reads_r2) ++ wsX10 ++ wsX00 ++ (vx_atS RX1 26 "java/lang/IllegalArgumentException" ["java/lang/RuntimeException", "java/lang/Exception"]).filter goodWord ++ (vx_atS RX1 111 "java/lang/IndexOutOfBoundsException" ["java/lang/RuntimeException", "java/lang/Exception"]).filter goodWord)
def wsL_has_r1 : List Cond := [Cond.classLink RL 21 "java/lang/IndexOutOfBoundsException", Cond.classLink RL 13 "java/lang/IllegalArgumentException", Cond.methodLink RL 59 yX1_has, Cond.instanceMethod yX1_has, Cond.selects RX1 yX1_has yX1_has, Cond.initialized RX1, Cond.code yX1_has cX1_has 8 (some .int), Cond.methodLink RX1 48 yX1_known, Cond.instanceMethod yX1_known, Cond.selects RX1 yX1_known yX1_known, Cond.code yX1_known cX1_known 3 (some (.object "RuneSticks$Stick")), Cond.classLink RX1 107 "java/lang/IndexOutOfBoundsException", Cond.initialized "java/lang/IndexOutOfBoundsException", Cond.methodLink RX1 166 yX1_stickOrNull, Cond.instanceMethod yX1_stickOrNull, Cond.selects RX1 yX1_stickOrNull yX1_stickOrNull, Cond.code yX1_stickOrNull cX1_stickOrNull 2 (some (.object "RuneSticks$Stick")), Cond.fieldLink RX1 11 "RuneSticks" "sticks" "[LRuneSticks$Stick;", Cond.methodLink RX1 56 yX1_needRune, Cond.static yX1_needRune, Cond.code yX1_needRune cX1_needRune 1 none, Cond.classLink RX1 22 "java/lang/IllegalArgumentException", Cond.initialized "java/lang/IllegalArgumentException", Cond.methodLink RX1 145 yX0_readsPair]
def wsL_has_r2 : List Cond := [Cond.instanceMethod yX0_readsPair, Cond.selects RX0 yX0_readsPair yX0_readsPair, Cond.initialized RX0, Cond.code yX0_readsPair cX0_readsPair 8 (some .boolean), Cond.fieldLink RX0 9 "RuneSticks$Stick" "places" "I", Cond.methodLink RX0 90 yX0_runeRead, Cond.instanceMethod yX0_runeRead, Cond.selects RX0 yX0_runeRead yX0_runeRead, Cond.code yX0_runeRead cX0_runeRead 4 (some .int), Cond.methodLink RX0 45 yX0_hasPlace, Cond.instanceMethod yX0_hasPlace, Cond.selects RX0 yX0_hasPlace yX0_hasPlace, Cond.code yX0_hasPlace cX0_hasPlace 3 (some .boolean), Cond.methodLink RX0 53 yX0_runeAt, Cond.instanceMethod yX0_runeAt, Cond.selects RX0 yX0_runeAt yX0_runeAt, Cond.code yX0_runeAt cX0_runeAt 3 (some .int), Cond.fieldLink RX0 28 "RuneSticks$Stick" "runes" "[I"]
def wsL_has : List Cond := .codeWith yL_has cL_has 6 (some .int) [(0, 12, 15, 21), (0, 12, 19, 13)] :: ((wsL_has_r1 ++ wsL_has_r2) ++ wsX10 ++ wsX00 ++ (vx_atS RX1 111 "java/lang/IndexOutOfBoundsException" ["java/lang/RuntimeException", "java/lang/Exception"]).filter goodWord ++ (vx_atS RX1 26 "java/lang/IllegalArgumentException" ["java/lang/RuntimeException", "java/lang/Exception"]).filter goodWord)
def wsL_rhyme_r1 : List Cond := [Cond.classLink RL 21 "java/lang/IndexOutOfBoundsException", Cond.classLink RL 13 "java/lang/IllegalArgumentException", Cond.methodLink RL 62 yX1_rhyme, Cond.instanceMethod yX1_rhyme, Cond.selects RX1 yX1_rhyme yX1_rhyme, Cond.initialized RX1, Cond.code yX1_rhyme cX1_rhyme 6 (some .int), Cond.fieldLink RX1 75 "RuneSticks$Stick" "up" "I", Cond.methodLink RX1 48 yX1_known, Cond.instanceMethod yX1_known, Cond.selects RX1 yX1_known yX1_known, Cond.code yX1_known cX1_known 3 (some (.object "RuneSticks$Stick")), Cond.classLink RX1 107 "java/lang/IndexOutOfBoundsException", Cond.initialized "java/lang/IndexOutOfBoundsException", Cond.methodLink RX1 166 yX1_stickOrNull, Cond.instanceMethod yX1_stickOrNull, Cond.selects RX1 yX1_stickOrNull yX1_stickOrNull, Cond.code yX1_stickOrNull cX1_stickOrNull 2 (some (.object "RuneSticks$Stick")), Cond.fieldLink RX1 11 "RuneSticks" "sticks" "[LRuneSticks$Stick;", Cond.methodLink RX1 134 yX1_needTurn, Cond.static yX1_needTurn, Cond.code yX1_needTurn cX1_needTurn 1 none, Cond.classLink RX1 22 "java/lang/IllegalArgumentException", Cond.initialized "java/lang/IllegalArgumentException"]
def wsL_rhyme_r2 : List Cond := [Cond.methodLink RX1 149 yX1_rhymeOf, Cond.static yX1_rhymeOf, Cond.code yX1_rhymeOf cX1_rhymeOf 9 (some .int), Cond.fieldLink RX1 98 "RuneSticks$Stick" "places" "I", Cond.methodLink RX1 211 yX0_placeReadUpTo, Cond.instanceMethod yX0_placeReadUpTo, Cond.selects RX0 yX0_placeReadUpTo yX0_placeReadUpTo, Cond.initialized RX0, Cond.code yX0_placeReadUpTo cX0_placeReadUpTo 5 (some .int), Cond.methodLink RX0 90 yX0_runeRead, Cond.instanceMethod yX0_runeRead, Cond.selects RX0 yX0_runeRead yX0_runeRead, Cond.code yX0_runeRead cX0_runeRead 4 (some .int), Cond.methodLink RX0 45 yX0_hasPlace, Cond.instanceMethod yX0_hasPlace, Cond.selects RX0 yX0_hasPlace yX0_hasPlace, Cond.code yX0_hasPlace cX0_hasPlace 3 (some .boolean), Cond.fieldLink RX0 9 "RuneSticks$Stick" "places" "I", Cond.methodLink RX0 53 yX0_runeAt, Cond.instanceMethod yX0_runeAt, Cond.selects RX0 yX0_runeAt yX0_runeAt, Cond.code yX0_runeAt cX0_runeAt 3 (some .int), Cond.fieldLink RX0 28 "RuneSticks$Stick" "runes" "[I", Cond.methodLink RX1 215 yX0_runeRead]
def wsL_rhyme_r3 : List Cond := [Cond.methodLink RX1 218 yX1_pairWorth, Cond.static yX1_pairWorth, Cond.code yX1_pairWorth cX1_pairWorth 2 (some .int)]
def wsL_rhyme : List Cond := .codeWith yL_rhyme cL_rhyme 6 (some .int) [(0, 12, 15, 21), (0, 12, 19, 13)] :: ((wsL_rhyme_r1 ++ (wsL_rhyme_r2 ++ wsL_rhyme_r3)) ++ wsX00 ++ wsX10 ++ (vx_atS RX1 111 "java/lang/IndexOutOfBoundsException" ["java/lang/RuntimeException", "java/lang/Exception"]).filter goodWord ++ (vx_atS RX1 26 "java/lang/IllegalArgumentException" ["java/lang/RuntimeException", "java/lang/Exception"]).filter goodWord)
def wsL_best_r1 : List Cond := [Cond.classLink RL 21 "java/lang/IndexOutOfBoundsException", Cond.classLink RL 13 "java/lang/IllegalArgumentException", Cond.methodLink RL 65 yX1_best, Cond.instanceMethod yX1_best, Cond.selects RX1 yX1_best yX1_best, Cond.initialized RX1, Cond.code yX1_best cX1_best 10 (some .int), Cond.methodLink RX1 48 yX1_known, Cond.instanceMethod yX1_known, Cond.selects RX1 yX1_known yX1_known, Cond.code yX1_known cX1_known 3 (some (.object "RuneSticks$Stick")), Cond.classLink RX1 107 "java/lang/IndexOutOfBoundsException", Cond.initialized "java/lang/IndexOutOfBoundsException", Cond.methodLink RX1 166 yX1_stickOrNull, Cond.instanceMethod yX1_stickOrNull, Cond.selects RX1 yX1_stickOrNull yX1_stickOrNull, Cond.code yX1_stickOrNull cX1_stickOrNull 2 (some (.object "RuneSticks$Stick")), Cond.fieldLink RX1 11 "RuneSticks" "sticks" "[LRuneSticks$Stick;", Cond.methodLink RX1 134 yX1_needTurn, Cond.static yX1_needTurn, Cond.code yX1_needTurn cX1_needTurn 1 none, Cond.classLink RX1 22 "java/lang/IllegalArgumentException", Cond.initialized "java/lang/IllegalArgumentException", Cond.methodLink RX1 149 yX1_rhymeOf]
def wsL_best_r2 : List Cond := [Cond.static yX1_rhymeOf, Cond.code yX1_rhymeOf cX1_rhymeOf 9 (some .int), Cond.fieldLink RX1 98 "RuneSticks$Stick" "places" "I", Cond.fieldLink RX1 75 "RuneSticks$Stick" "up" "I", Cond.methodLink RX1 211 yX0_placeReadUpTo, Cond.instanceMethod yX0_placeReadUpTo, Cond.selects RX0 yX0_placeReadUpTo yX0_placeReadUpTo, Cond.initialized RX0, Cond.code yX0_placeReadUpTo cX0_placeReadUpTo 5 (some .int), Cond.methodLink RX0 90 yX0_runeRead, Cond.instanceMethod yX0_runeRead, Cond.selects RX0 yX0_runeRead yX0_runeRead, Cond.code yX0_runeRead cX0_runeRead 4 (some .int), Cond.methodLink RX0 45 yX0_hasPlace, Cond.instanceMethod yX0_hasPlace, Cond.selects RX0 yX0_hasPlace yX0_hasPlace, Cond.code yX0_hasPlace cX0_hasPlace 3 (some .boolean), Cond.fieldLink RX0 9 "RuneSticks$Stick" "places" "I", Cond.methodLink RX0 53 yX0_runeAt, Cond.instanceMethod yX0_runeAt, Cond.selects RX0 yX0_runeAt yX0_runeAt, Cond.code yX0_runeAt cX0_runeAt 3 (some .int), Cond.fieldLink RX0 28 "RuneSticks$Stick" "runes" "[I", Cond.methodLink RX1 215 yX0_runeRead]
def wsL_best_r3 : List Cond := [Cond.methodLink RX1 218 yX1_pairWorth, Cond.static yX1_pairWorth, Cond.code yX1_pairWorth cX1_pairWorth 2 (some .int)]
def wsL_best : List Cond := .codeWith yL_best cL_best 6 (some .int) [(0, 12, 15, 21), (0, 12, 19, 13)] :: ((wsL_best_r1 ++ (wsL_best_r2 ++ wsL_best_r3)) ++ wsX10 ++ wsX00 ++ (vx_atS RX1 111 "java/lang/IndexOutOfBoundsException" ["java/lang/RuntimeException", "java/lang/Exception"]).filter goodWord ++ (vx_atS RX1 26 "java/lang/IllegalArgumentException" ["java/lang/RuntimeException", "java/lang/Exception"]).filter goodWord)
def wsL_pieces_r1 : List Cond := [Cond.classLink RL 21 "java/lang/IndexOutOfBoundsException", Cond.classLink RL 13 "java/lang/IllegalArgumentException", Cond.methodLink RL 68 yX1_pieces, Cond.instanceMethod yX1_pieces, Cond.selects RX1 yX1_pieces yX1_pieces, Cond.initialized RX1, Cond.code yX1_pieces cX1_pieces 4 (some .int), Cond.methodLink RX1 48 yX1_known, Cond.instanceMethod yX1_known, Cond.selects RX1 yX1_known yX1_known, Cond.code yX1_known cX1_known 3 (some (.object "RuneSticks$Stick")), Cond.classLink RX1 107 "java/lang/IndexOutOfBoundsException", Cond.initialized "java/lang/IndexOutOfBoundsException", Cond.methodLink RX1 166 yX1_stickOrNull, Cond.instanceMethod yX1_stickOrNull, Cond.selects RX1 yX1_stickOrNull yX1_stickOrNull, Cond.code yX1_stickOrNull cX1_stickOrNull 2 (some (.object "RuneSticks$Stick")), Cond.fieldLink RX1 11 "RuneSticks" "sticks" "[LRuneSticks$Stick;", Cond.methodLink RX1 78 yX1_needForce, Cond.static yX1_needForce, Cond.code yX1_needForce cX1_needForce 1 none, Cond.classLink RX1 22 "java/lang/IllegalArgumentException", Cond.initialized "java/lang/IllegalArgumentException", Cond.methodLink RX1 153 yX0_jointsWeakerThan]
def wsL_pieces_r2 : List Cond := [Cond.instanceMethod yX0_jointsWeakerThan, Cond.selects RX0 yX0_jointsWeakerThan yX0_jointsWeakerThan, Cond.initialized RX0, Cond.code yX0_jointsWeakerThan cX0_jointsWeakerThan 4 (some .int), Cond.fieldLink RX0 9 "RuneSticks$Stick" "places" "I", Cond.methodLink RX0 87 yX0_strengthAt, Cond.instanceMethod yX0_strengthAt, Cond.selects RX0 yX0_strengthAt yX0_strengthAt, Cond.code yX0_strengthAt cX0_strengthAt 2 (some .int), Cond.methodLink RX0 82 Lib.Math.max.name, Cond.static Lib.Math.max.name, Cond.initialized "java/lang/Math", Cond.code Lib.Math.max.name Lib.Math.max.code 2 (some .int), Cond.methodLink RX0 61 yX0_baseAt, Cond.instanceMethod yX0_baseAt, Cond.selects RX0 yX0_baseAt yX0_baseAt, Cond.code yX0_baseAt cX0_baseAt 2 (some .int), Cond.fieldLink RX0 32 "RuneSticks$Stick" "bases" "[I", Cond.methodLink RX0 49 yX0_hasJoint, Cond.instanceMethod yX0_hasJoint, Cond.selects RX0 yX0_hasJoint yX0_hasJoint, Cond.code yX0_hasJoint cX0_hasJoint 2 (some .boolean), Cond.methodLink RX0 79 yX0_runesAtPlace, Cond.instanceMethod yX0_runesAtPlace]
def wsL_pieces_r3 : List Cond := [Cond.selects RX0 yX0_runesAtPlace yX0_runesAtPlace, Cond.code yX0_runesAtPlace cX0_runesAtPlace 4 (some .int), Cond.methodLink RX0 53 yX0_runeAt, Cond.instanceMethod yX0_runeAt, Cond.selects RX0 yX0_runeAt yX0_runeAt, Cond.code yX0_runeAt cX0_runeAt 3 (some .int), Cond.fieldLink RX0 28 "RuneSticks$Stick" "runes" "[I", Cond.methodLink RX0 45 yX0_hasPlace, Cond.instanceMethod yX0_hasPlace, Cond.selects RX0 yX0_hasPlace yX0_hasPlace, Cond.code yX0_hasPlace cX0_hasPlace 3 (some .boolean)]
def wsL_pieces : List Cond := .codeWith yL_pieces cL_pieces 5 (some .int) [(0, 10, 13, 21), (0, 10, 17, 13)] :: ((wsL_pieces_r1 ++ (wsL_pieces_r2 ++ wsL_pieces_r3)) ++ wsX10 ++ wsX00 ++ (vx_atS RX1 111 "java/lang/IndexOutOfBoundsException" ["java/lang/RuntimeException", "java/lang/Exception"]).filter goodWord ++ (vx_atS RX1 26 "java/lang/IllegalArgumentException" ["java/lang/RuntimeException", "java/lang/Exception"]).filter goodWord)
def wsL_row_r1 : List Cond := [Cond.classLink RL 21 "java/lang/IndexOutOfBoundsException", Cond.classLink RL 13 "java/lang/IllegalArgumentException", Cond.classLink RL 15 "java/lang/IllegalStateException", Cond.methodLink RL 71 yX1_row, Cond.instanceMethod yX1_row, Cond.selects RX1 yX1_row yX1_row, Cond.initialized RX1, Cond.code yX1_row cX1_row 7 (some .int), Cond.fieldLink RX1 15 "RuneSticks" "made" "I", Cond.fieldLink RX1 75 "RuneSticks$Stick" "up" "I", Cond.methodLink RX1 48 yX1_known, Cond.instanceMethod yX1_known, Cond.selects RX1 yX1_known yX1_known, Cond.code yX1_known cX1_known 3 (some (.object "RuneSticks$Stick")), Cond.classLink RX1 107 "java/lang/IndexOutOfBoundsException", Cond.initialized "java/lang/IndexOutOfBoundsException", Cond.methodLink RX1 166 yX1_stickOrNull, Cond.instanceMethod yX1_stickOrNull, Cond.selects RX1 yX1_stickOrNull yX1_stickOrNull, Cond.code yX1_stickOrNull cX1_stickOrNull 2 (some (.object "RuneSticks$Stick")), Cond.fieldLink RX1 11 "RuneSticks" "sticks" "[LRuneSticks$Stick;", Cond.methodLink RX1 134 yX1_needTurn, Cond.static yX1_needTurn, Cond.code yX1_needTurn cX1_needTurn 1 none]
def wsL_row_r2 : List Cond := [Cond.classLink RX1 22 "java/lang/IllegalArgumentException", Cond.initialized "java/lang/IllegalArgumentException", Cond.methodLink RX1 59 yX1_needThere, Cond.static yX1_needThere, Cond.code yX1_needThere cX1_needThere 1 none, Cond.classLink RX1 33 "java/lang/IllegalStateException", Cond.initialized "java/lang/IllegalStateException", Cond.fieldLink RX1 126 "RuneSticks$Stick" "gone" "Z", Cond.methodLink RX1 156 yX1_thereOrNull, Cond.instanceMethod yX1_thereOrNull, Cond.selects RX1 yX1_thereOrNull yX1_thereOrNull, Cond.code yX1_thereOrNull cX1_thereOrNull 3 (some (.object "RuneSticks$Stick")), Cond.methodLink RX1 149 yX1_rhymeOf, Cond.static yX1_rhymeOf, Cond.code yX1_rhymeOf cX1_rhymeOf 9 (some .int), Cond.fieldLink RX1 98 "RuneSticks$Stick" "places" "I", Cond.methodLink RX1 211 yX0_placeReadUpTo, Cond.instanceMethod yX0_placeReadUpTo, Cond.selects RX0 yX0_placeReadUpTo yX0_placeReadUpTo, Cond.initialized RX0, Cond.code yX0_placeReadUpTo cX0_placeReadUpTo 5 (some .int), Cond.methodLink RX0 90 yX0_runeRead, Cond.instanceMethod yX0_runeRead, Cond.selects RX0 yX0_runeRead yX0_runeRead]
def wsL_row_r3 : List Cond := [Cond.code yX0_runeRead cX0_runeRead 4 (some .int), Cond.methodLink RX0 45 yX0_hasPlace, Cond.instanceMethod yX0_hasPlace, Cond.selects RX0 yX0_hasPlace yX0_hasPlace, Cond.code yX0_hasPlace cX0_hasPlace 3 (some .boolean), Cond.fieldLink RX0 9 "RuneSticks$Stick" "places" "I", Cond.methodLink RX0 53 yX0_runeAt, Cond.instanceMethod yX0_runeAt, Cond.selects RX0 yX0_runeAt yX0_runeAt, Cond.code yX0_runeAt cX0_runeAt 3 (some .int), Cond.fieldLink RX0 28 "RuneSticks$Stick" "runes" "[I", Cond.methodLink RX1 215 yX0_runeRead, Cond.methodLink RX1 218 yX1_pairWorth, Cond.static yX1_pairWorth, Cond.code yX1_pairWorth cX1_pairWorth 2 (some .int)]
def wsL_row : List Cond := .codeWith yL_row cL_row 5 (some .int) [(0, 10, 13, 21), (0, 10, 17, 13), (0, 10, 21, 15)] :: ((wsL_row_r1 ++ (wsL_row_r2 ++ wsL_row_r3)) ++ wsX10 ++ wsX00 ++ (vx_atS RX1 111 "java/lang/IndexOutOfBoundsException" ["java/lang/RuntimeException", "java/lang/Exception"]).filter goodWord ++ (vx_atS RX1 26 "java/lang/IllegalArgumentException" ["java/lang/RuntimeException", "java/lang/Exception"]).filter goodWord ++ (vx_atS RX1 37 "java/lang/IllegalStateException" ["java/lang/RuntimeException", "java/lang/Exception"]).filter goodWord)
def wsL_law0_r1 : List Cond := [Cond.classLink RL 8 RX1, Cond.instantiable RX1 3, Cond.initialized RX1, Cond.classLink RL 75 RX2, Cond.instantiable RX2 13, Cond.initialized RX2, Cond.arrayClass .long, Cond.methodLink RL 74 yX1_init, Cond.instanceMethod yX1_init, Cond.code yX1_init cX1_init 1 none, Cond.methodLink RX1 3 objectInit, Cond.instanceMethod objectInit, Cond.code objectInit ⟨#[0xb1]⟩ 1 none, Cond.classLink RX1 9 RX0, Cond.fieldLink RX1 11 "RuneSticks" "sticks" "[LRuneSticks$Stick;", Cond.fieldLink RX1 15 "RuneSticks" "made" "I", Cond.fieldLink RX1 19 "RuneSticks" "breaks" "I", Cond.methodLink RL 77 yX2_init, Cond.instanceMethod yX2_init, Cond.code yX2_init cX2_init 1 none, Cond.methodLink RX2 1 objectInit, Cond.arrayClass .int, Cond.fieldLink RX2 9 "RuneSticksModel" "places" "[I", Cond.fieldLink RX2 13 "RuneSticksModel" "up" "[I"]
def wsL_law0_r2 : List Cond := [Cond.fieldLink RX2 16 "RuneSticksModel" "isGone" "[I", Cond.fieldLink RX2 19 "RuneSticksModel" "begin" "[I", Cond.fieldLink RX2 22 "RuneSticksModel" "end" "[I", Cond.fieldLink RX2 25 "RuneSticksModel" "runes" "[I", Cond.fieldLink RX2 28 "RuneSticksModel" "base" "[I", Cond.fieldLink RX2 31 "RuneSticksModel" "isGlued" "[I", Cond.fieldLink RX2 34 "RuneSticksModel" "one" "[I", Cond.fieldLink RX2 37 "RuneSticksModel" "two" "[I", Cond.methodLink RL 78 yL_make, Cond.static yL_make, Cond.initialized RL, Cond.codeWith yL_make cL_make 4 (some .int) [(0, 9, 12, 13), (0, 9, 15, 15)], Cond.classLink RL 13 "java/lang/IllegalArgumentException", Cond.classLink RL 15 "java/lang/IllegalStateException", Cond.methodLink RL 7 yX1_make, Cond.instanceMethod yX1_make, Cond.selects RX1 yX1_make yX1_make, Cond.code yX1_make cX1_make 2 (some .int), Cond.classLink RX1 22 "java/lang/IllegalArgumentException", Cond.initialized "java/lang/IllegalArgumentException", Cond.classLink RX1 33 "java/lang/IllegalStateException", Cond.initialized "java/lang/IllegalStateException", Cond.instantiable RX0 8, Cond.initialized RX0]
def wsL_law0_r3 : List Cond := [Cond.methodLink RX1 29 yX1_howManyThere, Cond.instanceMethod yX1_howManyThere, Cond.selects RX1 yX1_howManyThere yX1_howManyThere, Cond.code yX1_howManyThere cX1_howManyThere 3 (some .int), Cond.methodLink RX1 156 yX1_thereOrNull, Cond.instanceMethod yX1_thereOrNull, Cond.selects RX1 yX1_thereOrNull yX1_thereOrNull, Cond.code yX1_thereOrNull cX1_thereOrNull 3 (some (.object "RuneSticks$Stick")), Cond.fieldLink RX1 126 "RuneSticks$Stick" "gone" "Z", Cond.methodLink RX1 166 yX1_stickOrNull, Cond.instanceMethod yX1_stickOrNull, Cond.selects RX1 yX1_stickOrNull yX1_stickOrNull, Cond.code yX1_stickOrNull cX1_stickOrNull 2 (some (.object "RuneSticks$Stick")), Cond.methodLink RX1 38 yX1_needNumbersLeft, Cond.instanceMethod yX1_needNumbersLeft, Cond.selects RX1 yX1_needNumbersLeft yX1_needNumbersLeft, Cond.code yX1_needNumbersLeft cX1_needNumbersLeft 2 none, Cond.methodLink RX1 42 yX0_init, Cond.instanceMethod yX0_init, Cond.code yX0_init cX0_init 2 none, Cond.methodLink RX0 3 objectInit, Cond.fieldLink RX0 9 "RuneSticks$Stick" "places" "I", Cond.fieldLink RX0 15 "RuneSticks$Stick" "up" "I", Cond.fieldLink RX0 18 "RuneSticks$Stick" "beginBreak" "I"]
def wsL_law0_r4 : List Cond := [Cond.fieldLink RX0 21 "RuneSticks$Stick" "endBreak" "I", Cond.fieldLink RX0 24 "RuneSticks$Stick" "gone" "Z", Cond.fieldLink RX0 28 "RuneSticks$Stick" "runes" "[I", Cond.fieldLink RX0 32 "RuneSticks$Stick" "bases" "[I", Cond.arrayClass .boolean, Cond.fieldLink RX0 35 "RuneSticks$Stick" "glued" "[Z", Cond.methodLink RX0 39 yJ7_fill_53178, Cond.static yJ7_fill_53178, Cond.initialized RJ7, Cond.code yJ7_fill_53178 cJ7_fill_53178 4 none, Cond.methodLink RX1 44 yX1_put, Cond.instanceMethod yX1_put, Cond.selects RX1 yX1_put yX1_put, Cond.code yX1_put cX1_put 3 (some .int), Cond.methodLink RL 83 yX2_make, Cond.instanceMethod yX2_make, Cond.selects RX2 yX2_make yX2_make, Cond.code yX2_make cX2_make 2 (some .int), Cond.fieldLink RX2 40 "RuneSticksModel" "thrown" "I", Cond.fieldLink RX2 44 "RuneSticksModel" "sticks" "I", Cond.methodLink RX2 47 yX2_isIn, Cond.static yX2_isIn, Cond.code yX2_isIn cX2_isIn 3 (some .boolean), Cond.methodLink RX2 58 yX2_no]
def wsL_law0_r5 : List Cond := [Cond.instanceMethod yX2_no, Cond.selects RX2 yX2_no yX2_no, Cond.code yX2_no cX2_no 2 (some .int), Cond.methodLink RX2 62 yX2_there, Cond.instanceMethod yX2_there, Cond.selects RX2 yX2_there yX2_there, Cond.code yX2_there cX2_there 3 (some .int), Cond.methodLink RX2 66 yX2_add, Cond.instanceMethod yX2_add, Cond.selects RX2 yX2_add yX2_add, Cond.code yX2_add cX2_add 6 (some .int), Cond.methodLink RL 84 yX2_thrown, Cond.instanceMethod yX2_thrown, Cond.selects RX2 yX2_thrown yX2_thrown, Cond.code yX2_thrown cX2_thrown 1 (some .int), Cond.methodLink RL 88 yL_carve, Cond.static yL_carve, Cond.codeWith yL_carve cL_carve 7 (some .int) [(0, 14, 17, 21), (0, 14, 21, 13), (0, 14, 25, 15)], Cond.classLink RL 21 "java/lang/IndexOutOfBoundsException", Cond.methodLink RL 17 yX1_carve, Cond.instanceMethod yX1_carve, Cond.selects RX1 yX1_carve yX1_carve, Cond.code yX1_carve cX1_carve 7 (some .int), Cond.methodLink RX1 48 yX1_known]
def wsL_law0_r6 : List Cond := [Cond.instanceMethod yX1_known, Cond.selects RX1 yX1_known yX1_known, Cond.code yX1_known cX1_known 3 (some (.object "RuneSticks$Stick")), Cond.classLink RX1 107 "java/lang/IndexOutOfBoundsException", Cond.initialized "java/lang/IndexOutOfBoundsException", Cond.methodLink RX1 52 yX1_needPlace, Cond.static yX1_needPlace, Cond.code yX1_needPlace cX1_needPlace 3 none, Cond.methodLink RX1 179 yX0_hasPlace, Cond.instanceMethod yX0_hasPlace, Cond.selects RX0 yX0_hasPlace yX0_hasPlace, Cond.code yX0_hasPlace cX0_hasPlace 3 (some .boolean), Cond.methodLink RX1 56 yX1_needRune, Cond.static yX1_needRune, Cond.code yX1_needRune cX1_needRune 1 none, Cond.methodLink RX1 59 yX1_needThere, Cond.static yX1_needThere, Cond.code yX1_needThere cX1_needThere 1 none, Cond.methodLink RX1 63 yX0_runeAt, Cond.instanceMethod yX0_runeAt, Cond.selects RX0 yX0_runeAt yX0_runeAt, Cond.code yX0_runeAt cX0_runeAt 3 (some .int), Cond.methodLink RX0 45 yX0_hasPlace, Cond.methodLink RX1 67 yX0_putRune]
def wsL_law0_r7 : List Cond := [Cond.instanceMethod yX0_putRune, Cond.selects RX0 yX0_putRune yX0_putRune, Cond.code yX0_putRune cX0_putRune 4 none, Cond.methodLink RL 91 yX2_carve, Cond.instanceMethod yX2_carve, Cond.selects RX2 yX2_carve yX2_carve, Cond.code yX2_carve cX2_carve 7 (some .int), Cond.methodLink RX2 70 yX2_isSpot, Cond.instanceMethod yX2_isSpot, Cond.selects RX2 yX2_isSpot yX2_isSpot, Cond.code yX2_isSpot cX2_isSpot 4 (some .boolean), Cond.methodLink RX2 51 yX2_isStick, Cond.instanceMethod yX2_isStick, Cond.selects RX2 yX2_isStick yX2_isStick, Cond.code yX2_isStick cX2_isStick 2 (some .boolean), Cond.methodLink RX2 55 yX2_isSide, Cond.static yX2_isSide, Cond.code yX2_isSide cX2_isSide 1 (some .boolean), Cond.methodLink RX2 73 yX2_isRune, Cond.static yX2_isRune, Cond.code yX2_isRune cX2_isRune 1 (some .boolean), Cond.methodLink RX2 76 yX2_spot, Cond.static yX2_spot, Cond.code yX2_spot cX2_spot 3 (some .int)]
def wsL_law0_r8 : List Cond := [Cond.methodLink RL 92 yL_scrape, Cond.static yL_scrape, Cond.codeWith yL_scrape cL_scrape 6 (some .int) [(0, 12, 15, 21), (0, 12, 19, 15)], Cond.methodLink RL 23 yX1_scrape, Cond.instanceMethod yX1_scrape, Cond.selects RX1 yX1_scrape yX1_scrape, Cond.code yX1_scrape cX1_scrape 6 (some .int), Cond.methodLink RL 95 yX2_scrape, Cond.instanceMethod yX2_scrape, Cond.selects RX2 yX2_scrape yX2_scrape, Cond.code yX2_scrape cX2_scrape 6 (some .int), Cond.methodLink RL 96 yL_roll, Cond.static yL_roll, Cond.codeWith yL_roll cL_roll 5 (some .int) [(0, 10, 13, 21), (0, 10, 17, 13), (0, 10, 21, 15)], Cond.methodLink RL 27 yX1_roll, Cond.instanceMethod yX1_roll, Cond.selects RX1 yX1_roll yX1_roll, Cond.code yX1_roll cX1_roll 4 (some .int), Cond.fieldLink RX1 75 "RuneSticks$Stick" "up" "I", Cond.methodLink RL 99 yX2_roll, Cond.instanceMethod yX2_roll, Cond.selects RX2 yX2_roll yX2_roll, Cond.code yX2_roll cX2_roll 3 (some .int), Cond.methodLink RL 100 yL_bend]
def wsL_law0_r9 : List Cond := [Cond.static yL_bend, Cond.codeWith yL_bend cL_bend 5 (some .int) [(0, 10, 13, 21), (0, 10, 17, 13), (0, 10, 21, 15)], Cond.methodLink RL 31 yX1_bend, Cond.instanceMethod yX1_bend, Cond.selects RX1 yX1_bend yX1_bend, Cond.code yX1_bend cX1_bend 5 (some .int), Cond.methodLink RX1 78 yX1_needForce, Cond.static yX1_needForce, Cond.code yX1_needForce cX1_needForce 1 none, Cond.methodLink RX1 81 yX0_firstWeakestJoint, Cond.instanceMethod yX0_firstWeakestJoint, Cond.selects RX0 yX0_firstWeakestJoint yX0_firstWeakestJoint, Cond.code yX0_firstWeakestJoint cX0_firstWeakestJoint 3 (some .int), Cond.methodLink RX0 87 yX0_strengthAt, Cond.instanceMethod yX0_strengthAt, Cond.selects RX0 yX0_strengthAt yX0_strengthAt, Cond.code yX0_strengthAt cX0_strengthAt 2 (some .int), Cond.methodLink RX0 82 Lib.Math.max.name, Cond.static Lib.Math.max.name, Cond.initialized "java/lang/Math", Cond.code Lib.Math.max.name Lib.Math.max.code 2 (some .int), Cond.methodLink RX0 61 yX0_baseAt, Cond.instanceMethod yX0_baseAt, Cond.selects RX0 yX0_baseAt yX0_baseAt]
def wsL_law0_r10 : List Cond := [Cond.code yX0_baseAt cX0_baseAt 2 (some .int), Cond.methodLink RX0 49 yX0_hasJoint, Cond.instanceMethod yX0_hasJoint, Cond.selects RX0 yX0_hasJoint yX0_hasJoint, Cond.code yX0_hasJoint cX0_hasJoint 2 (some .boolean), Cond.methodLink RX0 79 yX0_runesAtPlace, Cond.instanceMethod yX0_runesAtPlace, Cond.selects RX0 yX0_runesAtPlace yX0_runesAtPlace, Cond.code yX0_runesAtPlace cX0_runesAtPlace 4 (some .int), Cond.methodLink RX0 53 yX0_runeAt, Cond.methodLink RX1 84 yX0_strengthAt, Cond.methodLink RX1 88 yX1_breakAt, Cond.instanceMethod yX1_breakAt, Cond.selects RX1 yX1_breakAt yX1_breakAt, Cond.code yX1_breakAt cX1_breakAt 7 (some .int), Cond.fieldLink RX1 195 "RuneSticks$Stick" "beginBreak" "I", Cond.fieldLink RX1 198 "RuneSticks$Stick" "endBreak" "I", Cond.fieldLink RX1 98 "RuneSticks$Stick" "places" "I", Cond.methodLink RX1 191 yX0_takePlaces, Cond.instanceMethod yX0_takePlaces, Cond.selects RX0 yX0_takePlaces yX0_takePlaces, Cond.code yX0_takePlaces cX0_takePlaces 8 none, Cond.methodLink RX0 57 yX0_putRune, Cond.methodLink RX0 65 yX0_gluedAt]
def wsL_law0_r11 : List Cond := [Cond.instanceMethod yX0_gluedAt, Cond.selects RX0 yX0_gluedAt yX0_gluedAt, Cond.code yX0_gluedAt cX0_gluedAt 2 (some .boolean), Cond.methodLink RX0 68 yX0_putJoint, Cond.instanceMethod yX0_putJoint, Cond.selects RX0 yX0_putJoint yX0_putJoint, Cond.code yX0_putJoint cX0_putJoint 4 none, Cond.methodLink RL 102 yX2_bend, Cond.instanceMethod yX2_bend, Cond.selects RX2 yX2_bend yX2_bend, Cond.code yX2_bend cX2_bend 7 (some .int), Cond.fieldLink RX2 95 "RuneSticksModel" "breaks" "I", Cond.methodLink RX2 92 yX2_weakest, Cond.instanceMethod yX2_weakest, Cond.selects RX2 yX2_weakest yX2_weakest, Cond.code yX2_weakest cX2_weakest 4 (some .int), Cond.methodLink RX2 89 yX2_strong, Cond.instanceMethod yX2_strong, Cond.selects RX2 yX2_strong yX2_strong, Cond.code yX2_strong cX2_strong 3 (some .int), Cond.methodLink RX2 84 Lib.Math.max.name, Cond.methodLink RX2 80 yX2_runesAt, Cond.instanceMethod yX2_runesAt, Cond.selects RX2 yX2_runesAt yX2_runesAt]
def wsL_law0_r12 : List Cond := [Cond.code yX2_runesAt cX2_runesAt 5 (some .int), Cond.methodLink RX2 98 yX2_lay, Cond.instanceMethod yX2_lay, Cond.selects RX2 yX2_lay yX2_lay, Cond.code yX2_lay cX2_lay 9 none, Cond.methodLink RL 103 yL_glue, Cond.static yL_glue, Cond.codeWith yL_glue cL_glue 7 (some .int) [(0, 14, 17, 21), (0, 14, 21, 13), (0, 14, 25, 15)], Cond.methodLink RL 34 yX1_glue, Cond.instanceMethod yX1_glue, Cond.selects RX1 yX1_glue yX1_glue, Cond.code yX1_glue cX1_glue 7 (some .int), Cond.methodLink RX1 103 yX1_joinBoth, Cond.instanceMethod yX1_joinBoth, Cond.selects RX1 yX1_joinBoth yX1_joinBoth, Cond.code yX1_joinBoth cX1_joinBoth 7 (some .int), Cond.methodLink RX1 130 yX0_fitsAheadOf, Cond.instanceMethod yX0_fitsAheadOf, Cond.selects RX0 yX0_fitsAheadOf yX0_fitsAheadOf, Cond.code yX0_fitsAheadOf cX0_fitsAheadOf 2 (some .boolean), Cond.methodLink RX1 201 yX0_putJoint, Cond.methodLink RL 105 yX2_glue, Cond.instanceMethod yX2_glue, Cond.selects RX2 yX2_glue yX2_glue]
def wsL_law0_r13 : List Cond := [Cond.code yX2_glue cX2_glue 7 (some .int), Cond.methodLink RX2 102 yX2_fit, Cond.instanceMethod yX2_fit, Cond.selects RX2 yX2_fit yX2_fit, Cond.code yX2_fit cX2_fit 3 (some .boolean), Cond.methodLink RL 106 yL_stick, Cond.static yL_stick, Cond.codeWith yL_stick cL_stick 5 (some .int) [(0, 10, 13, 21)], Cond.methodLink RL 37 yX1_stick, Cond.instanceMethod yX1_stick, Cond.selects RX1 yX1_stick yX1_stick, Cond.code yX1_stick cX1_stick 4 (some .int), Cond.methodLink RX1 112 yX0_factAt, Cond.instanceMethod yX0_factAt, Cond.selects RX0 yX0_factAt yX0_factAt, Cond.code yX0_factAt cX0_factAt 2 (some .int), Cond.methodLink RX0 72 yX0_runesInAll, Cond.instanceMethod yX0_runesInAll, Cond.selects RX0 yX0_runesInAll yX0_runesInAll, Cond.code yX0_runesInAll cX0_runesInAll 3 (some .int), Cond.methodLink RX0 76 yX0_gluedJoints, Cond.instanceMethod yX0_gluedJoints, Cond.selects RX0 yX0_gluedJoints yX0_gluedJoints, Cond.code yX0_gluedJoints cX0_gluedJoints 3 (some .int)]
def wsL_law0_r14 : List Cond := [Cond.methodLink RL 108 yX2_stick, Cond.instanceMethod yX2_stick, Cond.selects RX2 yX2_stick yX2_stick, Cond.code yX2_stick cX2_stick 3 (some .int), Cond.methodLink RX2 112 yX2_stickTold, Cond.instanceMethod yX2_stickTold, Cond.selects RX2 yX2_stickTold yX2_stickTold, Cond.code yX2_stickTold cX2_stickTold 4 (some .int), Cond.methodLink RX2 106 yX2_runesOn, Cond.instanceMethod yX2_runesOn, Cond.selects RX2 yX2_runesOn yX2_runesOn, Cond.code yX2_runesOn cX2_runesOn 4 (some .int), Cond.methodLink RX2 109 yX2_glued, Cond.instanceMethod yX2_glued, Cond.selects RX2 yX2_glued yX2_glued, Cond.code yX2_glued cX2_glued 4 (some .int), Cond.methodLink RL 109 yL_rune, Cond.static yL_rune, Cond.codeWith yL_rune cL_rune 6 (some .int) [(0, 12, 15, 21)], Cond.methodLink RL 40 yX1_rune, Cond.instanceMethod yX1_rune, Cond.selects RX1 yX1_rune yX1_rune, Cond.code yX1_rune cX1_rune 5 (some .int), Cond.methodLink RL 111 yX2_rune]
def wsL_law0_r15 : List Cond := [Cond.instanceMethod yX2_rune, Cond.selects RX2 yX2_rune yX2_rune, Cond.code yX2_rune cX2_rune 4 (some .int), Cond.methodLink RL 112 yL_strength, Cond.static yL_strength, Cond.codeWith yL_strength cL_strength 5 (some .int) [(0, 10, 13, 21)], Cond.methodLink RL 43 yX1_strength, Cond.instanceMethod yX1_strength, Cond.selects RX1 yX1_strength yX1_strength, Cond.code yX1_strength cX1_strength 4 (some .int), Cond.methodLink RX1 115 yX0_hasJoint, Cond.methodLink RL 114 yX2_strength, Cond.instanceMethod yX2_strength, Cond.selects RX2 yX2_strength yX2_strength, Cond.code yX2_strength cX2_strength 3 (some .int), Cond.methodLink RL 115 yL_count, Cond.static yL_count, Cond.codeWith yL_count cL_count 4 (some .int) [(0, 9, 12, 21)], Cond.methodLink RL 46 yX1_count, Cond.instanceMethod yX1_count, Cond.selects RX1 yX1_count yX1_count, Cond.code yX1_count cX1_count 2 (some .int), Cond.methodLink RX1 123 yX1_total, Cond.instanceMethod yX1_total]
def wsL_law0_r16 : List Cond := [Cond.selects RX1 yX1_total yX1_total, Cond.code yX1_total cX1_total 2 (some .int), Cond.methodLink RX1 159 yX1_sumThere, Cond.instanceMethod yX1_sumThere, Cond.selects RX1 yX1_sumThere yX1_sumThere, Cond.code yX1_sumThere cX1_sumThere 5 (some .int), Cond.methodLink RX1 205 yX1_fittingPairs, Cond.instanceMethod yX1_fittingPairs, Cond.selects RX1 yX1_fittingPairs yX1_fittingPairs, Cond.code yX1_fittingPairs cX1_fittingPairs 4 (some .int), Cond.methodLink RX1 208 yX1_fittingBehind, Cond.instanceMethod yX1_fittingBehind, Cond.selects RX1 yX1_fittingBehind yX1_fittingBehind, Cond.code yX1_fittingBehind cX1_fittingBehind 5 (some .int), Cond.methodLink RL 117 yX2_count, Cond.instanceMethod yX2_count, Cond.selects RX2 yX2_count yX2_count, Cond.code yX2_count cX2_count 2 (some .int), Cond.methodLink RX2 115 yX2_counted, Cond.instanceMethod yX2_counted, Cond.selects RX2 yX2_counted yX2_counted, Cond.code yX2_counted cX2_counted 8 (some .int), Cond.methodLink RL 118 yL_fits, Cond.static yL_fits]
def wsL_law0_r17 : List Cond := [Cond.codeWith yL_fits cL_fits 5 (some .int) [(0, 17, 20, 21)], Cond.methodLink RL 49 yX1_fits, Cond.instanceMethod yX1_fits, Cond.selects RX1 yX1_fits yX1_fits, Cond.code yX1_fits cX1_fits 5 (some .boolean), Cond.methodLink RL 120 yX2_fits, Cond.instanceMethod yX2_fits, Cond.selects RX2 yX2_fits yX2_fits, Cond.code yX2_fits cX2_fits 3 (some .boolean), Cond.methodLink RL 121 yL_size, Cond.static yL_size, Cond.codeWith yL_size cL_size 5 (some .int) [(0, 10, 13, 21), (0, 10, 17, 13)], Cond.methodLink RL 53 yX1_size, Cond.instanceMethod yX1_size, Cond.selects RX1 yX1_size yX1_size, Cond.code yX1_size cX1_size 4 (some .int), Cond.methodLink RX1 134 yX1_needTurn, Cond.static yX1_needTurn, Cond.code yX1_needTurn cX1_needTurn 1 none, Cond.methodLink RX1 137 yX0_readingLength, Cond.instanceMethod yX0_readingLength, Cond.selects RX0 yX0_readingLength yX0_readingLength, Cond.code yX0_readingLength cX0_readingLength 5 (some .int), Cond.methodLink RX0 90 yX0_runeRead]
def wsL_law0_r18 : List Cond := [Cond.instanceMethod yX0_runeRead, Cond.selects RX0 yX0_runeRead yX0_runeRead, Cond.code yX0_runeRead cX0_runeRead 4 (some .int), Cond.methodLink RL 123 yX2_size, Cond.instanceMethod yX2_size, Cond.selects RX2 yX2_size yX2_size, Cond.code yX2_size cX2_size 3 (some .int), Cond.methodLink RX2 118 yX2_read, Cond.instanceMethod yX2_read, Cond.selects RX2 yX2_read yX2_read, Cond.code yX2_read cX2_read 8 (some .int), Cond.methodLink RL 124 yL_reads, Cond.static yL_reads, Cond.codeWith yL_reads cL_reads 6 (some .int) [(0, 12, 15, 21), (0, 12, 19, 13)], Cond.methodLink RL 56 yX1_reads, Cond.instanceMethod yX1_reads, Cond.selects RX1 yX1_reads yX1_reads, Cond.code yX1_reads cX1_reads 6 (some .int), Cond.methodLink RX1 140 yX0_runeOfReadingOrNone, Cond.instanceMethod yX0_runeOfReadingOrNone, Cond.selects RX0 yX0_runeOfReadingOrNone yX0_runeOfReadingOrNone, Cond.code yX0_runeOfReadingOrNone cX0_runeOfReadingOrNone 6 (some .int), Cond.methodLink RL 126 yX2_reads, Cond.instanceMethod yX2_reads]
def wsL_law0_r19 : List Cond := [Cond.selects RX2 yX2_reads yX2_reads, Cond.code yX2_reads cX2_reads 4 (some .int), Cond.methodLink RL 127 yL_has, Cond.static yL_has, Cond.codeWith yL_has cL_has 6 (some .int) [(0, 12, 15, 21), (0, 12, 19, 13)], Cond.methodLink RL 59 yX1_has, Cond.instanceMethod yX1_has, Cond.selects RX1 yX1_has yX1_has, Cond.code yX1_has cX1_has 8 (some .int), Cond.methodLink RX1 145 yX0_readsPair, Cond.instanceMethod yX0_readsPair, Cond.selects RX0 yX0_readsPair yX0_readsPair, Cond.code yX0_readsPair cX0_readsPair 8 (some .boolean), Cond.methodLink RL 129 yX2_has, Cond.instanceMethod yX2_has, Cond.selects RX2 yX2_has yX2_has, Cond.code yX2_has cX2_has 9 (some .int), Cond.methodLink RL 130 yL_rhyme, Cond.static yL_rhyme, Cond.codeWith yL_rhyme cL_rhyme 6 (some .int) [(0, 12, 15, 21), (0, 12, 19, 13)], Cond.methodLink RL 62 yX1_rhyme, Cond.instanceMethod yX1_rhyme, Cond.selects RX1 yX1_rhyme yX1_rhyme, Cond.code yX1_rhyme cX1_rhyme 6 (some .int)]
def wsL_law0_r20 : List Cond := [Cond.methodLink RX1 149 yX1_rhymeOf, Cond.static yX1_rhymeOf, Cond.code yX1_rhymeOf cX1_rhymeOf 9 (some .int), Cond.methodLink RX1 211 yX0_placeReadUpTo, Cond.instanceMethod yX0_placeReadUpTo, Cond.selects RX0 yX0_placeReadUpTo yX0_placeReadUpTo, Cond.code yX0_placeReadUpTo cX0_placeReadUpTo 5 (some .int), Cond.methodLink RX1 215 yX0_runeRead, Cond.methodLink RX1 218 yX1_pairWorth, Cond.static yX1_pairWorth, Cond.code yX1_pairWorth cX1_pairWorth 2 (some .int), Cond.methodLink RL 132 yX2_rhyme, Cond.instanceMethod yX2_rhyme, Cond.selects RX2 yX2_rhyme yX2_rhyme, Cond.code yX2_rhyme cX2_rhyme 4 (some .int), Cond.methodLink RX2 122 yX2_rhymeOf, Cond.instanceMethod yX2_rhymeOf, Cond.selects RX2 yX2_rhymeOf yX2_rhymeOf, Cond.code yX2_rhymeOf cX2_rhymeOf 8 (some .int), Cond.methodLink RL 133 yL_best, Cond.static yL_best, Cond.codeWith yL_best cL_best 6 (some .int) [(0, 12, 15, 21), (0, 12, 19, 13)], Cond.methodLink RL 65 yX1_best, Cond.instanceMethod yX1_best]
def wsL_law0_r21 : List Cond := [Cond.selects RX1 yX1_best yX1_best, Cond.code yX1_best cX1_best 10 (some .int), Cond.methodLink RL 135 yX2_best, Cond.instanceMethod yX2_best, Cond.selects RX2 yX2_best yX2_best, Cond.code yX2_best cX2_best 6 (some .int), Cond.methodLink RL 136 yL_pieces, Cond.static yL_pieces, Cond.codeWith yL_pieces cL_pieces 5 (some .int) [(0, 10, 13, 21), (0, 10, 17, 13)], Cond.methodLink RL 68 yX1_pieces, Cond.instanceMethod yX1_pieces, Cond.selects RX1 yX1_pieces yX1_pieces, Cond.code yX1_pieces cX1_pieces 4 (some .int), Cond.methodLink RX1 153 yX0_jointsWeakerThan, Cond.instanceMethod yX0_jointsWeakerThan, Cond.selects RX0 yX0_jointsWeakerThan yX0_jointsWeakerThan, Cond.code yX0_jointsWeakerThan cX0_jointsWeakerThan 4 (some .int), Cond.methodLink RL 138 yX2_pieces, Cond.instanceMethod yX2_pieces, Cond.selects RX2 yX2_pieces yX2_pieces, Cond.code yX2_pieces cX2_pieces 5 (some .int), Cond.methodLink RL 139 yL_row, Cond.static yL_row, Cond.codeWith yL_row cL_row 5 (some .int) [(0, 10, 13, 21), (0, 10, 17, 13), (0, 10, 21, 15)]]
def wsL_law0_r22 : List Cond := [Cond.methodLink RL 71 yX1_row, Cond.instanceMethod yX1_row, Cond.selects RX1 yX1_row yX1_row, Cond.code yX1_row cX1_row 7 (some .int), Cond.methodLink RL 141 yX2_row, Cond.instanceMethod yX2_row, Cond.selects RX2 yX2_row yX2_row, Cond.code yX2_row cX2_row 11 (some .int), Cond.methodLink RL 142 yX1_mean, Cond.instanceMethod yX1_mean, Cond.selects RX1 yX1_mean yX1_mean, Cond.code yX1_mean cX1_mean 2 (some .double), Cond.methodLink RL 146 yX2_mean, Cond.instanceMethod yX2_mean, Cond.selects RX2 yX2_mean yX2_mean, Cond.code yX2_mean cX2_mean 1 (some .double), Cond.methodLink RL 147 yX1_digest, Cond.instanceMethod yX1_digest, Cond.selects RX1 yX1_digest yX1_digest, Cond.code yX1_digest cX1_digest 5 (some .long), Cond.constantLong RX1 162 (1019), Cond.constantLong RX1 164 (31), Cond.methodLink RX1 169 yX0_addedTo, Cond.instanceMethod yX0_addedTo]
def wsL_law0_r23 : List Cond := [Cond.selects RX0 yX0_addedTo yX0_addedTo, Cond.code yX0_addedTo cX0_addedTo 7 (some .long), Cond.constantLong RX0 94 (31), Cond.methodLink RX0 96 yX0_factAt, Cond.methodLink RL 151 yX2_digest, Cond.instanceMethod yX2_digest, Cond.selects RX2 yX2_digest yX2_digest, Cond.code yX2_digest cX2_digest 5 (some .long), Cond.constantLong RX2 125 (1019), Cond.constantLong RX2 127 (31)]
def wsL_law0 : List Cond := (wsL_law0_r1 ++ (wsL_law0_r2 ++ (wsL_law0_r3 ++ (wsL_law0_r4 ++ (wsL_law0_r5 ++ (wsL_law0_r6 ++ (wsL_law0_r7 ++ (wsL_law0_r8 ++ (wsL_law0_r9 ++ (wsL_law0_r10 ++ (wsL_law0_r11 ++ (wsL_law0_r12 ++ (wsL_law0_r13 ++ (wsL_law0_r14 ++ (wsL_law0_r15 ++ (wsL_law0_r16 ++ (wsL_law0_r17 ++ (wsL_law0_r18 ++ (wsL_law0_r19 ++ (wsL_law0_r20 ++ (wsL_law0_r21 ++ (wsL_law0_r22 ++ wsL_law0_r23)))))))))))))))))))))) ++ wsX10 ++ wsX20 ++ wsX00 ++ ([] : List Cond)
def wsL_law : List Cond := wsL_law0 ++ (vx_atS RX1 26 "java/lang/IllegalArgumentException" ["java/lang/RuntimeException", "java/lang/Exception"]).filter goodWord ++ (vx_atS RX1 37 "java/lang/IllegalStateException" ["java/lang/RuntimeException", "java/lang/Exception"]).filter goodWord ++ (vx_atS RX1 111 "java/lang/IndexOutOfBoundsException" ["java/lang/RuntimeException", "java/lang/Exception"]).filter goodWord
abbrev vwCl : List vw_C := [(RX0, TX0, 8), (RX1, TX1, 3), (RX2, TX2, 13)]
end
section
set_option maxRecDepth 20000 in
theorem ggX0_init_J7_fill_53178 : GoodIn wsX0_init wsJ7_fill_53178 := goodIn_r _ [17] (by decide +kernel) (by decide +kernel)
set_option maxRecDepth 20000 in
theorem gX0_init_J7_fill_53178 : GoodIn wsX0_init (va_wsS RX0 39 yJ7_fill_53178 wsJ7_fill_53178) := goodIn_app (goodIn_of _ (by decide +kernel)) ggX0_init_J7_fill_53178
theorem dX0_init_0 : decode cX0_init 0 = .ok (.aload_n 0, 1) := by decide +kernel
theorem dX0_init_1 : decode cX0_init 1 = .ok (.invokespecial 3, 3) := by decide +kernel
theorem dX0_init_4 : decode cX0_init 4 = .ok (.aload_n 0, 1) := by decide +kernel
theorem dX0_init_5 : decode cX0_init 5 = .ok (.iload_n 1, 1) := by decide +kernel
theorem dX0_init_6 : decode cX0_init 6 = .ok (.putfield 9, 3) := by decide +kernel
theorem dX0_init_9 : decode cX0_init 9 = .ok (.aload_n 0, 1) := by decide +kernel
theorem dX0_init_10 : decode cX0_init 10 = .ok (.iconst 0, 1) := by decide +kernel
theorem dX0_init_11 : decode cX0_init 11 = .ok (.putfield 15, 3) := by decide +kernel
theorem dX0_init_14 : decode cX0_init 14 = .ok (.aload_n 0, 1) := by decide +kernel
theorem dX0_init_15 : decode cX0_init 15 = .ok (.iconst (-1), 1) := by decide +kernel
theorem dX0_init_16 : decode cX0_init 16 = .ok (.putfield 18, 3) := by decide +kernel
theorem dX0_init_19 : decode cX0_init 19 = .ok (.aload_n 0, 1) := by decide +kernel
theorem dX0_init_20 : decode cX0_init 20 = .ok (.iconst (-1), 1) := by decide +kernel
theorem dX0_init_21 : decode cX0_init 21 = .ok (.putfield 21, 3) := by decide +kernel
theorem dX0_init_24 : decode cX0_init 24 = .ok (.aload_n 0, 1) := by decide +kernel
theorem dX0_init_25 : decode cX0_init 25 = .ok (.iconst 0, 1) := by decide +kernel
theorem dX0_init_26 : decode cX0_init 26 = .ok (.putfield 24, 3) := by decide +kernel
theorem dX0_init_29 : decode cX0_init 29 = .ok (.aload_n 0, 1) := by decide +kernel
theorem dX0_init_30 : decode cX0_init 30 = .ok (.bipush 36, 2) := by decide +kernel
theorem dX0_init_32 : decode cX0_init 32 = .ok (.newarray .int, 2) := by decide +kernel
theorem dX0_init_34 : decode cX0_init 34 = .ok (.putfield 28, 3) := by decide +kernel
theorem dX0_init_37 : decode cX0_init 37 = .ok (.aload_n 0, 1) := by decide +kernel
theorem dX0_init_38 : decode cX0_init 38 = .ok (.bipush 11, 2) := by decide +kernel
theorem dX0_init_40 : decode cX0_init 40 = .ok (.newarray .int, 2) := by decide +kernel
theorem dX0_init_42 : decode cX0_init 42 = .ok (.putfield 32, 3) := by decide +kernel
theorem dX0_init_45 : decode cX0_init 45 = .ok (.aload_n 0, 1) := by decide +kernel
theorem dX0_init_46 : decode cX0_init 46 = .ok (.bipush 11, 2) := by decide +kernel
theorem dX0_init_48 : decode cX0_init 48 = .ok (.newarray .boolean, 2) := by decide +kernel
theorem dX0_init_50 : decode cX0_init 50 = .ok (.putfield 35, 3) := by decide +kernel
theorem dX0_init_53 : decode cX0_init 53 = .ok (.aload_n 0, 1) := by decide +kernel
theorem dX0_init_54 : decode cX0_init 54 = .ok (.getfield 28, 3) := by decide +kernel
theorem dX0_init_57 : decode cX0_init 57 = .ok (.iconst (-1), 1) := by decide +kernel
theorem dX0_init_58 : decode cX0_init 58 = .ok (.invokestatic 39, 3) := by decide +kernel
theorem dX0_init_61 : decode cX0_init 61 = .ok (.aload_n 0, 1) := by decide +kernel
theorem dX0_init_62 : decode cX0_init 62 = .ok (.getfield 32, 3) := by decide +kernel
theorem dX0_init_65 : decode cX0_init 65 = .ok (.bipush 12, 2) := by decide +kernel
theorem dX0_init_67 : decode cX0_init 67 = .ok (.invokestatic 39, 3) := by decide +kernel
theorem dX0_init_70 : decode cX0_init 70 = .ok (.return_, 1) := by decide +kernel
theorem dX0_hasPlace_0 : decode cX0_hasPlace 0 = .ok (.iload_n 1, 1) := by decide +kernel
theorem dX0_hasPlace_1 : decode cX0_hasPlace 1 = .ok (.ifCond .lt 30, 3) := by decide +kernel
theorem dX0_hasPlace_4 : decode cX0_hasPlace 4 = .ok (.iload_n 1, 1) := by decide +kernel
theorem dX0_hasPlace_5 : decode cX0_hasPlace 5 = .ok (.iconst 3, 1) := by decide +kernel
theorem dX0_hasPlace_6 : decode cX0_hasPlace 6 = .ok (.if_icmp .ge 25, 3) := by decide +kernel
theorem dX0_hasPlace_9 : decode cX0_hasPlace 9 = .ok (.iload_n 2, 1) := by decide +kernel
theorem dX0_hasPlace_10 : decode cX0_hasPlace 10 = .ok (.ifCond .lt 21, 3) := by decide +kernel
theorem dX0_hasPlace_13 : decode cX0_hasPlace 13 = .ok (.iload_n 2, 1) := by decide +kernel
theorem dX0_hasPlace_14 : decode cX0_hasPlace 14 = .ok (.aload_n 0, 1) := by decide +kernel
theorem dX0_hasPlace_15 : decode cX0_hasPlace 15 = .ok (.getfield 9, 3) := by decide +kernel
theorem dX0_hasPlace_18 : decode cX0_hasPlace 18 = .ok (.if_icmp .ge 13, 3) := by decide +kernel
theorem dX0_hasPlace_21 : decode cX0_hasPlace 21 = .ok (.iload_n 2, 1) := by decide +kernel
theorem dX0_hasPlace_22 : decode cX0_hasPlace 22 = .ok (.bipush 12, 2) := by decide +kernel
theorem dX0_hasPlace_24 : decode cX0_hasPlace 24 = .ok (.if_icmp .ge 7, 3) := by decide +kernel
theorem dX0_hasPlace_27 : decode cX0_hasPlace 27 = .ok (.iconst 1, 1) := by decide +kernel
theorem dX0_hasPlace_28 : decode cX0_hasPlace 28 = .ok (.goto 4, 3) := by decide +kernel
theorem dX0_hasPlace_31 : decode cX0_hasPlace 31 = .ok (.iconst 0, 1) := by decide +kernel
theorem dX0_hasPlace_32 : decode cX0_hasPlace 32 = .ok (.ireturn, 1) := by decide +kernel
theorem dX0_hasJoint_0 : decode cX0_hasJoint 0 = .ok (.iload_n 1, 1) := by decide +kernel
theorem dX0_hasJoint_1 : decode cX0_hasJoint 1 = .ok (.ifCond .lt 23, 3) := by decide +kernel
theorem dX0_hasJoint_4 : decode cX0_hasJoint 4 = .ok (.iload_n 1, 1) := by decide +kernel
theorem dX0_hasJoint_5 : decode cX0_hasJoint 5 = .ok (.aload_n 0, 1) := by decide +kernel
theorem dX0_hasJoint_6 : decode cX0_hasJoint 6 = .ok (.getfield 9, 3) := by decide +kernel
theorem dX0_hasJoint_9 : decode cX0_hasJoint 9 = .ok (.iconst 1, 1) := by decide +kernel
theorem dX0_hasJoint_10 : decode cX0_hasJoint 10 = .ok (.isub, 1) := by decide +kernel
theorem dX0_hasJoint_11 : decode cX0_hasJoint 11 = .ok (.if_icmp .ge 13, 3) := by decide +kernel
theorem dX0_hasJoint_14 : decode cX0_hasJoint 14 = .ok (.iload_n 1, 1) := by decide +kernel
theorem dX0_hasJoint_15 : decode cX0_hasJoint 15 = .ok (.bipush 11, 2) := by decide +kernel
theorem dX0_hasJoint_17 : decode cX0_hasJoint 17 = .ok (.if_icmp .ge 7, 3) := by decide +kernel
theorem dX0_hasJoint_20 : decode cX0_hasJoint 20 = .ok (.iconst 1, 1) := by decide +kernel
theorem dX0_hasJoint_21 : decode cX0_hasJoint 21 = .ok (.goto 4, 3) := by decide +kernel
theorem dX0_hasJoint_24 : decode cX0_hasJoint 24 = .ok (.iconst 0, 1) := by decide +kernel
theorem dX0_hasJoint_25 : decode cX0_hasJoint 25 = .ok (.ireturn, 1) := by decide +kernel
set_option maxRecDepth 20000 in
theorem ggX0_runeAt_X0_hasPlace : GoodIn wsX0_runeAt wsX0_hasPlace := goodIn_r _ [6, 7, 8, 9, 10, 11, 12, 13, 14, 15] (by decide +kernel) (by decide +kernel)
set_option maxRecDepth 20000 in
theorem gX0_runeAt_X0_hasPlace : GoodIn wsX0_runeAt (wsV RX0 45 RX0 yX0_hasPlace wsX0_hasPlace) := goodIn_app (goodIn_of _ (by decide +kernel)) ggX0_runeAt_X0_hasPlace
theorem dX0_runeAt_0 : decode cX0_runeAt 0 = .ok (.aload_n 0, 1) := by decide +kernel
theorem dX0_runeAt_1 : decode cX0_runeAt 1 = .ok (.iload_n 1, 1) := by decide +kernel
theorem dX0_runeAt_2 : decode cX0_runeAt 2 = .ok (.iload_n 2, 1) := by decide +kernel
theorem dX0_runeAt_3 : decode cX0_runeAt 3 = .ok (.invokevirtual 45, 3) := by decide +kernel
theorem dX0_runeAt_6 : decode cX0_runeAt 6 = .ok (.ifCond .eq 16, 3) := by decide +kernel
theorem dX0_runeAt_9 : decode cX0_runeAt 9 = .ok (.aload_n 0, 1) := by decide +kernel
theorem dX0_runeAt_10 : decode cX0_runeAt 10 = .ok (.getfield 28, 3) := by decide +kernel
theorem dX0_runeAt_13 : decode cX0_runeAt 13 = .ok (.iload_n 2, 1) := by decide +kernel
theorem dX0_runeAt_14 : decode cX0_runeAt 14 = .ok (.iconst 3, 1) := by decide +kernel
theorem dX0_runeAt_15 : decode cX0_runeAt 15 = .ok (.imul, 1) := by decide +kernel
theorem dX0_runeAt_16 : decode cX0_runeAt 16 = .ok (.iload_n 1, 1) := by decide +kernel
theorem dX0_runeAt_17 : decode cX0_runeAt 17 = .ok (.iadd, 1) := by decide +kernel
theorem dX0_runeAt_18 : decode cX0_runeAt 18 = .ok (.iaload, 1) := by decide +kernel
theorem dX0_runeAt_19 : decode cX0_runeAt 19 = .ok (.goto 4, 3) := by decide +kernel
theorem dX0_runeAt_22 : decode cX0_runeAt 22 = .ok (.iconst (-1), 1) := by decide +kernel
theorem dX0_runeAt_23 : decode cX0_runeAt 23 = .ok (.ireturn, 1) := by decide +kernel
set_option maxRecDepth 20000 in
theorem ggX0_putRune_X0_hasPlace : GoodIn wsX0_putRune wsX0_hasPlace := goodIn_r _ [6, 7, 8, 9, 10, 11, 12, 13, 14, 15] (by decide +kernel) (by decide +kernel)
set_option maxRecDepth 20000 in
theorem gX0_putRune_X0_hasPlace : GoodIn wsX0_putRune (wsV RX0 45 RX0 yX0_hasPlace wsX0_hasPlace) := goodIn_app (goodIn_of _ (by decide +kernel)) ggX0_putRune_X0_hasPlace
theorem dX0_putRune_0 : decode cX0_putRune 0 = .ok (.aload_n 0, 1) := by decide +kernel
theorem dX0_putRune_1 : decode cX0_putRune 1 = .ok (.iload_n 1, 1) := by decide +kernel
theorem dX0_putRune_2 : decode cX0_putRune 2 = .ok (.iload_n 2, 1) := by decide +kernel
theorem dX0_putRune_3 : decode cX0_putRune 3 = .ok (.invokevirtual 45, 3) := by decide +kernel
theorem dX0_putRune_6 : decode cX0_putRune 6 = .ok (.ifCond .eq 14, 3) := by decide +kernel
theorem dX0_putRune_9 : decode cX0_putRune 9 = .ok (.aload_n 0, 1) := by decide +kernel
theorem dX0_putRune_10 : decode cX0_putRune 10 = .ok (.getfield 28, 3) := by decide +kernel
theorem dX0_putRune_13 : decode cX0_putRune 13 = .ok (.iload_n 2, 1) := by decide +kernel
theorem dX0_putRune_14 : decode cX0_putRune 14 = .ok (.iconst 3, 1) := by decide +kernel
theorem dX0_putRune_15 : decode cX0_putRune 15 = .ok (.imul, 1) := by decide +kernel
theorem dX0_putRune_16 : decode cX0_putRune 16 = .ok (.iload_n 1, 1) := by decide +kernel
theorem dX0_putRune_17 : decode cX0_putRune 17 = .ok (.iadd, 1) := by decide +kernel
theorem dX0_putRune_18 : decode cX0_putRune 18 = .ok (.iload_n 3, 1) := by decide +kernel
theorem dX0_putRune_19 : decode cX0_putRune 19 = .ok (.iastore, 1) := by decide +kernel
theorem dX0_putRune_20 : decode cX0_putRune 20 = .ok (.return_, 1) := by decide +kernel
set_option maxRecDepth 20000 in
theorem ggX0_baseAt_X0_hasJoint : GoodIn wsX0_baseAt wsX0_hasJoint := goodIn_r _ [6, 7, 8, 9, 10, 11, 12, 13, 14, 15] (by decide +kernel) (by decide +kernel)
set_option maxRecDepth 20000 in
theorem gX0_baseAt_X0_hasJoint : GoodIn wsX0_baseAt (wsV RX0 49 RX0 yX0_hasJoint wsX0_hasJoint) := goodIn_app (goodIn_of _ (by decide +kernel)) ggX0_baseAt_X0_hasJoint
theorem dX0_baseAt_0 : decode cX0_baseAt 0 = .ok (.aload_n 0, 1) := by decide +kernel
theorem dX0_baseAt_1 : decode cX0_baseAt 1 = .ok (.iload_n 1, 1) := by decide +kernel
theorem dX0_baseAt_2 : decode cX0_baseAt 2 = .ok (.invokevirtual 49, 3) := by decide +kernel
theorem dX0_baseAt_5 : decode cX0_baseAt 5 = .ok (.ifCond .eq 12, 3) := by decide +kernel
theorem dX0_baseAt_8 : decode cX0_baseAt 8 = .ok (.aload_n 0, 1) := by decide +kernel
theorem dX0_baseAt_9 : decode cX0_baseAt 9 = .ok (.getfield 32, 3) := by decide +kernel
theorem dX0_baseAt_12 : decode cX0_baseAt 12 = .ok (.iload_n 1, 1) := by decide +kernel
theorem dX0_baseAt_13 : decode cX0_baseAt 13 = .ok (.iaload, 1) := by decide +kernel
theorem dX0_baseAt_14 : decode cX0_baseAt 14 = .ok (.goto 4, 3) := by decide +kernel
theorem dX0_baseAt_17 : decode cX0_baseAt 17 = .ok (.iconst 0, 1) := by decide +kernel
theorem dX0_baseAt_18 : decode cX0_baseAt 18 = .ok (.ireturn, 1) := by decide +kernel
set_option maxRecDepth 20000 in
theorem ggX0_gluedAt_X0_hasJoint : GoodIn wsX0_gluedAt wsX0_hasJoint := goodIn_r _ [6, 7, 8, 9, 10, 11, 12, 13, 14, 15] (by decide +kernel) (by decide +kernel)
set_option maxRecDepth 20000 in
theorem gX0_gluedAt_X0_hasJoint : GoodIn wsX0_gluedAt (wsV RX0 49 RX0 yX0_hasJoint wsX0_hasJoint) := goodIn_app (goodIn_of _ (by decide +kernel)) ggX0_gluedAt_X0_hasJoint
theorem dX0_gluedAt_0 : decode cX0_gluedAt 0 = .ok (.aload_n 0, 1) := by decide +kernel
theorem dX0_gluedAt_1 : decode cX0_gluedAt 1 = .ok (.iload_n 1, 1) := by decide +kernel
theorem dX0_gluedAt_2 : decode cX0_gluedAt 2 = .ok (.invokevirtual 49, 3) := by decide +kernel
theorem dX0_gluedAt_5 : decode cX0_gluedAt 5 = .ok (.ifCond .eq 16, 3) := by decide +kernel
theorem dX0_gluedAt_8 : decode cX0_gluedAt 8 = .ok (.aload_n 0, 1) := by decide +kernel
theorem dX0_gluedAt_9 : decode cX0_gluedAt 9 = .ok (.getfield 35, 3) := by decide +kernel
theorem dX0_gluedAt_12 : decode cX0_gluedAt 12 = .ok (.iload_n 1, 1) := by decide +kernel
theorem dX0_gluedAt_13 : decode cX0_gluedAt 13 = .ok (.baload, 1) := by decide +kernel
theorem dX0_gluedAt_14 : decode cX0_gluedAt 14 = .ok (.ifCond .eq 7, 3) := by decide +kernel
theorem dX0_gluedAt_17 : decode cX0_gluedAt 17 = .ok (.iconst 1, 1) := by decide +kernel
theorem dX0_gluedAt_18 : decode cX0_gluedAt 18 = .ok (.goto 4, 3) := by decide +kernel
theorem dX0_gluedAt_21 : decode cX0_gluedAt 21 = .ok (.iconst 0, 1) := by decide +kernel
theorem dX0_gluedAt_22 : decode cX0_gluedAt 22 = .ok (.ireturn, 1) := by decide +kernel
set_option maxRecDepth 20000 in
theorem ggX0_putJoint_X0_hasJoint : GoodIn wsX0_putJoint wsX0_hasJoint := goodIn_r _ [7, 8, 9, 10, 11, 12, 13, 14, 15, 16] (by decide +kernel) (by decide +kernel)
set_option maxRecDepth 20000 in
theorem gX0_putJoint_X0_hasJoint : GoodIn wsX0_putJoint (wsV RX0 49 RX0 yX0_hasJoint wsX0_hasJoint) := goodIn_app (goodIn_of _ (by decide +kernel)) ggX0_putJoint_X0_hasJoint
theorem dX0_putJoint_0 : decode cX0_putJoint 0 = .ok (.aload_n 0, 1) := by decide +kernel
theorem dX0_putJoint_1 : decode cX0_putJoint 1 = .ok (.iload_n 1, 1) := by decide +kernel
theorem dX0_putJoint_2 : decode cX0_putJoint 2 = .ok (.invokevirtual 49, 3) := by decide +kernel
theorem dX0_putJoint_5 : decode cX0_putJoint 5 = .ok (.ifCond .eq 17, 3) := by decide +kernel
theorem dX0_putJoint_8 : decode cX0_putJoint 8 = .ok (.aload_n 0, 1) := by decide +kernel
theorem dX0_putJoint_9 : decode cX0_putJoint 9 = .ok (.getfield 32, 3) := by decide +kernel
theorem dX0_putJoint_12 : decode cX0_putJoint 12 = .ok (.iload_n 1, 1) := by decide +kernel
theorem dX0_putJoint_13 : decode cX0_putJoint 13 = .ok (.iload_n 2, 1) := by decide +kernel
theorem dX0_putJoint_14 : decode cX0_putJoint 14 = .ok (.iastore, 1) := by decide +kernel
theorem dX0_putJoint_15 : decode cX0_putJoint 15 = .ok (.aload_n 0, 1) := by decide +kernel
theorem dX0_putJoint_16 : decode cX0_putJoint 16 = .ok (.getfield 35, 3) := by decide +kernel
theorem dX0_putJoint_19 : decode cX0_putJoint 19 = .ok (.iload_n 1, 1) := by decide +kernel
theorem dX0_putJoint_20 : decode cX0_putJoint 20 = .ok (.iload_n 3, 1) := by decide +kernel
theorem dX0_putJoint_21 : decode cX0_putJoint 21 = .ok (.bastore, 1) := by decide +kernel
theorem dX0_putJoint_22 : decode cX0_putJoint 22 = .ok (.return_, 1) := by decide +kernel
set_option maxRecDepth 20000 in
theorem ggX0_takePlaces_X0_runeAt : GoodIn wsX0_takePlaces wsX0_runeAt := goodIn_r _ [5, 6, 7, 8, 9, 4, 10, 11, 34, 35, 36, 37, 38, 39, 40, 41] (by decide +kernel) (by decide +kernel)
set_option maxRecDepth 20000 in
theorem gX0_takePlaces_X0_runeAt : GoodIn wsX0_takePlaces (wsV RX0 53 RX0 yX0_runeAt wsX0_runeAt) := goodIn_app (goodIn_of _ (by decide +kernel)) ggX0_takePlaces_X0_runeAt
set_option maxRecDepth 20000 in
theorem ggX0_takePlaces_X0_putRune : GoodIn wsX0_takePlaces wsX0_putRune := goodIn_r _ [15, 6, 7, 8, 9, 4, 10, 11, 34, 35, 36, 37, 38, 39, 40, 41] (by decide +kernel) (by decide +kernel)
set_option maxRecDepth 20000 in
theorem gX0_takePlaces_X0_putRune : GoodIn wsX0_takePlaces (wsV RX0 57 RX0 yX0_putRune wsX0_putRune) := goodIn_app (goodIn_of _ (by decide +kernel)) ggX0_takePlaces_X0_putRune
set_option maxRecDepth 20000 in
theorem ggX0_takePlaces_X0_baseAt : GoodIn wsX0_takePlaces wsX0_baseAt := goodIn_r _ [19, 20, 21, 22, 23, 4, 24, 11, 34, 35, 36, 37, 38, 39, 40, 41] (by decide +kernel) (by decide +kernel)
set_option maxRecDepth 20000 in
theorem gX0_takePlaces_X0_baseAt : GoodIn wsX0_takePlaces (wsV RX0 61 RX0 yX0_baseAt wsX0_baseAt) := goodIn_app (goodIn_of _ (by decide +kernel)) ggX0_takePlaces_X0_baseAt
set_option maxRecDepth 20000 in
theorem ggX0_takePlaces_X0_gluedAt : GoodIn wsX0_takePlaces wsX0_gluedAt := goodIn_r _ [28, 29, 21, 22, 23, 4, 24, 11, 34, 35, 36, 37, 38, 39, 40, 41] (by decide +kernel) (by decide +kernel)
set_option maxRecDepth 20000 in
theorem gX0_takePlaces_X0_gluedAt : GoodIn wsX0_takePlaces (wsV RX0 65 RX0 yX0_gluedAt wsX0_gluedAt) := goodIn_app (goodIn_of _ (by decide +kernel)) ggX0_takePlaces_X0_gluedAt
set_option maxRecDepth 20000 in
theorem ggX0_takePlaces_X0_putJoint : GoodIn wsX0_takePlaces wsX0_putJoint := goodIn_r _ [33, 20, 29, 21, 22, 23, 4, 24, 11, 34, 35, 36, 37, 38, 39, 40, 41] (by decide +kernel) (by decide +kernel)
set_option maxRecDepth 20000 in
theorem gX0_takePlaces_X0_putJoint : GoodIn wsX0_takePlaces (wsV RX0 68 RX0 yX0_putJoint wsX0_putJoint) := goodIn_app (goodIn_of _ (by decide +kernel)) ggX0_takePlaces_X0_putJoint
theorem dX0_takePlaces_0 : decode cX0_takePlaces 0 = .ok (.iconst 0, 1) := by decide +kernel
theorem dX0_takePlaces_1 : decode cX0_takePlaces 1 = .ok (.istore 6, 2) := by decide +kernel
theorem dX0_takePlaces_3 : decode cX0_takePlaces 3 = .ok (.iload 6, 2) := by decide +kernel
theorem dX0_takePlaces_5 : decode cX0_takePlaces 5 = .ok (.iload_n 3, 1) := by decide +kernel
theorem dX0_takePlaces_6 : decode cX0_takePlaces 6 = .ok (.if_icmp .ge 50, 3) := by decide +kernel
theorem dX0_takePlaces_9 : decode cX0_takePlaces 9 = .ok (.iconst 0, 1) := by decide +kernel
theorem dX0_takePlaces_10 : decode cX0_takePlaces 10 = .ok (.istore 7, 2) := by decide +kernel
theorem dX0_takePlaces_12 : decode cX0_takePlaces 12 = .ok (.iload 7, 2) := by decide +kernel
theorem dX0_takePlaces_14 : decode cX0_takePlaces 14 = .ok (.iconst 3, 1) := by decide +kernel
theorem dX0_takePlaces_15 : decode cX0_takePlaces 15 = .ok (.if_icmp .ge 35, 3) := by decide +kernel
theorem dX0_takePlaces_18 : decode cX0_takePlaces 18 = .ok (.aload_n 0, 1) := by decide +kernel
theorem dX0_takePlaces_19 : decode cX0_takePlaces 19 = .ok (.iload 7, 2) := by decide +kernel
theorem dX0_takePlaces_21 : decode cX0_takePlaces 21 = .ok (.iload 4, 2) := by decide +kernel
theorem dX0_takePlaces_23 : decode cX0_takePlaces 23 = .ok (.iload 6, 2) := by decide +kernel
theorem dX0_takePlaces_25 : decode cX0_takePlaces 25 = .ok (.iadd, 1) := by decide +kernel
theorem dX0_takePlaces_26 : decode cX0_takePlaces 26 = .ok (.aload_n 1, 1) := by decide +kernel
theorem dX0_takePlaces_27 : decode cX0_takePlaces 27 = .ok (.iload 7, 2) := by decide +kernel
theorem dX0_takePlaces_29 : decode cX0_takePlaces 29 = .ok (.iload 5, 2) := by decide +kernel
theorem dX0_takePlaces_31 : decode cX0_takePlaces 31 = .ok (.iadd, 1) := by decide +kernel
theorem dX0_takePlaces_32 : decode cX0_takePlaces 32 = .ok (.iconst 3, 1) := by decide +kernel
theorem dX0_takePlaces_33 : decode cX0_takePlaces 33 = .ok (.irem, 1) := by decide +kernel
theorem dX0_takePlaces_34 : decode cX0_takePlaces 34 = .ok (.iload_n 2, 1) := by decide +kernel
theorem dX0_takePlaces_35 : decode cX0_takePlaces 35 = .ok (.iload 6, 2) := by decide +kernel
theorem dX0_takePlaces_37 : decode cX0_takePlaces 37 = .ok (.iadd, 1) := by decide +kernel
theorem dX0_takePlaces_38 : decode cX0_takePlaces 38 = .ok (.invokevirtual 53, 3) := by decide +kernel
theorem dX0_takePlaces_41 : decode cX0_takePlaces 41 = .ok (.invokevirtual 57, 3) := by decide +kernel
theorem dX0_takePlaces_44 : decode cX0_takePlaces 44 = .ok (.iinc 7 1, 3) := by decide +kernel
theorem dX0_takePlaces_47 : decode cX0_takePlaces 47 = .ok (.goto (-35), 3) := by decide +kernel
theorem dX0_takePlaces_50 : decode cX0_takePlaces 50 = .ok (.iinc 6 1, 3) := by decide +kernel
theorem dX0_takePlaces_53 : decode cX0_takePlaces 53 = .ok (.goto (-50), 3) := by decide +kernel
theorem dX0_takePlaces_56 : decode cX0_takePlaces 56 = .ok (.iconst 0, 1) := by decide +kernel
theorem dX0_takePlaces_57 : decode cX0_takePlaces 57 = .ok (.istore 6, 2) := by decide +kernel
theorem dX0_takePlaces_59 : decode cX0_takePlaces 59 = .ok (.iload 6, 2) := by decide +kernel
theorem dX0_takePlaces_61 : decode cX0_takePlaces 61 = .ok (.iload_n 3, 1) := by decide +kernel
theorem dX0_takePlaces_62 : decode cX0_takePlaces 62 = .ok (.iconst 1, 1) := by decide +kernel
theorem dX0_takePlaces_63 : decode cX0_takePlaces 63 = .ok (.isub, 1) := by decide +kernel
theorem dX0_takePlaces_64 : decode cX0_takePlaces 64 = .ok (.if_icmp .ge 34, 3) := by decide +kernel
theorem dX0_takePlaces_67 : decode cX0_takePlaces 67 = .ok (.aload_n 0, 1) := by decide +kernel
theorem dX0_takePlaces_68 : decode cX0_takePlaces 68 = .ok (.iload 4, 2) := by decide +kernel
theorem dX0_takePlaces_70 : decode cX0_takePlaces 70 = .ok (.iload 6, 2) := by decide +kernel
theorem dX0_takePlaces_72 : decode cX0_takePlaces 72 = .ok (.iadd, 1) := by decide +kernel
theorem dX0_takePlaces_73 : decode cX0_takePlaces 73 = .ok (.aload_n 1, 1) := by decide +kernel
theorem dX0_takePlaces_74 : decode cX0_takePlaces 74 = .ok (.iload_n 2, 1) := by decide +kernel
theorem dX0_takePlaces_75 : decode cX0_takePlaces 75 = .ok (.iload 6, 2) := by decide +kernel
theorem dX0_takePlaces_77 : decode cX0_takePlaces 77 = .ok (.iadd, 1) := by decide +kernel
theorem dX0_takePlaces_78 : decode cX0_takePlaces 78 = .ok (.invokevirtual 61, 3) := by decide +kernel
theorem dX0_takePlaces_81 : decode cX0_takePlaces 81 = .ok (.aload_n 1, 1) := by decide +kernel
theorem dX0_takePlaces_82 : decode cX0_takePlaces 82 = .ok (.iload_n 2, 1) := by decide +kernel
theorem dX0_takePlaces_83 : decode cX0_takePlaces 83 = .ok (.iload 6, 2) := by decide +kernel
theorem dX0_takePlaces_85 : decode cX0_takePlaces 85 = .ok (.iadd, 1) := by decide +kernel
theorem dX0_takePlaces_86 : decode cX0_takePlaces 86 = .ok (.invokevirtual 65, 3) := by decide +kernel
theorem dX0_takePlaces_89 : decode cX0_takePlaces 89 = .ok (.invokevirtual 68, 3) := by decide +kernel
theorem dX0_takePlaces_92 : decode cX0_takePlaces 92 = .ok (.iinc 6 1, 3) := by decide +kernel
theorem dX0_takePlaces_95 : decode cX0_takePlaces 95 = .ok (.goto (-36), 3) := by decide +kernel
theorem dX0_takePlaces_98 : decode cX0_takePlaces 98 = .ok (.return_, 1) := by decide +kernel
theorem dX0_fitsAheadOf_0 : decode cX0_fitsAheadOf 0 = .ok (.aload_n 0, 1) := by decide +kernel
theorem dX0_fitsAheadOf_1 : decode cX0_fitsAheadOf 1 = .ok (.aload_n 1, 1) := by decide +kernel
theorem dX0_fitsAheadOf_2 : decode cX0_fitsAheadOf 2 = .ok (.if_acmp .eq 26, 3) := by decide +kernel
theorem dX0_fitsAheadOf_5 : decode cX0_fitsAheadOf 5 = .ok (.aload_n 0, 1) := by decide +kernel
theorem dX0_fitsAheadOf_6 : decode cX0_fitsAheadOf 6 = .ok (.getfield 21, 3) := by decide +kernel
theorem dX0_fitsAheadOf_9 : decode cX0_fitsAheadOf 9 = .ok (.iconst (-1), 1) := by decide +kernel
theorem dX0_fitsAheadOf_10 : decode cX0_fitsAheadOf 10 = .ok (.if_icmp .eq 18, 3) := by decide +kernel
theorem dX0_fitsAheadOf_13 : decode cX0_fitsAheadOf 13 = .ok (.aload_n 0, 1) := by decide +kernel
theorem dX0_fitsAheadOf_14 : decode cX0_fitsAheadOf 14 = .ok (.getfield 21, 3) := by decide +kernel
theorem dX0_fitsAheadOf_17 : decode cX0_fitsAheadOf 17 = .ok (.aload_n 1, 1) := by decide +kernel
theorem dX0_fitsAheadOf_18 : decode cX0_fitsAheadOf 18 = .ok (.getfield 18, 3) := by decide +kernel
theorem dX0_fitsAheadOf_21 : decode cX0_fitsAheadOf 21 = .ok (.if_icmp .ne 7, 3) := by decide +kernel
theorem dX0_fitsAheadOf_24 : decode cX0_fitsAheadOf 24 = .ok (.iconst 1, 1) := by decide +kernel
theorem dX0_fitsAheadOf_25 : decode cX0_fitsAheadOf 25 = .ok (.goto 4, 3) := by decide +kernel
theorem dX0_fitsAheadOf_28 : decode cX0_fitsAheadOf 28 = .ok (.iconst 0, 1) := by decide +kernel
theorem dX0_fitsAheadOf_29 : decode cX0_fitsAheadOf 29 = .ok (.ireturn, 1) := by decide +kernel
set_option maxRecDepth 20000 in
theorem ggX0_factAt_X0_runesInAll : GoodIn wsX0_factAt wsX0_runesInAll := goodIn_r _ [10, 1, 11, 12, 13, 9, 14, 15, 16, 17, 18, 19, 20, 21, 22, 23, 37, 38, 39, 40, 41, 42, 43, 44] (by decide +kernel) (by decide +kernel)
set_option maxRecDepth 20000 in
theorem gX0_factAt_X0_runesInAll : GoodIn wsX0_factAt (wsV RX0 72 RX0 yX0_runesInAll wsX0_runesInAll) := goodIn_app (goodIn_of _ (by decide +kernel)) ggX0_factAt_X0_runesInAll
set_option maxRecDepth 20000 in
theorem ggX0_factAt_X0_gluedJoints : GoodIn wsX0_factAt wsX0_gluedJoints := goodIn_r _ [27, 1, 28, 29, 30, 9, 31, 32, 33, 34, 35, 36, 37, 38, 39, 40, 41, 42, 43, 44] (by decide +kernel) (by decide +kernel)
set_option maxRecDepth 20000 in
theorem gX0_factAt_X0_gluedJoints : GoodIn wsX0_factAt (wsV RX0 76 RX0 yX0_gluedJoints wsX0_gluedJoints) := goodIn_app (goodIn_of _ (by decide +kernel)) ggX0_factAt_X0_gluedJoints
theorem dX0_factAt_0 : decode cX0_factAt 0 = .ok (.iload_n 1, 1) := by decide +kernel
theorem dX0_factAt_1 : decode cX0_factAt 1 = .ok (.tableswitch 69 0 5 #[39, 44, 49, 54, 59, 64], 39) := by decide +kernel
theorem dX0_factAt_40 : decode cX0_factAt 40 = .ok (.aload_n 0, 1) := by decide +kernel
theorem dX0_factAt_41 : decode cX0_factAt 41 = .ok (.getfield 9, 3) := by decide +kernel
theorem dX0_factAt_44 : decode cX0_factAt 44 = .ok (.ireturn, 1) := by decide +kernel
theorem dX0_factAt_45 : decode cX0_factAt 45 = .ok (.aload_n 0, 1) := by decide +kernel
theorem dX0_factAt_46 : decode cX0_factAt 46 = .ok (.getfield 15, 3) := by decide +kernel
theorem dX0_factAt_49 : decode cX0_factAt 49 = .ok (.ireturn, 1) := by decide +kernel
theorem dX0_factAt_50 : decode cX0_factAt 50 = .ok (.aload_n 0, 1) := by decide +kernel
theorem dX0_factAt_51 : decode cX0_factAt 51 = .ok (.invokevirtual 72, 3) := by decide +kernel
theorem dX0_factAt_54 : decode cX0_factAt 54 = .ok (.ireturn, 1) := by decide +kernel
theorem dX0_factAt_55 : decode cX0_factAt 55 = .ok (.aload_n 0, 1) := by decide +kernel
theorem dX0_factAt_56 : decode cX0_factAt 56 = .ok (.invokevirtual 76, 3) := by decide +kernel
theorem dX0_factAt_59 : decode cX0_factAt 59 = .ok (.ireturn, 1) := by decide +kernel
theorem dX0_factAt_60 : decode cX0_factAt 60 = .ok (.aload_n 0, 1) := by decide +kernel
theorem dX0_factAt_61 : decode cX0_factAt 61 = .ok (.getfield 18, 3) := by decide +kernel
theorem dX0_factAt_64 : decode cX0_factAt 64 = .ok (.ireturn, 1) := by decide +kernel
theorem dX0_factAt_65 : decode cX0_factAt 65 = .ok (.aload_n 0, 1) := by decide +kernel
theorem dX0_factAt_66 : decode cX0_factAt 66 = .ok (.getfield 21, 3) := by decide +kernel
theorem dX0_factAt_69 : decode cX0_factAt 69 = .ok (.ireturn, 1) := by decide +kernel
theorem dX0_factAt_70 : decode cX0_factAt 70 = .ok (.aload_n 0, 1) := by decide +kernel
theorem dX0_factAt_71 : decode cX0_factAt 71 = .ok (.getfield 24, 3) := by decide +kernel
theorem dX0_factAt_74 : decode cX0_factAt 74 = .ok (.ifCond .eq 7, 3) := by decide +kernel
theorem dX0_factAt_77 : decode cX0_factAt 77 = .ok (.iconst 1, 1) := by decide +kernel
theorem dX0_factAt_78 : decode cX0_factAt 78 = .ok (.goto 4, 3) := by decide +kernel
theorem dX0_factAt_81 : decode cX0_factAt 81 = .ok (.iconst 0, 1) := by decide +kernel
theorem dX0_factAt_82 : decode cX0_factAt 82 = .ok (.ireturn, 1) := by decide +kernel
set_option maxRecDepth 20000 in
theorem ggX0_runesInAll_X0_runesAtPlace : GoodIn wsX0_runesInAll wsX0_runesAtPlace := goodIn_r _ [6, 7, 8, 9, 5, 10, 11, 12, 13, 14, 15, 1, 16, 17, 18, 19, 20, 21, 22, 23] (by decide +kernel) (by decide +kernel)
set_option maxRecDepth 20000 in
theorem gX0_runesInAll_X0_runesAtPlace : GoodIn wsX0_runesInAll (wsV RX0 79 RX0 yX0_runesAtPlace wsX0_runesAtPlace) := goodIn_app (goodIn_of _ (by decide +kernel)) ggX0_runesInAll_X0_runesAtPlace
theorem dX0_runesInAll_0 : decode cX0_runesInAll 0 = .ok (.iconst 0, 1) := by decide +kernel
theorem dX0_runesInAll_1 : decode cX0_runesInAll 1 = .ok (.istore_n 1, 1) := by decide +kernel
theorem dX0_runesInAll_2 : decode cX0_runesInAll 2 = .ok (.iconst 0, 1) := by decide +kernel
theorem dX0_runesInAll_3 : decode cX0_runesInAll 3 = .ok (.istore_n 2, 1) := by decide +kernel
theorem dX0_runesInAll_4 : decode cX0_runesInAll 4 = .ok (.iload_n 2, 1) := by decide +kernel
theorem dX0_runesInAll_5 : decode cX0_runesInAll 5 = .ok (.aload_n 0, 1) := by decide +kernel
theorem dX0_runesInAll_6 : decode cX0_runesInAll 6 = .ok (.getfield 9, 3) := by decide +kernel
theorem dX0_runesInAll_9 : decode cX0_runesInAll 9 = .ok (.if_icmp .ge 17, 3) := by decide +kernel
theorem dX0_runesInAll_12 : decode cX0_runesInAll 12 = .ok (.iload_n 1, 1) := by decide +kernel
theorem dX0_runesInAll_13 : decode cX0_runesInAll 13 = .ok (.aload_n 0, 1) := by decide +kernel
theorem dX0_runesInAll_14 : decode cX0_runesInAll 14 = .ok (.iload_n 2, 1) := by decide +kernel
theorem dX0_runesInAll_15 : decode cX0_runesInAll 15 = .ok (.invokevirtual 79, 3) := by decide +kernel
theorem dX0_runesInAll_18 : decode cX0_runesInAll 18 = .ok (.iadd, 1) := by decide +kernel
theorem dX0_runesInAll_19 : decode cX0_runesInAll 19 = .ok (.istore_n 1, 1) := by decide +kernel
theorem dX0_runesInAll_20 : decode cX0_runesInAll 20 = .ok (.iinc 2 1, 3) := by decide +kernel
theorem dX0_runesInAll_23 : decode cX0_runesInAll 23 = .ok (.goto (-19), 3) := by decide +kernel
theorem dX0_runesInAll_26 : decode cX0_runesInAll 26 = .ok (.iload_n 1, 1) := by decide +kernel
theorem dX0_runesInAll_27 : decode cX0_runesInAll 27 = .ok (.ireturn, 1) := by decide +kernel
set_option maxRecDepth 20000 in
theorem ggX0_runesAtPlace_X0_runeAt : GoodIn wsX0_runesAtPlace wsX0_runeAt := goodIn_r _ [5, 6, 7, 8, 9, 4, 10, 11, 12, 13, 14, 15, 16, 17, 18, 19] (by decide +kernel) (by decide +kernel)
set_option maxRecDepth 20000 in
theorem gX0_runesAtPlace_X0_runeAt : GoodIn wsX0_runesAtPlace (wsV RX0 53 RX0 yX0_runeAt wsX0_runeAt) := goodIn_app (goodIn_of _ (by decide +kernel)) ggX0_runesAtPlace_X0_runeAt
theorem dX0_runesAtPlace_0 : decode cX0_runesAtPlace 0 = .ok (.iconst 0, 1) := by decide +kernel
theorem dX0_runesAtPlace_1 : decode cX0_runesAtPlace 1 = .ok (.istore_n 2, 1) := by decide +kernel
theorem dX0_runesAtPlace_2 : decode cX0_runesAtPlace 2 = .ok (.iconst 0, 1) := by decide +kernel
theorem dX0_runesAtPlace_3 : decode cX0_runesAtPlace 3 = .ok (.istore_n 3, 1) := by decide +kernel
theorem dX0_runesAtPlace_4 : decode cX0_runesAtPlace 4 = .ok (.iload_n 3, 1) := by decide +kernel
theorem dX0_runesAtPlace_5 : decode cX0_runesAtPlace 5 = .ok (.iconst 3, 1) := by decide +kernel
theorem dX0_runesAtPlace_6 : decode cX0_runesAtPlace 6 = .ok (.if_icmp .ge 22, 3) := by decide +kernel
theorem dX0_runesAtPlace_9 : decode cX0_runesAtPlace 9 = .ok (.aload_n 0, 1) := by decide +kernel
theorem dX0_runesAtPlace_10 : decode cX0_runesAtPlace 10 = .ok (.iload_n 3, 1) := by decide +kernel
theorem dX0_runesAtPlace_11 : decode cX0_runesAtPlace 11 = .ok (.iload_n 1, 1) := by decide +kernel
theorem dX0_runesAtPlace_12 : decode cX0_runesAtPlace 12 = .ok (.invokevirtual 53, 3) := by decide +kernel
theorem dX0_runesAtPlace_15 : decode cX0_runesAtPlace 15 = .ok (.iconst (-1), 1) := by decide +kernel
theorem dX0_runesAtPlace_16 : decode cX0_runesAtPlace 16 = .ok (.if_icmp .eq 6, 3) := by decide +kernel
theorem dX0_runesAtPlace_19 : decode cX0_runesAtPlace 19 = .ok (.iinc 2 1, 3) := by decide +kernel
theorem dX0_runesAtPlace_22 : decode cX0_runesAtPlace 22 = .ok (.iinc 3 1, 3) := by decide +kernel
theorem dX0_runesAtPlace_25 : decode cX0_runesAtPlace 25 = .ok (.goto (-21), 3) := by decide +kernel
theorem dX0_runesAtPlace_28 : decode cX0_runesAtPlace 28 = .ok (.iload_n 2, 1) := by decide +kernel
theorem dX0_runesAtPlace_29 : decode cX0_runesAtPlace 29 = .ok (.ireturn, 1) := by decide +kernel
set_option maxRecDepth 20000 in
theorem ggX0_gluedJoints_X0_gluedAt : GoodIn wsX0_gluedJoints wsX0_gluedAt := goodIn_r _ [6, 7, 8, 9, 10, 5, 11, 1, 12, 13, 14, 15, 16, 17, 18, 19] (by decide +kernel) (by decide +kernel)
set_option maxRecDepth 20000 in
theorem gX0_gluedJoints_X0_gluedAt : GoodIn wsX0_gluedJoints (wsV RX0 65 RX0 yX0_gluedAt wsX0_gluedAt) := goodIn_app (goodIn_of _ (by decide +kernel)) ggX0_gluedJoints_X0_gluedAt
theorem dX0_gluedJoints_0 : decode cX0_gluedJoints 0 = .ok (.iconst 0, 1) := by decide +kernel
theorem dX0_gluedJoints_1 : decode cX0_gluedJoints 1 = .ok (.istore_n 1, 1) := by decide +kernel
theorem dX0_gluedJoints_2 : decode cX0_gluedJoints 2 = .ok (.iconst 0, 1) := by decide +kernel
theorem dX0_gluedJoints_3 : decode cX0_gluedJoints 3 = .ok (.istore_n 2, 1) := by decide +kernel
theorem dX0_gluedJoints_4 : decode cX0_gluedJoints 4 = .ok (.iload_n 2, 1) := by decide +kernel
theorem dX0_gluedJoints_5 : decode cX0_gluedJoints 5 = .ok (.aload_n 0, 1) := by decide +kernel
theorem dX0_gluedJoints_6 : decode cX0_gluedJoints 6 = .ok (.getfield 9, 3) := by decide +kernel
theorem dX0_gluedJoints_9 : decode cX0_gluedJoints 9 = .ok (.iconst 1, 1) := by decide +kernel
theorem dX0_gluedJoints_10 : decode cX0_gluedJoints 10 = .ok (.isub, 1) := by decide +kernel
theorem dX0_gluedJoints_11 : decode cX0_gluedJoints 11 = .ok (.if_icmp .ge 20, 3) := by decide +kernel
theorem dX0_gluedJoints_14 : decode cX0_gluedJoints 14 = .ok (.aload_n 0, 1) := by decide +kernel
theorem dX0_gluedJoints_15 : decode cX0_gluedJoints 15 = .ok (.iload_n 2, 1) := by decide +kernel
theorem dX0_gluedJoints_16 : decode cX0_gluedJoints 16 = .ok (.invokevirtual 65, 3) := by decide +kernel
theorem dX0_gluedJoints_19 : decode cX0_gluedJoints 19 = .ok (.ifCond .eq 6, 3) := by decide +kernel
theorem dX0_gluedJoints_22 : decode cX0_gluedJoints 22 = .ok (.iinc 1 1, 3) := by decide +kernel
theorem dX0_gluedJoints_25 : decode cX0_gluedJoints 25 = .ok (.iinc 2 1, 3) := by decide +kernel
theorem dX0_gluedJoints_28 : decode cX0_gluedJoints 28 = .ok (.goto (-24), 3) := by decide +kernel
theorem dX0_gluedJoints_31 : decode cX0_gluedJoints 31 = .ok (.iload_n 1, 1) := by decide +kernel
theorem dX0_gluedJoints_32 : decode cX0_gluedJoints 32 = .ok (.ireturn, 1) := by decide +kernel
set_option maxRecDepth 20000 in
theorem ggX0_strengthAt_X0_baseAt : GoodIn wsX0_strengthAt wsX0_baseAt := goodIn_r _ [9, 10, 11, 12, 13, 8, 14, 15, 29, 30, 31, 32, 33, 34, 35, 36] (by decide +kernel) (by decide +kernel)
set_option maxRecDepth 20000 in
theorem gX0_strengthAt_X0_baseAt : GoodIn wsX0_strengthAt (wsV RX0 61 RX0 yX0_baseAt wsX0_baseAt) := goodIn_app (goodIn_of _ (by decide +kernel)) ggX0_strengthAt_X0_baseAt
set_option maxRecDepth 20000 in
theorem ggX0_strengthAt_X0_runesAtPlace : GoodIn wsX0_strengthAt wsX0_runesAtPlace := goodIn_r _ [19, 20, 21, 22, 8, 23, 24, 25, 26, 27, 28, 15, 29, 30, 31, 32, 33, 34, 35, 36] (by decide +kernel) (by decide +kernel)
set_option maxRecDepth 20000 in
theorem gX0_strengthAt_X0_runesAtPlace : GoodIn wsX0_strengthAt (wsV RX0 79 RX0 yX0_runesAtPlace wsX0_runesAtPlace) := goodIn_app (goodIn_of _ (by decide +kernel)) ggX0_strengthAt_X0_runesAtPlace
theorem dX0_strengthAt_0 : decode cX0_strengthAt 0 = .ok (.iconst 0, 1) := by decide +kernel
theorem dX0_strengthAt_1 : decode cX0_strengthAt 1 = .ok (.aload_n 0, 1) := by decide +kernel
theorem dX0_strengthAt_2 : decode cX0_strengthAt 2 = .ok (.iload_n 1, 1) := by decide +kernel
theorem dX0_strengthAt_3 : decode cX0_strengthAt 3 = .ok (.invokevirtual 61, 3) := by decide +kernel
theorem dX0_strengthAt_6 : decode cX0_strengthAt 6 = .ok (.aload_n 0, 1) := by decide +kernel
theorem dX0_strengthAt_7 : decode cX0_strengthAt 7 = .ok (.iload_n 1, 1) := by decide +kernel
theorem dX0_strengthAt_8 : decode cX0_strengthAt 8 = .ok (.invokevirtual 79, 3) := by decide +kernel
theorem dX0_strengthAt_11 : decode cX0_strengthAt 11 = .ok (.isub, 1) := by decide +kernel
theorem dX0_strengthAt_12 : decode cX0_strengthAt 12 = .ok (.aload_n 0, 1) := by decide +kernel
theorem dX0_strengthAt_13 : decode cX0_strengthAt 13 = .ok (.iload_n 1, 1) := by decide +kernel
theorem dX0_strengthAt_14 : decode cX0_strengthAt 14 = .ok (.iconst 1, 1) := by decide +kernel
theorem dX0_strengthAt_15 : decode cX0_strengthAt 15 = .ok (.iadd, 1) := by decide +kernel
theorem dX0_strengthAt_16 : decode cX0_strengthAt 16 = .ok (.invokevirtual 79, 3) := by decide +kernel
theorem dX0_strengthAt_19 : decode cX0_strengthAt 19 = .ok (.isub, 1) := by decide +kernel
theorem dX0_strengthAt_20 : decode cX0_strengthAt 20 = .ok (.invokestatic 82, 3) := by decide +kernel
theorem dX0_strengthAt_23 : decode cX0_strengthAt 23 = .ok (.ireturn, 1) := by decide +kernel
set_option maxRecDepth 20000 in
theorem ggX0_firstWeakestJoint_X0_strengthAt : GoodIn wsX0_firstWeakestJoint wsX0_strengthAt := goodIn_r _ [6, 7, 8, 9, 10, 11, 12, 13, 5, 14, 15, 16, 17, 18, 19, 1, 20, 21, 22, 23, 24, 25, 26, 27, 28, 29, 30, 31, 32, 33, 34, 35, 36, 37, 38, 39, 40] (by decide +kernel) (by decide +kernel)
set_option maxRecDepth 20000 in
theorem gX0_firstWeakestJoint_X0_strengthAt : GoodIn wsX0_firstWeakestJoint (wsV RX0 87 RX0 yX0_strengthAt wsX0_strengthAt) := goodIn_app (goodIn_of _ (by decide +kernel)) ggX0_firstWeakestJoint_X0_strengthAt
theorem dX0_firstWeakestJoint_0 : decode cX0_firstWeakestJoint 0 = .ok (.iconst (-1), 1) := by decide +kernel
theorem dX0_firstWeakestJoint_1 : decode cX0_firstWeakestJoint 1 = .ok (.istore_n 1, 1) := by decide +kernel
theorem dX0_firstWeakestJoint_2 : decode cX0_firstWeakestJoint 2 = .ok (.iconst 0, 1) := by decide +kernel
theorem dX0_firstWeakestJoint_3 : decode cX0_firstWeakestJoint 3 = .ok (.istore_n 2, 1) := by decide +kernel
theorem dX0_firstWeakestJoint_4 : decode cX0_firstWeakestJoint 4 = .ok (.iload_n 2, 1) := by decide +kernel
theorem dX0_firstWeakestJoint_5 : decode cX0_firstWeakestJoint 5 = .ok (.aload_n 0, 1) := by decide +kernel
theorem dX0_firstWeakestJoint_6 : decode cX0_firstWeakestJoint 6 = .ok (.getfield 9, 3) := by decide +kernel
theorem dX0_firstWeakestJoint_9 : decode cX0_firstWeakestJoint 9 = .ok (.iconst 1, 1) := by decide +kernel
theorem dX0_firstWeakestJoint_10 : decode cX0_firstWeakestJoint 10 = .ok (.isub, 1) := by decide +kernel
theorem dX0_firstWeakestJoint_11 : decode cX0_firstWeakestJoint 11 = .ok (.if_icmp .ge 29, 3) := by decide +kernel
theorem dX0_firstWeakestJoint_14 : decode cX0_firstWeakestJoint 14 = .ok (.iload_n 1, 1) := by decide +kernel
theorem dX0_firstWeakestJoint_15 : decode cX0_firstWeakestJoint 15 = .ok (.iconst (-1), 1) := by decide +kernel
theorem dX0_firstWeakestJoint_16 : decode cX0_firstWeakestJoint 16 = .ok (.if_icmp .eq 16, 3) := by decide +kernel
theorem dX0_firstWeakestJoint_19 : decode cX0_firstWeakestJoint 19 = .ok (.aload_n 0, 1) := by decide +kernel
theorem dX0_firstWeakestJoint_20 : decode cX0_firstWeakestJoint 20 = .ok (.iload_n 2, 1) := by decide +kernel
theorem dX0_firstWeakestJoint_21 : decode cX0_firstWeakestJoint 21 = .ok (.invokevirtual 87, 3) := by decide +kernel
theorem dX0_firstWeakestJoint_24 : decode cX0_firstWeakestJoint 24 = .ok (.aload_n 0, 1) := by decide +kernel
theorem dX0_firstWeakestJoint_25 : decode cX0_firstWeakestJoint 25 = .ok (.iload_n 1, 1) := by decide +kernel
theorem dX0_firstWeakestJoint_26 : decode cX0_firstWeakestJoint 26 = .ok (.invokevirtual 87, 3) := by decide +kernel
theorem dX0_firstWeakestJoint_29 : decode cX0_firstWeakestJoint 29 = .ok (.if_icmp .ge 5, 3) := by decide +kernel
theorem dX0_firstWeakestJoint_32 : decode cX0_firstWeakestJoint 32 = .ok (.iload_n 2, 1) := by decide +kernel
theorem dX0_firstWeakestJoint_33 : decode cX0_firstWeakestJoint 33 = .ok (.istore_n 1, 1) := by decide +kernel
theorem dX0_firstWeakestJoint_34 : decode cX0_firstWeakestJoint 34 = .ok (.iinc 2 1, 3) := by decide +kernel
theorem dX0_firstWeakestJoint_37 : decode cX0_firstWeakestJoint 37 = .ok (.goto (-33), 3) := by decide +kernel
theorem dX0_firstWeakestJoint_40 : decode cX0_firstWeakestJoint 40 = .ok (.iload_n 1, 1) := by decide +kernel
theorem dX0_firstWeakestJoint_41 : decode cX0_firstWeakestJoint 41 = .ok (.ireturn, 1) := by decide +kernel
set_option maxRecDepth 20000 in
theorem ggX0_jointsWeakerThan_X0_strengthAt : GoodIn wsX0_jointsWeakerThan wsX0_strengthAt := goodIn_r _ [6, 7, 8, 9, 10, 11, 12, 13, 5, 14, 15, 16, 17, 18, 19, 1, 20, 21, 22, 23, 24, 25, 26, 27, 28, 29, 30, 31, 32, 33, 34, 35, 36, 37, 38, 39, 40] (by decide +kernel) (by decide +kernel)
set_option maxRecDepth 20000 in
theorem gX0_jointsWeakerThan_X0_strengthAt : GoodIn wsX0_jointsWeakerThan (wsV RX0 87 RX0 yX0_strengthAt wsX0_strengthAt) := goodIn_app (goodIn_of _ (by decide +kernel)) ggX0_jointsWeakerThan_X0_strengthAt
theorem dX0_jointsWeakerThan_0 : decode cX0_jointsWeakerThan 0 = .ok (.iconst 0, 1) := by decide +kernel
theorem dX0_jointsWeakerThan_1 : decode cX0_jointsWeakerThan 1 = .ok (.istore_n 2, 1) := by decide +kernel
theorem dX0_jointsWeakerThan_2 : decode cX0_jointsWeakerThan 2 = .ok (.iconst 0, 1) := by decide +kernel
theorem dX0_jointsWeakerThan_3 : decode cX0_jointsWeakerThan 3 = .ok (.istore_n 3, 1) := by decide +kernel
theorem dX0_jointsWeakerThan_4 : decode cX0_jointsWeakerThan 4 = .ok (.iload_n 3, 1) := by decide +kernel
theorem dX0_jointsWeakerThan_5 : decode cX0_jointsWeakerThan 5 = .ok (.aload_n 0, 1) := by decide +kernel
theorem dX0_jointsWeakerThan_6 : decode cX0_jointsWeakerThan 6 = .ok (.getfield 9, 3) := by decide +kernel
theorem dX0_jointsWeakerThan_9 : decode cX0_jointsWeakerThan 9 = .ok (.iconst 1, 1) := by decide +kernel
theorem dX0_jointsWeakerThan_10 : decode cX0_jointsWeakerThan 10 = .ok (.isub, 1) := by decide +kernel
theorem dX0_jointsWeakerThan_11 : decode cX0_jointsWeakerThan 11 = .ok (.if_icmp .ge 21, 3) := by decide +kernel
theorem dX0_jointsWeakerThan_14 : decode cX0_jointsWeakerThan 14 = .ok (.aload_n 0, 1) := by decide +kernel
theorem dX0_jointsWeakerThan_15 : decode cX0_jointsWeakerThan 15 = .ok (.iload_n 3, 1) := by decide +kernel
theorem dX0_jointsWeakerThan_16 : decode cX0_jointsWeakerThan 16 = .ok (.invokevirtual 87, 3) := by decide +kernel
theorem dX0_jointsWeakerThan_19 : decode cX0_jointsWeakerThan 19 = .ok (.iload_n 1, 1) := by decide +kernel
theorem dX0_jointsWeakerThan_20 : decode cX0_jointsWeakerThan 20 = .ok (.if_icmp .ge 6, 3) := by decide +kernel
theorem dX0_jointsWeakerThan_23 : decode cX0_jointsWeakerThan 23 = .ok (.iinc 2 1, 3) := by decide +kernel
theorem dX0_jointsWeakerThan_26 : decode cX0_jointsWeakerThan 26 = .ok (.iinc 3 1, 3) := by decide +kernel
theorem dX0_jointsWeakerThan_29 : decode cX0_jointsWeakerThan 29 = .ok (.goto (-25), 3) := by decide +kernel
theorem dX0_jointsWeakerThan_32 : decode cX0_jointsWeakerThan 32 = .ok (.iload_n 2, 1) := by decide +kernel
theorem dX0_jointsWeakerThan_33 : decode cX0_jointsWeakerThan 33 = .ok (.ireturn, 1) := by decide +kernel
set_option maxRecDepth 20000 in
theorem ggX0_runeRead_X0_hasPlace : GoodIn wsX0_runeRead wsX0_hasPlace := goodIn_r _ [5, 6, 12, 13, 14, 15, 16, 17, 18, 19] (by decide +kernel) (by decide +kernel)
set_option maxRecDepth 20000 in
theorem gX0_runeRead_X0_hasPlace : GoodIn wsX0_runeRead (wsV RX0 45 RX0 yX0_hasPlace wsX0_hasPlace) := goodIn_app (goodIn_of _ (by decide +kernel)) ggX0_runeRead_X0_hasPlace
set_option maxRecDepth 20000 in
theorem ggX0_runeRead_X0_runeAt : GoodIn wsX0_runeRead wsX0_runeAt := goodIn_r _ [10, 11, 1, 2, 3, 4, 5, 6, 12, 13, 14, 15, 16, 17, 18, 19] (by decide +kernel) (by decide +kernel)
set_option maxRecDepth 20000 in
theorem gX0_runeRead_X0_runeAt : GoodIn wsX0_runeRead (wsV RX0 53 RX0 yX0_runeAt wsX0_runeAt) := goodIn_app (goodIn_of _ (by decide +kernel)) ggX0_runeRead_X0_runeAt
theorem dX0_runeRead_0 : decode cX0_runeRead 0 = .ok (.aload_n 0, 1) := by decide +kernel
theorem dX0_runeRead_1 : decode cX0_runeRead 1 = .ok (.iconst 0, 1) := by decide +kernel
theorem dX0_runeRead_2 : decode cX0_runeRead 2 = .ok (.iload_n 3, 1) := by decide +kernel
theorem dX0_runeRead_3 : decode cX0_runeRead 3 = .ok (.invokevirtual 45, 3) := by decide +kernel
theorem dX0_runeRead_6 : decode cX0_runeRead 6 = .ok (.ifCond .eq 18, 3) := by decide +kernel
theorem dX0_runeRead_9 : decode cX0_runeRead 9 = .ok (.aload_n 0, 1) := by decide +kernel
theorem dX0_runeRead_10 : decode cX0_runeRead 10 = .ok (.iload_n 1, 1) := by decide +kernel
theorem dX0_runeRead_11 : decode cX0_runeRead 11 = .ok (.iload_n 3, 1) := by decide +kernel
theorem dX0_runeRead_12 : decode cX0_runeRead 12 = .ok (.iload_n 2, 1) := by decide +kernel
theorem dX0_runeRead_13 : decode cX0_runeRead 13 = .ok (.imul, 1) := by decide +kernel
theorem dX0_runeRead_14 : decode cX0_runeRead 14 = .ok (.iadd, 1) := by decide +kernel
theorem dX0_runeRead_15 : decode cX0_runeRead 15 = .ok (.iconst 3, 1) := by decide +kernel
theorem dX0_runeRead_16 : decode cX0_runeRead 16 = .ok (.irem, 1) := by decide +kernel
theorem dX0_runeRead_17 : decode cX0_runeRead 17 = .ok (.iload_n 3, 1) := by decide +kernel
theorem dX0_runeRead_18 : decode cX0_runeRead 18 = .ok (.invokevirtual 53, 3) := by decide +kernel
theorem dX0_runeRead_21 : decode cX0_runeRead 21 = .ok (.goto 4, 3) := by decide +kernel
theorem dX0_runeRead_24 : decode cX0_runeRead 24 = .ok (.iconst (-1), 1) := by decide +kernel
theorem dX0_runeRead_25 : decode cX0_runeRead 25 = .ok (.ireturn, 1) := by decide +kernel
set_option maxRecDepth 20000 in
theorem ggX0_placeReadUpTo_X0_runeRead : GoodIn wsX0_placeReadUpTo wsX0_runeRead := goodIn_r _ [5, 6, 7, 8, 4, 9, 10, 11, 12, 13, 14, 15, 16, 17, 18, 19, 20, 21, 22, 23] (by decide +kernel) (by decide +kernel)
set_option maxRecDepth 20000 in
theorem gX0_placeReadUpTo_X0_runeRead : GoodIn wsX0_placeReadUpTo (wsV RX0 90 RX0 yX0_runeRead wsX0_runeRead) := goodIn_app (goodIn_of _ (by decide +kernel)) ggX0_placeReadUpTo_X0_runeRead
theorem dX0_placeReadUpTo_0 : decode cX0_placeReadUpTo 0 = .ok (.iload_n 3, 1) := by decide +kernel
theorem dX0_placeReadUpTo_1 : decode cX0_placeReadUpTo 1 = .ok (.istore 4, 2) := by decide +kernel
theorem dX0_placeReadUpTo_3 : decode cX0_placeReadUpTo 3 = .ok (.iload 4, 2) := by decide +kernel
theorem dX0_placeReadUpTo_5 : decode cX0_placeReadUpTo 5 = .ok (.ifCond .lt 24, 3) := by decide +kernel
theorem dX0_placeReadUpTo_8 : decode cX0_placeReadUpTo 8 = .ok (.aload_n 0, 1) := by decide +kernel
theorem dX0_placeReadUpTo_9 : decode cX0_placeReadUpTo 9 = .ok (.iload_n 1, 1) := by decide +kernel
theorem dX0_placeReadUpTo_10 : decode cX0_placeReadUpTo 10 = .ok (.iload_n 2, 1) := by decide +kernel
theorem dX0_placeReadUpTo_11 : decode cX0_placeReadUpTo 11 = .ok (.iload 4, 2) := by decide +kernel
theorem dX0_placeReadUpTo_13 : decode cX0_placeReadUpTo 13 = .ok (.invokevirtual 90, 3) := by decide +kernel
theorem dX0_placeReadUpTo_16 : decode cX0_placeReadUpTo 16 = .ok (.iconst (-1), 1) := by decide +kernel
theorem dX0_placeReadUpTo_17 : decode cX0_placeReadUpTo 17 = .ok (.if_icmp .eq 6, 3) := by decide +kernel
theorem dX0_placeReadUpTo_20 : decode cX0_placeReadUpTo 20 = .ok (.iload 4, 2) := by decide +kernel
theorem dX0_placeReadUpTo_22 : decode cX0_placeReadUpTo 22 = .ok (.ireturn, 1) := by decide +kernel
theorem dX0_placeReadUpTo_23 : decode cX0_placeReadUpTo 23 = .ok (.iinc 4 (-1), 3) := by decide +kernel
theorem dX0_placeReadUpTo_26 : decode cX0_placeReadUpTo 26 = .ok (.goto (-23), 3) := by decide +kernel
theorem dX0_placeReadUpTo_29 : decode cX0_placeReadUpTo 29 = .ok (.iconst (-1), 1) := by decide +kernel
theorem dX0_placeReadUpTo_30 : decode cX0_placeReadUpTo 30 = .ok (.ireturn, 1) := by decide +kernel
set_option maxRecDepth 20000 in
theorem ggX0_readingLength_X0_runeRead : GoodIn wsX0_readingLength wsX0_runeRead := goodIn_r _ [6, 7, 8, 9, 5, 10, 1, 11, 12, 13, 14, 15, 16, 17, 18, 19, 20, 21, 22, 23] (by decide +kernel) (by decide +kernel)
set_option maxRecDepth 20000 in
theorem gX0_readingLength_X0_runeRead : GoodIn wsX0_readingLength (wsV RX0 90 RX0 yX0_runeRead wsX0_runeRead) := goodIn_app (goodIn_of _ (by decide +kernel)) ggX0_readingLength_X0_runeRead
theorem dX0_readingLength_0 : decode cX0_readingLength 0 = .ok (.iconst 0, 1) := by decide +kernel
theorem dX0_readingLength_1 : decode cX0_readingLength 1 = .ok (.istore_n 3, 1) := by decide +kernel
theorem dX0_readingLength_2 : decode cX0_readingLength 2 = .ok (.iconst 0, 1) := by decide +kernel
theorem dX0_readingLength_3 : decode cX0_readingLength 3 = .ok (.istore 4, 2) := by decide +kernel
theorem dX0_readingLength_5 : decode cX0_readingLength 5 = .ok (.iload 4, 2) := by decide +kernel
theorem dX0_readingLength_7 : decode cX0_readingLength 7 = .ok (.aload_n 0, 1) := by decide +kernel
theorem dX0_readingLength_8 : decode cX0_readingLength 8 = .ok (.getfield 9, 3) := by decide +kernel
theorem dX0_readingLength_11 : decode cX0_readingLength 11 = .ok (.if_icmp .ge 24, 3) := by decide +kernel
theorem dX0_readingLength_14 : decode cX0_readingLength 14 = .ok (.aload_n 0, 1) := by decide +kernel
theorem dX0_readingLength_15 : decode cX0_readingLength 15 = .ok (.iload_n 1, 1) := by decide +kernel
theorem dX0_readingLength_16 : decode cX0_readingLength 16 = .ok (.iload_n 2, 1) := by decide +kernel
theorem dX0_readingLength_17 : decode cX0_readingLength 17 = .ok (.iload 4, 2) := by decide +kernel
theorem dX0_readingLength_19 : decode cX0_readingLength 19 = .ok (.invokevirtual 90, 3) := by decide +kernel
theorem dX0_readingLength_22 : decode cX0_readingLength 22 = .ok (.iconst (-1), 1) := by decide +kernel
theorem dX0_readingLength_23 : decode cX0_readingLength 23 = .ok (.if_icmp .eq 6, 3) := by decide +kernel
theorem dX0_readingLength_26 : decode cX0_readingLength 26 = .ok (.iinc 3 1, 3) := by decide +kernel
theorem dX0_readingLength_29 : decode cX0_readingLength 29 = .ok (.iinc 4 1, 3) := by decide +kernel
theorem dX0_readingLength_32 : decode cX0_readingLength 32 = .ok (.goto (-27), 3) := by decide +kernel
theorem dX0_readingLength_35 : decode cX0_readingLength 35 = .ok (.iload_n 3, 1) := by decide +kernel
theorem dX0_readingLength_36 : decode cX0_readingLength 36 = .ok (.ireturn, 1) := by decide +kernel
set_option maxRecDepth 20000 in
theorem ggX0_runeOfReadingOrNone_X0_runeRead : GoodIn wsX0_runeOfReadingOrNone wsX0_runeRead := goodIn_r _ [7, 8, 9, 10, 6, 11, 1, 12, 13, 14, 15, 16, 17, 18, 19, 20, 21, 22, 23, 24] (by decide +kernel) (by decide +kernel)
set_option maxRecDepth 20000 in
theorem gX0_runeOfReadingOrNone_X0_runeRead : GoodIn wsX0_runeOfReadingOrNone (wsV RX0 90 RX0 yX0_runeRead wsX0_runeRead) := goodIn_app (goodIn_of _ (by decide +kernel)) ggX0_runeOfReadingOrNone_X0_runeRead
theorem dX0_runeOfReadingOrNone_0 : decode cX0_runeOfReadingOrNone 0 = .ok (.iconst 0, 1) := by decide +kernel
theorem dX0_runeOfReadingOrNone_1 : decode cX0_runeOfReadingOrNone 1 = .ok (.istore_n 3, 1) := by decide +kernel
theorem dX0_runeOfReadingOrNone_2 : decode cX0_runeOfReadingOrNone 2 = .ok (.iconst 0, 1) := by decide +kernel
theorem dX0_runeOfReadingOrNone_3 : decode cX0_runeOfReadingOrNone 3 = .ok (.istore 4, 2) := by decide +kernel
theorem dX0_runeOfReadingOrNone_5 : decode cX0_runeOfReadingOrNone 5 = .ok (.iload 4, 2) := by decide +kernel
theorem dX0_runeOfReadingOrNone_7 : decode cX0_runeOfReadingOrNone 7 = .ok (.aload_n 0, 1) := by decide +kernel
theorem dX0_runeOfReadingOrNone_8 : decode cX0_runeOfReadingOrNone 8 = .ok (.getfield 9, 3) := by decide +kernel
theorem dX0_runeOfReadingOrNone_11 : decode cX0_runeOfReadingOrNone 11 = .ok (.if_icmp .ge 39, 3) := by decide +kernel
theorem dX0_runeOfReadingOrNone_14 : decode cX0_runeOfReadingOrNone 14 = .ok (.aload_n 0, 1) := by decide +kernel
theorem dX0_runeOfReadingOrNone_15 : decode cX0_runeOfReadingOrNone 15 = .ok (.aload_n 0, 1) := by decide +kernel
theorem dX0_runeOfReadingOrNone_16 : decode cX0_runeOfReadingOrNone 16 = .ok (.getfield 15, 3) := by decide +kernel
theorem dX0_runeOfReadingOrNone_19 : decode cX0_runeOfReadingOrNone 19 = .ok (.iload_n 1, 1) := by decide +kernel
theorem dX0_runeOfReadingOrNone_20 : decode cX0_runeOfReadingOrNone 20 = .ok (.iload 4, 2) := by decide +kernel
theorem dX0_runeOfReadingOrNone_22 : decode cX0_runeOfReadingOrNone 22 = .ok (.invokevirtual 90, 3) := by decide +kernel
theorem dX0_runeOfReadingOrNone_25 : decode cX0_runeOfReadingOrNone 25 = .ok (.istore 5, 2) := by decide +kernel
theorem dX0_runeOfReadingOrNone_27 : decode cX0_runeOfReadingOrNone 27 = .ok (.iload 5, 2) := by decide +kernel
theorem dX0_runeOfReadingOrNone_29 : decode cX0_runeOfReadingOrNone 29 = .ok (.iconst (-1), 1) := by decide +kernel
theorem dX0_runeOfReadingOrNone_30 : decode cX0_runeOfReadingOrNone 30 = .ok (.if_icmp .eq 14, 3) := by decide +kernel
theorem dX0_runeOfReadingOrNone_33 : decode cX0_runeOfReadingOrNone 33 = .ok (.iload_n 3, 1) := by decide +kernel
theorem dX0_runeOfReadingOrNone_34 : decode cX0_runeOfReadingOrNone 34 = .ok (.iload_n 2, 1) := by decide +kernel
theorem dX0_runeOfReadingOrNone_35 : decode cX0_runeOfReadingOrNone 35 = .ok (.if_icmp .ne 6, 3) := by decide +kernel
theorem dX0_runeOfReadingOrNone_38 : decode cX0_runeOfReadingOrNone 38 = .ok (.iload 5, 2) := by decide +kernel
theorem dX0_runeOfReadingOrNone_40 : decode cX0_runeOfReadingOrNone 40 = .ok (.ireturn, 1) := by decide +kernel
theorem dX0_runeOfReadingOrNone_41 : decode cX0_runeOfReadingOrNone 41 = .ok (.iinc 3 1, 3) := by decide +kernel
theorem dX0_runeOfReadingOrNone_44 : decode cX0_runeOfReadingOrNone 44 = .ok (.iinc 4 1, 3) := by decide +kernel
theorem dX0_runeOfReadingOrNone_47 : decode cX0_runeOfReadingOrNone 47 = .ok (.goto (-42), 3) := by decide +kernel
theorem dX0_runeOfReadingOrNone_50 : decode cX0_runeOfReadingOrNone 50 = .ok (.iconst (-1), 1) := by decide +kernel
theorem dX0_runeOfReadingOrNone_51 : decode cX0_runeOfReadingOrNone 51 = .ok (.ireturn, 1) := by decide +kernel
set_option maxRecDepth 20000 in
theorem ggX0_readsPair_X0_runeRead : GoodIn wsX0_readsPair wsX0_runeRead := goodIn_r _ [6, 7, 8, 9, 5, 10, 1, 11, 12, 13, 14, 15, 16, 17, 18, 19, 20, 21, 22, 23] (by decide +kernel) (by decide +kernel)
set_option maxRecDepth 20000 in
theorem gX0_readsPair_X0_runeRead : GoodIn wsX0_readsPair (wsV RX0 90 RX0 yX0_runeRead wsX0_runeRead) := goodIn_app (goodIn_of _ (by decide +kernel)) ggX0_readsPair_X0_runeRead
theorem dX0_readsPair_0 : decode cX0_readsPair 0 = .ok (.iconst (-1), 1) := by decide +kernel
theorem dX0_readsPair_1 : decode cX0_readsPair 1 = .ok (.istore 5, 2) := by decide +kernel
theorem dX0_readsPair_3 : decode cX0_readsPair 3 = .ok (.iconst 0, 1) := by decide +kernel
theorem dX0_readsPair_4 : decode cX0_readsPair 4 = .ok (.istore 6, 2) := by decide +kernel
theorem dX0_readsPair_6 : decode cX0_readsPair 6 = .ok (.iload 6, 2) := by decide +kernel
theorem dX0_readsPair_8 : decode cX0_readsPair 8 = .ok (.aload_n 0, 1) := by decide +kernel
theorem dX0_readsPair_9 : decode cX0_readsPair 9 = .ok (.getfield 9, 3) := by decide +kernel
theorem dX0_readsPair_12 : decode cX0_readsPair 12 = .ok (.if_icmp .ge 44, 3) := by decide +kernel
theorem dX0_readsPair_15 : decode cX0_readsPair 15 = .ok (.aload_n 0, 1) := by decide +kernel
theorem dX0_readsPair_16 : decode cX0_readsPair 16 = .ok (.iload_n 1, 1) := by decide +kernel
theorem dX0_readsPair_17 : decode cX0_readsPair 17 = .ok (.iload_n 2, 1) := by decide +kernel
theorem dX0_readsPair_18 : decode cX0_readsPair 18 = .ok (.iload 6, 2) := by decide +kernel
theorem dX0_readsPair_20 : decode cX0_readsPair 20 = .ok (.invokevirtual 90, 3) := by decide +kernel
theorem dX0_readsPair_23 : decode cX0_readsPair 23 = .ok (.istore 7, 2) := by decide +kernel
theorem dX0_readsPair_25 : decode cX0_readsPair 25 = .ok (.iload 7, 2) := by decide +kernel
theorem dX0_readsPair_27 : decode cX0_readsPair 27 = .ok (.iconst (-1), 1) := by decide +kernel
theorem dX0_readsPair_28 : decode cX0_readsPair 28 = .ok (.if_icmp .eq 22, 3) := by decide +kernel
theorem dX0_readsPair_31 : decode cX0_readsPair 31 = .ok (.iload 5, 2) := by decide +kernel
theorem dX0_readsPair_33 : decode cX0_readsPair 33 = .ok (.iload_n 3, 1) := by decide +kernel
theorem dX0_readsPair_34 : decode cX0_readsPair 34 = .ok (.if_icmp .ne 12, 3) := by decide +kernel
theorem dX0_readsPair_37 : decode cX0_readsPair 37 = .ok (.iload 7, 2) := by decide +kernel
theorem dX0_readsPair_39 : decode cX0_readsPair 39 = .ok (.iload 4, 2) := by decide +kernel
theorem dX0_readsPair_41 : decode cX0_readsPair 41 = .ok (.if_icmp .ne 5, 3) := by decide +kernel
theorem dX0_readsPair_44 : decode cX0_readsPair 44 = .ok (.iconst 1, 1) := by decide +kernel
theorem dX0_readsPair_45 : decode cX0_readsPair 45 = .ok (.ireturn, 1) := by decide +kernel
theorem dX0_readsPair_46 : decode cX0_readsPair 46 = .ok (.iload 7, 2) := by decide +kernel
theorem dX0_readsPair_48 : decode cX0_readsPair 48 = .ok (.istore 5, 2) := by decide +kernel
theorem dX0_readsPair_50 : decode cX0_readsPair 50 = .ok (.iinc 6 1, 3) := by decide +kernel
theorem dX0_readsPair_53 : decode cX0_readsPair 53 = .ok (.goto (-47), 3) := by decide +kernel
theorem dX0_readsPair_56 : decode cX0_readsPair 56 = .ok (.iconst 0, 1) := by decide +kernel
theorem dX0_readsPair_57 : decode cX0_readsPair 57 = .ok (.ireturn, 1) := by decide +kernel
set_option maxRecDepth 20000 in
theorem ggX0_addedTo_X0_factAt : GoodIn wsX0_addedTo wsX0_factAt := goodIn_r _ [7, 2, 8, 9, 10, 11, 12, 13, 14, 6, 15, 16, 17, 18, 19, 20, 21, 22, 23, 24, 25, 26, 27, 28, 29, 30, 31, 32, 33, 34, 35, 36, 37, 38, 39, 40, 41, 47, 48, 49, 50, 51, 52, 53, 54] (by decide +kernel) (by decide +kernel)
set_option maxRecDepth 20000 in
theorem gX0_addedTo_X0_factAt : GoodIn wsX0_addedTo (wsV RX0 96 RX0 yX0_factAt wsX0_factAt) := goodIn_app (goodIn_of _ (by decide +kernel)) ggX0_addedTo_X0_factAt
set_option maxRecDepth 20000 in
theorem ggX0_addedTo_X0_runeAt : GoodIn wsX0_addedTo wsX0_runeAt := goodIn_r _ [23, 24, 25, 26, 27, 6, 28, 2, 47, 48, 49, 50, 51, 52, 53, 54] (by decide +kernel) (by decide +kernel)
set_option maxRecDepth 20000 in
theorem gX0_addedTo_X0_runeAt : GoodIn wsX0_addedTo (wsV RX0 53 RX0 yX0_runeAt wsX0_runeAt) := goodIn_app (goodIn_of _ (by decide +kernel)) ggX0_addedTo_X0_runeAt
set_option maxRecDepth 20000 in
theorem ggX0_addedTo_X0_baseAt : GoodIn wsX0_addedTo wsX0_baseAt := goodIn_r _ [45, 46, 38, 39, 40, 6, 41, 2, 47, 48, 49, 50, 51, 52, 53, 54] (by decide +kernel) (by decide +kernel)
set_option maxRecDepth 20000 in
theorem gX0_addedTo_X0_baseAt : GoodIn wsX0_addedTo (wsV RX0 61 RX0 yX0_baseAt wsX0_baseAt) := goodIn_app (goodIn_of _ (by decide +kernel)) ggX0_addedTo_X0_baseAt
theorem dX0_addedTo_0 : decode cX0_addedTo 0 = .ok (.lload_n 1, 1) := by decide +kernel
theorem dX0_addedTo_1 : decode cX0_addedTo 1 = .ok (.lstore_n 3, 1) := by decide +kernel
theorem dX0_addedTo_2 : decode cX0_addedTo 2 = .ok (.iconst 0, 1) := by decide +kernel
theorem dX0_addedTo_3 : decode cX0_addedTo 3 = .ok (.istore 5, 2) := by decide +kernel
theorem dX0_addedTo_5 : decode cX0_addedTo 5 = .ok (.iload 5, 2) := by decide +kernel
theorem dX0_addedTo_7 : decode cX0_addedTo 7 = .ok (.bipush 7, 2) := by decide +kernel
theorem dX0_addedTo_9 : decode cX0_addedTo 9 = .ok (.if_icmp .ge 23, 3) := by decide +kernel
theorem dX0_addedTo_12 : decode cX0_addedTo 12 = .ok (.lload_n 3, 1) := by decide +kernel
theorem dX0_addedTo_13 : decode cX0_addedTo 13 = .ok (.ldc2_w 94, 3) := by decide +kernel
theorem dX0_addedTo_16 : decode cX0_addedTo 16 = .ok (.lmul, 1) := by decide +kernel
theorem dX0_addedTo_17 : decode cX0_addedTo 17 = .ok (.aload_n 0, 1) := by decide +kernel
theorem dX0_addedTo_18 : decode cX0_addedTo 18 = .ok (.iload 5, 2) := by decide +kernel
theorem dX0_addedTo_20 : decode cX0_addedTo 20 = .ok (.invokevirtual 96, 3) := by decide +kernel
theorem dX0_addedTo_23 : decode cX0_addedTo 23 = .ok (.i2l, 1) := by decide +kernel
theorem dX0_addedTo_24 : decode cX0_addedTo 24 = .ok (.ladd, 1) := by decide +kernel
theorem dX0_addedTo_25 : decode cX0_addedTo 25 = .ok (.lstore_n 3, 1) := by decide +kernel
theorem dX0_addedTo_26 : decode cX0_addedTo 26 = .ok (.iinc 5 1, 3) := by decide +kernel
theorem dX0_addedTo_29 : decode cX0_addedTo 29 = .ok (.goto (-24), 3) := by decide +kernel
theorem dX0_addedTo_32 : decode cX0_addedTo 32 = .ok (.iconst 0, 1) := by decide +kernel
theorem dX0_addedTo_33 : decode cX0_addedTo 33 = .ok (.istore 5, 2) := by decide +kernel
theorem dX0_addedTo_35 : decode cX0_addedTo 35 = .ok (.iload 5, 2) := by decide +kernel
theorem dX0_addedTo_37 : decode cX0_addedTo 37 = .ok (.aload_n 0, 1) := by decide +kernel
theorem dX0_addedTo_38 : decode cX0_addedTo 38 = .ok (.getfield 9, 3) := by decide +kernel
theorem dX0_addedTo_41 : decode cX0_addedTo 41 = .ok (.if_icmp .ge 40, 3) := by decide +kernel
theorem dX0_addedTo_44 : decode cX0_addedTo 44 = .ok (.iconst 0, 1) := by decide +kernel
theorem dX0_addedTo_45 : decode cX0_addedTo 45 = .ok (.istore 6, 2) := by decide +kernel
theorem dX0_addedTo_47 : decode cX0_addedTo 47 = .ok (.iload 6, 2) := by decide +kernel
theorem dX0_addedTo_49 : decode cX0_addedTo 49 = .ok (.iconst 3, 1) := by decide +kernel
theorem dX0_addedTo_50 : decode cX0_addedTo 50 = .ok (.if_icmp .ge 25, 3) := by decide +kernel
theorem dX0_addedTo_53 : decode cX0_addedTo 53 = .ok (.lload_n 3, 1) := by decide +kernel
theorem dX0_addedTo_54 : decode cX0_addedTo 54 = .ok (.ldc2_w 94, 3) := by decide +kernel
theorem dX0_addedTo_57 : decode cX0_addedTo 57 = .ok (.lmul, 1) := by decide +kernel
theorem dX0_addedTo_58 : decode cX0_addedTo 58 = .ok (.aload_n 0, 1) := by decide +kernel
theorem dX0_addedTo_59 : decode cX0_addedTo 59 = .ok (.iload 6, 2) := by decide +kernel
theorem dX0_addedTo_61 : decode cX0_addedTo 61 = .ok (.iload 5, 2) := by decide +kernel
theorem dX0_addedTo_63 : decode cX0_addedTo 63 = .ok (.invokevirtual 53, 3) := by decide +kernel
theorem dX0_addedTo_66 : decode cX0_addedTo 66 = .ok (.i2l, 1) := by decide +kernel
theorem dX0_addedTo_67 : decode cX0_addedTo 67 = .ok (.ladd, 1) := by decide +kernel
theorem dX0_addedTo_68 : decode cX0_addedTo 68 = .ok (.lstore_n 3, 1) := by decide +kernel
theorem dX0_addedTo_69 : decode cX0_addedTo 69 = .ok (.iinc 6 1, 3) := by decide +kernel
theorem dX0_addedTo_72 : decode cX0_addedTo 72 = .ok (.goto (-25), 3) := by decide +kernel
theorem dX0_addedTo_75 : decode cX0_addedTo 75 = .ok (.iinc 5 1, 3) := by decide +kernel
theorem dX0_addedTo_78 : decode cX0_addedTo 78 = .ok (.goto (-43), 3) := by decide +kernel
theorem dX0_addedTo_81 : decode cX0_addedTo 81 = .ok (.iconst 0, 1) := by decide +kernel
theorem dX0_addedTo_82 : decode cX0_addedTo 82 = .ok (.istore 5, 2) := by decide +kernel
theorem dX0_addedTo_84 : decode cX0_addedTo 84 = .ok (.iload 5, 2) := by decide +kernel
theorem dX0_addedTo_86 : decode cX0_addedTo 86 = .ok (.aload_n 0, 1) := by decide +kernel
theorem dX0_addedTo_87 : decode cX0_addedTo 87 = .ok (.getfield 9, 3) := by decide +kernel
theorem dX0_addedTo_90 : decode cX0_addedTo 90 = .ok (.iconst 1, 1) := by decide +kernel
theorem dX0_addedTo_91 : decode cX0_addedTo 91 = .ok (.isub, 1) := by decide +kernel
theorem dX0_addedTo_92 : decode cX0_addedTo 92 = .ok (.if_icmp .ge 23, 3) := by decide +kernel
theorem dX0_addedTo_95 : decode cX0_addedTo 95 = .ok (.lload_n 3, 1) := by decide +kernel
theorem dX0_addedTo_96 : decode cX0_addedTo 96 = .ok (.ldc2_w 94, 3) := by decide +kernel
theorem dX0_addedTo_99 : decode cX0_addedTo 99 = .ok (.lmul, 1) := by decide +kernel
theorem dX0_addedTo_100 : decode cX0_addedTo 100 = .ok (.aload_n 0, 1) := by decide +kernel
theorem dX0_addedTo_101 : decode cX0_addedTo 101 = .ok (.iload 5, 2) := by decide +kernel
theorem dX0_addedTo_103 : decode cX0_addedTo 103 = .ok (.invokevirtual 61, 3) := by decide +kernel
theorem dX0_addedTo_106 : decode cX0_addedTo 106 = .ok (.i2l, 1) := by decide +kernel
theorem dX0_addedTo_107 : decode cX0_addedTo 107 = .ok (.ladd, 1) := by decide +kernel
theorem dX0_addedTo_108 : decode cX0_addedTo 108 = .ok (.lstore_n 3, 1) := by decide +kernel
theorem dX0_addedTo_109 : decode cX0_addedTo 109 = .ok (.iinc 5 1, 3) := by decide +kernel
theorem dX0_addedTo_112 : decode cX0_addedTo 112 = .ok (.goto (-28), 3) := by decide +kernel
theorem dX0_addedTo_115 : decode cX0_addedTo 115 = .ok (.lload_n 3, 1) := by decide +kernel
theorem dX0_addedTo_116 : decode cX0_addedTo 116 = .ok (.lreturn, 1) := by decide +kernel
end
section
theorem dX1_init_0 : decode cX1_init 0 = .ok (.aload_n 0, 1) := by decide +kernel
theorem dX1_init_1 : decode cX1_init 1 = .ok (.invokespecial 3, 3) := by decide +kernel
theorem dX1_init_4 : decode cX1_init 4 = .ok (.aload_n 0, 1) := by decide +kernel
theorem dX1_init_5 : decode cX1_init 5 = .ok (.bipush 40, 2) := by decide +kernel
theorem dX1_init_7 : decode cX1_init 7 = .ok (.anewarray 9, 3) := by decide +kernel
theorem dX1_init_10 : decode cX1_init 10 = .ok (.putfield 11, 3) := by decide +kernel
theorem dX1_init_13 : decode cX1_init 13 = .ok (.aload_n 0, 1) := by decide +kernel
theorem dX1_init_14 : decode cX1_init 14 = .ok (.iconst 0, 1) := by decide +kernel
theorem dX1_init_15 : decode cX1_init 15 = .ok (.putfield 15, 3) := by decide +kernel
theorem dX1_init_18 : decode cX1_init 18 = .ok (.aload_n 0, 1) := by decide +kernel
theorem dX1_init_19 : decode cX1_init 19 = .ok (.iconst 0, 1) := by decide +kernel
theorem dX1_init_20 : decode cX1_init 20 = .ok (.putfield 19, 3) := by decide +kernel
theorem dX1_init_23 : decode cX1_init 23 = .ok (.return_, 1) := by decide +kernel
set_option maxRecDepth 20000 in
theorem ggX1_make_X1_howManyThere : GoodIn wsX1_make wsX1_howManyThere := goodIn_r _ [12, 13, 14, 15, 16, 11, 17, 18, 19, 20, 21, 22, 23, 60, 61, 62, 52, 53, 54, 55, 56, 57, 58, 59] (by decide +kernel) (by decide +kernel)
set_option maxRecDepth 20000 in
theorem gX1_make_X1_howManyThere : GoodIn wsX1_make (wsV RX1 29 RX1 yX1_howManyThere wsX1_howManyThere) := goodIn_app (goodIn_of _ (by decide +kernel)) ggX1_make_X1_howManyThere
set_option maxRecDepth 20000 in
theorem ggX1_make_X1_needNumbersLeft : GoodIn wsX1_make wsX1_needNumbersLeft := goodIn_ca (goodIn_r _ [27, 3, 4, 13, 60, 61, 62] (by decide +kernel) (by decide +kernel)) (goodIn_sub (fun _ h => List.mem_cons_of_mem _ (List.mem_append_right _ h)) (by decide +kernel))
set_option maxRecDepth 20000 in
theorem gX1_make_X1_needNumbersLeft : GoodIn wsX1_make (wsV RX1 38 RX1 yX1_needNumbersLeft wsX1_needNumbersLeft) := goodIn_app (goodIn_of _ (by decide +kernel)) ggX1_make_X1_needNumbersLeft
set_option maxRecDepth 20000 in
theorem ggX1_make_X0_init : GoodIn wsX1_make wsX0_init := goodIn_r _ [30, 31, 32, 33, 34, 35, 36, 37, 38, 39, 40, 41, 42, 43, 44, 45, 46, 47, 52, 53, 54, 55, 56, 57, 58, 59] (by decide +kernel) (by decide +kernel)
set_option maxRecDepth 20000 in
theorem gX1_make_X0_init : GoodIn wsX1_make (wsX0_init) := ggX1_make_X0_init
set_option maxRecDepth 20000 in
theorem ggX1_make_X1_put : GoodIn wsX1_make wsX1_put := goodIn_r _ [51, 13, 23, 60, 61, 62] (by decide +kernel) (by decide +kernel)
set_option maxRecDepth 20000 in
theorem gX1_make_X1_put : GoodIn wsX1_make (wsV RX1 44 RX1 yX1_put wsX1_put) := goodIn_app (goodIn_of _ (by decide +kernel)) ggX1_make_X1_put
theorem dX1_make_0 : decode cX1_make 0 = .ok (.iload_n 1, 1) := by decide +kernel
theorem dX1_make_1 : decode cX1_make 1 = .ok (.iconst 1, 1) := by decide +kernel
theorem dX1_make_2 : decode cX1_make 2 = .ok (.if_icmp .lt 9, 3) := by decide +kernel
theorem dX1_make_5 : decode cX1_make 5 = .ok (.iload_n 1, 1) := by decide +kernel
theorem dX1_make_6 : decode cX1_make 6 = .ok (.bipush 12, 2) := by decide +kernel
theorem dX1_make_8 : decode cX1_make 8 = .ok (.if_icmp .le 13, 3) := by decide +kernel
theorem dX1_make_11 : decode cX1_make 11 = .ok (.new 22, 3) := by decide +kernel
theorem dX1_make_14 : decode cX1_make 14 = .ok (.dup, 1) := by decide +kernel
theorem dX1_make_15 : decode cX1_make 15 = .ok (.ldc 24, 2) := by decide +kernel
theorem dX1_make_17 : decode cX1_make 17 = .ok (.invokespecial 26, 3) := by decide +kernel
theorem dX1_make_20 : decode cX1_make 20 = .ok (.athrow, 1) := by decide +kernel
theorem dX1_make_21 : decode cX1_make 21 = .ok (.aload_n 0, 1) := by decide +kernel
theorem dX1_make_22 : decode cX1_make 22 = .ok (.invokevirtual 29, 3) := by decide +kernel
theorem dX1_make_25 : decode cX1_make 25 = .ok (.bipush 12, 2) := by decide +kernel
theorem dX1_make_27 : decode cX1_make 27 = .ok (.if_icmp .lt 13, 3) := by decide +kernel
theorem dX1_make_30 : decode cX1_make 30 = .ok (.new 33, 3) := by decide +kernel
theorem dX1_make_33 : decode cX1_make 33 = .ok (.dup, 1) := by decide +kernel
theorem dX1_make_34 : decode cX1_make 34 = .ok (.ldc 35, 2) := by decide +kernel
theorem dX1_make_36 : decode cX1_make 36 = .ok (.invokespecial 37, 3) := by decide +kernel
theorem dX1_make_39 : decode cX1_make 39 = .ok (.athrow, 1) := by decide +kernel
theorem dX1_make_40 : decode cX1_make 40 = .ok (.aload_n 0, 1) := by decide +kernel
theorem dX1_make_41 : decode cX1_make 41 = .ok (.iconst 1, 1) := by decide +kernel
theorem dX1_make_42 : decode cX1_make 42 = .ok (.invokevirtual 38, 3) := by decide +kernel
theorem dX1_make_45 : decode cX1_make 45 = .ok (.aload_n 0, 1) := by decide +kernel
theorem dX1_make_46 : decode cX1_make 46 = .ok (.new 9, 3) := by decide +kernel
theorem dX1_make_49 : decode cX1_make 49 = .ok (.dup, 1) := by decide +kernel
theorem dX1_make_50 : decode cX1_make 50 = .ok (.iload_n 1, 1) := by decide +kernel
theorem dX1_make_51 : decode cX1_make 51 = .ok (.invokespecial 42, 3) := by decide +kernel
theorem dX1_make_54 : decode cX1_make 54 = .ok (.invokevirtual 44, 3) := by decide +kernel
theorem dX1_make_57 : decode cX1_make 57 = .ok (.ireturn, 1) := by decide +kernel
set_option maxRecDepth 20000 in
theorem ggX1_carve_X1_known : GoodIn wsX1_carve wsX1_known := goodIn_ca (goodIn_r _ [5, 6, 7, 8, 9, 10, 4, 11, 12, 43, 44, 45] (by decide +kernel) (by decide +kernel)) (goodIn_sub (fun _ h => List.mem_cons_of_mem _ (List.mem_append_left _ (List.mem_append_left _ (List.mem_append_right _ h)))) (by decide +kernel))
set_option maxRecDepth 20000 in
theorem gX1_carve_X1_known : GoodIn wsX1_carve (wsV RX1 48 RX1 yX1_known wsX1_known) := goodIn_app (goodIn_of _ (by decide +kernel)) ggX1_carve_X1_known
set_option maxRecDepth 20000 in
theorem ggX1_carve_X1_needPlace : GoodIn wsX1_carve wsX1_needPlace := goodIn_ca (goodIn_r _ [15, 6, 7, 16, 17, 18, 19, 20, 21, 46, 47, 48, 49, 50, 51, 52, 53] (by decide +kernel) (by decide +kernel)) (goodIn_sub (fun _ h => List.mem_cons_of_mem _ (List.mem_append_left _ (List.mem_append_left _ (List.mem_append_right _ h)))) (by decide +kernel))
set_option maxRecDepth 20000 in
theorem gX1_carve_X1_needPlace : GoodIn wsX1_carve (va_wsS RX1 52 yX1_needPlace wsX1_needPlace) := goodIn_app (goodIn_of _ (by decide +kernel)) ggX1_carve_X1_needPlace
set_option maxRecDepth 20000 in
theorem ggX1_carve_X1_needRune : GoodIn wsX1_carve wsX1_needRune := goodIn_ca (goodIn_r _ [24, 25, 26] (by decide +kernel) (by decide +kernel)) (goodIn_sub (fun _ h => List.mem_cons_of_mem _ (List.mem_append_left _ (List.mem_append_right _ h))) (by decide +kernel))
set_option maxRecDepth 20000 in
theorem gX1_carve_X1_needRune : GoodIn wsX1_carve (va_wsS RX1 56 yX1_needRune wsX1_needRune) := goodIn_app (goodIn_of _ (by decide +kernel)) ggX1_carve_X1_needRune
set_option maxRecDepth 20000 in
theorem ggX1_carve_X1_needThere : GoodIn wsX1_carve wsX1_needThere := goodIn_ca (goodIn_r _ [29, 30, 31, 32, 46, 47, 48, 49, 50, 51, 52, 53] (by decide +kernel) (by decide +kernel)) (goodIn_sub (fun _ h => List.mem_cons_of_mem _ (List.mem_append_right _ h)) (by decide +kernel))
set_option maxRecDepth 20000 in
theorem gX1_carve_X1_needThere : GoodIn wsX1_carve (va_wsS RX1 59 yX1_needThere wsX1_needThere) := goodIn_app (goodIn_of _ (by decide +kernel)) ggX1_carve_X1_needThere
set_option maxRecDepth 20000 in
theorem ggX1_carve_X0_runeAt : GoodIn wsX1_carve wsX0_runeAt := goodIn_r _ [36, 37, 38, 17, 18, 19, 20, 21, 46, 47, 48, 49, 50, 51, 52, 53] (by decide +kernel) (by decide +kernel)
set_option maxRecDepth 20000 in
theorem gX1_carve_X0_runeAt : GoodIn wsX1_carve (wsV RX1 63 RX0 yX0_runeAt wsX0_runeAt) := goodIn_app (goodIn_of _ (by decide +kernel)) ggX1_carve_X0_runeAt
set_option maxRecDepth 20000 in
theorem ggX1_carve_X0_putRune : GoodIn wsX1_carve wsX0_putRune := goodIn_r _ [42, 37, 38, 17, 18, 19, 20, 21, 46, 47, 48, 49, 50, 51, 52, 53] (by decide +kernel) (by decide +kernel)
set_option maxRecDepth 20000 in
theorem gX1_carve_X0_putRune : GoodIn wsX1_carve (wsV RX1 67 RX0 yX0_putRune wsX0_putRune) := goodIn_app (goodIn_of _ (by decide +kernel)) ggX1_carve_X0_putRune
theorem dX1_carve_0 : decode cX1_carve 0 = .ok (.aload_n 0, 1) := by decide +kernel
theorem dX1_carve_1 : decode cX1_carve 1 = .ok (.iload_n 1, 1) := by decide +kernel
theorem dX1_carve_2 : decode cX1_carve 2 = .ok (.invokevirtual 48, 3) := by decide +kernel
theorem dX1_carve_5 : decode cX1_carve 5 = .ok (.astore 5, 2) := by decide +kernel
theorem dX1_carve_7 : decode cX1_carve 7 = .ok (.aload 5, 2) := by decide +kernel
theorem dX1_carve_9 : decode cX1_carve 9 = .ok (.iload_n 2, 1) := by decide +kernel
theorem dX1_carve_10 : decode cX1_carve 10 = .ok (.iload_n 3, 1) := by decide +kernel
theorem dX1_carve_11 : decode cX1_carve 11 = .ok (.invokestatic 52, 3) := by decide +kernel
theorem dX1_carve_14 : decode cX1_carve 14 = .ok (.iload 4, 2) := by decide +kernel
theorem dX1_carve_16 : decode cX1_carve 16 = .ok (.invokestatic 56, 3) := by decide +kernel
theorem dX1_carve_19 : decode cX1_carve 19 = .ok (.aload 5, 2) := by decide +kernel
theorem dX1_carve_21 : decode cX1_carve 21 = .ok (.invokestatic 59, 3) := by decide +kernel
theorem dX1_carve_24 : decode cX1_carve 24 = .ok (.aload 5, 2) := by decide +kernel
theorem dX1_carve_26 : decode cX1_carve 26 = .ok (.iload_n 2, 1) := by decide +kernel
theorem dX1_carve_27 : decode cX1_carve 27 = .ok (.iload_n 3, 1) := by decide +kernel
theorem dX1_carve_28 : decode cX1_carve 28 = .ok (.invokevirtual 63, 3) := by decide +kernel
theorem dX1_carve_31 : decode cX1_carve 31 = .ok (.istore 6, 2) := by decide +kernel
theorem dX1_carve_33 : decode cX1_carve 33 = .ok (.aload 5, 2) := by decide +kernel
theorem dX1_carve_35 : decode cX1_carve 35 = .ok (.iload_n 2, 1) := by decide +kernel
theorem dX1_carve_36 : decode cX1_carve 36 = .ok (.iload_n 3, 1) := by decide +kernel
theorem dX1_carve_37 : decode cX1_carve 37 = .ok (.iload 4, 2) := by decide +kernel
theorem dX1_carve_39 : decode cX1_carve 39 = .ok (.invokevirtual 67, 3) := by decide +kernel
theorem dX1_carve_42 : decode cX1_carve 42 = .ok (.iload 6, 2) := by decide +kernel
theorem dX1_carve_44 : decode cX1_carve 44 = .ok (.ireturn, 1) := by decide +kernel
set_option maxRecDepth 20000 in
theorem ggX1_scrape_X1_known : GoodIn wsX1_scrape wsX1_known := goodIn_ca (goodIn_r _ [7, 8, 9, 10, 11, 12, 6, 13, 14, 38, 39, 40] (by decide +kernel) (by decide +kernel)) (goodIn_sub (fun _ h => List.mem_cons_of_mem _ (List.mem_append_right _ h)) (by decide +kernel))
set_option maxRecDepth 20000 in
theorem gX1_scrape_X1_known : GoodIn wsX1_scrape (wsV RX1 48 RX1 yX1_known wsX1_known) := goodIn_app (goodIn_of _ (by decide +kernel)) ggX1_scrape_X1_known
set_option maxRecDepth 20000 in
theorem ggX1_scrape_X1_needPlace : GoodIn wsX1_scrape wsX1_needPlace := goodIn_ca (goodIn_r _ [17, 8, 9, 18, 19, 20, 21, 22, 23, 41, 42, 43, 44, 45, 46, 47, 48] (by decide +kernel) (by decide +kernel)) (goodIn_sub (fun _ h => List.mem_cons_of_mem _ (List.mem_append_right _ h)) (by decide +kernel))
set_option maxRecDepth 20000 in
theorem gX1_scrape_X1_needPlace : GoodIn wsX1_scrape (va_wsS RX1 52 yX1_needPlace wsX1_needPlace) := goodIn_app (goodIn_of _ (by decide +kernel)) ggX1_scrape_X1_needPlace
set_option maxRecDepth 20000 in
theorem ggX1_scrape_X1_needThere : GoodIn wsX1_scrape wsX1_needThere := goodIn_ca (goodIn_r _ [26, 1, 2, 27, 41, 42, 43, 44, 45, 46, 47, 48] (by decide +kernel) (by decide +kernel)) (goodIn_sub (fun _ h => List.mem_cons_of_mem _ (List.mem_append_left _ (List.mem_append_right _ h))) (by decide +kernel))
set_option maxRecDepth 20000 in
theorem gX1_scrape_X1_needThere : GoodIn wsX1_scrape (va_wsS RX1 59 yX1_needThere wsX1_needThere) := goodIn_app (goodIn_of _ (by decide +kernel)) ggX1_scrape_X1_needThere
set_option maxRecDepth 20000 in
theorem ggX1_scrape_X0_runeAt : GoodIn wsX1_scrape wsX0_runeAt := goodIn_r _ [31, 32, 33, 19, 20, 21, 22, 23, 41, 42, 43, 44, 45, 46, 47, 48] (by decide +kernel) (by decide +kernel)
set_option maxRecDepth 20000 in
theorem gX1_scrape_X0_runeAt : GoodIn wsX1_scrape (wsV RX1 63 RX0 yX0_runeAt wsX0_runeAt) := goodIn_app (goodIn_of _ (by decide +kernel)) ggX1_scrape_X0_runeAt
set_option maxRecDepth 20000 in
theorem ggX1_scrape_X0_putRune : GoodIn wsX1_scrape wsX0_putRune := goodIn_r _ [37, 32, 33, 19, 20, 21, 22, 23, 41, 42, 43, 44, 45, 46, 47, 48] (by decide +kernel) (by decide +kernel)
set_option maxRecDepth 20000 in
theorem gX1_scrape_X0_putRune : GoodIn wsX1_scrape (wsV RX1 67 RX0 yX0_putRune wsX0_putRune) := goodIn_app (goodIn_of _ (by decide +kernel)) ggX1_scrape_X0_putRune
theorem dX1_scrape_0 : decode cX1_scrape 0 = .ok (.aload_n 0, 1) := by decide +kernel
theorem dX1_scrape_1 : decode cX1_scrape 1 = .ok (.iload_n 1, 1) := by decide +kernel
theorem dX1_scrape_2 : decode cX1_scrape 2 = .ok (.invokevirtual 48, 3) := by decide +kernel
theorem dX1_scrape_5 : decode cX1_scrape 5 = .ok (.astore 4, 2) := by decide +kernel
theorem dX1_scrape_7 : decode cX1_scrape 7 = .ok (.aload 4, 2) := by decide +kernel
theorem dX1_scrape_9 : decode cX1_scrape 9 = .ok (.iload_n 2, 1) := by decide +kernel
theorem dX1_scrape_10 : decode cX1_scrape 10 = .ok (.iload_n 3, 1) := by decide +kernel
theorem dX1_scrape_11 : decode cX1_scrape 11 = .ok (.invokestatic 52, 3) := by decide +kernel
theorem dX1_scrape_14 : decode cX1_scrape 14 = .ok (.aload 4, 2) := by decide +kernel
theorem dX1_scrape_16 : decode cX1_scrape 16 = .ok (.invokestatic 59, 3) := by decide +kernel
theorem dX1_scrape_19 : decode cX1_scrape 19 = .ok (.aload 4, 2) := by decide +kernel
theorem dX1_scrape_21 : decode cX1_scrape 21 = .ok (.iload_n 2, 1) := by decide +kernel
theorem dX1_scrape_22 : decode cX1_scrape 22 = .ok (.iload_n 3, 1) := by decide +kernel
theorem dX1_scrape_23 : decode cX1_scrape 23 = .ok (.invokevirtual 63, 3) := by decide +kernel
theorem dX1_scrape_26 : decode cX1_scrape 26 = .ok (.istore 5, 2) := by decide +kernel
theorem dX1_scrape_28 : decode cX1_scrape 28 = .ok (.iload 5, 2) := by decide +kernel
theorem dX1_scrape_30 : decode cX1_scrape 30 = .ok (.iconst (-1), 1) := by decide +kernel
theorem dX1_scrape_31 : decode cX1_scrape 31 = .ok (.if_icmp .ne 13, 3) := by decide +kernel
theorem dX1_scrape_34 : decode cX1_scrape 34 = .ok (.new 33, 3) := by decide +kernel
theorem dX1_scrape_37 : decode cX1_scrape 37 = .ok (.dup, 1) := by decide +kernel
theorem dX1_scrape_38 : decode cX1_scrape 38 = .ok (.ldc 71, 2) := by decide +kernel
theorem dX1_scrape_40 : decode cX1_scrape 40 = .ok (.invokespecial 37, 3) := by decide +kernel
theorem dX1_scrape_43 : decode cX1_scrape 43 = .ok (.athrow, 1) := by decide +kernel
theorem dX1_scrape_44 : decode cX1_scrape 44 = .ok (.aload 4, 2) := by decide +kernel
theorem dX1_scrape_46 : decode cX1_scrape 46 = .ok (.iload_n 2, 1) := by decide +kernel
theorem dX1_scrape_47 : decode cX1_scrape 47 = .ok (.iload_n 3, 1) := by decide +kernel
theorem dX1_scrape_48 : decode cX1_scrape 48 = .ok (.iconst (-1), 1) := by decide +kernel
theorem dX1_scrape_49 : decode cX1_scrape 49 = .ok (.invokevirtual 67, 3) := by decide +kernel
theorem dX1_scrape_52 : decode cX1_scrape 52 = .ok (.iload 5, 2) := by decide +kernel
theorem dX1_scrape_54 : decode cX1_scrape 54 = .ok (.ireturn, 1) := by decide +kernel
set_option maxRecDepth 20000 in
theorem ggX1_roll_X1_known : GoodIn wsX1_roll wsX1_known := goodIn_ca (goodIn_r _ [8, 9, 10, 11, 12, 13, 7, 14, 15, 30, 31, 32] (by decide +kernel) (by decide +kernel)) (goodIn_sub (fun _ h => List.mem_cons_of_mem _ (List.mem_append_left _ (List.mem_append_right _ h))) (by decide +kernel))
set_option maxRecDepth 20000 in
theorem gX1_roll_X1_known : GoodIn wsX1_roll (wsV RX1 48 RX1 yX1_known wsX1_known) := goodIn_app (goodIn_of _ (by decide +kernel)) ggX1_roll_X1_known
set_option maxRecDepth 20000 in
theorem ggX1_roll_X1_needThere : GoodIn wsX1_roll wsX1_needThere := goodIn_ca (goodIn_r _ [18, 19, 20, 21, 22, 23, 24, 25, 26, 27, 28, 29] (by decide +kernel) (by decide +kernel)) (goodIn_sub (fun _ h => List.mem_cons_of_mem _ (List.mem_append_right _ h)) (by decide +kernel))
set_option maxRecDepth 20000 in
theorem gX1_roll_X1_needThere : GoodIn wsX1_roll (va_wsS RX1 59 yX1_needThere wsX1_needThere) := goodIn_app (goodIn_of _ (by decide +kernel)) ggX1_roll_X1_needThere
theorem dX1_roll_0 : decode cX1_roll 0 = .ok (.aload_n 0, 1) := by decide +kernel
theorem dX1_roll_1 : decode cX1_roll 1 = .ok (.iload_n 1, 1) := by decide +kernel
theorem dX1_roll_2 : decode cX1_roll 2 = .ok (.invokevirtual 48, 3) := by decide +kernel
theorem dX1_roll_5 : decode cX1_roll 5 = .ok (.astore_n 3, 1) := by decide +kernel
theorem dX1_roll_6 : decode cX1_roll 6 = .ok (.iload_n 2, 1) := by decide +kernel
theorem dX1_roll_7 : decode cX1_roll 7 = .ok (.ifCond .lt 8, 3) := by decide +kernel
theorem dX1_roll_10 : decode cX1_roll 10 = .ok (.iload_n 2, 1) := by decide +kernel
theorem dX1_roll_11 : decode cX1_roll 11 = .ok (.iconst 3, 1) := by decide +kernel
theorem dX1_roll_12 : decode cX1_roll 12 = .ok (.if_icmp .lt 13, 3) := by decide +kernel
theorem dX1_roll_15 : decode cX1_roll 15 = .ok (.new 22, 3) := by decide +kernel
theorem dX1_roll_18 : decode cX1_roll 18 = .ok (.dup, 1) := by decide +kernel
theorem dX1_roll_19 : decode cX1_roll 19 = .ok (.ldc 73, 2) := by decide +kernel
theorem dX1_roll_21 : decode cX1_roll 21 = .ok (.invokespecial 26, 3) := by decide +kernel
theorem dX1_roll_24 : decode cX1_roll 24 = .ok (.athrow, 1) := by decide +kernel
theorem dX1_roll_25 : decode cX1_roll 25 = .ok (.aload_n 3, 1) := by decide +kernel
theorem dX1_roll_26 : decode cX1_roll 26 = .ok (.invokestatic 59, 3) := by decide +kernel
theorem dX1_roll_29 : decode cX1_roll 29 = .ok (.aload_n 3, 1) := by decide +kernel
theorem dX1_roll_30 : decode cX1_roll 30 = .ok (.aload_n 3, 1) := by decide +kernel
theorem dX1_roll_31 : decode cX1_roll 31 = .ok (.getfield 75, 3) := by decide +kernel
theorem dX1_roll_34 : decode cX1_roll 34 = .ok (.iload_n 2, 1) := by decide +kernel
theorem dX1_roll_35 : decode cX1_roll 35 = .ok (.iadd, 1) := by decide +kernel
theorem dX1_roll_36 : decode cX1_roll 36 = .ok (.iconst 3, 1) := by decide +kernel
theorem dX1_roll_37 : decode cX1_roll 37 = .ok (.irem, 1) := by decide +kernel
theorem dX1_roll_38 : decode cX1_roll 38 = .ok (.putfield 75, 3) := by decide +kernel
theorem dX1_roll_41 : decode cX1_roll 41 = .ok (.aload_n 3, 1) := by decide +kernel
theorem dX1_roll_42 : decode cX1_roll 42 = .ok (.getfield 75, 3) := by decide +kernel
theorem dX1_roll_45 : decode cX1_roll 45 = .ok (.ireturn, 1) := by decide +kernel
set_option maxRecDepth 20000 in
theorem ggX1_bend_X1_known : GoodIn wsX1_bend wsX1_known := goodIn_ca (goodIn_r _ [7, 8, 9, 10, 11, 12, 6, 13, 14, 122, 123, 124] (by decide +kernel) (by decide +kernel)) (goodIn_sub (fun _ h => List.mem_cons_of_mem _ (List.mem_append_left _ (List.mem_append_right _ h))) (by decide +kernel))
set_option maxRecDepth 20000 in
theorem gX1_bend_X1_known : GoodIn wsX1_bend (wsV RX1 48 RX1 yX1_known wsX1_known) := goodIn_app (goodIn_of _ (by decide +kernel)) ggX1_bend_X1_known
set_option maxRecDepth 20000 in
theorem ggX1_bend_X1_needForce : GoodIn wsX1_bend wsX1_needForce := goodIn_ca (goodIn_r _ [17, 18, 19] (by decide +kernel) (by decide +kernel)) (goodIn_sub (fun _ h => List.mem_cons_of_mem _ (List.mem_append_right _ h)) (by decide +kernel))
set_option maxRecDepth 20000 in
theorem gX1_bend_X1_needForce : GoodIn wsX1_bend (va_wsS RX1 78 yX1_needForce wsX1_needForce) := goodIn_app (goodIn_of _ (by decide +kernel)) ggX1_bend_X1_needForce
set_option maxRecDepth 20000 in
theorem ggX1_bend_X1_needThere : GoodIn wsX1_bend wsX1_needThere := goodIn_ca (goodIn_r _ [22, 1, 2, 23, 125, 126, 127, 128, 129, 130, 131, 132] (by decide +kernel) (by decide +kernel)) (goodIn_sub (fun _ h => List.mem_cons_of_mem _ (List.mem_append_left _ (List.mem_append_left _ (List.mem_append_right _ h)))) (by decide +kernel))
set_option maxRecDepth 20000 in
theorem gX1_bend_X1_needThere : GoodIn wsX1_bend (va_wsS RX1 59 yX1_needThere wsX1_needThere) := goodIn_app (goodIn_of _ (by decide +kernel)) ggX1_bend_X1_needThere
set_option maxRecDepth 20000 in
theorem ggX1_bend_X0_firstWeakestJoint : GoodIn wsX1_bend wsX0_firstWeakestJoint := goodIn_r _ [28, 29, 30, 31, 32, 27, 33, 34, 35, 36, 37, 38, 39, 40, 41, 42, 43, 44, 45, 46, 47, 48, 49, 50, 51, 52, 53, 54, 55, 56, 57, 58, 59, 125, 126, 127, 128, 129, 130, 131, 132] (by decide +kernel) (by decide +kernel)
set_option maxRecDepth 20000 in
theorem gX1_bend_X0_firstWeakestJoint : GoodIn wsX1_bend (wsV RX1 81 RX0 yX0_firstWeakestJoint wsX0_firstWeakestJoint) := goodIn_app (goodIn_of _ (by decide +kernel)) ggX1_bend_X0_firstWeakestJoint
set_option maxRecDepth 20000 in
theorem ggX1_bend_X0_strengthAt : GoodIn wsX1_bend wsX0_strengthAt := goodIn_r _ [33, 34, 35, 36, 37, 38, 39, 40, 27, 41, 42, 43, 44, 45, 46, 29, 47, 48, 49, 50, 51, 52, 53, 54, 55, 56, 57, 58, 59, 125, 126, 127, 128, 129, 130, 131, 132] (by decide +kernel) (by decide +kernel)
set_option maxRecDepth 20000 in
theorem gX1_bend_X0_strengthAt : GoodIn wsX1_bend (wsV RX1 84 RX0 yX0_strengthAt wsX0_strengthAt) := goodIn_app (goodIn_of _ (by decide +kernel)) ggX1_bend_X0_strengthAt
set_option maxRecDepth 20000 in
theorem ggX1_bend_X1_howManyThere : GoodIn wsX1_bend wsX1_howManyThere := goodIn_r _ [64, 65, 66, 67, 68, 6, 69, 23, 10, 11, 12, 13, 14, 122, 123, 124, 125, 126, 127, 128, 129, 130, 131, 132] (by decide +kernel) (by decide +kernel)
set_option maxRecDepth 20000 in
theorem gX1_bend_X1_howManyThere : GoodIn wsX1_bend (wsV RX1 29 RX1 yX1_howManyThere wsX1_howManyThere) := goodIn_app (goodIn_of _ (by decide +kernel)) ggX1_bend_X1_howManyThere
set_option maxRecDepth 20000 in
theorem ggX1_bend_X1_needNumbersLeft : GoodIn wsX1_bend wsX1_needNumbersLeft := goodIn_ca (goodIn_r _ [73, 1, 2, 65, 122, 123, 124] (by decide +kernel) (by decide +kernel)) (goodIn_sub (fun _ h => List.mem_cons_of_mem _ (List.mem_append_left _ (List.mem_append_left _ (List.mem_append_right _ h)))) (by decide +kernel))
set_option maxRecDepth 20000 in
theorem gX1_bend_X1_needNumbersLeft : GoodIn wsX1_bend (wsV RX1 38 RX1 yX1_needNumbersLeft wsX1_needNumbersLeft) := goodIn_app (goodIn_of _ (by decide +kernel)) ggX1_bend_X1_needNumbersLeft
set_option maxRecDepth 20000 in
theorem ggX1_bend_X1_breakAt : GoodIn wsX1_bend wsX1_breakAt := goodIn_r _ [77, 78, 79, 27, 80, 81, 82, 83, 84, 23, 85, 86, 87, 88, 89, 90, 29, 91, 92, 93, 94, 95, 55, 42, 96, 97, 98, 99, 100, 101, 102, 103, 104, 105, 51, 52, 53, 54, 56, 57, 58, 59, 106, 107, 108, 109, 38, 39, 40, 41, 43, 44, 45, 46, 110, 111, 112, 113, 114, 115, 116, 117, 118, 119, 120, 6, 121, 65, 14, 125, 126, 127, 128, 129, 130, 131, 132, 122, 123, 124] (by decide +kernel) (by decide +kernel)
set_option maxRecDepth 20000 in
theorem gX1_bend_X1_breakAt : GoodIn wsX1_bend (wsV RX1 88 RX1 yX1_breakAt wsX1_breakAt) := goodIn_app (goodIn_of _ (by decide +kernel)) ggX1_bend_X1_breakAt
theorem dX1_bend_0 : decode cX1_bend 0 = .ok (.aload_n 0, 1) := by decide +kernel
theorem dX1_bend_1 : decode cX1_bend 1 = .ok (.iload_n 1, 1) := by decide +kernel
theorem dX1_bend_2 : decode cX1_bend 2 = .ok (.invokevirtual 48, 3) := by decide +kernel
theorem dX1_bend_5 : decode cX1_bend 5 = .ok (.astore_n 3, 1) := by decide +kernel
theorem dX1_bend_6 : decode cX1_bend 6 = .ok (.iload_n 2, 1) := by decide +kernel
theorem dX1_bend_7 : decode cX1_bend 7 = .ok (.invokestatic 78, 3) := by decide +kernel
theorem dX1_bend_10 : decode cX1_bend 10 = .ok (.aload_n 3, 1) := by decide +kernel
theorem dX1_bend_11 : decode cX1_bend 11 = .ok (.invokestatic 59, 3) := by decide +kernel
theorem dX1_bend_14 : decode cX1_bend 14 = .ok (.aload_n 3, 1) := by decide +kernel
theorem dX1_bend_15 : decode cX1_bend 15 = .ok (.invokevirtual 81, 3) := by decide +kernel
theorem dX1_bend_18 : decode cX1_bend 18 = .ok (.istore 4, 2) := by decide +kernel
theorem dX1_bend_20 : decode cX1_bend 20 = .ok (.iload 4, 2) := by decide +kernel
theorem dX1_bend_22 : decode cX1_bend 22 = .ok (.iconst (-1), 1) := by decide +kernel
theorem dX1_bend_23 : decode cX1_bend 23 = .ok (.if_icmp .eq 13, 3) := by decide +kernel
theorem dX1_bend_26 : decode cX1_bend 26 = .ok (.aload_n 3, 1) := by decide +kernel
theorem dX1_bend_27 : decode cX1_bend 27 = .ok (.iload 4, 2) := by decide +kernel
theorem dX1_bend_29 : decode cX1_bend 29 = .ok (.invokevirtual 84, 3) := by decide +kernel
theorem dX1_bend_32 : decode cX1_bend 32 = .ok (.iload_n 2, 1) := by decide +kernel
theorem dX1_bend_33 : decode cX1_bend 33 = .ok (.if_icmp .lt 5, 3) := by decide +kernel
theorem dX1_bend_36 : decode cX1_bend 36 = .ok (.iconst (-1), 1) := by decide +kernel
theorem dX1_bend_37 : decode cX1_bend 37 = .ok (.ireturn, 1) := by decide +kernel
theorem dX1_bend_38 : decode cX1_bend 38 = .ok (.aload_n 0, 1) := by decide +kernel
theorem dX1_bend_39 : decode cX1_bend 39 = .ok (.invokevirtual 29, 3) := by decide +kernel
theorem dX1_bend_42 : decode cX1_bend 42 = .ok (.bipush 12, 2) := by decide +kernel
theorem dX1_bend_44 : decode cX1_bend 44 = .ok (.if_icmp .lt 13, 3) := by decide +kernel
theorem dX1_bend_47 : decode cX1_bend 47 = .ok (.new 33, 3) := by decide +kernel
theorem dX1_bend_50 : decode cX1_bend 50 = .ok (.dup, 1) := by decide +kernel
theorem dX1_bend_51 : decode cX1_bend 51 = .ok (.ldc 35, 2) := by decide +kernel
theorem dX1_bend_53 : decode cX1_bend 53 = .ok (.invokespecial 37, 3) := by decide +kernel
theorem dX1_bend_56 : decode cX1_bend 56 = .ok (.athrow, 1) := by decide +kernel
theorem dX1_bend_57 : decode cX1_bend 57 = .ok (.aload_n 0, 1) := by decide +kernel
theorem dX1_bend_58 : decode cX1_bend 58 = .ok (.iconst 2, 1) := by decide +kernel
theorem dX1_bend_59 : decode cX1_bend 59 = .ok (.invokevirtual 38, 3) := by decide +kernel
theorem dX1_bend_62 : decode cX1_bend 62 = .ok (.aload_n 0, 1) := by decide +kernel
theorem dX1_bend_63 : decode cX1_bend 63 = .ok (.aload_n 3, 1) := by decide +kernel
theorem dX1_bend_64 : decode cX1_bend 64 = .ok (.iload 4, 2) := by decide +kernel
theorem dX1_bend_66 : decode cX1_bend 66 = .ok (.invokevirtual 88, 3) := by decide +kernel
theorem dX1_bend_69 : decode cX1_bend 69 = .ok (.ireturn, 1) := by decide +kernel
set_option maxRecDepth 20000 in
theorem ggX1_glue_X1_known : GoodIn wsX1_glue wsX1_known := goodIn_ca (goodIn_r _ [10, 11, 12, 13, 14, 15, 9, 16, 17, 106, 107, 108] (by decide +kernel) (by decide +kernel)) (goodIn_sub (fun _ h => List.mem_cons_of_mem _ (List.mem_append_right _ h)) (by decide +kernel))
set_option maxRecDepth 20000 in
theorem gX1_glue_X1_known : GoodIn wsX1_glue (wsV RX1 48 RX1 yX1_known wsX1_known) := goodIn_app (goodIn_of _ (by decide +kernel)) ggX1_glue_X1_known
set_option maxRecDepth 20000 in
theorem ggX1_glue_X1_needThere : GoodIn wsX1_glue wsX1_needThere := goodIn_ca (goodIn_r _ [20, 3, 4, 21, 98, 99, 100, 101, 102, 103, 104, 105] (by decide +kernel) (by decide +kernel)) (goodIn_sub (fun _ h => List.mem_cons_of_mem _ (List.mem_append_left _ (List.mem_append_right _ h))) (by decide +kernel))
set_option maxRecDepth 20000 in
theorem gX1_glue_X1_needThere : GoodIn wsX1_glue (va_wsS RX1 59 yX1_needThere wsX1_needThere) := goodIn_app (goodIn_of _ (by decide +kernel)) ggX1_glue_X1_needThere
set_option maxRecDepth 20000 in
theorem ggX1_glue_X1_needNumbersLeft : GoodIn wsX1_glue wsX1_needNumbersLeft := goodIn_ca (goodIn_r _ [25, 3, 4, 26, 106, 107, 108] (by decide +kernel) (by decide +kernel)) (goodIn_sub (fun _ h => List.mem_cons_of_mem _ (List.mem_append_left _ (List.mem_append_right _ h))) (by decide +kernel))
set_option maxRecDepth 20000 in
theorem gX1_glue_X1_needNumbersLeft : GoodIn wsX1_glue (wsV RX1 38 RX1 yX1_needNumbersLeft wsX1_needNumbersLeft) := goodIn_app (goodIn_of _ (by decide +kernel)) ggX1_glue_X1_needNumbersLeft
set_option maxRecDepth 20000 in
theorem ggX1_glue_X1_joinBoth : GoodIn wsX1_glue wsX1_joinBoth := goodIn_r _ [30, 31, 32, 33, 5, 34, 35, 36, 21, 37, 38, 39, 40, 41, 42, 43, 44, 45, 46, 47, 48, 49, 50, 51, 52, 53, 54, 55, 56, 57, 58, 59, 60, 61, 62, 63, 64, 65, 66, 67, 68, 69, 70, 71, 72, 73, 74, 75, 76, 77, 78, 79, 80, 81, 82, 83, 84, 85, 86, 87, 88, 89, 90, 91, 92, 93, 94, 95, 96, 9, 97, 26, 17, 98, 99, 100, 101, 102, 103, 104, 105, 106, 107, 108] (by decide +kernel) (by decide +kernel)
set_option maxRecDepth 20000 in
theorem gX1_glue_X1_joinBoth : GoodIn wsX1_glue (wsV RX1 103 RX1 yX1_joinBoth wsX1_joinBoth) := goodIn_app (goodIn_of _ (by decide +kernel)) ggX1_glue_X1_joinBoth
theorem dX1_glue_0 : decode cX1_glue 0 = .ok (.aload_n 0, 1) := by decide +kernel
theorem dX1_glue_1 : decode cX1_glue 1 = .ok (.iload_n 1, 1) := by decide +kernel
theorem dX1_glue_2 : decode cX1_glue 2 = .ok (.invokevirtual 48, 3) := by decide +kernel
theorem dX1_glue_5 : decode cX1_glue 5 = .ok (.astore 5, 2) := by decide +kernel
theorem dX1_glue_7 : decode cX1_glue 7 = .ok (.aload_n 0, 1) := by decide +kernel
theorem dX1_glue_8 : decode cX1_glue 8 = .ok (.iload_n 2, 1) := by decide +kernel
theorem dX1_glue_9 : decode cX1_glue 9 = .ok (.invokevirtual 48, 3) := by decide +kernel
theorem dX1_glue_12 : decode cX1_glue 12 = .ok (.astore 6, 2) := by decide +kernel
theorem dX1_glue_14 : decode cX1_glue 14 = .ok (.iload_n 3, 1) := by decide +kernel
theorem dX1_glue_15 : decode cX1_glue 15 = .ok (.ifCond .lt 8, 3) := by decide +kernel
theorem dX1_glue_18 : decode cX1_glue 18 = .ok (.iload_n 3, 1) := by decide +kernel
theorem dX1_glue_19 : decode cX1_glue 19 = .ok (.iconst 3, 1) := by decide +kernel
theorem dX1_glue_20 : decode cX1_glue 20 = .ok (.if_icmp .lt 13, 3) := by decide +kernel
theorem dX1_glue_23 : decode cX1_glue 23 = .ok (.new 22, 3) := by decide +kernel
theorem dX1_glue_26 : decode cX1_glue 26 = .ok (.dup, 1) := by decide +kernel
theorem dX1_glue_27 : decode cX1_glue 27 = .ok (.ldc 92, 2) := by decide +kernel
theorem dX1_glue_29 : decode cX1_glue 29 = .ok (.invokespecial 26, 3) := by decide +kernel
theorem dX1_glue_32 : decode cX1_glue 32 = .ok (.athrow, 1) := by decide +kernel
theorem dX1_glue_33 : decode cX1_glue 33 = .ok (.iload 4, 2) := by decide +kernel
theorem dX1_glue_35 : decode cX1_glue 35 = .ok (.iconst 1, 1) := by decide +kernel
theorem dX1_glue_36 : decode cX1_glue 36 = .ok (.if_icmp .lt 10, 3) := by decide +kernel
theorem dX1_glue_39 : decode cX1_glue 39 = .ok (.iload 4, 2) := by decide +kernel
theorem dX1_glue_41 : decode cX1_glue 41 = .ok (.bipush 9, 2) := by decide +kernel
theorem dX1_glue_43 : decode cX1_glue 43 = .ok (.if_icmp .le 13, 3) := by decide +kernel
theorem dX1_glue_46 : decode cX1_glue 46 = .ok (.new 22, 3) := by decide +kernel
theorem dX1_glue_49 : decode cX1_glue 49 = .ok (.dup, 1) := by decide +kernel
theorem dX1_glue_50 : decode cX1_glue 50 = .ok (.ldc 94, 2) := by decide +kernel
theorem dX1_glue_52 : decode cX1_glue 52 = .ok (.invokespecial 26, 3) := by decide +kernel
theorem dX1_glue_55 : decode cX1_glue 55 = .ok (.athrow, 1) := by decide +kernel
theorem dX1_glue_56 : decode cX1_glue 56 = .ok (.aload 5, 2) := by decide +kernel
theorem dX1_glue_58 : decode cX1_glue 58 = .ok (.invokestatic 59, 3) := by decide +kernel
theorem dX1_glue_61 : decode cX1_glue 61 = .ok (.aload 6, 2) := by decide +kernel
theorem dX1_glue_63 : decode cX1_glue 63 = .ok (.invokestatic 59, 3) := by decide +kernel
theorem dX1_glue_66 : decode cX1_glue 66 = .ok (.aload 5, 2) := by decide +kernel
theorem dX1_glue_68 : decode cX1_glue 68 = .ok (.aload 6, 2) := by decide +kernel
theorem dX1_glue_70 : decode cX1_glue 70 = .ok (.if_acmp .ne 13, 3) := by decide +kernel
theorem dX1_glue_73 : decode cX1_glue 73 = .ok (.new 33, 3) := by decide +kernel
theorem dX1_glue_76 : decode cX1_glue 76 = .ok (.dup, 1) := by decide +kernel
theorem dX1_glue_77 : decode cX1_glue 77 = .ok (.ldc 96, 2) := by decide +kernel
theorem dX1_glue_79 : decode cX1_glue 79 = .ok (.invokespecial 37, 3) := by decide +kernel
theorem dX1_glue_82 : decode cX1_glue 82 = .ok (.athrow, 1) := by decide +kernel
theorem dX1_glue_83 : decode cX1_glue 83 = .ok (.aload 5, 2) := by decide +kernel
theorem dX1_glue_85 : decode cX1_glue 85 = .ok (.getfield 98, 3) := by decide +kernel
theorem dX1_glue_88 : decode cX1_glue 88 = .ok (.aload 6, 2) := by decide +kernel
theorem dX1_glue_90 : decode cX1_glue 90 = .ok (.getfield 98, 3) := by decide +kernel
theorem dX1_glue_93 : decode cX1_glue 93 = .ok (.iadd, 1) := by decide +kernel
theorem dX1_glue_94 : decode cX1_glue 94 = .ok (.bipush 12, 2) := by decide +kernel
theorem dX1_glue_96 : decode cX1_glue 96 = .ok (.if_icmp .le 13, 3) := by decide +kernel
theorem dX1_glue_99 : decode cX1_glue 99 = .ok (.new 33, 3) := by decide +kernel
theorem dX1_glue_102 : decode cX1_glue 102 = .ok (.dup, 1) := by decide +kernel
theorem dX1_glue_103 : decode cX1_glue 103 = .ok (.ldc 101, 2) := by decide +kernel
theorem dX1_glue_105 : decode cX1_glue 105 = .ok (.invokespecial 37, 3) := by decide +kernel
theorem dX1_glue_108 : decode cX1_glue 108 = .ok (.athrow, 1) := by decide +kernel
theorem dX1_glue_109 : decode cX1_glue 109 = .ok (.aload_n 0, 1) := by decide +kernel
theorem dX1_glue_110 : decode cX1_glue 110 = .ok (.iconst 1, 1) := by decide +kernel
theorem dX1_glue_111 : decode cX1_glue 111 = .ok (.invokevirtual 38, 3) := by decide +kernel
theorem dX1_glue_114 : decode cX1_glue 114 = .ok (.aload_n 0, 1) := by decide +kernel
theorem dX1_glue_115 : decode cX1_glue 115 = .ok (.aload 5, 2) := by decide +kernel
theorem dX1_glue_117 : decode cX1_glue 117 = .ok (.aload 6, 2) := by decide +kernel
theorem dX1_glue_119 : decode cX1_glue 119 = .ok (.iload_n 3, 1) := by decide +kernel
theorem dX1_glue_120 : decode cX1_glue 120 = .ok (.iload 4, 2) := by decide +kernel
theorem dX1_glue_122 : decode cX1_glue 122 = .ok (.invokevirtual 103, 3) := by decide +kernel
theorem dX1_glue_125 : decode cX1_glue 125 = .ok (.ireturn, 1) := by decide +kernel
set_option maxRecDepth 20000 in
theorem ggX1_stick_X1_known : GoodIn wsX1_stick wsX1_known := goodIn_ca (goodIn_r _ [7, 1, 2, 8, 9, 10, 6, 11, 12, 53, 54, 55] (by decide +kernel) (by decide +kernel)) (goodIn_sub (fun _ h => List.mem_cons_of_mem _ (List.mem_append_right _ h)) (by decide +kernel))
set_option maxRecDepth 20000 in
theorem gX1_stick_X1_known : GoodIn wsX1_stick (wsV RX1 48 RX1 yX1_known wsX1_known) := goodIn_app (goodIn_of _ (by decide +kernel)) ggX1_stick_X1_known
set_option maxRecDepth 20000 in
theorem ggX1_stick_X0_factAt : GoodIn wsX1_stick wsX0_factAt := goodIn_r _ [17, 18, 19, 20, 21, 22, 23, 24, 25, 16, 26, 27, 28, 29, 30, 31, 32, 33, 34, 35, 36, 37, 38, 39, 40, 41, 42, 43, 44, 45, 46, 47, 48, 49, 50, 51, 52, 56, 57, 58, 59, 60, 61, 62, 63] (by decide +kernel) (by decide +kernel)
set_option maxRecDepth 20000 in
theorem gX1_stick_X0_factAt : GoodIn wsX1_stick (wsV RX1 112 RX0 yX0_factAt wsX0_factAt) := goodIn_app (goodIn_of _ (by decide +kernel)) ggX1_stick_X0_factAt
theorem dX1_stick_0 : decode cX1_stick 0 = .ok (.aload_n 0, 1) := by decide +kernel
theorem dX1_stick_1 : decode cX1_stick 1 = .ok (.iload_n 1, 1) := by decide +kernel
theorem dX1_stick_2 : decode cX1_stick 2 = .ok (.invokevirtual 48, 3) := by decide +kernel
theorem dX1_stick_5 : decode cX1_stick 5 = .ok (.astore_n 3, 1) := by decide +kernel
theorem dX1_stick_6 : decode cX1_stick 6 = .ok (.iload_n 2, 1) := by decide +kernel
theorem dX1_stick_7 : decode cX1_stick 7 = .ok (.ifCond .lt 9, 3) := by decide +kernel
theorem dX1_stick_10 : decode cX1_stick 10 = .ok (.iload_n 2, 1) := by decide +kernel
theorem dX1_stick_11 : decode cX1_stick 11 = .ok (.bipush 7, 2) := by decide +kernel
theorem dX1_stick_13 : decode cX1_stick 13 = .ok (.if_icmp .lt 13, 3) := by decide +kernel
theorem dX1_stick_16 : decode cX1_stick 16 = .ok (.new 107, 3) := by decide +kernel
theorem dX1_stick_19 : decode cX1_stick 19 = .ok (.dup, 1) := by decide +kernel
theorem dX1_stick_20 : decode cX1_stick 20 = .ok (.ldc 109, 2) := by decide +kernel
theorem dX1_stick_22 : decode cX1_stick 22 = .ok (.invokespecial 111, 3) := by decide +kernel
theorem dX1_stick_25 : decode cX1_stick 25 = .ok (.athrow, 1) := by decide +kernel
theorem dX1_stick_26 : decode cX1_stick 26 = .ok (.aload_n 3, 1) := by decide +kernel
theorem dX1_stick_27 : decode cX1_stick 27 = .ok (.iload_n 2, 1) := by decide +kernel
theorem dX1_stick_28 : decode cX1_stick 28 = .ok (.invokevirtual 112, 3) := by decide +kernel
theorem dX1_stick_31 : decode cX1_stick 31 = .ok (.ireturn, 1) := by decide +kernel
set_option maxRecDepth 20000 in
theorem ggX1_rune_X1_known : GoodIn wsX1_rune wsX1_known := goodIn_ca (goodIn_r _ [5, 6, 7, 8, 9, 10, 4, 11, 12, 28, 29, 30] (by decide +kernel) (by decide +kernel)) (goodIn_sub (fun _ h => List.mem_cons_of_mem _ (List.mem_append_right _ h)) (by decide +kernel))
set_option maxRecDepth 20000 in
theorem gX1_rune_X1_known : GoodIn wsX1_rune (wsV RX1 48 RX1 yX1_known wsX1_known) := goodIn_app (goodIn_of _ (by decide +kernel)) ggX1_rune_X1_known
set_option maxRecDepth 20000 in
theorem ggX1_rune_X1_needPlace : GoodIn wsX1_rune wsX1_needPlace := goodIn_ca (goodIn_r _ [15, 6, 7, 16, 17, 18, 19, 20, 21, 31, 32, 33, 34, 35, 36, 37, 38] (by decide +kernel) (by decide +kernel)) (goodIn_sub (fun _ h => List.mem_cons_of_mem _ (List.mem_append_right _ h)) (by decide +kernel))
set_option maxRecDepth 20000 in
theorem gX1_rune_X1_needPlace : GoodIn wsX1_rune (va_wsS RX1 52 yX1_needPlace wsX1_needPlace) := goodIn_app (goodIn_of _ (by decide +kernel)) ggX1_rune_X1_needPlace
set_option maxRecDepth 20000 in
theorem ggX1_rune_X0_runeAt : GoodIn wsX1_rune wsX0_runeAt := goodIn_r _ [25, 26, 27, 17, 18, 19, 20, 21, 31, 32, 33, 34, 35, 36, 37, 38] (by decide +kernel) (by decide +kernel)
set_option maxRecDepth 20000 in
theorem gX1_rune_X0_runeAt : GoodIn wsX1_rune (wsV RX1 63 RX0 yX0_runeAt wsX0_runeAt) := goodIn_app (goodIn_of _ (by decide +kernel)) ggX1_rune_X0_runeAt
theorem dX1_rune_0 : decode cX1_rune 0 = .ok (.aload_n 0, 1) := by decide +kernel
theorem dX1_rune_1 : decode cX1_rune 1 = .ok (.iload_n 1, 1) := by decide +kernel
theorem dX1_rune_2 : decode cX1_rune 2 = .ok (.invokevirtual 48, 3) := by decide +kernel
theorem dX1_rune_5 : decode cX1_rune 5 = .ok (.astore 4, 2) := by decide +kernel
theorem dX1_rune_7 : decode cX1_rune 7 = .ok (.aload 4, 2) := by decide +kernel
theorem dX1_rune_9 : decode cX1_rune 9 = .ok (.iload_n 2, 1) := by decide +kernel
theorem dX1_rune_10 : decode cX1_rune 10 = .ok (.iload_n 3, 1) := by decide +kernel
theorem dX1_rune_11 : decode cX1_rune 11 = .ok (.invokestatic 52, 3) := by decide +kernel
theorem dX1_rune_14 : decode cX1_rune 14 = .ok (.aload 4, 2) := by decide +kernel
theorem dX1_rune_16 : decode cX1_rune 16 = .ok (.iload_n 2, 1) := by decide +kernel
theorem dX1_rune_17 : decode cX1_rune 17 = .ok (.iload_n 3, 1) := by decide +kernel
theorem dX1_rune_18 : decode cX1_rune 18 = .ok (.invokevirtual 63, 3) := by decide +kernel
theorem dX1_rune_21 : decode cX1_rune 21 = .ok (.ireturn, 1) := by decide +kernel
set_option maxRecDepth 20000 in
theorem ggX1_strength_X1_known : GoodIn wsX1_strength wsX1_known := goodIn_ca (goodIn_r _ [7, 1, 2, 8, 9, 10, 6, 11, 12, 46, 47, 48] (by decide +kernel) (by decide +kernel)) (goodIn_sub (fun _ h => List.mem_cons_of_mem _ (List.mem_append_right _ h)) (by decide +kernel))
set_option maxRecDepth 20000 in
theorem gX1_strength_X1_known : GoodIn wsX1_strength (wsV RX1 48 RX1 yX1_known wsX1_known) := goodIn_app (goodIn_of _ (by decide +kernel)) ggX1_strength_X1_known
set_option maxRecDepth 20000 in
theorem ggX1_strength_X0_hasJoint : GoodIn wsX1_strength wsX0_hasJoint := goodIn_r _ [17, 18, 49, 50, 51, 52, 53, 54, 55, 56] (by decide +kernel) (by decide +kernel)
set_option maxRecDepth 20000 in
theorem gX1_strength_X0_hasJoint : GoodIn wsX1_strength (wsV RX1 115 RX0 yX0_hasJoint wsX0_hasJoint) := goodIn_app (goodIn_of _ (by decide +kernel)) ggX1_strength_X0_hasJoint
set_option maxRecDepth 20000 in
theorem ggX1_strength_X0_strengthAt : GoodIn wsX1_strength wsX0_strengthAt := goodIn_r _ [22, 23, 24, 25, 26, 27, 28, 29, 16, 30, 31, 32, 14, 15, 17, 18, 33, 34, 35, 36, 37, 38, 39, 40, 41, 42, 43, 44, 45, 49, 50, 51, 52, 53, 54, 55, 56] (by decide +kernel) (by decide +kernel)
set_option maxRecDepth 20000 in
theorem gX1_strength_X0_strengthAt : GoodIn wsX1_strength (wsV RX1 84 RX0 yX0_strengthAt wsX0_strengthAt) := goodIn_app (goodIn_of _ (by decide +kernel)) ggX1_strength_X0_strengthAt
theorem dX1_strength_0 : decode cX1_strength 0 = .ok (.aload_n 0, 1) := by decide +kernel
theorem dX1_strength_1 : decode cX1_strength 1 = .ok (.iload_n 1, 1) := by decide +kernel
theorem dX1_strength_2 : decode cX1_strength 2 = .ok (.invokevirtual 48, 3) := by decide +kernel
theorem dX1_strength_5 : decode cX1_strength 5 = .ok (.astore_n 3, 1) := by decide +kernel
theorem dX1_strength_6 : decode cX1_strength 6 = .ok (.aload_n 3, 1) := by decide +kernel
theorem dX1_strength_7 : decode cX1_strength 7 = .ok (.iload_n 2, 1) := by decide +kernel
theorem dX1_strength_8 : decode cX1_strength 8 = .ok (.invokevirtual 115, 3) := by decide +kernel
theorem dX1_strength_11 : decode cX1_strength 11 = .ok (.ifCond .ne 13, 3) := by decide +kernel
theorem dX1_strength_14 : decode cX1_strength 14 = .ok (.new 107, 3) := by decide +kernel
theorem dX1_strength_17 : decode cX1_strength 17 = .ok (.dup, 1) := by decide +kernel
theorem dX1_strength_18 : decode cX1_strength 18 = .ok (.ldc 119, 2) := by decide +kernel
theorem dX1_strength_20 : decode cX1_strength 20 = .ok (.invokespecial 111, 3) := by decide +kernel
theorem dX1_strength_23 : decode cX1_strength 23 = .ok (.athrow, 1) := by decide +kernel
theorem dX1_strength_24 : decode cX1_strength 24 = .ok (.aload_n 3, 1) := by decide +kernel
theorem dX1_strength_25 : decode cX1_strength 25 = .ok (.iload_n 2, 1) := by decide +kernel
theorem dX1_strength_26 : decode cX1_strength 26 = .ok (.invokevirtual 84, 3) := by decide +kernel
theorem dX1_strength_29 : decode cX1_strength 29 = .ok (.ireturn, 1) := by decide +kernel
set_option maxRecDepth 20000 in
theorem ggX1_count_X1_total : GoodIn wsX1_count wsX1_total := goodIn_r _ [7, 8, 9, 10, 11, 12, 6, 13, 14, 15, 16, 17, 18, 19, 20, 21, 22, 23, 24, 25, 26, 27, 28, 29, 30, 31, 32, 33, 34, 35, 36, 37, 38, 39, 40, 41, 42, 43, 44, 45, 46, 47, 48, 49, 50, 51, 52, 53, 54, 55, 56, 57, 58, 59, 60, 61, 62, 63, 64, 65, 66, 67, 68, 69, 70, 71, 72, 73, 74, 75, 76, 77, 78, 79, 80, 81, 82, 83, 84, 85, 86, 87, 88, 89, 90] (by decide +kernel) (by decide +kernel)
set_option maxRecDepth 20000 in
theorem gX1_count_X1_total : GoodIn wsX1_count (wsV RX1 123 RX1 yX1_total wsX1_total) := goodIn_app (goodIn_of _ (by decide +kernel)) ggX1_count_X1_total
theorem dX1_count_0 : decode cX1_count 0 = .ok (.iload_n 1, 1) := by decide +kernel
theorem dX1_count_1 : decode cX1_count 1 = .ok (.ifCond .lt 9, 3) := by decide +kernel
theorem dX1_count_4 : decode cX1_count 4 = .ok (.iload_n 1, 1) := by decide +kernel
theorem dX1_count_5 : decode cX1_count 5 = .ok (.bipush 7, 2) := by decide +kernel
theorem dX1_count_7 : decode cX1_count 7 = .ok (.if_icmp .lt 13, 3) := by decide +kernel
theorem dX1_count_10 : decode cX1_count 10 = .ok (.new 107, 3) := by decide +kernel
theorem dX1_count_13 : decode cX1_count 13 = .ok (.dup, 1) := by decide +kernel
theorem dX1_count_14 : decode cX1_count 14 = .ok (.ldc 121, 2) := by decide +kernel
theorem dX1_count_16 : decode cX1_count 16 = .ok (.invokespecial 111, 3) := by decide +kernel
theorem dX1_count_19 : decode cX1_count 19 = .ok (.athrow, 1) := by decide +kernel
theorem dX1_count_20 : decode cX1_count 20 = .ok (.aload_n 0, 1) := by decide +kernel
theorem dX1_count_21 : decode cX1_count 21 = .ok (.iload_n 1, 1) := by decide +kernel
theorem dX1_count_22 : decode cX1_count 22 = .ok (.invokevirtual 123, 3) := by decide +kernel
theorem dX1_count_25 : decode cX1_count 25 = .ok (.ireturn, 1) := by decide +kernel
set_option maxRecDepth 20000 in
theorem ggX1_fits_X1_known : GoodIn wsX1_fits wsX1_known := goodIn_ca (goodIn_r _ [6, 7, 8, 9, 10, 11, 5, 12, 13, 29, 30, 31] (by decide +kernel) (by decide +kernel)) (goodIn_sub (fun _ h => List.mem_cons_of_mem _ (List.mem_append_right _ h)) (by decide +kernel))
set_option maxRecDepth 20000 in
theorem gX1_fits_X1_known : GoodIn wsX1_fits (wsV RX1 48 RX1 yX1_known wsX1_known) := goodIn_app (goodIn_of _ (by decide +kernel)) ggX1_fits_X1_known
set_option maxRecDepth 20000 in
theorem ggX1_fits_X0_fitsAheadOf : GoodIn wsX1_fits wsX0_fitsAheadOf := goodIn_r _ [18, 19, 20, 21, 22, 23, 24, 25, 26, 27, 28] (by decide +kernel) (by decide +kernel)
set_option maxRecDepth 20000 in
theorem gX1_fits_X0_fitsAheadOf : GoodIn wsX1_fits (wsV RX1 130 RX0 yX0_fitsAheadOf wsX0_fitsAheadOf) := goodIn_app (goodIn_of _ (by decide +kernel)) ggX1_fits_X0_fitsAheadOf
theorem dX1_fits_0 : decode cX1_fits 0 = .ok (.aload_n 0, 1) := by decide +kernel
theorem dX1_fits_1 : decode cX1_fits 1 = .ok (.iload_n 1, 1) := by decide +kernel
theorem dX1_fits_2 : decode cX1_fits 2 = .ok (.invokevirtual 48, 3) := by decide +kernel
theorem dX1_fits_5 : decode cX1_fits 5 = .ok (.astore_n 3, 1) := by decide +kernel
theorem dX1_fits_6 : decode cX1_fits 6 = .ok (.aload_n 0, 1) := by decide +kernel
theorem dX1_fits_7 : decode cX1_fits 7 = .ok (.iload_n 2, 1) := by decide +kernel
theorem dX1_fits_8 : decode cX1_fits 8 = .ok (.invokevirtual 48, 3) := by decide +kernel
theorem dX1_fits_11 : decode cX1_fits 11 = .ok (.astore 4, 2) := by decide +kernel
theorem dX1_fits_13 : decode cX1_fits 13 = .ok (.aload_n 3, 1) := by decide +kernel
theorem dX1_fits_14 : decode cX1_fits 14 = .ok (.getfield 126, 3) := by decide +kernel
theorem dX1_fits_17 : decode cX1_fits 17 = .ok (.ifCond .ne 24, 3) := by decide +kernel
theorem dX1_fits_20 : decode cX1_fits 20 = .ok (.aload 4, 2) := by decide +kernel
theorem dX1_fits_22 : decode cX1_fits 22 = .ok (.getfield 126, 3) := by decide +kernel
theorem dX1_fits_25 : decode cX1_fits 25 = .ok (.ifCond .ne 16, 3) := by decide +kernel
theorem dX1_fits_28 : decode cX1_fits 28 = .ok (.aload_n 3, 1) := by decide +kernel
theorem dX1_fits_29 : decode cX1_fits 29 = .ok (.aload 4, 2) := by decide +kernel
theorem dX1_fits_31 : decode cX1_fits 31 = .ok (.invokevirtual 130, 3) := by decide +kernel
theorem dX1_fits_34 : decode cX1_fits 34 = .ok (.ifCond .eq 7, 3) := by decide +kernel
theorem dX1_fits_37 : decode cX1_fits 37 = .ok (.iconst 1, 1) := by decide +kernel
theorem dX1_fits_38 : decode cX1_fits 38 = .ok (.goto 4, 3) := by decide +kernel
theorem dX1_fits_41 : decode cX1_fits 41 = .ok (.iconst 0, 1) := by decide +kernel
theorem dX1_fits_42 : decode cX1_fits 42 = .ok (.ireturn, 1) := by decide +kernel
set_option maxRecDepth 20000 in
theorem ggX1_size_X1_known : GoodIn wsX1_size wsX1_known := goodIn_ca (goodIn_r _ [6, 7, 8, 9, 10, 11, 5, 12, 13, 46, 47, 48] (by decide +kernel) (by decide +kernel)) (goodIn_sub (fun _ h => List.mem_cons_of_mem _ (List.mem_append_left _ (List.mem_append_right _ h))) (by decide +kernel))
set_option maxRecDepth 20000 in
theorem gX1_size_X1_known : GoodIn wsX1_size (wsV RX1 48 RX1 yX1_known wsX1_known) := goodIn_app (goodIn_of _ (by decide +kernel)) ggX1_size_X1_known
set_option maxRecDepth 20000 in
theorem ggX1_size_X1_needTurn : GoodIn wsX1_size wsX1_needTurn := goodIn_ca (goodIn_r _ [16, 17, 18] (by decide +kernel) (by decide +kernel)) (goodIn_sub (fun _ h => List.mem_cons_of_mem _ (List.mem_append_right _ h)) (by decide +kernel))
set_option maxRecDepth 20000 in
theorem gX1_size_X1_needTurn : GoodIn wsX1_size (va_wsS RX1 134 yX1_needTurn wsX1_needTurn) := goodIn_app (goodIn_of _ (by decide +kernel)) ggX1_size_X1_needTurn
set_option maxRecDepth 20000 in
theorem ggX1_size_X0_readingLength : GoodIn wsX1_size wsX0_readingLength := goodIn_r _ [23, 24, 25, 26, 27, 22, 28, 29, 30, 31, 32, 33, 34, 35, 36, 37, 38, 39, 40, 41, 42, 43, 44, 45] (by decide +kernel) (by decide +kernel)
set_option maxRecDepth 20000 in
theorem gX1_size_X0_readingLength : GoodIn wsX1_size (wsV RX1 137 RX0 yX0_readingLength wsX0_readingLength) := goodIn_app (goodIn_of _ (by decide +kernel)) ggX1_size_X0_readingLength
theorem dX1_size_0 : decode cX1_size 0 = .ok (.aload_n 0, 1) := by decide +kernel
theorem dX1_size_1 : decode cX1_size 1 = .ok (.iload_n 1, 1) := by decide +kernel
theorem dX1_size_2 : decode cX1_size 2 = .ok (.invokevirtual 48, 3) := by decide +kernel
theorem dX1_size_5 : decode cX1_size 5 = .ok (.astore_n 3, 1) := by decide +kernel
theorem dX1_size_6 : decode cX1_size 6 = .ok (.iload_n 2, 1) := by decide +kernel
theorem dX1_size_7 : decode cX1_size 7 = .ok (.invokestatic 134, 3) := by decide +kernel
theorem dX1_size_10 : decode cX1_size 10 = .ok (.aload_n 3, 1) := by decide +kernel
theorem dX1_size_11 : decode cX1_size 11 = .ok (.aload_n 3, 1) := by decide +kernel
theorem dX1_size_12 : decode cX1_size 12 = .ok (.getfield 75, 3) := by decide +kernel
theorem dX1_size_15 : decode cX1_size 15 = .ok (.iload_n 2, 1) := by decide +kernel
theorem dX1_size_16 : decode cX1_size 16 = .ok (.invokevirtual 137, 3) := by decide +kernel
theorem dX1_size_19 : decode cX1_size 19 = .ok (.ireturn, 1) := by decide +kernel
set_option maxRecDepth 20000 in
theorem ggX1_reads_X1_known : GoodIn wsX1_reads wsX1_known := goodIn_ca (goodIn_r _ [7, 8, 9, 10, 11, 12, 6, 13, 14, 38, 39, 40] (by decide +kernel) (by decide +kernel)) (goodIn_sub (fun _ h => List.mem_cons_of_mem _ (List.mem_append_right _ h)) (by decide +kernel))
set_option maxRecDepth 20000 in
theorem gX1_reads_X1_known : GoodIn wsX1_reads (wsV RX1 48 RX1 yX1_known wsX1_known) := goodIn_app (goodIn_of _ (by decide +kernel)) ggX1_reads_X1_known
set_option maxRecDepth 20000 in
theorem ggX1_reads_X1_needTurn : GoodIn wsX1_reads wsX1_needTurn := goodIn_ca (goodIn_r _ [17, 1, 2] (by decide +kernel) (by decide +kernel)) (goodIn_sub (fun _ h => List.mem_cons_of_mem _ (List.mem_append_left _ (List.mem_append_right _ h))) (by decide +kernel))
set_option maxRecDepth 20000 in
theorem gX1_reads_X1_needTurn : GoodIn wsX1_reads (va_wsS RX1 134 yX1_needTurn wsX1_needTurn) := goodIn_app (goodIn_of _ (by decide +kernel)) ggX1_reads_X1_needTurn
set_option maxRecDepth 20000 in
theorem ggX1_reads_X0_runeOfReadingOrNone : GoodIn wsX1_reads wsX0_runeOfReadingOrNone := goodIn_r _ [22, 23, 24, 25, 26, 27, 21, 28, 29, 30, 31, 32, 33, 34, 35, 36, 37, 41, 42, 43, 44, 45, 46, 47, 48] (by decide +kernel) (by decide +kernel)
set_option maxRecDepth 20000 in
theorem gX1_reads_X0_runeOfReadingOrNone : GoodIn wsX1_reads (wsV RX1 140 RX0 yX0_runeOfReadingOrNone wsX0_runeOfReadingOrNone) := goodIn_app (goodIn_of _ (by decide +kernel)) ggX1_reads_X0_runeOfReadingOrNone
theorem dX1_reads_0 : decode cX1_reads 0 = .ok (.aload_n 0, 1) := by decide +kernel
theorem dX1_reads_1 : decode cX1_reads 1 = .ok (.iload_n 1, 1) := by decide +kernel
theorem dX1_reads_2 : decode cX1_reads 2 = .ok (.invokevirtual 48, 3) := by decide +kernel
theorem dX1_reads_5 : decode cX1_reads 5 = .ok (.astore 4, 2) := by decide +kernel
theorem dX1_reads_7 : decode cX1_reads 7 = .ok (.iload_n 2, 1) := by decide +kernel
theorem dX1_reads_8 : decode cX1_reads 8 = .ok (.invokestatic 134, 3) := by decide +kernel
theorem dX1_reads_11 : decode cX1_reads 11 = .ok (.aload 4, 2) := by decide +kernel
theorem dX1_reads_13 : decode cX1_reads 13 = .ok (.iload_n 2, 1) := by decide +kernel
theorem dX1_reads_14 : decode cX1_reads 14 = .ok (.iload_n 3, 1) := by decide +kernel
theorem dX1_reads_15 : decode cX1_reads 15 = .ok (.invokevirtual 140, 3) := by decide +kernel
theorem dX1_reads_18 : decode cX1_reads 18 = .ok (.istore 5, 2) := by decide +kernel
theorem dX1_reads_20 : decode cX1_reads 20 = .ok (.iload 5, 2) := by decide +kernel
theorem dX1_reads_22 : decode cX1_reads 22 = .ok (.iconst (-1), 1) := by decide +kernel
theorem dX1_reads_23 : decode cX1_reads 23 = .ok (.if_icmp .ne 13, 3) := by decide +kernel
theorem dX1_reads_26 : decode cX1_reads 26 = .ok (.new 22, 3) := by decide +kernel
theorem dX1_reads_29 : decode cX1_reads 29 = .ok (.dup, 1) := by decide +kernel
theorem dX1_reads_30 : decode cX1_reads 30 = .ok (.ldc 143, 2) := by decide +kernel
theorem dX1_reads_32 : decode cX1_reads 32 = .ok (.invokespecial 26, 3) := by decide +kernel
theorem dX1_reads_35 : decode cX1_reads 35 = .ok (.athrow, 1) := by decide +kernel
theorem dX1_reads_36 : decode cX1_reads 36 = .ok (.iload 5, 2) := by decide +kernel
theorem dX1_reads_38 : decode cX1_reads 38 = .ok (.ireturn, 1) := by decide +kernel
set_option maxRecDepth 20000 in
theorem ggX1_has_X1_known : GoodIn wsX1_has wsX1_known := goodIn_ca (goodIn_r _ [5, 6, 7, 8, 9, 10, 4, 11, 12, 37, 38, 39] (by decide +kernel) (by decide +kernel)) (goodIn_sub (fun _ h => List.mem_cons_of_mem _ (List.mem_append_left _ (List.mem_append_right _ h))) (by decide +kernel))
set_option maxRecDepth 20000 in
theorem gX1_has_X1_known : GoodIn wsX1_has (wsV RX1 48 RX1 yX1_known wsX1_known) := goodIn_app (goodIn_of _ (by decide +kernel)) ggX1_has_X1_known
set_option maxRecDepth 20000 in
theorem ggX1_has_X1_needRune : GoodIn wsX1_has wsX1_needRune := goodIn_ca (goodIn_r _ [15, 16, 17] (by decide +kernel) (by decide +kernel)) (goodIn_sub (fun _ h => List.mem_cons_of_mem _ (List.mem_append_right _ h)) (by decide +kernel))
set_option maxRecDepth 20000 in
theorem gX1_has_X1_needRune : GoodIn wsX1_has (va_wsS RX1 56 yX1_needRune wsX1_needRune) := goodIn_app (goodIn_of _ (by decide +kernel)) ggX1_has_X1_needRune
set_option maxRecDepth 20000 in
theorem ggX1_has_X0_readsPair : GoodIn wsX1_has wsX0_readsPair := goodIn_r _ [22, 23, 24, 25, 26, 21, 27, 28, 29, 30, 31, 32, 33, 34, 35, 36, 40, 41, 42, 43, 44, 45, 46, 47] (by decide +kernel) (by decide +kernel)
set_option maxRecDepth 20000 in
theorem gX1_has_X0_readsPair : GoodIn wsX1_has (wsV RX1 145 RX0 yX0_readsPair wsX0_readsPair) := goodIn_app (goodIn_of _ (by decide +kernel)) ggX1_has_X0_readsPair
theorem dX1_has_0 : decode cX1_has 0 = .ok (.aload_n 0, 1) := by decide +kernel
theorem dX1_has_1 : decode cX1_has 1 = .ok (.iload_n 1, 1) := by decide +kernel
theorem dX1_has_2 : decode cX1_has 2 = .ok (.invokevirtual 48, 3) := by decide +kernel
theorem dX1_has_5 : decode cX1_has 5 = .ok (.astore 4, 2) := by decide +kernel
theorem dX1_has_7 : decode cX1_has 7 = .ok (.iload_n 2, 1) := by decide +kernel
theorem dX1_has_8 : decode cX1_has 8 = .ok (.invokestatic 56, 3) := by decide +kernel
theorem dX1_has_11 : decode cX1_has 11 = .ok (.iload_n 3, 1) := by decide +kernel
theorem dX1_has_12 : decode cX1_has 12 = .ok (.invokestatic 56, 3) := by decide +kernel
theorem dX1_has_15 : decode cX1_has 15 = .ok (.iconst 0, 1) := by decide +kernel
theorem dX1_has_16 : decode cX1_has 16 = .ok (.istore 5, 2) := by decide +kernel
theorem dX1_has_18 : decode cX1_has 18 = .ok (.iconst 0, 1) := by decide +kernel
theorem dX1_has_19 : decode cX1_has 19 = .ok (.istore 6, 2) := by decide +kernel
theorem dX1_has_21 : decode cX1_has 21 = .ok (.iload 6, 2) := by decide +kernel
theorem dX1_has_23 : decode cX1_has 23 = .ok (.iconst 3, 1) := by decide +kernel
theorem dX1_has_24 : decode cX1_has 24 = .ok (.if_icmp .ge 41, 3) := by decide +kernel
theorem dX1_has_27 : decode cX1_has 27 = .ok (.iconst 0, 1) := by decide +kernel
theorem dX1_has_28 : decode cX1_has 28 = .ok (.istore 7, 2) := by decide +kernel
theorem dX1_has_30 : decode cX1_has 30 = .ok (.iload 7, 2) := by decide +kernel
theorem dX1_has_32 : decode cX1_has 32 = .ok (.iconst 3, 1) := by decide +kernel
theorem dX1_has_33 : decode cX1_has 33 = .ok (.if_icmp .ge 26, 3) := by decide +kernel
theorem dX1_has_36 : decode cX1_has 36 = .ok (.aload 4, 2) := by decide +kernel
theorem dX1_has_38 : decode cX1_has 38 = .ok (.iload 6, 2) := by decide +kernel
theorem dX1_has_40 : decode cX1_has 40 = .ok (.iload 7, 2) := by decide +kernel
theorem dX1_has_42 : decode cX1_has 42 = .ok (.iload_n 2, 1) := by decide +kernel
theorem dX1_has_43 : decode cX1_has 43 = .ok (.iload_n 3, 1) := by decide +kernel
theorem dX1_has_44 : decode cX1_has 44 = .ok (.invokevirtual 145, 3) := by decide +kernel
theorem dX1_has_47 : decode cX1_has 47 = .ok (.ifCond .eq 6, 3) := by decide +kernel
theorem dX1_has_50 : decode cX1_has 50 = .ok (.iinc 5 1, 3) := by decide +kernel
theorem dX1_has_53 : decode cX1_has 53 = .ok (.iinc 7 1, 3) := by decide +kernel
theorem dX1_has_56 : decode cX1_has 56 = .ok (.goto (-26), 3) := by decide +kernel
theorem dX1_has_59 : decode cX1_has 59 = .ok (.iinc 6 1, 3) := by decide +kernel
theorem dX1_has_62 : decode cX1_has 62 = .ok (.goto (-41), 3) := by decide +kernel
theorem dX1_has_65 : decode cX1_has 65 = .ok (.iload 5, 2) := by decide +kernel
theorem dX1_has_67 : decode cX1_has 67 = .ok (.ireturn, 1) := by decide +kernel
set_option maxRecDepth 20000 in
theorem ggX1_rhyme_X1_known : GoodIn wsX1_rhyme wsX1_known := goodIn_ca (goodIn_r _ [6, 7, 8, 9, 10, 11, 5, 12, 13, 54, 55, 56] (by decide +kernel) (by decide +kernel)) (goodIn_sub (fun _ h => List.mem_cons_of_mem _ (List.mem_append_left _ (List.mem_append_right _ h))) (by decide +kernel))
set_option maxRecDepth 20000 in
theorem gX1_rhyme_X1_known : GoodIn wsX1_rhyme (wsV RX1 48 RX1 yX1_known wsX1_known) := goodIn_app (goodIn_of _ (by decide +kernel)) ggX1_rhyme_X1_known
set_option maxRecDepth 20000 in
theorem ggX1_rhyme_X1_needTurn : GoodIn wsX1_rhyme wsX1_needTurn := goodIn_ca (goodIn_r _ [16, 17, 18] (by decide +kernel) (by decide +kernel)) (goodIn_sub (fun _ h => List.mem_cons_of_mem _ (List.mem_append_right _ h)) (by decide +kernel))
set_option maxRecDepth 20000 in
theorem gX1_rhyme_X1_needTurn : GoodIn wsX1_rhyme (va_wsS RX1 134 yX1_needTurn wsX1_needTurn) := goodIn_app (goodIn_of _ (by decide +kernel)) ggX1_rhyme_X1_needTurn
set_option maxRecDepth 20000 in
theorem ggX1_rhyme_X1_rhymeOf : GoodIn wsX1_rhyme wsX1_rhymeOf := goodIn_r _ [21, 22, 1, 23, 24, 25, 26, 27, 28, 29, 30, 31, 32, 33, 34, 35, 36, 37, 38, 39, 40, 41, 42, 43, 44, 5, 45, 46, 47, 48, 49, 50, 51, 52, 53] (by decide +kernel) (by decide +kernel)
set_option maxRecDepth 20000 in
theorem gX1_rhyme_X1_rhymeOf : GoodIn wsX1_rhyme (va_wsS RX1 149 yX1_rhymeOf wsX1_rhymeOf) := goodIn_app (goodIn_of _ (by decide +kernel)) ggX1_rhyme_X1_rhymeOf
theorem dX1_rhyme_0 : decode cX1_rhyme 0 = .ok (.aload_n 0, 1) := by decide +kernel
theorem dX1_rhyme_1 : decode cX1_rhyme 1 = .ok (.iload_n 1, 1) := by decide +kernel
theorem dX1_rhyme_2 : decode cX1_rhyme 2 = .ok (.invokevirtual 48, 3) := by decide +kernel
theorem dX1_rhyme_5 : decode cX1_rhyme 5 = .ok (.astore 4, 2) := by decide +kernel
theorem dX1_rhyme_7 : decode cX1_rhyme 7 = .ok (.aload_n 0, 1) := by decide +kernel
theorem dX1_rhyme_8 : decode cX1_rhyme 8 = .ok (.iload_n 2, 1) := by decide +kernel
theorem dX1_rhyme_9 : decode cX1_rhyme 9 = .ok (.invokevirtual 48, 3) := by decide +kernel
theorem dX1_rhyme_12 : decode cX1_rhyme 12 = .ok (.astore 5, 2) := by decide +kernel
theorem dX1_rhyme_14 : decode cX1_rhyme 14 = .ok (.iload_n 3, 1) := by decide +kernel
theorem dX1_rhyme_15 : decode cX1_rhyme 15 = .ok (.invokestatic 134, 3) := by decide +kernel
theorem dX1_rhyme_18 : decode cX1_rhyme 18 = .ok (.aload 4, 2) := by decide +kernel
theorem dX1_rhyme_20 : decode cX1_rhyme 20 = .ok (.aload 4, 2) := by decide +kernel
theorem dX1_rhyme_22 : decode cX1_rhyme 22 = .ok (.getfield 75, 3) := by decide +kernel
theorem dX1_rhyme_25 : decode cX1_rhyme 25 = .ok (.aload 5, 2) := by decide +kernel
theorem dX1_rhyme_27 : decode cX1_rhyme 27 = .ok (.iload_n 3, 1) := by decide +kernel
theorem dX1_rhyme_28 : decode cX1_rhyme 28 = .ok (.invokestatic 149, 3) := by decide +kernel
theorem dX1_rhyme_31 : decode cX1_rhyme 31 = .ok (.ireturn, 1) := by decide +kernel
set_option maxRecDepth 20000 in
theorem ggX1_best_X1_known : GoodIn wsX1_best wsX1_known := goodIn_ca (goodIn_r _ [5, 6, 7, 8, 9, 10, 4, 11, 12, 46, 47, 48] (by decide +kernel) (by decide +kernel)) (goodIn_sub (fun _ h => List.mem_cons_of_mem _ (List.mem_append_left _ (List.mem_append_right _ h))) (by decide +kernel))
set_option maxRecDepth 20000 in
theorem gX1_best_X1_known : GoodIn wsX1_best (wsV RX1 48 RX1 yX1_known wsX1_known) := goodIn_app (goodIn_of _ (by decide +kernel)) ggX1_best_X1_known
set_option maxRecDepth 20000 in
theorem ggX1_best_X1_needTurn : GoodIn wsX1_best wsX1_needTurn := goodIn_ca (goodIn_r _ [15, 16, 17] (by decide +kernel) (by decide +kernel)) (goodIn_sub (fun _ h => List.mem_cons_of_mem _ (List.mem_append_right _ h)) (by decide +kernel))
set_option maxRecDepth 20000 in
theorem gX1_best_X1_needTurn : GoodIn wsX1_best (va_wsS RX1 134 yX1_needTurn wsX1_needTurn) := goodIn_app (goodIn_of _ (by decide +kernel)) ggX1_best_X1_needTurn
set_option maxRecDepth 20000 in
theorem ggX1_best_X1_rhymeOf : GoodIn wsX1_best wsX1_rhymeOf := goodIn_r _ [20, 21, 22, 23, 24, 25, 26, 27, 28, 29, 30, 31, 32, 33, 34, 35, 36, 37, 38, 39, 40, 41, 42, 43, 44, 4, 45, 49, 50, 51, 52, 53, 54, 55, 56] (by decide +kernel) (by decide +kernel)
set_option maxRecDepth 20000 in
theorem gX1_best_X1_rhymeOf : GoodIn wsX1_best (va_wsS RX1 149 yX1_rhymeOf wsX1_rhymeOf) := goodIn_app (goodIn_of _ (by decide +kernel)) ggX1_best_X1_rhymeOf
theorem dX1_best_0 : decode cX1_best 0 = .ok (.aload_n 0, 1) := by decide +kernel
theorem dX1_best_1 : decode cX1_best 1 = .ok (.iload_n 1, 1) := by decide +kernel
theorem dX1_best_2 : decode cX1_best 2 = .ok (.invokevirtual 48, 3) := by decide +kernel
theorem dX1_best_5 : decode cX1_best 5 = .ok (.astore 4, 2) := by decide +kernel
theorem dX1_best_7 : decode cX1_best 7 = .ok (.aload_n 0, 1) := by decide +kernel
theorem dX1_best_8 : decode cX1_best 8 = .ok (.iload_n 2, 1) := by decide +kernel
theorem dX1_best_9 : decode cX1_best 9 = .ok (.invokevirtual 48, 3) := by decide +kernel
theorem dX1_best_12 : decode cX1_best 12 = .ok (.astore 5, 2) := by decide +kernel
theorem dX1_best_14 : decode cX1_best 14 = .ok (.iload_n 3, 1) := by decide +kernel
theorem dX1_best_15 : decode cX1_best 15 = .ok (.invokestatic 134, 3) := by decide +kernel
theorem dX1_best_18 : decode cX1_best 18 = .ok (.iconst 0, 1) := by decide +kernel
theorem dX1_best_19 : decode cX1_best 19 = .ok (.istore 6, 2) := by decide +kernel
theorem dX1_best_21 : decode cX1_best 21 = .ok (.iconst (-1), 1) := by decide +kernel
theorem dX1_best_22 : decode cX1_best 22 = .ok (.istore 7, 2) := by decide +kernel
theorem dX1_best_24 : decode cX1_best 24 = .ok (.iconst 0, 1) := by decide +kernel
theorem dX1_best_25 : decode cX1_best 25 = .ok (.istore 8, 2) := by decide +kernel
theorem dX1_best_27 : decode cX1_best 27 = .ok (.iload 8, 2) := by decide +kernel
theorem dX1_best_29 : decode cX1_best 29 = .ok (.iconst 3, 1) := by decide +kernel
theorem dX1_best_30 : decode cX1_best 30 = .ok (.if_icmp .ge 36, 3) := by decide +kernel
theorem dX1_best_33 : decode cX1_best 33 = .ok (.aload 4, 2) := by decide +kernel
theorem dX1_best_35 : decode cX1_best 35 = .ok (.iload 8, 2) := by decide +kernel
theorem dX1_best_37 : decode cX1_best 37 = .ok (.aload 5, 2) := by decide +kernel
theorem dX1_best_39 : decode cX1_best 39 = .ok (.iload_n 3, 1) := by decide +kernel
theorem dX1_best_40 : decode cX1_best 40 = .ok (.invokestatic 149, 3) := by decide +kernel
theorem dX1_best_43 : decode cX1_best 43 = .ok (.istore 9, 2) := by decide +kernel
theorem dX1_best_45 : decode cX1_best 45 = .ok (.iload 9, 2) := by decide +kernel
theorem dX1_best_47 : decode cX1_best 47 = .ok (.iload 7, 2) := by decide +kernel
theorem dX1_best_49 : decode cX1_best 49 = .ok (.if_icmp .le 11, 3) := by decide +kernel
theorem dX1_best_52 : decode cX1_best 52 = .ok (.iload 8, 2) := by decide +kernel
theorem dX1_best_54 : decode cX1_best 54 = .ok (.istore 6, 2) := by decide +kernel
theorem dX1_best_56 : decode cX1_best 56 = .ok (.iload 9, 2) := by decide +kernel
theorem dX1_best_58 : decode cX1_best 58 = .ok (.istore 7, 2) := by decide +kernel
theorem dX1_best_60 : decode cX1_best 60 = .ok (.iinc 8 1, 3) := by decide +kernel
theorem dX1_best_63 : decode cX1_best 63 = .ok (.goto (-36), 3) := by decide +kernel
theorem dX1_best_66 : decode cX1_best 66 = .ok (.iload 6, 2) := by decide +kernel
theorem dX1_best_68 : decode cX1_best 68 = .ok (.ireturn, 1) := by decide +kernel
set_option maxRecDepth 20000 in
theorem ggX1_pieces_X1_known : GoodIn wsX1_pieces wsX1_known := goodIn_ca (goodIn_r _ [5, 6, 7, 8, 9, 10, 4, 11, 12, 54, 55, 56] (by decide +kernel) (by decide +kernel)) (goodIn_sub (fun _ h => List.mem_cons_of_mem _ (List.mem_append_left _ (List.mem_append_right _ h))) (by decide +kernel))
set_option maxRecDepth 20000 in
theorem gX1_pieces_X1_known : GoodIn wsX1_pieces (wsV RX1 48 RX1 yX1_known wsX1_known) := goodIn_app (goodIn_of _ (by decide +kernel)) ggX1_pieces_X1_known
set_option maxRecDepth 20000 in
theorem ggX1_pieces_X1_needForce : GoodIn wsX1_pieces wsX1_needForce := goodIn_ca (goodIn_r _ [15, 16, 17] (by decide +kernel) (by decide +kernel)) (goodIn_sub (fun _ h => List.mem_cons_of_mem _ (List.mem_append_right _ h)) (by decide +kernel))
set_option maxRecDepth 20000 in
theorem gX1_pieces_X1_needForce : GoodIn wsX1_pieces (va_wsS RX1 78 yX1_needForce wsX1_needForce) := goodIn_app (goodIn_of _ (by decide +kernel)) ggX1_pieces_X1_needForce
set_option maxRecDepth 20000 in
theorem ggX1_pieces_X0_jointsWeakerThan : GoodIn wsX1_pieces wsX0_jointsWeakerThan := goodIn_r _ [22, 23, 24, 25, 26, 21, 27, 28, 29, 30, 31, 32, 33, 34, 35, 36, 37, 38, 39, 40, 41, 42, 43, 44, 45, 46, 47, 48, 49, 50, 51, 52, 53, 57, 58, 59, 60, 61, 62, 63, 64] (by decide +kernel) (by decide +kernel)
set_option maxRecDepth 20000 in
theorem gX1_pieces_X0_jointsWeakerThan : GoodIn wsX1_pieces (wsV RX1 153 RX0 yX0_jointsWeakerThan wsX0_jointsWeakerThan) := goodIn_app (goodIn_of _ (by decide +kernel)) ggX1_pieces_X0_jointsWeakerThan
theorem dX1_pieces_0 : decode cX1_pieces 0 = .ok (.aload_n 0, 1) := by decide +kernel
theorem dX1_pieces_1 : decode cX1_pieces 1 = .ok (.iload_n 1, 1) := by decide +kernel
theorem dX1_pieces_2 : decode cX1_pieces 2 = .ok (.invokevirtual 48, 3) := by decide +kernel
theorem dX1_pieces_5 : decode cX1_pieces 5 = .ok (.astore_n 3, 1) := by decide +kernel
theorem dX1_pieces_6 : decode cX1_pieces 6 = .ok (.iload_n 2, 1) := by decide +kernel
theorem dX1_pieces_7 : decode cX1_pieces 7 = .ok (.invokestatic 78, 3) := by decide +kernel
theorem dX1_pieces_10 : decode cX1_pieces 10 = .ok (.aload_n 3, 1) := by decide +kernel
theorem dX1_pieces_11 : decode cX1_pieces 11 = .ok (.iload_n 2, 1) := by decide +kernel
theorem dX1_pieces_12 : decode cX1_pieces 12 = .ok (.invokevirtual 153, 3) := by decide +kernel
theorem dX1_pieces_15 : decode cX1_pieces 15 = .ok (.iconst 1, 1) := by decide +kernel
theorem dX1_pieces_16 : decode cX1_pieces 16 = .ok (.iadd, 1) := by decide +kernel
theorem dX1_pieces_17 : decode cX1_pieces 17 = .ok (.ireturn, 1) := by decide +kernel
set_option maxRecDepth 20000 in
theorem ggX1_row_X1_known : GoodIn wsX1_row wsX1_known := goodIn_ca (goodIn_r _ [7, 8, 9, 10, 11, 12, 6, 13, 14, 57, 58, 59] (by decide +kernel) (by decide +kernel)) (goodIn_sub (fun _ h => List.mem_cons_of_mem _ (List.mem_append_left _ (List.mem_append_left _ (List.mem_append_right _ h)))) (by decide +kernel))
set_option maxRecDepth 20000 in
theorem gX1_row_X1_known : GoodIn wsX1_row (wsV RX1 48 RX1 yX1_known wsX1_known) := goodIn_app (goodIn_of _ (by decide +kernel)) ggX1_row_X1_known
set_option maxRecDepth 20000 in
theorem ggX1_row_X1_needTurn : GoodIn wsX1_row wsX1_needTurn := goodIn_ca (goodIn_r _ [17, 18, 19] (by decide +kernel) (by decide +kernel)) (goodIn_sub (fun _ h => List.mem_cons_of_mem _ (List.mem_append_left _ (List.mem_append_right _ h))) (by decide +kernel))
set_option maxRecDepth 20000 in
theorem gX1_row_X1_needTurn : GoodIn wsX1_row (va_wsS RX1 134 yX1_needTurn wsX1_needTurn) := goodIn_app (goodIn_of _ (by decide +kernel)) ggX1_row_X1_needTurn
set_option maxRecDepth 20000 in
theorem ggX1_row_X1_needThere : GoodIn wsX1_row wsX1_needThere := goodIn_ca (goodIn_r _ [22, 23, 24, 25, 60, 61, 62, 63, 64, 65, 66, 67] (by decide +kernel) (by decide +kernel)) (goodIn_sub (fun _ h => List.mem_cons_of_mem _ (List.mem_append_right _ h)) (by decide +kernel))
set_option maxRecDepth 20000 in
theorem gX1_row_X1_needThere : GoodIn wsX1_row (va_wsS RX1 59 yX1_needThere wsX1_needThere) := goodIn_app (goodIn_of _ (by decide +kernel)) ggX1_row_X1_needThere
set_option maxRecDepth 20000 in
theorem ggX1_row_X1_thereOrNull : GoodIn wsX1_row wsX1_thereOrNull := goodIn_r _ [29, 25, 10, 11, 12, 6, 13, 14, 60, 61, 62, 63, 64, 65, 66, 67, 57, 58, 59] (by decide +kernel) (by decide +kernel)
set_option maxRecDepth 20000 in
theorem gX1_row_X1_thereOrNull : GoodIn wsX1_row (wsV RX1 156 RX1 yX1_thereOrNull wsX1_thereOrNull) := goodIn_app (goodIn_of _ (by decide +kernel)) ggX1_row_X1_thereOrNull
set_option maxRecDepth 20000 in
theorem ggX1_row_X1_rhymeOf : GoodIn wsX1_row wsX1_rhymeOf := goodIn_r _ [32, 33, 2, 34, 35, 36, 37, 38, 39, 40, 41, 42, 43, 44, 45, 46, 47, 48, 49, 50, 51, 52, 53, 54, 55, 6, 56, 60, 61, 62, 63, 64, 65, 66, 67] (by decide +kernel) (by decide +kernel)
set_option maxRecDepth 20000 in
theorem gX1_row_X1_rhymeOf : GoodIn wsX1_row (va_wsS RX1 149 yX1_rhymeOf wsX1_rhymeOf) := goodIn_app (goodIn_of _ (by decide +kernel)) ggX1_row_X1_rhymeOf
theorem dX1_row_0 : decode cX1_row 0 = .ok (.aload_n 0, 1) := by decide +kernel
theorem dX1_row_1 : decode cX1_row 1 = .ok (.iload_n 1, 1) := by decide +kernel
theorem dX1_row_2 : decode cX1_row 2 = .ok (.invokevirtual 48, 3) := by decide +kernel
theorem dX1_row_5 : decode cX1_row 5 = .ok (.astore_n 3, 1) := by decide +kernel
theorem dX1_row_6 : decode cX1_row 6 = .ok (.iload_n 2, 1) := by decide +kernel
theorem dX1_row_7 : decode cX1_row 7 = .ok (.invokestatic 134, 3) := by decide +kernel
theorem dX1_row_10 : decode cX1_row 10 = .ok (.aload_n 3, 1) := by decide +kernel
theorem dX1_row_11 : decode cX1_row 11 = .ok (.invokestatic 59, 3) := by decide +kernel
theorem dX1_row_14 : decode cX1_row 14 = .ok (.iconst 1, 1) := by decide +kernel
theorem dX1_row_15 : decode cX1_row 15 = .ok (.istore 4, 2) := by decide +kernel
theorem dX1_row_17 : decode cX1_row 17 = .ok (.iconst 0, 1) := by decide +kernel
theorem dX1_row_18 : decode cX1_row 18 = .ok (.istore 5, 2) := by decide +kernel
theorem dX1_row_20 : decode cX1_row 20 = .ok (.iload 5, 2) := by decide +kernel
theorem dX1_row_22 : decode cX1_row 22 = .ok (.aload_n 0, 1) := by decide +kernel
theorem dX1_row_23 : decode cX1_row 23 = .ok (.getfield 15, 3) := by decide +kernel
theorem dX1_row_26 : decode cX1_row 26 = .ok (.if_icmp .ge 45, 3) := by decide +kernel
theorem dX1_row_29 : decode cX1_row 29 = .ok (.aload_n 0, 1) := by decide +kernel
theorem dX1_row_30 : decode cX1_row 30 = .ok (.iload 5, 2) := by decide +kernel
theorem dX1_row_32 : decode cX1_row 32 = .ok (.invokevirtual 156, 3) := by decide +kernel
theorem dX1_row_35 : decode cX1_row 35 = .ok (.astore 6, 2) := by decide +kernel
theorem dX1_row_37 : decode cX1_row 37 = .ok (.aload 6, 2) := by decide +kernel
theorem dX1_row_39 : decode cX1_row 39 = .ok (.ifnull 26, 3) := by decide +kernel
theorem dX1_row_42 : decode cX1_row 42 = .ok (.aload 6, 2) := by decide +kernel
theorem dX1_row_44 : decode cX1_row 44 = .ok (.aload_n 3, 1) := by decide +kernel
theorem dX1_row_45 : decode cX1_row 45 = .ok (.if_acmp .eq 20, 3) := by decide +kernel
theorem dX1_row_48 : decode cX1_row 48 = .ok (.aload_n 3, 1) := by decide +kernel
theorem dX1_row_49 : decode cX1_row 49 = .ok (.aload_n 3, 1) := by decide +kernel
theorem dX1_row_50 : decode cX1_row 50 = .ok (.getfield 75, 3) := by decide +kernel
theorem dX1_row_53 : decode cX1_row 53 = .ok (.aload 6, 2) := by decide +kernel
theorem dX1_row_55 : decode cX1_row 55 = .ok (.iload_n 2, 1) := by decide +kernel
theorem dX1_row_56 : decode cX1_row 56 = .ok (.invokestatic 149, 3) := by decide +kernel
theorem dX1_row_59 : decode cX1_row 59 = .ok (.ifCond .le 6, 3) := by decide +kernel
theorem dX1_row_62 : decode cX1_row 62 = .ok (.iinc 4 1, 3) := by decide +kernel
theorem dX1_row_65 : decode cX1_row 65 = .ok (.iinc 5 1, 3) := by decide +kernel
theorem dX1_row_68 : decode cX1_row 68 = .ok (.goto (-48), 3) := by decide +kernel
theorem dX1_row_71 : decode cX1_row 71 = .ok (.iload 4, 2) := by decide +kernel
theorem dX1_row_73 : decode cX1_row 73 = .ok (.ireturn, 1) := by decide +kernel
set_option maxRecDepth 20000 in
theorem ggX1_mean_X1_howManyThere : GoodIn wsX1_mean wsX1_howManyThere := goodIn_r _ [5, 6, 7, 8, 9, 4, 10, 11, 12, 13, 14, 15, 16, 61, 62, 63, 64, 65, 66, 67, 68, 69, 70, 71] (by decide +kernel) (by decide +kernel)
set_option maxRecDepth 20000 in
theorem gX1_mean_X1_howManyThere : GoodIn wsX1_mean (wsV RX1 29 RX1 yX1_howManyThere wsX1_howManyThere) := goodIn_app (goodIn_of _ (by decide +kernel)) ggX1_mean_X1_howManyThere
set_option maxRecDepth 20000 in
theorem ggX1_mean_X1_sumThere : GoodIn wsX1_mean wsX1_sumThere := goodIn_r _ [20, 6, 7, 8, 9, 4, 10, 11, 12, 13, 14, 15, 16, 21, 22, 23, 24, 25, 26, 27, 28, 29, 30, 31, 32, 33, 34, 35, 36, 37, 38, 39, 40, 41, 42, 43, 44, 45, 46, 47, 48, 49, 50, 51, 52, 53, 54, 55, 56, 57, 58, 59, 60, 61, 62, 63, 64, 65, 66, 67, 68, 69, 70, 71] (by decide +kernel) (by decide +kernel)
set_option maxRecDepth 20000 in
theorem gX1_mean_X1_sumThere : GoodIn wsX1_mean (wsV RX1 159 RX1 yX1_sumThere wsX1_sumThere) := goodIn_app (goodIn_of _ (by decide +kernel)) ggX1_mean_X1_sumThere
theorem dX1_mean_0 : decode cX1_mean 0 = .ok (.aload_n 0, 1) := by decide +kernel
theorem dX1_mean_1 : decode cX1_mean 1 = .ok (.invokevirtual 29, 3) := by decide +kernel
theorem dX1_mean_4 : decode cX1_mean 4 = .ok (.istore_n 1, 1) := by decide +kernel
theorem dX1_mean_5 : decode cX1_mean 5 = .ok (.iload_n 1, 1) := by decide +kernel
theorem dX1_mean_6 : decode cX1_mean 6 = .ok (.ifCond .ne 7, 3) := by decide +kernel
theorem dX1_mean_9 : decode cX1_mean 9 = .ok (.dconst 0, 1) := by decide +kernel
theorem dX1_mean_10 : decode cX1_mean 10 = .ok (.goto 12, 3) := by decide +kernel
theorem dX1_mean_13 : decode cX1_mean 13 = .ok (.aload_n 0, 1) := by decide +kernel
theorem dX1_mean_14 : decode cX1_mean 14 = .ok (.iconst 2, 1) := by decide +kernel
theorem dX1_mean_15 : decode cX1_mean 15 = .ok (.invokevirtual 159, 3) := by decide +kernel
theorem dX1_mean_18 : decode cX1_mean 18 = .ok (.i2d, 1) := by decide +kernel
theorem dX1_mean_19 : decode cX1_mean 19 = .ok (.iload_n 1, 1) := by decide +kernel
theorem dX1_mean_20 : decode cX1_mean 20 = .ok (.i2d, 1) := by decide +kernel
theorem dX1_mean_21 : decode cX1_mean 21 = .ok (.ddiv, 1) := by decide +kernel
theorem dX1_mean_22 : decode cX1_mean 22 = .ok (.dreturn, 1) := by decide +kernel
set_option maxRecDepth 20000 in
theorem ggX1_digest_X1_total : GoodIn wsX1_digest wsX1_total := goodIn_r _ [8, 3, 9, 10, 11, 12, 7, 13, 14, 15, 16, 17, 18, 19, 20, 21, 22, 23, 24, 25, 26, 27, 28, 29, 30, 31, 32, 33, 34, 35, 36, 37, 38, 39, 40, 41, 42, 43, 44, 45, 46, 47, 48, 49, 50, 51, 52, 53, 54, 55, 56, 57, 58, 59, 60, 61, 62, 63, 64, 65, 66, 67, 68, 69, 70, 71, 72, 73, 74, 75, 76, 77, 78, 79, 91, 92, 93, 94, 95, 96, 97, 98, 99, 100, 101] (by decide +kernel) (by decide +kernel)
set_option maxRecDepth 20000 in
theorem gX1_digest_X1_total : GoodIn wsX1_digest (wsV RX1 123 RX1 yX1_total wsX1_total) := goodIn_app (goodIn_of _ (by decide +kernel)) ggX1_digest_X1_total
set_option maxRecDepth 20000 in
theorem ggX1_digest_X1_stickOrNull : GoodIn wsX1_digest wsX1_stickOrNull := goodIn_r _ [22, 23, 91, 92, 93] (by decide +kernel) (by decide +kernel)
set_option maxRecDepth 20000 in
theorem gX1_digest_X1_stickOrNull : GoodIn wsX1_digest (wsV RX1 166 RX1 yX1_stickOrNull wsX1_stickOrNull) := goodIn_app (goodIn_of _ (by decide +kernel)) ggX1_digest_X1_stickOrNull
set_option maxRecDepth 20000 in
theorem ggX1_digest_X0_addedTo : GoodIn wsX1_digest wsX0_addedTo := goodIn_r _ [83, 84, 33, 85, 29, 30, 31, 32, 34, 35, 36, 37, 38, 39, 40, 41, 42, 43, 44, 45, 46, 47, 48, 49, 50, 51, 52, 53, 54, 55, 56, 57, 58, 59, 60, 61, 62, 63, 64, 65, 66, 67, 86, 87, 88, 89, 90, 94, 95, 96, 97, 98, 99, 100, 101] (by decide +kernel) (by decide +kernel)
set_option maxRecDepth 20000 in
theorem gX1_digest_X0_addedTo : GoodIn wsX1_digest (wsV RX1 169 RX0 yX0_addedTo wsX0_addedTo) := goodIn_app (goodIn_of _ (by decide +kernel)) ggX1_digest_X0_addedTo
theorem dX1_digest_0 : decode cX1_digest 0 = .ok (.ldc2_w 162, 3) := by decide +kernel
theorem dX1_digest_3 : decode cX1_digest 3 = .ok (.lstore_n 1, 1) := by decide +kernel
theorem dX1_digest_4 : decode cX1_digest 4 = .ok (.iconst 0, 1) := by decide +kernel
theorem dX1_digest_5 : decode cX1_digest 5 = .ok (.istore_n 3, 1) := by decide +kernel
theorem dX1_digest_6 : decode cX1_digest 6 = .ok (.iload_n 3, 1) := by decide +kernel
theorem dX1_digest_7 : decode cX1_digest 7 = .ok (.bipush 7, 2) := by decide +kernel
theorem dX1_digest_9 : decode cX1_digest 9 = .ok (.if_icmp .ge 22, 3) := by decide +kernel
theorem dX1_digest_12 : decode cX1_digest 12 = .ok (.lload_n 1, 1) := by decide +kernel
theorem dX1_digest_13 : decode cX1_digest 13 = .ok (.ldc2_w 164, 3) := by decide +kernel
theorem dX1_digest_16 : decode cX1_digest 16 = .ok (.lmul, 1) := by decide +kernel
theorem dX1_digest_17 : decode cX1_digest 17 = .ok (.aload_n 0, 1) := by decide +kernel
theorem dX1_digest_18 : decode cX1_digest 18 = .ok (.iload_n 3, 1) := by decide +kernel
theorem dX1_digest_19 : decode cX1_digest 19 = .ok (.invokevirtual 123, 3) := by decide +kernel
theorem dX1_digest_22 : decode cX1_digest 22 = .ok (.i2l, 1) := by decide +kernel
theorem dX1_digest_23 : decode cX1_digest 23 = .ok (.ladd, 1) := by decide +kernel
theorem dX1_digest_24 : decode cX1_digest 24 = .ok (.lstore_n 1, 1) := by decide +kernel
theorem dX1_digest_25 : decode cX1_digest 25 = .ok (.iinc 3 1, 3) := by decide +kernel
theorem dX1_digest_28 : decode cX1_digest 28 = .ok (.goto (-22), 3) := by decide +kernel
theorem dX1_digest_31 : decode cX1_digest 31 = .ok (.iconst 0, 1) := by decide +kernel
theorem dX1_digest_32 : decode cX1_digest 32 = .ok (.istore_n 3, 1) := by decide +kernel
theorem dX1_digest_33 : decode cX1_digest 33 = .ok (.iload_n 3, 1) := by decide +kernel
theorem dX1_digest_34 : decode cX1_digest 34 = .ok (.aload_n 0, 1) := by decide +kernel
theorem dX1_digest_35 : decode cX1_digest 35 = .ok (.getfield 15, 3) := by decide +kernel
theorem dX1_digest_38 : decode cX1_digest 38 = .ok (.if_icmp .ge 28, 3) := by decide +kernel
theorem dX1_digest_41 : decode cX1_digest 41 = .ok (.aload_n 0, 1) := by decide +kernel
theorem dX1_digest_42 : decode cX1_digest 42 = .ok (.iload_n 3, 1) := by decide +kernel
theorem dX1_digest_43 : decode cX1_digest 43 = .ok (.invokevirtual 166, 3) := by decide +kernel
theorem dX1_digest_46 : decode cX1_digest 46 = .ok (.astore 4, 2) := by decide +kernel
theorem dX1_digest_48 : decode cX1_digest 48 = .ok (.aload 4, 2) := by decide +kernel
theorem dX1_digest_50 : decode cX1_digest 50 = .ok (.ifnull 10, 3) := by decide +kernel
theorem dX1_digest_53 : decode cX1_digest 53 = .ok (.aload 4, 2) := by decide +kernel
theorem dX1_digest_55 : decode cX1_digest 55 = .ok (.lload_n 1, 1) := by decide +kernel
theorem dX1_digest_56 : decode cX1_digest 56 = .ok (.invokevirtual 169, 3) := by decide +kernel
theorem dX1_digest_59 : decode cX1_digest 59 = .ok (.lstore_n 1, 1) := by decide +kernel
theorem dX1_digest_60 : decode cX1_digest 60 = .ok (.iinc 3 1, 3) := by decide +kernel
theorem dX1_digest_63 : decode cX1_digest 63 = .ok (.goto (-30), 3) := by decide +kernel
theorem dX1_digest_66 : decode cX1_digest 66 = .ok (.lload_n 1, 1) := by decide +kernel
theorem dX1_digest_67 : decode cX1_digest 67 = .ok (.lreturn, 1) := by decide +kernel
set_option maxRecDepth 20000 in
theorem ggX1_known_X1_stickOrNull : GoodIn wsX1_known wsX1_stickOrNull := goodIn_r _ [7, 8, 9, 10, 11] (by decide +kernel) (by decide +kernel)
set_option maxRecDepth 20000 in
theorem gX1_known_X1_stickOrNull : GoodIn wsX1_known (wsV RX1 166 RX1 yX1_stickOrNull wsX1_stickOrNull) := goodIn_app (goodIn_of _ (by decide +kernel)) ggX1_known_X1_stickOrNull
theorem dX1_known_0 : decode cX1_known 0 = .ok (.aload_n 0, 1) := by decide +kernel
theorem dX1_known_1 : decode cX1_known 1 = .ok (.iload_n 1, 1) := by decide +kernel
theorem dX1_known_2 : decode cX1_known 2 = .ok (.invokevirtual 166, 3) := by decide +kernel
theorem dX1_known_5 : decode cX1_known 5 = .ok (.astore_n 2, 1) := by decide +kernel
theorem dX1_known_6 : decode cX1_known 6 = .ok (.aload_n 2, 1) := by decide +kernel
theorem dX1_known_7 : decode cX1_known 7 = .ok (.ifnonnull 13, 3) := by decide +kernel
theorem dX1_known_10 : decode cX1_known 10 = .ok (.new 107, 3) := by decide +kernel
theorem dX1_known_13 : decode cX1_known 13 = .ok (.dup, 1) := by decide +kernel
theorem dX1_known_14 : decode cX1_known 14 = .ok (.ldc 173, 2) := by decide +kernel
theorem dX1_known_16 : decode cX1_known 16 = .ok (.invokespecial 111, 3) := by decide +kernel
theorem dX1_known_19 : decode cX1_known 19 = .ok (.athrow, 1) := by decide +kernel
theorem dX1_known_20 : decode cX1_known 20 = .ok (.aload_n 2, 1) := by decide +kernel
theorem dX1_known_21 : decode cX1_known 21 = .ok (.areturn, 1) := by decide +kernel
theorem dX1_needNumbersLeft_0 : decode cX1_needNumbersLeft 0 = .ok (.aload_n 0, 1) := by decide +kernel
theorem dX1_needNumbersLeft_1 : decode cX1_needNumbersLeft 1 = .ok (.getfield 15, 3) := by decide +kernel
theorem dX1_needNumbersLeft_4 : decode cX1_needNumbersLeft 4 = .ok (.bipush 40, 2) := by decide +kernel
theorem dX1_needNumbersLeft_6 : decode cX1_needNumbersLeft 6 = .ok (.iload_n 1, 1) := by decide +kernel
theorem dX1_needNumbersLeft_7 : decode cX1_needNumbersLeft 7 = .ok (.isub, 1) := by decide +kernel
theorem dX1_needNumbersLeft_8 : decode cX1_needNumbersLeft 8 = .ok (.if_icmp .le 13, 3) := by decide +kernel
theorem dX1_needNumbersLeft_11 : decode cX1_needNumbersLeft 11 = .ok (.new 33, 3) := by decide +kernel
theorem dX1_needNumbersLeft_14 : decode cX1_needNumbersLeft 14 = .ok (.dup, 1) := by decide +kernel
theorem dX1_needNumbersLeft_15 : decode cX1_needNumbersLeft 15 = .ok (.ldc 175, 2) := by decide +kernel
theorem dX1_needNumbersLeft_17 : decode cX1_needNumbersLeft 17 = .ok (.invokespecial 37, 3) := by decide +kernel
theorem dX1_needNumbersLeft_20 : decode cX1_needNumbersLeft 20 = .ok (.athrow, 1) := by decide +kernel
theorem dX1_needNumbersLeft_21 : decode cX1_needNumbersLeft 21 = .ok (.return_, 1) := by decide +kernel
theorem dX1_needThere_0 : decode cX1_needThere 0 = .ok (.aload_n 0, 1) := by decide +kernel
theorem dX1_needThere_1 : decode cX1_needThere 1 = .ok (.getfield 126, 3) := by decide +kernel
theorem dX1_needThere_4 : decode cX1_needThere 4 = .ok (.ifCond .eq 13, 3) := by decide +kernel
theorem dX1_needThere_7 : decode cX1_needThere 7 = .ok (.new 33, 3) := by decide +kernel
theorem dX1_needThere_10 : decode cX1_needThere 10 = .ok (.dup, 1) := by decide +kernel
theorem dX1_needThere_11 : decode cX1_needThere 11 = .ok (.ldc 177, 2) := by decide +kernel
theorem dX1_needThere_13 : decode cX1_needThere 13 = .ok (.invokespecial 37, 3) := by decide +kernel
theorem dX1_needThere_16 : decode cX1_needThere 16 = .ok (.athrow, 1) := by decide +kernel
theorem dX1_needThere_17 : decode cX1_needThere 17 = .ok (.return_, 1) := by decide +kernel
set_option maxRecDepth 20000 in
theorem ggX1_needPlace_X0_hasPlace : GoodIn wsX1_needPlace wsX0_hasPlace := goodIn_r _ [7, 8, 9, 10, 11, 12, 13, 14, 15, 16] (by decide +kernel) (by decide +kernel)
set_option maxRecDepth 20000 in
theorem gX1_needPlace_X0_hasPlace : GoodIn wsX1_needPlace (wsV RX1 179 RX0 yX0_hasPlace wsX0_hasPlace) := goodIn_app (goodIn_of _ (by decide +kernel)) ggX1_needPlace_X0_hasPlace
theorem dX1_needPlace_0 : decode cX1_needPlace 0 = .ok (.aload_n 0, 1) := by decide +kernel
theorem dX1_needPlace_1 : decode cX1_needPlace 1 = .ok (.iload_n 1, 1) := by decide +kernel
theorem dX1_needPlace_2 : decode cX1_needPlace 2 = .ok (.iload_n 2, 1) := by decide +kernel
theorem dX1_needPlace_3 : decode cX1_needPlace 3 = .ok (.invokevirtual 179, 3) := by decide +kernel
theorem dX1_needPlace_6 : decode cX1_needPlace 6 = .ok (.ifCond .ne 13, 3) := by decide +kernel
theorem dX1_needPlace_9 : decode cX1_needPlace 9 = .ok (.new 107, 3) := by decide +kernel
theorem dX1_needPlace_12 : decode cX1_needPlace 12 = .ok (.dup, 1) := by decide +kernel
theorem dX1_needPlace_13 : decode cX1_needPlace 13 = .ok (.ldc 183, 2) := by decide +kernel
theorem dX1_needPlace_15 : decode cX1_needPlace 15 = .ok (.invokespecial 111, 3) := by decide +kernel
theorem dX1_needPlace_18 : decode cX1_needPlace 18 = .ok (.athrow, 1) := by decide +kernel
theorem dX1_needPlace_19 : decode cX1_needPlace 19 = .ok (.return_, 1) := by decide +kernel
theorem dX1_needRune_0 : decode cX1_needRune 0 = .ok (.iload_n 0, 1) := by decide +kernel
theorem dX1_needRune_1 : decode cX1_needRune 1 = .ok (.ifCond .lt 9, 3) := by decide +kernel
theorem dX1_needRune_4 : decode cX1_needRune 4 = .ok (.iload_n 0, 1) := by decide +kernel
theorem dX1_needRune_5 : decode cX1_needRune 5 = .ok (.bipush 24, 2) := by decide +kernel
theorem dX1_needRune_7 : decode cX1_needRune 7 = .ok (.if_icmp .lt 13, 3) := by decide +kernel
theorem dX1_needRune_10 : decode cX1_needRune 10 = .ok (.new 22, 3) := by decide +kernel
theorem dX1_needRune_13 : decode cX1_needRune 13 = .ok (.dup, 1) := by decide +kernel
theorem dX1_needRune_14 : decode cX1_needRune 14 = .ok (.ldc 185, 2) := by decide +kernel
theorem dX1_needRune_16 : decode cX1_needRune 16 = .ok (.invokespecial 26, 3) := by decide +kernel
theorem dX1_needRune_19 : decode cX1_needRune 19 = .ok (.athrow, 1) := by decide +kernel
theorem dX1_needRune_20 : decode cX1_needRune 20 = .ok (.return_, 1) := by decide +kernel
theorem dX1_needTurn_0 : decode cX1_needTurn 0 = .ok (.iload_n 0, 1) := by decide +kernel
theorem dX1_needTurn_1 : decode cX1_needTurn 1 = .ok (.ifCond .lt 8, 3) := by decide +kernel
theorem dX1_needTurn_4 : decode cX1_needTurn 4 = .ok (.iload_n 0, 1) := by decide +kernel
theorem dX1_needTurn_5 : decode cX1_needTurn 5 = .ok (.iconst 3, 1) := by decide +kernel
theorem dX1_needTurn_6 : decode cX1_needTurn 6 = .ok (.if_icmp .lt 13, 3) := by decide +kernel
theorem dX1_needTurn_9 : decode cX1_needTurn 9 = .ok (.new 22, 3) := by decide +kernel
theorem dX1_needTurn_12 : decode cX1_needTurn 12 = .ok (.dup, 1) := by decide +kernel
theorem dX1_needTurn_13 : decode cX1_needTurn 13 = .ok (.ldc 187, 2) := by decide +kernel
theorem dX1_needTurn_15 : decode cX1_needTurn 15 = .ok (.invokespecial 26, 3) := by decide +kernel
theorem dX1_needTurn_18 : decode cX1_needTurn 18 = .ok (.athrow, 1) := by decide +kernel
theorem dX1_needTurn_19 : decode cX1_needTurn 19 = .ok (.return_, 1) := by decide +kernel
theorem dX1_needForce_0 : decode cX1_needForce 0 = .ok (.iload_n 0, 1) := by decide +kernel
theorem dX1_needForce_1 : decode cX1_needForce 1 = .ok (.iconst 1, 1) := by decide +kernel
theorem dX1_needForce_2 : decode cX1_needForce 2 = .ok (.if_icmp .lt 9, 3) := by decide +kernel
theorem dX1_needForce_5 : decode cX1_needForce 5 = .ok (.iload_n 0, 1) := by decide +kernel
theorem dX1_needForce_6 : decode cX1_needForce 6 = .ok (.bipush 20, 2) := by decide +kernel
theorem dX1_needForce_8 : decode cX1_needForce 8 = .ok (.if_icmp .le 13, 3) := by decide +kernel
theorem dX1_needForce_11 : decode cX1_needForce 11 = .ok (.new 22, 3) := by decide +kernel
theorem dX1_needForce_14 : decode cX1_needForce 14 = .ok (.dup, 1) := by decide +kernel
theorem dX1_needForce_15 : decode cX1_needForce 15 = .ok (.ldc 189, 2) := by decide +kernel
theorem dX1_needForce_17 : decode cX1_needForce 17 = .ok (.invokespecial 26, 3) := by decide +kernel
theorem dX1_needForce_20 : decode cX1_needForce 20 = .ok (.athrow, 1) := by decide +kernel
theorem dX1_needForce_21 : decode cX1_needForce 21 = .ok (.return_, 1) := by decide +kernel
theorem dX1_stickOrNull_0 : decode cX1_stickOrNull 0 = .ok (.iload_n 1, 1) := by decide +kernel
theorem dX1_stickOrNull_1 : decode cX1_stickOrNull 1 = .ok (.ifCond .lt 12, 3) := by decide +kernel
theorem dX1_stickOrNull_4 : decode cX1_stickOrNull 4 = .ok (.iload_n 1, 1) := by decide +kernel
theorem dX1_stickOrNull_5 : decode cX1_stickOrNull 5 = .ok (.aload_n 0, 1) := by decide +kernel
theorem dX1_stickOrNull_6 : decode cX1_stickOrNull 6 = .ok (.getfield 11, 3) := by decide +kernel
theorem dX1_stickOrNull_9 : decode cX1_stickOrNull 9 = .ok (.arraylength, 1) := by decide +kernel
theorem dX1_stickOrNull_10 : decode cX1_stickOrNull 10 = .ok (.if_icmp .lt 7, 3) := by decide +kernel
theorem dX1_stickOrNull_13 : decode cX1_stickOrNull 13 = .ok (.aconst_null, 1) := by decide +kernel
theorem dX1_stickOrNull_14 : decode cX1_stickOrNull 14 = .ok (.goto 9, 3) := by decide +kernel
theorem dX1_stickOrNull_17 : decode cX1_stickOrNull 17 = .ok (.aload_n 0, 1) := by decide +kernel
theorem dX1_stickOrNull_18 : decode cX1_stickOrNull 18 = .ok (.getfield 11, 3) := by decide +kernel
theorem dX1_stickOrNull_21 : decode cX1_stickOrNull 21 = .ok (.iload_n 1, 1) := by decide +kernel
theorem dX1_stickOrNull_22 : decode cX1_stickOrNull 22 = .ok (.aaload, 1) := by decide +kernel
theorem dX1_stickOrNull_23 : decode cX1_stickOrNull 23 = .ok (.areturn, 1) := by decide +kernel
set_option maxRecDepth 20000 in
theorem ggX1_thereOrNull_X1_stickOrNull : GoodIn wsX1_thereOrNull wsX1_stickOrNull := goodIn_r _ [6, 7, 16, 17, 18] (by decide +kernel) (by decide +kernel)
set_option maxRecDepth 20000 in
theorem gX1_thereOrNull_X1_stickOrNull : GoodIn wsX1_thereOrNull (wsV RX1 166 RX1 yX1_stickOrNull wsX1_stickOrNull) := goodIn_app (goodIn_of _ (by decide +kernel)) ggX1_thereOrNull_X1_stickOrNull
theorem dX1_thereOrNull_0 : decode cX1_thereOrNull 0 = .ok (.aload_n 0, 1) := by decide +kernel
theorem dX1_thereOrNull_1 : decode cX1_thereOrNull 1 = .ok (.iload_n 1, 1) := by decide +kernel
theorem dX1_thereOrNull_2 : decode cX1_thereOrNull 2 = .ok (.invokevirtual 166, 3) := by decide +kernel
theorem dX1_thereOrNull_5 : decode cX1_thereOrNull 5 = .ok (.astore_n 2, 1) := by decide +kernel
theorem dX1_thereOrNull_6 : decode cX1_thereOrNull 6 = .ok (.aload_n 2, 1) := by decide +kernel
theorem dX1_thereOrNull_7 : decode cX1_thereOrNull 7 = .ok (.ifnull 10, 3) := by decide +kernel
theorem dX1_thereOrNull_10 : decode cX1_thereOrNull 10 = .ok (.aload_n 2, 1) := by decide +kernel
theorem dX1_thereOrNull_11 : decode cX1_thereOrNull 11 = .ok (.getfield 126, 3) := by decide +kernel
theorem dX1_thereOrNull_14 : decode cX1_thereOrNull 14 = .ok (.ifCond .eq 7, 3) := by decide +kernel
theorem dX1_thereOrNull_17 : decode cX1_thereOrNull 17 = .ok (.aconst_null, 1) := by decide +kernel
theorem dX1_thereOrNull_18 : decode cX1_thereOrNull 18 = .ok (.goto 4, 3) := by decide +kernel
theorem dX1_thereOrNull_21 : decode cX1_thereOrNull 21 = .ok (.aload_n 2, 1) := by decide +kernel
theorem dX1_thereOrNull_22 : decode cX1_thereOrNull 22 = .ok (.areturn, 1) := by decide +kernel
theorem dX1_put_0 : decode cX1_put 0 = .ok (.aload_n 0, 1) := by decide +kernel
theorem dX1_put_1 : decode cX1_put 1 = .ok (.getfield 15, 3) := by decide +kernel
theorem dX1_put_4 : decode cX1_put 4 = .ok (.istore_n 2, 1) := by decide +kernel
theorem dX1_put_5 : decode cX1_put 5 = .ok (.iload_n 2, 1) := by decide +kernel
theorem dX1_put_6 : decode cX1_put 6 = .ok (.ifCond .lt 26, 3) := by decide +kernel
theorem dX1_put_9 : decode cX1_put 9 = .ok (.iload_n 2, 1) := by decide +kernel
theorem dX1_put_10 : decode cX1_put 10 = .ok (.aload_n 0, 1) := by decide +kernel
theorem dX1_put_11 : decode cX1_put 11 = .ok (.getfield 11, 3) := by decide +kernel
theorem dX1_put_14 : decode cX1_put 14 = .ok (.arraylength, 1) := by decide +kernel
theorem dX1_put_15 : decode cX1_put 15 = .ok (.if_icmp .ge 17, 3) := by decide +kernel
theorem dX1_put_18 : decode cX1_put 18 = .ok (.aload_n 0, 1) := by decide +kernel
theorem dX1_put_19 : decode cX1_put 19 = .ok (.getfield 11, 3) := by decide +kernel
theorem dX1_put_22 : decode cX1_put 22 = .ok (.iload_n 2, 1) := by decide +kernel
theorem dX1_put_23 : decode cX1_put 23 = .ok (.aload_n 1, 1) := by decide +kernel
theorem dX1_put_24 : decode cX1_put 24 = .ok (.aastore, 1) := by decide +kernel
theorem dX1_put_25 : decode cX1_put 25 = .ok (.aload_n 0, 1) := by decide +kernel
theorem dX1_put_26 : decode cX1_put 26 = .ok (.iload_n 2, 1) := by decide +kernel
theorem dX1_put_27 : decode cX1_put 27 = .ok (.iconst 1, 1) := by decide +kernel
theorem dX1_put_28 : decode cX1_put 28 = .ok (.iadd, 1) := by decide +kernel
theorem dX1_put_29 : decode cX1_put 29 = .ok (.putfield 15, 3) := by decide +kernel
theorem dX1_put_32 : decode cX1_put 32 = .ok (.iload_n 2, 1) := by decide +kernel
theorem dX1_put_33 : decode cX1_put 33 = .ok (.ireturn, 1) := by decide +kernel
set_option maxRecDepth 20000 in
theorem ggX1_breakAt_X0_init : GoodIn wsX1_breakAt wsX0_init := goodIn_r _ [12, 13, 14, 15, 16, 17, 18, 19, 20, 21, 22, 23, 24, 25, 26, 27, 28, 29, 69, 70, 71, 72, 73, 74, 75, 76] (by decide +kernel) (by decide +kernel)
set_option maxRecDepth 20000 in
theorem gX1_breakAt_X0_init : GoodIn wsX1_breakAt (wsX0_init) := ggX1_breakAt_X0_init
set_option maxRecDepth 20000 in
theorem ggX1_breakAt_X0_takePlaces : GoodIn wsX1_breakAt wsX0_takePlaces := goodIn_r _ [33, 34, 35, 36, 3, 37, 22, 38, 39, 40, 41, 16, 42, 43, 44, 45, 46, 47, 48, 49, 23, 50, 51, 52, 53, 54, 55, 56, 57, 25, 58, 59, 60, 61, 69, 70, 71, 72, 73, 74, 75, 76] (by decide +kernel) (by decide +kernel)
set_option maxRecDepth 20000 in
theorem gX1_breakAt_X0_takePlaces : GoodIn wsX1_breakAt (wsV RX1 191 RX0 yX0_takePlaces wsX0_takePlaces) := goodIn_app (goodIn_of _ (by decide +kernel)) ggX1_breakAt_X0_takePlaces
set_option maxRecDepth 20000 in
theorem ggX1_breakAt_X1_put : GoodIn wsX1_breakAt wsX1_put := goodIn_r _ [66, 67, 68, 77, 78, 79] (by decide +kernel) (by decide +kernel)
set_option maxRecDepth 20000 in
theorem gX1_breakAt_X1_put : GoodIn wsX1_breakAt (wsV RX1 44 RX1 yX1_put wsX1_put) := goodIn_app (goodIn_of _ (by decide +kernel)) ggX1_breakAt_X1_put
theorem dX1_breakAt_0 : decode cX1_breakAt 0 = .ok (.iload_n 2, 1) := by decide +kernel
theorem dX1_breakAt_1 : decode cX1_breakAt 1 = .ok (.iconst 1, 1) := by decide +kernel
theorem dX1_breakAt_2 : decode cX1_breakAt 2 = .ok (.iadd, 1) := by decide +kernel
theorem dX1_breakAt_3 : decode cX1_breakAt 3 = .ok (.istore_n 3, 1) := by decide +kernel
theorem dX1_breakAt_4 : decode cX1_breakAt 4 = .ok (.new 9, 3) := by decide +kernel
theorem dX1_breakAt_7 : decode cX1_breakAt 7 = .ok (.dup, 1) := by decide +kernel
theorem dX1_breakAt_8 : decode cX1_breakAt 8 = .ok (.iload_n 3, 1) := by decide +kernel
theorem dX1_breakAt_9 : decode cX1_breakAt 9 = .ok (.invokespecial 42, 3) := by decide +kernel
theorem dX1_breakAt_12 : decode cX1_breakAt 12 = .ok (.astore 4, 2) := by decide +kernel
theorem dX1_breakAt_14 : decode cX1_breakAt 14 = .ok (.aload 4, 2) := by decide +kernel
theorem dX1_breakAt_16 : decode cX1_breakAt 16 = .ok (.aload_n 1, 1) := by decide +kernel
theorem dX1_breakAt_17 : decode cX1_breakAt 17 = .ok (.iconst 0, 1) := by decide +kernel
theorem dX1_breakAt_18 : decode cX1_breakAt 18 = .ok (.iload_n 3, 1) := by decide +kernel
theorem dX1_breakAt_19 : decode cX1_breakAt 19 = .ok (.iconst 0, 1) := by decide +kernel
theorem dX1_breakAt_20 : decode cX1_breakAt 20 = .ok (.iconst 0, 1) := by decide +kernel
theorem dX1_breakAt_21 : decode cX1_breakAt 21 = .ok (.invokevirtual 191, 3) := by decide +kernel
theorem dX1_breakAt_24 : decode cX1_breakAt 24 = .ok (.aload 4, 2) := by decide +kernel
theorem dX1_breakAt_26 : decode cX1_breakAt 26 = .ok (.aload_n 1, 1) := by decide +kernel
theorem dX1_breakAt_27 : decode cX1_breakAt 27 = .ok (.getfield 75, 3) := by decide +kernel
theorem dX1_breakAt_30 : decode cX1_breakAt 30 = .ok (.putfield 75, 3) := by decide +kernel
theorem dX1_breakAt_33 : decode cX1_breakAt 33 = .ok (.aload 4, 2) := by decide +kernel
theorem dX1_breakAt_35 : decode cX1_breakAt 35 = .ok (.aload_n 1, 1) := by decide +kernel
theorem dX1_breakAt_36 : decode cX1_breakAt 36 = .ok (.getfield 195, 3) := by decide +kernel
theorem dX1_breakAt_39 : decode cX1_breakAt 39 = .ok (.putfield 195, 3) := by decide +kernel
theorem dX1_breakAt_42 : decode cX1_breakAt 42 = .ok (.aload 4, 2) := by decide +kernel
theorem dX1_breakAt_44 : decode cX1_breakAt 44 = .ok (.aload_n 0, 1) := by decide +kernel
theorem dX1_breakAt_45 : decode cX1_breakAt 45 = .ok (.getfield 19, 3) := by decide +kernel
theorem dX1_breakAt_48 : decode cX1_breakAt 48 = .ok (.putfield 198, 3) := by decide +kernel
theorem dX1_breakAt_51 : decode cX1_breakAt 51 = .ok (.new 9, 3) := by decide +kernel
theorem dX1_breakAt_54 : decode cX1_breakAt 54 = .ok (.dup, 1) := by decide +kernel
theorem dX1_breakAt_55 : decode cX1_breakAt 55 = .ok (.aload_n 1, 1) := by decide +kernel
theorem dX1_breakAt_56 : decode cX1_breakAt 56 = .ok (.getfield 98, 3) := by decide +kernel
theorem dX1_breakAt_59 : decode cX1_breakAt 59 = .ok (.iload_n 3, 1) := by decide +kernel
theorem dX1_breakAt_60 : decode cX1_breakAt 60 = .ok (.isub, 1) := by decide +kernel
theorem dX1_breakAt_61 : decode cX1_breakAt 61 = .ok (.invokespecial 42, 3) := by decide +kernel
theorem dX1_breakAt_64 : decode cX1_breakAt 64 = .ok (.astore 5, 2) := by decide +kernel
theorem dX1_breakAt_66 : decode cX1_breakAt 66 = .ok (.aload 5, 2) := by decide +kernel
theorem dX1_breakAt_68 : decode cX1_breakAt 68 = .ok (.aload_n 1, 1) := by decide +kernel
theorem dX1_breakAt_69 : decode cX1_breakAt 69 = .ok (.iload_n 3, 1) := by decide +kernel
theorem dX1_breakAt_70 : decode cX1_breakAt 70 = .ok (.aload_n 1, 1) := by decide +kernel
theorem dX1_breakAt_71 : decode cX1_breakAt 71 = .ok (.getfield 98, 3) := by decide +kernel
theorem dX1_breakAt_74 : decode cX1_breakAt 74 = .ok (.iload_n 3, 1) := by decide +kernel
theorem dX1_breakAt_75 : decode cX1_breakAt 75 = .ok (.isub, 1) := by decide +kernel
theorem dX1_breakAt_76 : decode cX1_breakAt 76 = .ok (.iconst 0, 1) := by decide +kernel
theorem dX1_breakAt_77 : decode cX1_breakAt 77 = .ok (.iconst 0, 1) := by decide +kernel
theorem dX1_breakAt_78 : decode cX1_breakAt 78 = .ok (.invokevirtual 191, 3) := by decide +kernel
theorem dX1_breakAt_81 : decode cX1_breakAt 81 = .ok (.aload 5, 2) := by decide +kernel
theorem dX1_breakAt_83 : decode cX1_breakAt 83 = .ok (.aload_n 1, 1) := by decide +kernel
theorem dX1_breakAt_84 : decode cX1_breakAt 84 = .ok (.getfield 75, 3) := by decide +kernel
theorem dX1_breakAt_87 : decode cX1_breakAt 87 = .ok (.putfield 75, 3) := by decide +kernel
theorem dX1_breakAt_90 : decode cX1_breakAt 90 = .ok (.aload 5, 2) := by decide +kernel
theorem dX1_breakAt_92 : decode cX1_breakAt 92 = .ok (.aload_n 0, 1) := by decide +kernel
theorem dX1_breakAt_93 : decode cX1_breakAt 93 = .ok (.getfield 19, 3) := by decide +kernel
theorem dX1_breakAt_96 : decode cX1_breakAt 96 = .ok (.putfield 195, 3) := by decide +kernel
theorem dX1_breakAt_99 : decode cX1_breakAt 99 = .ok (.aload 5, 2) := by decide +kernel
theorem dX1_breakAt_101 : decode cX1_breakAt 101 = .ok (.aload_n 1, 1) := by decide +kernel
theorem dX1_breakAt_102 : decode cX1_breakAt 102 = .ok (.getfield 198, 3) := by decide +kernel
theorem dX1_breakAt_105 : decode cX1_breakAt 105 = .ok (.putfield 198, 3) := by decide +kernel
theorem dX1_breakAt_108 : decode cX1_breakAt 108 = .ok (.aload_n 0, 1) := by decide +kernel
theorem dX1_breakAt_109 : decode cX1_breakAt 109 = .ok (.dup, 1) := by decide +kernel
theorem dX1_breakAt_110 : decode cX1_breakAt 110 = .ok (.getfield 19, 3) := by decide +kernel
theorem dX1_breakAt_113 : decode cX1_breakAt 113 = .ok (.iconst 1, 1) := by decide +kernel
theorem dX1_breakAt_114 : decode cX1_breakAt 114 = .ok (.iadd, 1) := by decide +kernel
theorem dX1_breakAt_115 : decode cX1_breakAt 115 = .ok (.putfield 19, 3) := by decide +kernel
theorem dX1_breakAt_118 : decode cX1_breakAt 118 = .ok (.aload_n 1, 1) := by decide +kernel
theorem dX1_breakAt_119 : decode cX1_breakAt 119 = .ok (.iconst 1, 1) := by decide +kernel
theorem dX1_breakAt_120 : decode cX1_breakAt 120 = .ok (.putfield 126, 3) := by decide +kernel
theorem dX1_breakAt_123 : decode cX1_breakAt 123 = .ok (.aload_n 0, 1) := by decide +kernel
theorem dX1_breakAt_124 : decode cX1_breakAt 124 = .ok (.aload 4, 2) := by decide +kernel
theorem dX1_breakAt_126 : decode cX1_breakAt 126 = .ok (.invokevirtual 44, 3) := by decide +kernel
theorem dX1_breakAt_129 : decode cX1_breakAt 129 = .ok (.istore 6, 2) := by decide +kernel
theorem dX1_breakAt_131 : decode cX1_breakAt 131 = .ok (.aload_n 0, 1) := by decide +kernel
theorem dX1_breakAt_132 : decode cX1_breakAt 132 = .ok (.aload 5, 2) := by decide +kernel
theorem dX1_breakAt_134 : decode cX1_breakAt 134 = .ok (.invokevirtual 44, 3) := by decide +kernel
theorem dX1_breakAt_137 : decode cX1_breakAt 137 = .ok (.pop, 1) := by decide +kernel
theorem dX1_breakAt_138 : decode cX1_breakAt 138 = .ok (.iload 6, 2) := by decide +kernel
theorem dX1_breakAt_140 : decode cX1_breakAt 140 = .ok (.ireturn, 1) := by decide +kernel
set_option maxRecDepth 20000 in
theorem ggX1_joinBoth_X0_fitsAheadOf : GoodIn wsX1_joinBoth wsX0_fitsAheadOf := goodIn_r _ [12, 13, 14, 73, 74, 75, 76, 77, 78, 79, 80] (by decide +kernel) (by decide +kernel)
set_option maxRecDepth 20000 in
theorem gX1_joinBoth_X0_fitsAheadOf : GoodIn wsX1_joinBoth (wsV RX1 130 RX0 yX0_fitsAheadOf wsX0_fitsAheadOf) := goodIn_app (goodIn_of _ (by decide +kernel)) ggX1_joinBoth_X0_fitsAheadOf
set_option maxRecDepth 20000 in
theorem ggX1_joinBoth_X0_init : GoodIn wsX1_joinBoth wsX0_init := goodIn_r _ [17, 18, 19, 20, 21, 22, 14, 13, 23, 24, 25, 26, 27, 28, 29, 30, 31, 32, 73, 74, 75, 76, 77, 78, 79, 80] (by decide +kernel) (by decide +kernel)
set_option maxRecDepth 20000 in
theorem gX1_joinBoth_X0_init : GoodIn wsX1_joinBoth (wsX0_init) := ggX1_joinBoth_X0_init
set_option maxRecDepth 20000 in
theorem ggX1_joinBoth_X0_takePlaces : GoodIn wsX1_joinBoth wsX0_takePlaces := goodIn_r _ [36, 37, 38, 39, 3, 40, 25, 41, 42, 43, 44, 21, 45, 46, 47, 48, 49, 50, 51, 52, 26, 53, 54, 55, 56, 57, 58, 59, 60, 28, 61, 62, 63, 64, 73, 74, 75, 76, 77, 78, 79, 80] (by decide +kernel) (by decide +kernel)
set_option maxRecDepth 20000 in
theorem gX1_joinBoth_X0_takePlaces : GoodIn wsX1_joinBoth (wsV RX1 191 RX0 yX0_takePlaces wsX0_takePlaces) := goodIn_app (goodIn_of _ (by decide +kernel)) ggX1_joinBoth_X0_takePlaces
set_option maxRecDepth 20000 in
theorem ggX1_joinBoth_X0_putJoint : GoodIn wsX1_joinBoth wsX0_putJoint := goodIn_r _ [64, 26, 28, 53, 54, 55, 3, 56, 21, 73, 74, 75, 76, 77, 78, 79, 80] (by decide +kernel) (by decide +kernel)
set_option maxRecDepth 20000 in
theorem gX1_joinBoth_X0_putJoint : GoodIn wsX1_joinBoth (wsV RX1 201 RX0 yX0_putJoint wsX0_putJoint) := goodIn_app (goodIn_of _ (by decide +kernel)) ggX1_joinBoth_X0_putJoint
set_option maxRecDepth 20000 in
theorem ggX1_joinBoth_X1_put : GoodIn wsX1_joinBoth wsX1_put := goodIn_r _ [70, 71, 72, 81, 82, 83] (by decide +kernel) (by decide +kernel)
set_option maxRecDepth 20000 in
theorem gX1_joinBoth_X1_put : GoodIn wsX1_joinBoth (wsV RX1 44 RX1 yX1_put wsX1_put) := goodIn_app (goodIn_of _ (by decide +kernel)) ggX1_joinBoth_X1_put
theorem dX1_joinBoth_0 : decode cX1_joinBoth 0 = .ok (.iload_n 3, 1) := by decide +kernel
theorem dX1_joinBoth_1 : decode cX1_joinBoth 1 = .ok (.ifCond .ne 15, 3) := by decide +kernel
theorem dX1_joinBoth_4 : decode cX1_joinBoth 4 = .ok (.aload_n 1, 1) := by decide +kernel
theorem dX1_joinBoth_5 : decode cX1_joinBoth 5 = .ok (.aload_n 2, 1) := by decide +kernel
theorem dX1_joinBoth_6 : decode cX1_joinBoth 6 = .ok (.invokevirtual 130, 3) := by decide +kernel
theorem dX1_joinBoth_9 : decode cX1_joinBoth 9 = .ok (.ifCond .eq 7, 3) := by decide +kernel
theorem dX1_joinBoth_12 : decode cX1_joinBoth 12 = .ok (.iconst 3, 1) := by decide +kernel
theorem dX1_joinBoth_13 : decode cX1_joinBoth 13 = .ok (.goto 4, 3) := by decide +kernel
theorem dX1_joinBoth_16 : decode cX1_joinBoth 16 = .ok (.iconst 0, 1) := by decide +kernel
theorem dX1_joinBoth_17 : decode cX1_joinBoth 17 = .ok (.istore 5, 2) := by decide +kernel
theorem dX1_joinBoth_19 : decode cX1_joinBoth 19 = .ok (.new 9, 3) := by decide +kernel
theorem dX1_joinBoth_22 : decode cX1_joinBoth 22 = .ok (.dup, 1) := by decide +kernel
theorem dX1_joinBoth_23 : decode cX1_joinBoth 23 = .ok (.aload_n 1, 1) := by decide +kernel
theorem dX1_joinBoth_24 : decode cX1_joinBoth 24 = .ok (.getfield 98, 3) := by decide +kernel
theorem dX1_joinBoth_27 : decode cX1_joinBoth 27 = .ok (.aload_n 2, 1) := by decide +kernel
theorem dX1_joinBoth_28 : decode cX1_joinBoth 28 = .ok (.getfield 98, 3) := by decide +kernel
theorem dX1_joinBoth_31 : decode cX1_joinBoth 31 = .ok (.iadd, 1) := by decide +kernel
theorem dX1_joinBoth_32 : decode cX1_joinBoth 32 = .ok (.invokespecial 42, 3) := by decide +kernel
theorem dX1_joinBoth_35 : decode cX1_joinBoth 35 = .ok (.astore 6, 2) := by decide +kernel
theorem dX1_joinBoth_37 : decode cX1_joinBoth 37 = .ok (.aload 6, 2) := by decide +kernel
theorem dX1_joinBoth_39 : decode cX1_joinBoth 39 = .ok (.aload_n 1, 1) := by decide +kernel
theorem dX1_joinBoth_40 : decode cX1_joinBoth 40 = .ok (.iconst 0, 1) := by decide +kernel
theorem dX1_joinBoth_41 : decode cX1_joinBoth 41 = .ok (.aload_n 1, 1) := by decide +kernel
theorem dX1_joinBoth_42 : decode cX1_joinBoth 42 = .ok (.getfield 98, 3) := by decide +kernel
theorem dX1_joinBoth_45 : decode cX1_joinBoth 45 = .ok (.iconst 0, 1) := by decide +kernel
theorem dX1_joinBoth_46 : decode cX1_joinBoth 46 = .ok (.iconst 0, 1) := by decide +kernel
theorem dX1_joinBoth_47 : decode cX1_joinBoth 47 = .ok (.invokevirtual 191, 3) := by decide +kernel
theorem dX1_joinBoth_50 : decode cX1_joinBoth 50 = .ok (.aload 6, 2) := by decide +kernel
theorem dX1_joinBoth_52 : decode cX1_joinBoth 52 = .ok (.aload_n 2, 1) := by decide +kernel
theorem dX1_joinBoth_53 : decode cX1_joinBoth 53 = .ok (.iconst 0, 1) := by decide +kernel
theorem dX1_joinBoth_54 : decode cX1_joinBoth 54 = .ok (.aload_n 2, 1) := by decide +kernel
theorem dX1_joinBoth_55 : decode cX1_joinBoth 55 = .ok (.getfield 98, 3) := by decide +kernel
theorem dX1_joinBoth_58 : decode cX1_joinBoth 58 = .ok (.aload_n 1, 1) := by decide +kernel
theorem dX1_joinBoth_59 : decode cX1_joinBoth 59 = .ok (.getfield 98, 3) := by decide +kernel
theorem dX1_joinBoth_62 : decode cX1_joinBoth 62 = .ok (.iload_n 3, 1) := by decide +kernel
theorem dX1_joinBoth_63 : decode cX1_joinBoth 63 = .ok (.invokevirtual 191, 3) := by decide +kernel
theorem dX1_joinBoth_66 : decode cX1_joinBoth 66 = .ok (.aload 6, 2) := by decide +kernel
theorem dX1_joinBoth_68 : decode cX1_joinBoth 68 = .ok (.aload_n 1, 1) := by decide +kernel
theorem dX1_joinBoth_69 : decode cX1_joinBoth 69 = .ok (.getfield 98, 3) := by decide +kernel
theorem dX1_joinBoth_72 : decode cX1_joinBoth 72 = .ok (.iconst 1, 1) := by decide +kernel
theorem dX1_joinBoth_73 : decode cX1_joinBoth 73 = .ok (.isub, 1) := by decide +kernel
theorem dX1_joinBoth_74 : decode cX1_joinBoth 74 = .ok (.iload 4, 2) := by decide +kernel
theorem dX1_joinBoth_76 : decode cX1_joinBoth 76 = .ok (.iload 5, 2) := by decide +kernel
theorem dX1_joinBoth_78 : decode cX1_joinBoth 78 = .ok (.iadd, 1) := by decide +kernel
theorem dX1_joinBoth_79 : decode cX1_joinBoth 79 = .ok (.iconst 1, 1) := by decide +kernel
theorem dX1_joinBoth_80 : decode cX1_joinBoth 80 = .ok (.invokevirtual 201, 3) := by decide +kernel
theorem dX1_joinBoth_83 : decode cX1_joinBoth 83 = .ok (.aload 6, 2) := by decide +kernel
theorem dX1_joinBoth_85 : decode cX1_joinBoth 85 = .ok (.aload_n 1, 1) := by decide +kernel
theorem dX1_joinBoth_86 : decode cX1_joinBoth 86 = .ok (.getfield 75, 3) := by decide +kernel
theorem dX1_joinBoth_89 : decode cX1_joinBoth 89 = .ok (.putfield 75, 3) := by decide +kernel
theorem dX1_joinBoth_92 : decode cX1_joinBoth 92 = .ok (.aload 6, 2) := by decide +kernel
theorem dX1_joinBoth_94 : decode cX1_joinBoth 94 = .ok (.aload_n 1, 1) := by decide +kernel
theorem dX1_joinBoth_95 : decode cX1_joinBoth 95 = .ok (.getfield 195, 3) := by decide +kernel
theorem dX1_joinBoth_98 : decode cX1_joinBoth 98 = .ok (.putfield 195, 3) := by decide +kernel
theorem dX1_joinBoth_101 : decode cX1_joinBoth 101 = .ok (.aload 6, 2) := by decide +kernel
theorem dX1_joinBoth_103 : decode cX1_joinBoth 103 = .ok (.aload_n 2, 1) := by decide +kernel
theorem dX1_joinBoth_104 : decode cX1_joinBoth 104 = .ok (.getfield 198, 3) := by decide +kernel
theorem dX1_joinBoth_107 : decode cX1_joinBoth 107 = .ok (.putfield 198, 3) := by decide +kernel
theorem dX1_joinBoth_110 : decode cX1_joinBoth 110 = .ok (.aload_n 1, 1) := by decide +kernel
theorem dX1_joinBoth_111 : decode cX1_joinBoth 111 = .ok (.iconst 1, 1) := by decide +kernel
theorem dX1_joinBoth_112 : decode cX1_joinBoth 112 = .ok (.putfield 126, 3) := by decide +kernel
theorem dX1_joinBoth_115 : decode cX1_joinBoth 115 = .ok (.aload_n 2, 1) := by decide +kernel
theorem dX1_joinBoth_116 : decode cX1_joinBoth 116 = .ok (.iconst 1, 1) := by decide +kernel
theorem dX1_joinBoth_117 : decode cX1_joinBoth 117 = .ok (.putfield 126, 3) := by decide +kernel
theorem dX1_joinBoth_120 : decode cX1_joinBoth 120 = .ok (.aload_n 0, 1) := by decide +kernel
theorem dX1_joinBoth_121 : decode cX1_joinBoth 121 = .ok (.aload 6, 2) := by decide +kernel
theorem dX1_joinBoth_123 : decode cX1_joinBoth 123 = .ok (.invokevirtual 44, 3) := by decide +kernel
theorem dX1_joinBoth_126 : decode cX1_joinBoth 126 = .ok (.ireturn, 1) := by decide +kernel
set_option maxRecDepth 20000 in
theorem ggX1_total_X1_howManyThere : GoodIn wsX1_total wsX1_howManyThere := goodIn_r _ [7, 1, 8, 9, 10, 6, 11, 12, 13, 14, 15, 16, 17, 74, 75, 76, 77, 78, 79, 80, 81, 82, 83, 84] (by decide +kernel) (by decide +kernel)
set_option maxRecDepth 20000 in
theorem gX1_total_X1_howManyThere : GoodIn wsX1_total (wsV RX1 29 RX1 yX1_howManyThere wsX1_howManyThere) := goodIn_app (goodIn_of _ (by decide +kernel)) ggX1_total_X1_howManyThere
set_option maxRecDepth 20000 in
theorem ggX1_total_X1_sumThere : GoodIn wsX1_total wsX1_sumThere := goodIn_r _ [21, 1, 8, 9, 10, 6, 11, 12, 13, 14, 15, 16, 17, 22, 23, 24, 25, 26, 27, 28, 29, 30, 31, 32, 33, 34, 35, 36, 37, 38, 39, 40, 41, 42, 43, 44, 45, 46, 47, 48, 49, 50, 51, 52, 53, 54, 55, 56, 57, 58, 59, 60, 61, 74, 75, 76, 77, 78, 79, 80, 81, 82, 83, 84] (by decide +kernel) (by decide +kernel)
set_option maxRecDepth 20000 in
theorem gX1_total_X1_sumThere : GoodIn wsX1_total (wsV RX1 159 RX1 yX1_sumThere wsX1_sumThere) := goodIn_app (goodIn_of _ (by decide +kernel)) ggX1_total_X1_sumThere
set_option maxRecDepth 20000 in
theorem ggX1_total_X1_fittingPairs : GoodIn wsX1_total wsX1_fittingPairs := goodIn_r _ [65, 1, 8, 9, 10, 6, 11, 12, 13, 14, 15, 16, 17, 66, 67, 68, 69, 70, 71, 72, 25, 73, 30, 29, 74, 75, 76, 77, 78, 79, 80, 81, 82, 83, 84] (by decide +kernel) (by decide +kernel)
set_option maxRecDepth 20000 in
theorem gX1_total_X1_fittingPairs : GoodIn wsX1_total (wsV RX1 205 RX1 yX1_fittingPairs wsX1_fittingPairs) := goodIn_app (goodIn_of _ (by decide +kernel)) ggX1_total_X1_fittingPairs
theorem dX1_total_0 : decode cX1_total 0 = .ok (.iload_n 1, 1) := by decide +kernel
theorem dX1_total_1 : decode cX1_total 1 = .ok (.tableswitch 72 0 5 #[39, 44, 49, 55, 60, 66], 39) := by decide +kernel
theorem dX1_total_40 : decode cX1_total 40 = .ok (.aload_n 0, 1) := by decide +kernel
theorem dX1_total_41 : decode cX1_total 41 = .ok (.invokevirtual 29, 3) := by decide +kernel
theorem dX1_total_44 : decode cX1_total 44 = .ok (.ireturn, 1) := by decide +kernel
theorem dX1_total_45 : decode cX1_total 45 = .ok (.aload_n 0, 1) := by decide +kernel
theorem dX1_total_46 : decode cX1_total 46 = .ok (.getfield 15, 3) := by decide +kernel
theorem dX1_total_49 : decode cX1_total 49 = .ok (.ireturn, 1) := by decide +kernel
theorem dX1_total_50 : decode cX1_total 50 = .ok (.aload_n 0, 1) := by decide +kernel
theorem dX1_total_51 : decode cX1_total 51 = .ok (.iconst 2, 1) := by decide +kernel
theorem dX1_total_52 : decode cX1_total 52 = .ok (.invokevirtual 159, 3) := by decide +kernel
theorem dX1_total_55 : decode cX1_total 55 = .ok (.ireturn, 1) := by decide +kernel
theorem dX1_total_56 : decode cX1_total 56 = .ok (.aload_n 0, 1) := by decide +kernel
theorem dX1_total_57 : decode cX1_total 57 = .ok (.getfield 19, 3) := by decide +kernel
theorem dX1_total_60 : decode cX1_total 60 = .ok (.ireturn, 1) := by decide +kernel
theorem dX1_total_61 : decode cX1_total 61 = .ok (.aload_n 0, 1) := by decide +kernel
theorem dX1_total_62 : decode cX1_total 62 = .ok (.iconst 3, 1) := by decide +kernel
theorem dX1_total_63 : decode cX1_total 63 = .ok (.invokevirtual 159, 3) := by decide +kernel
theorem dX1_total_66 : decode cX1_total 66 = .ok (.ireturn, 1) := by decide +kernel
theorem dX1_total_67 : decode cX1_total 67 = .ok (.aload_n 0, 1) := by decide +kernel
theorem dX1_total_68 : decode cX1_total 68 = .ok (.iconst 0, 1) := by decide +kernel
theorem dX1_total_69 : decode cX1_total 69 = .ok (.invokevirtual 159, 3) := by decide +kernel
theorem dX1_total_72 : decode cX1_total 72 = .ok (.ireturn, 1) := by decide +kernel
theorem dX1_total_73 : decode cX1_total 73 = .ok (.aload_n 0, 1) := by decide +kernel
theorem dX1_total_74 : decode cX1_total 74 = .ok (.invokevirtual 205, 3) := by decide +kernel
theorem dX1_total_77 : decode cX1_total 77 = .ok (.ireturn, 1) := by decide +kernel
set_option maxRecDepth 20000 in
theorem ggX1_howManyThere_X1_thereOrNull : GoodIn wsX1_howManyThere wsX1_thereOrNull := goodIn_r _ [6, 7, 8, 9, 10, 5, 11, 12, 16, 17, 18, 19, 20, 21, 22, 23, 13, 14, 15] (by decide +kernel) (by decide +kernel)
set_option maxRecDepth 20000 in
theorem gX1_howManyThere_X1_thereOrNull : GoodIn wsX1_howManyThere (wsV RX1 156 RX1 yX1_thereOrNull wsX1_thereOrNull) := goodIn_app (goodIn_of _ (by decide +kernel)) ggX1_howManyThere_X1_thereOrNull
theorem dX1_howManyThere_0 : decode cX1_howManyThere 0 = .ok (.iconst 0, 1) := by decide +kernel
theorem dX1_howManyThere_1 : decode cX1_howManyThere 1 = .ok (.istore_n 1, 1) := by decide +kernel
theorem dX1_howManyThere_2 : decode cX1_howManyThere 2 = .ok (.iconst 0, 1) := by decide +kernel
theorem dX1_howManyThere_3 : decode cX1_howManyThere 3 = .ok (.istore_n 2, 1) := by decide +kernel
theorem dX1_howManyThere_4 : decode cX1_howManyThere 4 = .ok (.iload_n 2, 1) := by decide +kernel
theorem dX1_howManyThere_5 : decode cX1_howManyThere 5 = .ok (.aload_n 0, 1) := by decide +kernel
theorem dX1_howManyThere_6 : decode cX1_howManyThere 6 = .ok (.getfield 15, 3) := by decide +kernel
theorem dX1_howManyThere_9 : decode cX1_howManyThere 9 = .ok (.if_icmp .ge 20, 3) := by decide +kernel
theorem dX1_howManyThere_12 : decode cX1_howManyThere 12 = .ok (.aload_n 0, 1) := by decide +kernel
theorem dX1_howManyThere_13 : decode cX1_howManyThere 13 = .ok (.iload_n 2, 1) := by decide +kernel
theorem dX1_howManyThere_14 : decode cX1_howManyThere 14 = .ok (.invokevirtual 156, 3) := by decide +kernel
theorem dX1_howManyThere_17 : decode cX1_howManyThere 17 = .ok (.ifnull 6, 3) := by decide +kernel
theorem dX1_howManyThere_20 : decode cX1_howManyThere 20 = .ok (.iinc 1 1, 3) := by decide +kernel
theorem dX1_howManyThere_23 : decode cX1_howManyThere 23 = .ok (.iinc 2 1, 3) := by decide +kernel
theorem dX1_howManyThere_26 : decode cX1_howManyThere 26 = .ok (.goto (-22), 3) := by decide +kernel
theorem dX1_howManyThere_29 : decode cX1_howManyThere 29 = .ok (.iload_n 1, 1) := by decide +kernel
theorem dX1_howManyThere_30 : decode cX1_howManyThere 30 = .ok (.ireturn, 1) := by decide +kernel
set_option maxRecDepth 20000 in
theorem ggX1_sumThere_X1_thereOrNull : GoodIn wsX1_sumThere wsX1_thereOrNull := goodIn_r _ [6, 7, 8, 9, 10, 5, 11, 12, 56, 57, 58, 59, 60, 61, 62, 63, 53, 54, 55] (by decide +kernel) (by decide +kernel)
set_option maxRecDepth 20000 in
theorem gX1_sumThere_X1_thereOrNull : GoodIn wsX1_sumThere (wsV RX1 156 RX1 yX1_thereOrNull wsX1_thereOrNull) := goodIn_app (goodIn_of _ (by decide +kernel)) ggX1_sumThere_X1_thereOrNull
set_option maxRecDepth 20000 in
theorem ggX1_sumThere_X0_factAt : GoodIn wsX1_sumThere wsX0_factAt := goodIn_r _ [17, 18, 19, 20, 21, 22, 23, 24, 25, 16, 26, 27, 28, 29, 30, 31, 32, 33, 34, 35, 36, 37, 38, 39, 40, 41, 42, 43, 44, 45, 46, 47, 48, 49, 50, 51, 52, 56, 57, 58, 59, 60, 61, 62, 63] (by decide +kernel) (by decide +kernel)
set_option maxRecDepth 20000 in
theorem gX1_sumThere_X0_factAt : GoodIn wsX1_sumThere (wsV RX1 112 RX0 yX0_factAt wsX0_factAt) := goodIn_app (goodIn_of _ (by decide +kernel)) ggX1_sumThere_X0_factAt
theorem dX1_sumThere_0 : decode cX1_sumThere 0 = .ok (.iconst 0, 1) := by decide +kernel
theorem dX1_sumThere_1 : decode cX1_sumThere 1 = .ok (.istore_n 2, 1) := by decide +kernel
theorem dX1_sumThere_2 : decode cX1_sumThere 2 = .ok (.iconst 0, 1) := by decide +kernel
theorem dX1_sumThere_3 : decode cX1_sumThere 3 = .ok (.istore_n 3, 1) := by decide +kernel
theorem dX1_sumThere_4 : decode cX1_sumThere 4 = .ok (.iload_n 3, 1) := by decide +kernel
theorem dX1_sumThere_5 : decode cX1_sumThere 5 = .ok (.aload_n 0, 1) := by decide +kernel
theorem dX1_sumThere_6 : decode cX1_sumThere 6 = .ok (.getfield 15, 3) := by decide +kernel
theorem dX1_sumThere_9 : decode cX1_sumThere 9 = .ok (.if_icmp .ge 30, 3) := by decide +kernel
theorem dX1_sumThere_12 : decode cX1_sumThere 12 = .ok (.aload_n 0, 1) := by decide +kernel
theorem dX1_sumThere_13 : decode cX1_sumThere 13 = .ok (.iload_n 3, 1) := by decide +kernel
theorem dX1_sumThere_14 : decode cX1_sumThere 14 = .ok (.invokevirtual 156, 3) := by decide +kernel
theorem dX1_sumThere_17 : decode cX1_sumThere 17 = .ok (.astore 4, 2) := by decide +kernel
theorem dX1_sumThere_19 : decode cX1_sumThere 19 = .ok (.aload 4, 2) := by decide +kernel
theorem dX1_sumThere_21 : decode cX1_sumThere 21 = .ok (.ifnull 12, 3) := by decide +kernel
theorem dX1_sumThere_24 : decode cX1_sumThere 24 = .ok (.iload_n 2, 1) := by decide +kernel
theorem dX1_sumThere_25 : decode cX1_sumThere 25 = .ok (.aload 4, 2) := by decide +kernel
theorem dX1_sumThere_27 : decode cX1_sumThere 27 = .ok (.iload_n 1, 1) := by decide +kernel
theorem dX1_sumThere_28 : decode cX1_sumThere 28 = .ok (.invokevirtual 112, 3) := by decide +kernel
theorem dX1_sumThere_31 : decode cX1_sumThere 31 = .ok (.iadd, 1) := by decide +kernel
theorem dX1_sumThere_32 : decode cX1_sumThere 32 = .ok (.istore_n 2, 1) := by decide +kernel
theorem dX1_sumThere_33 : decode cX1_sumThere 33 = .ok (.iinc 3 1, 3) := by decide +kernel
theorem dX1_sumThere_36 : decode cX1_sumThere 36 = .ok (.goto (-32), 3) := by decide +kernel
theorem dX1_sumThere_39 : decode cX1_sumThere 39 = .ok (.iload_n 2, 1) := by decide +kernel
theorem dX1_sumThere_40 : decode cX1_sumThere 40 = .ok (.ireturn, 1) := by decide +kernel
set_option maxRecDepth 20000 in
theorem ggX1_fittingPairs_X1_thereOrNull : GoodIn wsX1_fittingPairs wsX1_thereOrNull := goodIn_r _ [6, 7, 8, 9, 10, 5, 11, 12, 27, 28, 29, 30, 31, 32, 33, 34, 24, 25, 26] (by decide +kernel) (by decide +kernel)
set_option maxRecDepth 20000 in
theorem gX1_fittingPairs_X1_thereOrNull : GoodIn wsX1_fittingPairs (wsV RX1 156 RX1 yX1_thereOrNull wsX1_thereOrNull) := goodIn_app (goodIn_of _ (by decide +kernel)) ggX1_fittingPairs_X1_thereOrNull
set_option maxRecDepth 20000 in
theorem ggX1_fittingPairs_X1_fittingBehind : GoodIn wsX1_fittingPairs wsX1_fittingBehind := goodIn_r _ [16, 1, 2, 3, 4, 5, 6, 7, 8, 9, 10, 11, 12, 17, 18, 19, 20, 21, 22, 23, 24, 25, 26, 27, 28, 29, 30, 31, 32, 33, 34] (by decide +kernel) (by decide +kernel)
set_option maxRecDepth 20000 in
theorem gX1_fittingPairs_X1_fittingBehind : GoodIn wsX1_fittingPairs (wsV RX1 208 RX1 yX1_fittingBehind wsX1_fittingBehind) := goodIn_app (goodIn_of _ (by decide +kernel)) ggX1_fittingPairs_X1_fittingBehind
theorem dX1_fittingPairs_0 : decode cX1_fittingPairs 0 = .ok (.iconst 0, 1) := by decide +kernel
theorem dX1_fittingPairs_1 : decode cX1_fittingPairs 1 = .ok (.istore_n 1, 1) := by decide +kernel
theorem dX1_fittingPairs_2 : decode cX1_fittingPairs 2 = .ok (.iconst 0, 1) := by decide +kernel
theorem dX1_fittingPairs_3 : decode cX1_fittingPairs 3 = .ok (.istore_n 2, 1) := by decide +kernel
theorem dX1_fittingPairs_4 : decode cX1_fittingPairs 4 = .ok (.iload_n 2, 1) := by decide +kernel
theorem dX1_fittingPairs_5 : decode cX1_fittingPairs 5 = .ok (.aload_n 0, 1) := by decide +kernel
theorem dX1_fittingPairs_6 : decode cX1_fittingPairs 6 = .ok (.getfield 15, 3) := by decide +kernel
theorem dX1_fittingPairs_9 : decode cX1_fittingPairs 9 = .ok (.if_icmp .ge 27, 3) := by decide +kernel
theorem dX1_fittingPairs_12 : decode cX1_fittingPairs 12 = .ok (.aload_n 0, 1) := by decide +kernel
theorem dX1_fittingPairs_13 : decode cX1_fittingPairs 13 = .ok (.iload_n 2, 1) := by decide +kernel
theorem dX1_fittingPairs_14 : decode cX1_fittingPairs 14 = .ok (.invokevirtual 156, 3) := by decide +kernel
theorem dX1_fittingPairs_17 : decode cX1_fittingPairs 17 = .ok (.astore_n 3, 1) := by decide +kernel
theorem dX1_fittingPairs_18 : decode cX1_fittingPairs 18 = .ok (.aload_n 3, 1) := by decide +kernel
theorem dX1_fittingPairs_19 : decode cX1_fittingPairs 19 = .ok (.ifnull 11, 3) := by decide +kernel
theorem dX1_fittingPairs_22 : decode cX1_fittingPairs 22 = .ok (.iload_n 1, 1) := by decide +kernel
theorem dX1_fittingPairs_23 : decode cX1_fittingPairs 23 = .ok (.aload_n 0, 1) := by decide +kernel
theorem dX1_fittingPairs_24 : decode cX1_fittingPairs 24 = .ok (.aload_n 3, 1) := by decide +kernel
theorem dX1_fittingPairs_25 : decode cX1_fittingPairs 25 = .ok (.invokevirtual 208, 3) := by decide +kernel
theorem dX1_fittingPairs_28 : decode cX1_fittingPairs 28 = .ok (.iadd, 1) := by decide +kernel
theorem dX1_fittingPairs_29 : decode cX1_fittingPairs 29 = .ok (.istore_n 1, 1) := by decide +kernel
theorem dX1_fittingPairs_30 : decode cX1_fittingPairs 30 = .ok (.iinc 2 1, 3) := by decide +kernel
theorem dX1_fittingPairs_33 : decode cX1_fittingPairs 33 = .ok (.goto (-29), 3) := by decide +kernel
theorem dX1_fittingPairs_36 : decode cX1_fittingPairs 36 = .ok (.iload_n 1, 1) := by decide +kernel
theorem dX1_fittingPairs_37 : decode cX1_fittingPairs 37 = .ok (.ireturn, 1) := by decide +kernel
set_option maxRecDepth 20000 in
theorem ggX1_fittingBehind_X1_thereOrNull : GoodIn wsX1_fittingBehind wsX1_thereOrNull := goodIn_r _ [6, 7, 8, 9, 10, 5, 11, 12, 23, 24, 25, 26, 27, 28, 29, 30, 20, 21, 22] (by decide +kernel) (by decide +kernel)
set_option maxRecDepth 20000 in
theorem gX1_fittingBehind_X1_thereOrNull : GoodIn wsX1_fittingBehind (wsV RX1 156 RX1 yX1_thereOrNull wsX1_thereOrNull) := goodIn_app (goodIn_of _ (by decide +kernel)) ggX1_fittingBehind_X1_thereOrNull
set_option maxRecDepth 20000 in
theorem ggX1_fittingBehind_X0_fitsAheadOf : GoodIn wsX1_fittingBehind wsX0_fitsAheadOf := goodIn_r _ [17, 18, 19, 23, 24, 25, 26, 27, 28, 29, 30] (by decide +kernel) (by decide +kernel)
set_option maxRecDepth 20000 in
theorem gX1_fittingBehind_X0_fitsAheadOf : GoodIn wsX1_fittingBehind (wsV RX1 130 RX0 yX0_fitsAheadOf wsX0_fitsAheadOf) := goodIn_app (goodIn_of _ (by decide +kernel)) ggX1_fittingBehind_X0_fitsAheadOf
theorem dX1_fittingBehind_0 : decode cX1_fittingBehind 0 = .ok (.iconst 0, 1) := by decide +kernel
theorem dX1_fittingBehind_1 : decode cX1_fittingBehind 1 = .ok (.istore_n 2, 1) := by decide +kernel
theorem dX1_fittingBehind_2 : decode cX1_fittingBehind 2 = .ok (.iconst 0, 1) := by decide +kernel
theorem dX1_fittingBehind_3 : decode cX1_fittingBehind 3 = .ok (.istore_n 3, 1) := by decide +kernel
theorem dX1_fittingBehind_4 : decode cX1_fittingBehind 4 = .ok (.iload_n 3, 1) := by decide +kernel
theorem dX1_fittingBehind_5 : decode cX1_fittingBehind 5 = .ok (.aload_n 0, 1) := by decide +kernel
theorem dX1_fittingBehind_6 : decode cX1_fittingBehind 6 = .ok (.getfield 15, 3) := by decide +kernel
theorem dX1_fittingBehind_9 : decode cX1_fittingBehind 9 = .ok (.if_icmp .ge 33, 3) := by decide +kernel
theorem dX1_fittingBehind_12 : decode cX1_fittingBehind 12 = .ok (.aload_n 0, 1) := by decide +kernel
theorem dX1_fittingBehind_13 : decode cX1_fittingBehind 13 = .ok (.iload_n 3, 1) := by decide +kernel
theorem dX1_fittingBehind_14 : decode cX1_fittingBehind 14 = .ok (.invokevirtual 156, 3) := by decide +kernel
theorem dX1_fittingBehind_17 : decode cX1_fittingBehind 17 = .ok (.astore 4, 2) := by decide +kernel
theorem dX1_fittingBehind_19 : decode cX1_fittingBehind 19 = .ok (.aload 4, 2) := by decide +kernel
theorem dX1_fittingBehind_21 : decode cX1_fittingBehind 21 = .ok (.ifnull 15, 3) := by decide +kernel
theorem dX1_fittingBehind_24 : decode cX1_fittingBehind 24 = .ok (.aload_n 1, 1) := by decide +kernel
theorem dX1_fittingBehind_25 : decode cX1_fittingBehind 25 = .ok (.aload 4, 2) := by decide +kernel
theorem dX1_fittingBehind_27 : decode cX1_fittingBehind 27 = .ok (.invokevirtual 130, 3) := by decide +kernel
theorem dX1_fittingBehind_30 : decode cX1_fittingBehind 30 = .ok (.ifCond .eq 6, 3) := by decide +kernel
theorem dX1_fittingBehind_33 : decode cX1_fittingBehind 33 = .ok (.iinc 2 1, 3) := by decide +kernel
theorem dX1_fittingBehind_36 : decode cX1_fittingBehind 36 = .ok (.iinc 3 1, 3) := by decide +kernel
theorem dX1_fittingBehind_39 : decode cX1_fittingBehind 39 = .ok (.goto (-35), 3) := by decide +kernel
theorem dX1_fittingBehind_42 : decode cX1_fittingBehind 42 = .ok (.iload_n 2, 1) := by decide +kernel
theorem dX1_fittingBehind_43 : decode cX1_fittingBehind 43 = .ok (.ireturn, 1) := by decide +kernel
set_option maxRecDepth 20000 in
theorem ggX1_rhymeOf_X0_placeReadUpTo : GoodIn wsX1_rhymeOf wsX0_placeReadUpTo := goodIn_r _ [7, 8, 9, 10, 6, 11, 12, 13, 14, 15, 16, 17, 18, 19, 20, 21, 27, 28, 29, 30, 31, 32, 33, 34] (by decide +kernel) (by decide +kernel)
set_option maxRecDepth 20000 in
theorem gX1_rhymeOf_X0_placeReadUpTo : GoodIn wsX1_rhymeOf (wsV RX1 211 RX0 yX0_placeReadUpTo wsX0_placeReadUpTo) := goodIn_app (goodIn_of _ (by decide +kernel)) ggX1_rhymeOf_X0_placeReadUpTo
set_option maxRecDepth 20000 in
theorem ggX1_rhymeOf_X0_runeRead : GoodIn wsX1_rhymeOf wsX0_runeRead := goodIn_r _ [11, 12, 13, 14, 6, 15, 16, 17, 18, 19, 20, 21, 27, 28, 29, 30, 31, 32, 33, 34] (by decide +kernel) (by decide +kernel)
set_option maxRecDepth 20000 in
theorem gX1_rhymeOf_X0_runeRead : GoodIn wsX1_rhymeOf (wsV RX1 215 RX0 yX0_runeRead wsX0_runeRead) := goodIn_app (goodIn_of _ (by decide +kernel)) ggX1_rhymeOf_X0_runeRead
set_option maxRecDepth 20000 in
theorem ggX1_rhymeOf_X1_pairWorth : GoodIn wsX1_rhymeOf wsX1_pairWorth := goodIn_r _ [26] (by decide +kernel) (by decide +kernel)
set_option maxRecDepth 20000 in
theorem gX1_rhymeOf_X1_pairWorth : GoodIn wsX1_rhymeOf (va_wsS RX1 218 yX1_pairWorth wsX1_pairWorth) := goodIn_app (goodIn_of _ (by decide +kernel)) ggX1_rhymeOf_X1_pairWorth
theorem dX1_rhymeOf_0 : decode cX1_rhymeOf 0 = .ok (.iconst 0, 1) := by decide +kernel
theorem dX1_rhymeOf_1 : decode cX1_rhymeOf 1 = .ok (.istore 4, 2) := by decide +kernel
theorem dX1_rhymeOf_3 : decode cX1_rhymeOf 3 = .ok (.aload_n 0, 1) := by decide +kernel
theorem dX1_rhymeOf_4 : decode cX1_rhymeOf 4 = .ok (.iload_n 1, 1) := by decide +kernel
theorem dX1_rhymeOf_5 : decode cX1_rhymeOf 5 = .ok (.iload_n 3, 1) := by decide +kernel
theorem dX1_rhymeOf_6 : decode cX1_rhymeOf 6 = .ok (.aload_n 0, 1) := by decide +kernel
theorem dX1_rhymeOf_7 : decode cX1_rhymeOf 7 = .ok (.getfield 98, 3) := by decide +kernel
theorem dX1_rhymeOf_10 : decode cX1_rhymeOf 10 = .ok (.iconst 1, 1) := by decide +kernel
theorem dX1_rhymeOf_11 : decode cX1_rhymeOf 11 = .ok (.isub, 1) := by decide +kernel
theorem dX1_rhymeOf_12 : decode cX1_rhymeOf 12 = .ok (.invokevirtual 211, 3) := by decide +kernel
theorem dX1_rhymeOf_15 : decode cX1_rhymeOf 15 = .ok (.istore 5, 2) := by decide +kernel
theorem dX1_rhymeOf_17 : decode cX1_rhymeOf 17 = .ok (.aload_n 2, 1) := by decide +kernel
theorem dX1_rhymeOf_18 : decode cX1_rhymeOf 18 = .ok (.aload_n 2, 1) := by decide +kernel
theorem dX1_rhymeOf_19 : decode cX1_rhymeOf 19 = .ok (.getfield 75, 3) := by decide +kernel
theorem dX1_rhymeOf_22 : decode cX1_rhymeOf 22 = .ok (.iload_n 3, 1) := by decide +kernel
theorem dX1_rhymeOf_23 : decode cX1_rhymeOf 23 = .ok (.aload_n 2, 1) := by decide +kernel
theorem dX1_rhymeOf_24 : decode cX1_rhymeOf 24 = .ok (.getfield 98, 3) := by decide +kernel
theorem dX1_rhymeOf_27 : decode cX1_rhymeOf 27 = .ok (.iconst 1, 1) := by decide +kernel
theorem dX1_rhymeOf_28 : decode cX1_rhymeOf 28 = .ok (.isub, 1) := by decide +kernel
theorem dX1_rhymeOf_29 : decode cX1_rhymeOf 29 = .ok (.invokevirtual 211, 3) := by decide +kernel
theorem dX1_rhymeOf_32 : decode cX1_rhymeOf 32 = .ok (.istore 6, 2) := by decide +kernel
theorem dX1_rhymeOf_34 : decode cX1_rhymeOf 34 = .ok (.iconst 0, 1) := by decide +kernel
theorem dX1_rhymeOf_35 : decode cX1_rhymeOf 35 = .ok (.istore 7, 2) := by decide +kernel
theorem dX1_rhymeOf_37 : decode cX1_rhymeOf 37 = .ok (.iload 7, 2) := by decide +kernel
theorem dX1_rhymeOf_39 : decode cX1_rhymeOf 39 = .ok (.bipush 12, 2) := by decide +kernel
theorem dX1_rhymeOf_41 : decode cX1_rhymeOf 41 = .ok (.if_icmp .ge 87, 3) := by decide +kernel
theorem dX1_rhymeOf_44 : decode cX1_rhymeOf 44 = .ok (.iload 5, 2) := by decide +kernel
theorem dX1_rhymeOf_46 : decode cX1_rhymeOf 46 = .ok (.iconst (-1), 1) := by decide +kernel
theorem dX1_rhymeOf_47 : decode cX1_rhymeOf 47 = .ok (.if_icmp .eq 81, 3) := by decide +kernel
theorem dX1_rhymeOf_50 : decode cX1_rhymeOf 50 = .ok (.iload 6, 2) := by decide +kernel
theorem dX1_rhymeOf_52 : decode cX1_rhymeOf 52 = .ok (.iconst (-1), 1) := by decide +kernel
theorem dX1_rhymeOf_53 : decode cX1_rhymeOf 53 = .ok (.if_icmp .eq 75, 3) := by decide +kernel
theorem dX1_rhymeOf_56 : decode cX1_rhymeOf 56 = .ok (.aload_n 0, 1) := by decide +kernel
theorem dX1_rhymeOf_57 : decode cX1_rhymeOf 57 = .ok (.iload_n 1, 1) := by decide +kernel
theorem dX1_rhymeOf_58 : decode cX1_rhymeOf 58 = .ok (.iload_n 3, 1) := by decide +kernel
theorem dX1_rhymeOf_59 : decode cX1_rhymeOf 59 = .ok (.iload 5, 2) := by decide +kernel
theorem dX1_rhymeOf_61 : decode cX1_rhymeOf 61 = .ok (.invokevirtual 215, 3) := by decide +kernel
theorem dX1_rhymeOf_64 : decode cX1_rhymeOf 64 = .ok (.aload_n 2, 1) := by decide +kernel
theorem dX1_rhymeOf_65 : decode cX1_rhymeOf 65 = .ok (.aload_n 2, 1) := by decide +kernel
theorem dX1_rhymeOf_66 : decode cX1_rhymeOf 66 = .ok (.getfield 75, 3) := by decide +kernel
theorem dX1_rhymeOf_69 : decode cX1_rhymeOf 69 = .ok (.iload_n 3, 1) := by decide +kernel
theorem dX1_rhymeOf_70 : decode cX1_rhymeOf 70 = .ok (.iload 6, 2) := by decide +kernel
theorem dX1_rhymeOf_72 : decode cX1_rhymeOf 72 = .ok (.invokevirtual 215, 3) := by decide +kernel
theorem dX1_rhymeOf_75 : decode cX1_rhymeOf 75 = .ok (.invokestatic 218, 3) := by decide +kernel
theorem dX1_rhymeOf_78 : decode cX1_rhymeOf 78 = .ok (.istore 8, 2) := by decide +kernel
theorem dX1_rhymeOf_80 : decode cX1_rhymeOf 80 = .ok (.iload 8, 2) := by decide +kernel
theorem dX1_rhymeOf_82 : decode cX1_rhymeOf 82 = .ok (.ifCond .ne 6, 3) := by decide +kernel
theorem dX1_rhymeOf_85 : decode cX1_rhymeOf 85 = .ok (.iload 4, 2) := by decide +kernel
theorem dX1_rhymeOf_87 : decode cX1_rhymeOf 87 = .ok (.ireturn, 1) := by decide +kernel
theorem dX1_rhymeOf_88 : decode cX1_rhymeOf 88 = .ok (.iload 4, 2) := by decide +kernel
theorem dX1_rhymeOf_90 : decode cX1_rhymeOf 90 = .ok (.iload 8, 2) := by decide +kernel
theorem dX1_rhymeOf_92 : decode cX1_rhymeOf 92 = .ok (.iadd, 1) := by decide +kernel
theorem dX1_rhymeOf_93 : decode cX1_rhymeOf 93 = .ok (.istore 4, 2) := by decide +kernel
theorem dX1_rhymeOf_95 : decode cX1_rhymeOf 95 = .ok (.aload_n 0, 1) := by decide +kernel
theorem dX1_rhymeOf_96 : decode cX1_rhymeOf 96 = .ok (.iload_n 1, 1) := by decide +kernel
theorem dX1_rhymeOf_97 : decode cX1_rhymeOf 97 = .ok (.iload_n 3, 1) := by decide +kernel
theorem dX1_rhymeOf_98 : decode cX1_rhymeOf 98 = .ok (.iload 5, 2) := by decide +kernel
theorem dX1_rhymeOf_100 : decode cX1_rhymeOf 100 = .ok (.iconst 1, 1) := by decide +kernel
theorem dX1_rhymeOf_101 : decode cX1_rhymeOf 101 = .ok (.isub, 1) := by decide +kernel
theorem dX1_rhymeOf_102 : decode cX1_rhymeOf 102 = .ok (.invokevirtual 211, 3) := by decide +kernel
theorem dX1_rhymeOf_105 : decode cX1_rhymeOf 105 = .ok (.istore 5, 2) := by decide +kernel
theorem dX1_rhymeOf_107 : decode cX1_rhymeOf 107 = .ok (.aload_n 2, 1) := by decide +kernel
theorem dX1_rhymeOf_108 : decode cX1_rhymeOf 108 = .ok (.aload_n 2, 1) := by decide +kernel
theorem dX1_rhymeOf_109 : decode cX1_rhymeOf 109 = .ok (.getfield 75, 3) := by decide +kernel
theorem dX1_rhymeOf_112 : decode cX1_rhymeOf 112 = .ok (.iload_n 3, 1) := by decide +kernel
theorem dX1_rhymeOf_113 : decode cX1_rhymeOf 113 = .ok (.iload 6, 2) := by decide +kernel
theorem dX1_rhymeOf_115 : decode cX1_rhymeOf 115 = .ok (.iconst 1, 1) := by decide +kernel
theorem dX1_rhymeOf_116 : decode cX1_rhymeOf 116 = .ok (.isub, 1) := by decide +kernel
theorem dX1_rhymeOf_117 : decode cX1_rhymeOf 117 = .ok (.invokevirtual 211, 3) := by decide +kernel
theorem dX1_rhymeOf_120 : decode cX1_rhymeOf 120 = .ok (.istore 6, 2) := by decide +kernel
theorem dX1_rhymeOf_122 : decode cX1_rhymeOf 122 = .ok (.iinc 7 1, 3) := by decide +kernel
theorem dX1_rhymeOf_125 : decode cX1_rhymeOf 125 = .ok (.goto (-88), 3) := by decide +kernel
theorem dX1_rhymeOf_128 : decode cX1_rhymeOf 128 = .ok (.iload 4, 2) := by decide +kernel
theorem dX1_rhymeOf_130 : decode cX1_rhymeOf 130 = .ok (.ireturn, 1) := by decide +kernel
theorem dX1_pairWorth_0 : decode cX1_pairWorth 0 = .ok (.iload_n 0, 1) := by decide +kernel
theorem dX1_pairWorth_1 : decode cX1_pairWorth 1 = .ok (.iload_n 1, 1) := by decide +kernel
theorem dX1_pairWorth_2 : decode cX1_pairWorth 2 = .ok (.if_icmp .ne 5, 3) := by decide +kernel
theorem dX1_pairWorth_5 : decode cX1_pairWorth 5 = .ok (.iconst 2, 1) := by decide +kernel
theorem dX1_pairWorth_6 : decode cX1_pairWorth 6 = .ok (.ireturn, 1) := by decide +kernel
theorem dX1_pairWorth_7 : decode cX1_pairWorth 7 = .ok (.iload_n 0, 1) := by decide +kernel
theorem dX1_pairWorth_8 : decode cX1_pairWorth 8 = .ok (.bipush 8, 2) := by decide +kernel
theorem dX1_pairWorth_10 : decode cX1_pairWorth 10 = .ok (.idiv, 1) := by decide +kernel
theorem dX1_pairWorth_11 : decode cX1_pairWorth 11 = .ok (.iload_n 1, 1) := by decide +kernel
theorem dX1_pairWorth_12 : decode cX1_pairWorth 12 = .ok (.bipush 8, 2) := by decide +kernel
theorem dX1_pairWorth_14 : decode cX1_pairWorth 14 = .ok (.idiv, 1) := by decide +kernel
theorem dX1_pairWorth_15 : decode cX1_pairWorth 15 = .ok (.if_icmp .ne 7, 3) := by decide +kernel
theorem dX1_pairWorth_18 : decode cX1_pairWorth 18 = .ok (.iconst 1, 1) := by decide +kernel
theorem dX1_pairWorth_19 : decode cX1_pairWorth 19 = .ok (.goto 4, 3) := by decide +kernel
theorem dX1_pairWorth_22 : decode cX1_pairWorth 22 = .ok (.iconst 0, 1) := by decide +kernel
theorem dX1_pairWorth_23 : decode cX1_pairWorth 23 = .ok (.ireturn, 1) := by decide +kernel
end
section
theorem dX2_init_0 : decode cX2_init 0 = .ok (.aload_n 0, 1) := by decide +kernel
theorem dX2_init_1 : decode cX2_init 1 = .ok (.invokespecial 1, 3) := by decide +kernel
theorem dX2_init_4 : decode cX2_init 4 = .ok (.aload_n 0, 1) := by decide +kernel
theorem dX2_init_5 : decode cX2_init 5 = .ok (.bipush 40, 2) := by decide +kernel
theorem dX2_init_7 : decode cX2_init 7 = .ok (.newarray .int, 2) := by decide +kernel
theorem dX2_init_9 : decode cX2_init 9 = .ok (.putfield 9, 3) := by decide +kernel
theorem dX2_init_12 : decode cX2_init 12 = .ok (.aload_n 0, 1) := by decide +kernel
theorem dX2_init_13 : decode cX2_init 13 = .ok (.bipush 40, 2) := by decide +kernel
theorem dX2_init_15 : decode cX2_init 15 = .ok (.newarray .int, 2) := by decide +kernel
theorem dX2_init_17 : decode cX2_init 17 = .ok (.putfield 13, 3) := by decide +kernel
theorem dX2_init_20 : decode cX2_init 20 = .ok (.aload_n 0, 1) := by decide +kernel
theorem dX2_init_21 : decode cX2_init 21 = .ok (.bipush 40, 2) := by decide +kernel
theorem dX2_init_23 : decode cX2_init 23 = .ok (.newarray .int, 2) := by decide +kernel
theorem dX2_init_25 : decode cX2_init 25 = .ok (.putfield 16, 3) := by decide +kernel
theorem dX2_init_28 : decode cX2_init 28 = .ok (.aload_n 0, 1) := by decide +kernel
theorem dX2_init_29 : decode cX2_init 29 = .ok (.bipush 40, 2) := by decide +kernel
theorem dX2_init_31 : decode cX2_init 31 = .ok (.newarray .int, 2) := by decide +kernel
theorem dX2_init_33 : decode cX2_init 33 = .ok (.putfield 19, 3) := by decide +kernel
theorem dX2_init_36 : decode cX2_init 36 = .ok (.aload_n 0, 1) := by decide +kernel
theorem dX2_init_37 : decode cX2_init 37 = .ok (.bipush 40, 2) := by decide +kernel
theorem dX2_init_39 : decode cX2_init 39 = .ok (.newarray .int, 2) := by decide +kernel
theorem dX2_init_41 : decode cX2_init 41 = .ok (.putfield 22, 3) := by decide +kernel
theorem dX2_init_44 : decode cX2_init 44 = .ok (.aload_n 0, 1) := by decide +kernel
theorem dX2_init_45 : decode cX2_init 45 = .ok (.sipush 1440, 3) := by decide +kernel
theorem dX2_init_48 : decode cX2_init 48 = .ok (.newarray .int, 2) := by decide +kernel
theorem dX2_init_50 : decode cX2_init 50 = .ok (.putfield 25, 3) := by decide +kernel
theorem dX2_init_53 : decode cX2_init 53 = .ok (.aload_n 0, 1) := by decide +kernel
theorem dX2_init_54 : decode cX2_init 54 = .ok (.sipush 480, 3) := by decide +kernel
theorem dX2_init_57 : decode cX2_init 57 = .ok (.newarray .int, 2) := by decide +kernel
theorem dX2_init_59 : decode cX2_init 59 = .ok (.putfield 28, 3) := by decide +kernel
theorem dX2_init_62 : decode cX2_init 62 = .ok (.aload_n 0, 1) := by decide +kernel
theorem dX2_init_63 : decode cX2_init 63 = .ok (.sipush 480, 3) := by decide +kernel
theorem dX2_init_66 : decode cX2_init 66 = .ok (.newarray .int, 2) := by decide +kernel
theorem dX2_init_68 : decode cX2_init 68 = .ok (.putfield 31, 3) := by decide +kernel
theorem dX2_init_71 : decode cX2_init 71 = .ok (.aload_n 0, 1) := by decide +kernel
theorem dX2_init_72 : decode cX2_init 72 = .ok (.bipush 12, 2) := by decide +kernel
theorem dX2_init_74 : decode cX2_init 74 = .ok (.newarray .int, 2) := by decide +kernel
theorem dX2_init_76 : decode cX2_init 76 = .ok (.putfield 34, 3) := by decide +kernel
theorem dX2_init_79 : decode cX2_init 79 = .ok (.aload_n 0, 1) := by decide +kernel
theorem dX2_init_80 : decode cX2_init 80 = .ok (.bipush 12, 2) := by decide +kernel
theorem dX2_init_82 : decode cX2_init 82 = .ok (.newarray .int, 2) := by decide +kernel
theorem dX2_init_84 : decode cX2_init 84 = .ok (.putfield 37, 3) := by decide +kernel
theorem dX2_init_87 : decode cX2_init 87 = .ok (.return_, 1) := by decide +kernel
theorem dX2_thrown_0 : decode cX2_thrown 0 = .ok (.aload_n 0, 1) := by decide +kernel
theorem dX2_thrown_1 : decode cX2_thrown 1 = .ok (.getfield 40, 3) := by decide +kernel
theorem dX2_thrown_4 : decode cX2_thrown 4 = .ok (.ireturn, 1) := by decide +kernel
theorem dX2_no_0 : decode cX2_no 0 = .ok (.aload_n 0, 1) := by decide +kernel
theorem dX2_no_1 : decode cX2_no 1 = .ok (.iload_n 1, 1) := by decide +kernel
theorem dX2_no_2 : decode cX2_no 2 = .ok (.putfield 40, 3) := by decide +kernel
theorem dX2_no_5 : decode cX2_no 5 = .ok (.iconst 0, 1) := by decide +kernel
theorem dX2_no_6 : decode cX2_no 6 = .ok (.ireturn, 1) := by decide +kernel
theorem dX2_isIn_0 : decode cX2_isIn 0 = .ok (.iload_n 0, 1) := by decide +kernel
theorem dX2_isIn_1 : decode cX2_isIn 1 = .ok (.iload_n 1, 1) := by decide +kernel
theorem dX2_isIn_2 : decode cX2_isIn 2 = .ok (.if_icmp .lt 12, 3) := by decide +kernel
theorem dX2_isIn_5 : decode cX2_isIn 5 = .ok (.iload_n 0, 1) := by decide +kernel
theorem dX2_isIn_6 : decode cX2_isIn 6 = .ok (.iload_n 2, 1) := by decide +kernel
theorem dX2_isIn_7 : decode cX2_isIn 7 = .ok (.if_icmp .gt 7, 3) := by decide +kernel
theorem dX2_isIn_10 : decode cX2_isIn 10 = .ok (.iconst 1, 1) := by decide +kernel
theorem dX2_isIn_11 : decode cX2_isIn 11 = .ok (.goto 4, 3) := by decide +kernel
theorem dX2_isIn_14 : decode cX2_isIn 14 = .ok (.iconst 0, 1) := by decide +kernel
theorem dX2_isIn_15 : decode cX2_isIn 15 = .ok (.ireturn, 1) := by decide +kernel
set_option maxRecDepth 20000 in
theorem ggX2_isStick_X2_isIn : GoodIn wsX2_isStick wsX2_isIn := goodIn_r _ [5] (by decide +kernel) (by decide +kernel)
set_option maxRecDepth 20000 in
theorem gX2_isStick_X2_isIn : GoodIn wsX2_isStick (va_wsS RX2 47 yX2_isIn wsX2_isIn) := goodIn_app (goodIn_of _ (by decide +kernel)) ggX2_isStick_X2_isIn
theorem dX2_isStick_0 : decode cX2_isStick 0 = .ok (.iload_n 1, 1) := by decide +kernel
theorem dX2_isStick_1 : decode cX2_isStick 1 = .ok (.iconst 0, 1) := by decide +kernel
theorem dX2_isStick_2 : decode cX2_isStick 2 = .ok (.aload_n 0, 1) := by decide +kernel
theorem dX2_isStick_3 : decode cX2_isStick 3 = .ok (.getfield 44, 3) := by decide +kernel
theorem dX2_isStick_6 : decode cX2_isStick 6 = .ok (.iconst 1, 1) := by decide +kernel
theorem dX2_isStick_7 : decode cX2_isStick 7 = .ok (.isub, 1) := by decide +kernel
theorem dX2_isStick_8 : decode cX2_isStick 8 = .ok (.invokestatic 47, 3) := by decide +kernel
theorem dX2_isStick_11 : decode cX2_isStick 11 = .ok (.ireturn, 1) := by decide +kernel
set_option maxRecDepth 20000 in
theorem ggX2_isSide_X2_isIn : GoodIn wsX2_isSide wsX2_isIn := goodIn_r _ [4] (by decide +kernel) (by decide +kernel)
set_option maxRecDepth 20000 in
theorem gX2_isSide_X2_isIn : GoodIn wsX2_isSide (va_wsS RX2 47 yX2_isIn wsX2_isIn) := goodIn_app (goodIn_of _ (by decide +kernel)) ggX2_isSide_X2_isIn
theorem dX2_isSide_0 : decode cX2_isSide 0 = .ok (.iload_n 0, 1) := by decide +kernel
theorem dX2_isSide_1 : decode cX2_isSide 1 = .ok (.iconst 0, 1) := by decide +kernel
theorem dX2_isSide_2 : decode cX2_isSide 2 = .ok (.iconst 2, 1) := by decide +kernel
theorem dX2_isSide_3 : decode cX2_isSide 3 = .ok (.invokestatic 47, 3) := by decide +kernel
theorem dX2_isSide_6 : decode cX2_isSide 6 = .ok (.ireturn, 1) := by decide +kernel
set_option maxRecDepth 20000 in
theorem ggX2_isRune_X2_isIn : GoodIn wsX2_isRune wsX2_isIn := goodIn_r _ [4] (by decide +kernel) (by decide +kernel)
set_option maxRecDepth 20000 in
theorem gX2_isRune_X2_isIn : GoodIn wsX2_isRune (va_wsS RX2 47 yX2_isIn wsX2_isIn) := goodIn_app (goodIn_of _ (by decide +kernel)) ggX2_isRune_X2_isIn
theorem dX2_isRune_0 : decode cX2_isRune 0 = .ok (.iload_n 0, 1) := by decide +kernel
theorem dX2_isRune_1 : decode cX2_isRune 1 = .ok (.iconst 0, 1) := by decide +kernel
theorem dX2_isRune_2 : decode cX2_isRune 2 = .ok (.bipush 23, 2) := by decide +kernel
theorem dX2_isRune_4 : decode cX2_isRune 4 = .ok (.invokestatic 47, 3) := by decide +kernel
theorem dX2_isRune_7 : decode cX2_isRune 7 = .ok (.ireturn, 1) := by decide +kernel
theorem dX2_spot_0 : decode cX2_spot 0 = .ok (.iconst 3, 1) := by decide +kernel
theorem dX2_spot_1 : decode cX2_spot 1 = .ok (.bipush 12, 2) := by decide +kernel
theorem dX2_spot_3 : decode cX2_spot 3 = .ok (.iload_n 0, 1) := by decide +kernel
theorem dX2_spot_4 : decode cX2_spot 4 = .ok (.imul, 1) := by decide +kernel
theorem dX2_spot_5 : decode cX2_spot 5 = .ok (.iload_n 1, 1) := by decide +kernel
theorem dX2_spot_6 : decode cX2_spot 6 = .ok (.iadd, 1) := by decide +kernel
theorem dX2_spot_7 : decode cX2_spot 7 = .ok (.imul, 1) := by decide +kernel
theorem dX2_spot_8 : decode cX2_spot 8 = .ok (.iload_n 2, 1) := by decide +kernel
theorem dX2_spot_9 : decode cX2_spot 9 = .ok (.iadd, 1) := by decide +kernel
theorem dX2_spot_10 : decode cX2_spot 10 = .ok (.ireturn, 1) := by decide +kernel
set_option maxRecDepth 20000 in
theorem ggX2_isSpot_X2_isStick : GoodIn wsX2_isSpot wsX2_isStick := goodIn_r _ [6, 7, 8, 9, 5, 10, 14, 15, 16, 17, 18, 19, 20, 21, 22, 23, 24, 25, 26] (by decide +kernel) (by decide +kernel)
set_option maxRecDepth 20000 in
theorem gX2_isSpot_X2_isStick : GoodIn wsX2_isSpot (wsV RX2 51 RX2 yX2_isStick wsX2_isStick) := goodIn_app (goodIn_of _ (by decide +kernel)) ggX2_isSpot_X2_isStick
set_option maxRecDepth 20000 in
theorem ggX2_isSpot_X2_isSide : GoodIn wsX2_isSpot wsX2_isSide := goodIn_r _ [13, 8, 9, 5, 10] (by decide +kernel) (by decide +kernel)
set_option maxRecDepth 20000 in
theorem gX2_isSpot_X2_isSide : GoodIn wsX2_isSpot (va_wsS RX2 55 yX2_isSide wsX2_isSide) := goodIn_app (goodIn_of _ (by decide +kernel)) ggX2_isSpot_X2_isSide
set_option maxRecDepth 20000 in
theorem ggX2_isSpot_X2_isIn : GoodIn wsX2_isSpot wsX2_isIn := goodIn_r _ [10] (by decide +kernel) (by decide +kernel)
set_option maxRecDepth 20000 in
theorem gX2_isSpot_X2_isIn : GoodIn wsX2_isSpot (va_wsS RX2 47 yX2_isIn wsX2_isIn) := goodIn_app (goodIn_of _ (by decide +kernel)) ggX2_isSpot_X2_isIn
theorem dX2_isSpot_0 : decode cX2_isSpot 0 = .ok (.aload_n 0, 1) := by decide +kernel
theorem dX2_isSpot_1 : decode cX2_isSpot 1 = .ok (.iload_n 1, 1) := by decide +kernel
theorem dX2_isSpot_2 : decode cX2_isSpot 2 = .ok (.invokevirtual 51, 3) := by decide +kernel
theorem dX2_isSpot_5 : decode cX2_isSpot 5 = .ok (.ifCond .eq 30, 3) := by decide +kernel
theorem dX2_isSpot_8 : decode cX2_isSpot 8 = .ok (.iload_n 2, 1) := by decide +kernel
theorem dX2_isSpot_9 : decode cX2_isSpot 9 = .ok (.invokestatic 55, 3) := by decide +kernel
theorem dX2_isSpot_12 : decode cX2_isSpot 12 = .ok (.ifCond .eq 23, 3) := by decide +kernel
theorem dX2_isSpot_15 : decode cX2_isSpot 15 = .ok (.iload_n 3, 1) := by decide +kernel
theorem dX2_isSpot_16 : decode cX2_isSpot 16 = .ok (.iconst 0, 1) := by decide +kernel
theorem dX2_isSpot_17 : decode cX2_isSpot 17 = .ok (.aload_n 0, 1) := by decide +kernel
theorem dX2_isSpot_18 : decode cX2_isSpot 18 = .ok (.getfield 9, 3) := by decide +kernel
theorem dX2_isSpot_21 : decode cX2_isSpot 21 = .ok (.iload_n 1, 1) := by decide +kernel
theorem dX2_isSpot_22 : decode cX2_isSpot 22 = .ok (.iaload, 1) := by decide +kernel
theorem dX2_isSpot_23 : decode cX2_isSpot 23 = .ok (.iconst 1, 1) := by decide +kernel
theorem dX2_isSpot_24 : decode cX2_isSpot 24 = .ok (.isub, 1) := by decide +kernel
theorem dX2_isSpot_25 : decode cX2_isSpot 25 = .ok (.invokestatic 47, 3) := by decide +kernel
theorem dX2_isSpot_28 : decode cX2_isSpot 28 = .ok (.ifCond .eq 7, 3) := by decide +kernel
theorem dX2_isSpot_31 : decode cX2_isSpot 31 = .ok (.iconst 1, 1) := by decide +kernel
theorem dX2_isSpot_32 : decode cX2_isSpot 32 = .ok (.goto 4, 3) := by decide +kernel
theorem dX2_isSpot_35 : decode cX2_isSpot 35 = .ok (.iconst 0, 1) := by decide +kernel
theorem dX2_isSpot_36 : decode cX2_isSpot 36 = .ok (.ireturn, 1) := by decide +kernel
theorem dX2_there_0 : decode cX2_there 0 = .ok (.iconst 0, 1) := by decide +kernel
theorem dX2_there_1 : decode cX2_there 1 = .ok (.istore_n 1, 1) := by decide +kernel
theorem dX2_there_2 : decode cX2_there 2 = .ok (.iconst 0, 1) := by decide +kernel
theorem dX2_there_3 : decode cX2_there 3 = .ok (.istore_n 2, 1) := by decide +kernel
theorem dX2_there_4 : decode cX2_there 4 = .ok (.iload_n 2, 1) := by decide +kernel
theorem dX2_there_5 : decode cX2_there 5 = .ok (.aload_n 0, 1) := by decide +kernel
theorem dX2_there_6 : decode cX2_there 6 = .ok (.getfield 44, 3) := by decide +kernel
theorem dX2_there_9 : decode cX2_there 9 = .ok (.if_icmp .ge 20, 3) := by decide +kernel
theorem dX2_there_12 : decode cX2_there 12 = .ok (.iload_n 1, 1) := by decide +kernel
theorem dX2_there_13 : decode cX2_there 13 = .ok (.iconst 1, 1) := by decide +kernel
theorem dX2_there_14 : decode cX2_there 14 = .ok (.aload_n 0, 1) := by decide +kernel
theorem dX2_there_15 : decode cX2_there 15 = .ok (.getfield 16, 3) := by decide +kernel
theorem dX2_there_18 : decode cX2_there 18 = .ok (.iload_n 2, 1) := by decide +kernel
theorem dX2_there_19 : decode cX2_there 19 = .ok (.iaload, 1) := by decide +kernel
theorem dX2_there_20 : decode cX2_there 20 = .ok (.isub, 1) := by decide +kernel
theorem dX2_there_21 : decode cX2_there 21 = .ok (.iadd, 1) := by decide +kernel
theorem dX2_there_22 : decode cX2_there 22 = .ok (.istore_n 1, 1) := by decide +kernel
theorem dX2_there_23 : decode cX2_there 23 = .ok (.iinc 2 1, 3) := by decide +kernel
theorem dX2_there_26 : decode cX2_there 26 = .ok (.goto (-22), 3) := by decide +kernel
theorem dX2_there_29 : decode cX2_there 29 = .ok (.iload_n 1, 1) := by decide +kernel
theorem dX2_there_30 : decode cX2_there 30 = .ok (.ireturn, 1) := by decide +kernel
theorem dX2_add_0 : decode cX2_add 0 = .ok (.aload_n 0, 1) := by decide +kernel
theorem dX2_add_1 : decode cX2_add 1 = .ok (.getfield 9, 3) := by decide +kernel
theorem dX2_add_4 : decode cX2_add 4 = .ok (.aload_n 0, 1) := by decide +kernel
theorem dX2_add_5 : decode cX2_add 5 = .ok (.getfield 44, 3) := by decide +kernel
theorem dX2_add_8 : decode cX2_add 8 = .ok (.iload_n 1, 1) := by decide +kernel
theorem dX2_add_9 : decode cX2_add 9 = .ok (.iastore, 1) := by decide +kernel
theorem dX2_add_10 : decode cX2_add 10 = .ok (.aload_n 0, 1) := by decide +kernel
theorem dX2_add_11 : decode cX2_add 11 = .ok (.getfield 13, 3) := by decide +kernel
theorem dX2_add_14 : decode cX2_add 14 = .ok (.aload_n 0, 1) := by decide +kernel
theorem dX2_add_15 : decode cX2_add 15 = .ok (.getfield 44, 3) := by decide +kernel
theorem dX2_add_18 : decode cX2_add 18 = .ok (.iload_n 2, 1) := by decide +kernel
theorem dX2_add_19 : decode cX2_add 19 = .ok (.iastore, 1) := by decide +kernel
theorem dX2_add_20 : decode cX2_add 20 = .ok (.aload_n 0, 1) := by decide +kernel
theorem dX2_add_21 : decode cX2_add 21 = .ok (.getfield 19, 3) := by decide +kernel
theorem dX2_add_24 : decode cX2_add 24 = .ok (.aload_n 0, 1) := by decide +kernel
theorem dX2_add_25 : decode cX2_add 25 = .ok (.getfield 44, 3) := by decide +kernel
theorem dX2_add_28 : decode cX2_add 28 = .ok (.iload_n 3, 1) := by decide +kernel
theorem dX2_add_29 : decode cX2_add 29 = .ok (.iastore, 1) := by decide +kernel
theorem dX2_add_30 : decode cX2_add 30 = .ok (.aload_n 0, 1) := by decide +kernel
theorem dX2_add_31 : decode cX2_add 31 = .ok (.getfield 22, 3) := by decide +kernel
theorem dX2_add_34 : decode cX2_add 34 = .ok (.aload_n 0, 1) := by decide +kernel
theorem dX2_add_35 : decode cX2_add 35 = .ok (.getfield 44, 3) := by decide +kernel
theorem dX2_add_38 : decode cX2_add 38 = .ok (.iload 4, 2) := by decide +kernel
theorem dX2_add_40 : decode cX2_add 40 = .ok (.iastore, 1) := by decide +kernel
theorem dX2_add_41 : decode cX2_add 41 = .ok (.iconst 0, 1) := by decide +kernel
theorem dX2_add_42 : decode cX2_add 42 = .ok (.istore 5, 2) := by decide +kernel
theorem dX2_add_44 : decode cX2_add 44 = .ok (.iload 5, 2) := by decide +kernel
theorem dX2_add_46 : decode cX2_add 46 = .ok (.bipush 12, 2) := by decide +kernel
theorem dX2_add_48 : decode cX2_add 48 = .ok (.if_icmp .ge 42, 3) := by decide +kernel
theorem dX2_add_51 : decode cX2_add 51 = .ok (.aload_n 0, 1) := by decide +kernel
theorem dX2_add_52 : decode cX2_add 52 = .ok (.getfield 28, 3) := by decide +kernel
theorem dX2_add_55 : decode cX2_add 55 = .ok (.bipush 12, 2) := by decide +kernel
theorem dX2_add_57 : decode cX2_add 57 = .ok (.aload_n 0, 1) := by decide +kernel
theorem dX2_add_58 : decode cX2_add 58 = .ok (.getfield 44, 3) := by decide +kernel
theorem dX2_add_61 : decode cX2_add 61 = .ok (.imul, 1) := by decide +kernel
theorem dX2_add_62 : decode cX2_add 62 = .ok (.iload 5, 2) := by decide +kernel
theorem dX2_add_64 : decode cX2_add 64 = .ok (.iadd, 1) := by decide +kernel
theorem dX2_add_65 : decode cX2_add 65 = .ok (.bipush 12, 2) := by decide +kernel
theorem dX2_add_67 : decode cX2_add 67 = .ok (.iastore, 1) := by decide +kernel
theorem dX2_add_68 : decode cX2_add 68 = .ok (.aload_n 0, 1) := by decide +kernel
theorem dX2_add_69 : decode cX2_add 69 = .ok (.getfield 31, 3) := by decide +kernel
theorem dX2_add_72 : decode cX2_add 72 = .ok (.bipush 12, 2) := by decide +kernel
theorem dX2_add_74 : decode cX2_add 74 = .ok (.aload_n 0, 1) := by decide +kernel
theorem dX2_add_75 : decode cX2_add 75 = .ok (.getfield 44, 3) := by decide +kernel
theorem dX2_add_78 : decode cX2_add 78 = .ok (.imul, 1) := by decide +kernel
theorem dX2_add_79 : decode cX2_add 79 = .ok (.iload 5, 2) := by decide +kernel
theorem dX2_add_81 : decode cX2_add 81 = .ok (.iadd, 1) := by decide +kernel
theorem dX2_add_82 : decode cX2_add 82 = .ok (.iconst 0, 1) := by decide +kernel
theorem dX2_add_83 : decode cX2_add 83 = .ok (.iastore, 1) := by decide +kernel
theorem dX2_add_84 : decode cX2_add 84 = .ok (.iinc 5 1, 3) := by decide +kernel
theorem dX2_add_87 : decode cX2_add 87 = .ok (.goto (-43), 3) := by decide +kernel
theorem dX2_add_90 : decode cX2_add 90 = .ok (.aload_n 0, 1) := by decide +kernel
theorem dX2_add_91 : decode cX2_add 91 = .ok (.dup, 1) := by decide +kernel
theorem dX2_add_92 : decode cX2_add 92 = .ok (.getfield 44, 3) := by decide +kernel
theorem dX2_add_95 : decode cX2_add 95 = .ok (.iconst 1, 1) := by decide +kernel
theorem dX2_add_96 : decode cX2_add 96 = .ok (.iadd, 1) := by decide +kernel
theorem dX2_add_97 : decode cX2_add 97 = .ok (.putfield 44, 3) := by decide +kernel
theorem dX2_add_100 : decode cX2_add 100 = .ok (.aload_n 0, 1) := by decide +kernel
theorem dX2_add_101 : decode cX2_add 101 = .ok (.getfield 44, 3) := by decide +kernel
theorem dX2_add_104 : decode cX2_add 104 = .ok (.iconst 1, 1) := by decide +kernel
theorem dX2_add_105 : decode cX2_add 105 = .ok (.isub, 1) := by decide +kernel
theorem dX2_add_106 : decode cX2_add 106 = .ok (.ireturn, 1) := by decide +kernel
set_option maxRecDepth 20000 in
theorem ggX2_make_X2_isIn : GoodIn wsX2_make wsX2_isIn := goodIn_r _ [6] (by decide +kernel) (by decide +kernel)
set_option maxRecDepth 20000 in
theorem gX2_make_X2_isIn : GoodIn wsX2_make (va_wsS RX2 47 yX2_isIn wsX2_isIn) := goodIn_app (goodIn_of _ (by decide +kernel)) ggX2_make_X2_isIn
set_option maxRecDepth 20000 in
theorem ggX2_make_X2_no : GoodIn wsX2_make wsX2_no := goodIn_r _ [10, 1, 26, 27, 28, 29, 30, 31, 32, 33, 34, 35, 36, 37, 38] (by decide +kernel) (by decide +kernel)
set_option maxRecDepth 20000 in
theorem gX2_make_X2_no : GoodIn wsX2_make (wsV RX2 58 RX2 yX2_no wsX2_no) := goodIn_app (goodIn_of _ (by decide +kernel)) ggX2_make_X2_no
set_option maxRecDepth 20000 in
theorem ggX2_make_X2_there : GoodIn wsX2_make wsX2_there := goodIn_r _ [14, 2, 15, 26, 27, 28, 29, 30, 31, 32, 33, 34, 35, 36, 37, 38] (by decide +kernel) (by decide +kernel)
set_option maxRecDepth 20000 in
theorem gX2_make_X2_there : GoodIn wsX2_make (wsV RX2 62 RX2 yX2_there wsX2_there) := goodIn_app (goodIn_of _ (by decide +kernel)) ggX2_make_X2_there
set_option maxRecDepth 20000 in
theorem ggX2_make_X2_add : GoodIn wsX2_make wsX2_add := goodIn_r _ [19, 20, 2, 21, 22, 23, 24, 25, 26, 27, 28, 29, 30, 31, 32, 33, 34, 35, 36, 37, 38] (by decide +kernel) (by decide +kernel)
set_option maxRecDepth 20000 in
theorem gX2_make_X2_add : GoodIn wsX2_make (wsV RX2 66 RX2 yX2_add wsX2_add) := goodIn_app (goodIn_of _ (by decide +kernel)) ggX2_make_X2_add
theorem dX2_make_0 : decode cX2_make 0 = .ok (.aload_n 0, 1) := by decide +kernel
theorem dX2_make_1 : decode cX2_make 1 = .ok (.iconst 0, 1) := by decide +kernel
theorem dX2_make_2 : decode cX2_make 2 = .ok (.putfield 40, 3) := by decide +kernel
theorem dX2_make_5 : decode cX2_make 5 = .ok (.iload_n 1, 1) := by decide +kernel
theorem dX2_make_6 : decode cX2_make 6 = .ok (.iconst 1, 1) := by decide +kernel
theorem dX2_make_7 : decode cX2_make 7 = .ok (.bipush 12, 2) := by decide +kernel
theorem dX2_make_9 : decode cX2_make 9 = .ok (.invokestatic 47, 3) := by decide +kernel
theorem dX2_make_12 : decode cX2_make 12 = .ok (.ifCond .ne 9, 3) := by decide +kernel
theorem dX2_make_15 : decode cX2_make 15 = .ok (.aload_n 0, 1) := by decide +kernel
theorem dX2_make_16 : decode cX2_make 16 = .ok (.iconst 1, 1) := by decide +kernel
theorem dX2_make_17 : decode cX2_make 17 = .ok (.invokevirtual 58, 3) := by decide +kernel
theorem dX2_make_20 : decode cX2_make 20 = .ok (.ireturn, 1) := by decide +kernel
theorem dX2_make_21 : decode cX2_make 21 = .ok (.aload_n 0, 1) := by decide +kernel
theorem dX2_make_22 : decode cX2_make 22 = .ok (.invokevirtual 62, 3) := by decide +kernel
theorem dX2_make_25 : decode cX2_make 25 = .ok (.bipush 12, 2) := by decide +kernel
theorem dX2_make_27 : decode cX2_make 27 = .ok (.if_icmp .eq 12, 3) := by decide +kernel
theorem dX2_make_30 : decode cX2_make 30 = .ok (.aload_n 0, 1) := by decide +kernel
theorem dX2_make_31 : decode cX2_make 31 = .ok (.getfield 44, 3) := by decide +kernel
theorem dX2_make_34 : decode cX2_make 34 = .ok (.bipush 40, 2) := by decide +kernel
theorem dX2_make_36 : decode cX2_make 36 = .ok (.if_icmp .ne 11, 3) := by decide +kernel
theorem dX2_make_39 : decode cX2_make 39 = .ok (.aload_n 0, 1) := by decide +kernel
theorem dX2_make_40 : decode cX2_make 40 = .ok (.iconst 2, 1) := by decide +kernel
theorem dX2_make_41 : decode cX2_make 41 = .ok (.invokevirtual 58, 3) := by decide +kernel
theorem dX2_make_44 : decode cX2_make 44 = .ok (.goto 11, 3) := by decide +kernel
theorem dX2_make_47 : decode cX2_make 47 = .ok (.aload_n 0, 1) := by decide +kernel
theorem dX2_make_48 : decode cX2_make 48 = .ok (.iload_n 1, 1) := by decide +kernel
theorem dX2_make_49 : decode cX2_make 49 = .ok (.iconst 0, 1) := by decide +kernel
theorem dX2_make_50 : decode cX2_make 50 = .ok (.iconst (-1), 1) := by decide +kernel
theorem dX2_make_51 : decode cX2_make 51 = .ok (.iconst (-1), 1) := by decide +kernel
theorem dX2_make_52 : decode cX2_make 52 = .ok (.invokevirtual 66, 3) := by decide +kernel
theorem dX2_make_55 : decode cX2_make 55 = .ok (.ireturn, 1) := by decide +kernel
set_option maxRecDepth 20000 in
theorem ggX2_carve_X2_isSpot : GoodIn wsX2_carve wsX2_isSpot := goodIn_r _ [8, 9, 10, 11, 12, 7, 13, 14, 15, 16, 17, 18, 19, 20, 31, 32, 33, 34, 35, 36, 37, 38, 39, 40, 41, 42, 43] (by decide +kernel) (by decide +kernel)
set_option maxRecDepth 20000 in
theorem gX2_carve_X2_isSpot : GoodIn wsX2_carve (wsV RX2 70 RX2 yX2_isSpot wsX2_isSpot) := goodIn_app (goodIn_of _ (by decide +kernel)) ggX2_carve_X2_isSpot
set_option maxRecDepth 20000 in
theorem ggX2_carve_X2_no : GoodIn wsX2_carve wsX2_no := goodIn_r _ [24, 1, 31, 32, 33, 34, 35, 36, 37, 38, 39, 40, 41, 42, 43] (by decide +kernel) (by decide +kernel)
set_option maxRecDepth 20000 in
theorem gX2_carve_X2_no : GoodIn wsX2_carve (wsV RX2 58 RX2 yX2_no wsX2_no) := goodIn_app (goodIn_of _ (by decide +kernel)) ggX2_carve_X2_no
set_option maxRecDepth 20000 in
theorem ggX2_carve_X2_isRune : GoodIn wsX2_carve wsX2_isRune := goodIn_r _ [27, 15, 16, 7, 17] (by decide +kernel) (by decide +kernel)
set_option maxRecDepth 20000 in
theorem gX2_carve_X2_isRune : GoodIn wsX2_carve (va_wsS RX2 73 yX2_isRune wsX2_isRune) := goodIn_app (goodIn_of _ (by decide +kernel)) ggX2_carve_X2_isRune
set_option maxRecDepth 20000 in
theorem ggX2_carve_X2_spot : GoodIn wsX2_carve wsX2_spot := goodIn_r _ [30] (by decide +kernel) (by decide +kernel)
set_option maxRecDepth 20000 in
theorem gX2_carve_X2_spot : GoodIn wsX2_carve (va_wsS RX2 76 yX2_spot wsX2_spot) := goodIn_app (goodIn_of _ (by decide +kernel)) ggX2_carve_X2_spot
theorem dX2_carve_0 : decode cX2_carve 0 = .ok (.aload_n 0, 1) := by decide +kernel
theorem dX2_carve_1 : decode cX2_carve 1 = .ok (.iconst 0, 1) := by decide +kernel
theorem dX2_carve_2 : decode cX2_carve 2 = .ok (.putfield 40, 3) := by decide +kernel
theorem dX2_carve_5 : decode cX2_carve 5 = .ok (.aload_n 0, 1) := by decide +kernel
theorem dX2_carve_6 : decode cX2_carve 6 = .ok (.iload_n 1, 1) := by decide +kernel
theorem dX2_carve_7 : decode cX2_carve 7 = .ok (.iload_n 2, 1) := by decide +kernel
theorem dX2_carve_8 : decode cX2_carve 8 = .ok (.iload_n 3, 1) := by decide +kernel
theorem dX2_carve_9 : decode cX2_carve 9 = .ok (.invokevirtual 70, 3) := by decide +kernel
theorem dX2_carve_12 : decode cX2_carve 12 = .ok (.ifCond .ne 9, 3) := by decide +kernel
theorem dX2_carve_15 : decode cX2_carve 15 = .ok (.aload_n 0, 1) := by decide +kernel
theorem dX2_carve_16 : decode cX2_carve 16 = .ok (.iconst 1, 1) := by decide +kernel
theorem dX2_carve_17 : decode cX2_carve 17 = .ok (.invokevirtual 58, 3) := by decide +kernel
theorem dX2_carve_20 : decode cX2_carve 20 = .ok (.ireturn, 1) := by decide +kernel
theorem dX2_carve_21 : decode cX2_carve 21 = .ok (.iload 4, 2) := by decide +kernel
theorem dX2_carve_23 : decode cX2_carve 23 = .ok (.invokestatic 73, 3) := by decide +kernel
theorem dX2_carve_26 : decode cX2_carve 26 = .ok (.ifCond .ne 9, 3) := by decide +kernel
theorem dX2_carve_29 : decode cX2_carve 29 = .ok (.aload_n 0, 1) := by decide +kernel
theorem dX2_carve_30 : decode cX2_carve 30 = .ok (.iconst 2, 1) := by decide +kernel
theorem dX2_carve_31 : decode cX2_carve 31 = .ok (.invokevirtual 58, 3) := by decide +kernel
theorem dX2_carve_34 : decode cX2_carve 34 = .ok (.ireturn, 1) := by decide +kernel
theorem dX2_carve_35 : decode cX2_carve 35 = .ok (.aload_n 0, 1) := by decide +kernel
theorem dX2_carve_36 : decode cX2_carve 36 = .ok (.getfield 16, 3) := by decide +kernel
theorem dX2_carve_39 : decode cX2_carve 39 = .ok (.iload_n 1, 1) := by decide +kernel
theorem dX2_carve_40 : decode cX2_carve 40 = .ok (.iaload, 1) := by decide +kernel
theorem dX2_carve_41 : decode cX2_carve 41 = .ok (.iconst 1, 1) := by decide +kernel
theorem dX2_carve_42 : decode cX2_carve 42 = .ok (.if_icmp .ne 9, 3) := by decide +kernel
theorem dX2_carve_45 : decode cX2_carve 45 = .ok (.aload_n 0, 1) := by decide +kernel
theorem dX2_carve_46 : decode cX2_carve 46 = .ok (.iconst 3, 1) := by decide +kernel
theorem dX2_carve_47 : decode cX2_carve 47 = .ok (.invokevirtual 58, 3) := by decide +kernel
theorem dX2_carve_50 : decode cX2_carve 50 = .ok (.ireturn, 1) := by decide +kernel
theorem dX2_carve_51 : decode cX2_carve 51 = .ok (.iload_n 1, 1) := by decide +kernel
theorem dX2_carve_52 : decode cX2_carve 52 = .ok (.iload_n 3, 1) := by decide +kernel
theorem dX2_carve_53 : decode cX2_carve 53 = .ok (.iload_n 2, 1) := by decide +kernel
theorem dX2_carve_54 : decode cX2_carve 54 = .ok (.invokestatic 76, 3) := by decide +kernel
theorem dX2_carve_57 : decode cX2_carve 57 = .ok (.istore 5, 2) := by decide +kernel
theorem dX2_carve_59 : decode cX2_carve 59 = .ok (.aload_n 0, 1) := by decide +kernel
theorem dX2_carve_60 : decode cX2_carve 60 = .ok (.getfield 25, 3) := by decide +kernel
theorem dX2_carve_63 : decode cX2_carve 63 = .ok (.iload 5, 2) := by decide +kernel
theorem dX2_carve_65 : decode cX2_carve 65 = .ok (.iaload, 1) := by decide +kernel
theorem dX2_carve_66 : decode cX2_carve 66 = .ok (.iconst 1, 1) := by decide +kernel
theorem dX2_carve_67 : decode cX2_carve 67 = .ok (.isub, 1) := by decide +kernel
theorem dX2_carve_68 : decode cX2_carve 68 = .ok (.istore 6, 2) := by decide +kernel
theorem dX2_carve_70 : decode cX2_carve 70 = .ok (.aload_n 0, 1) := by decide +kernel
theorem dX2_carve_71 : decode cX2_carve 71 = .ok (.getfield 25, 3) := by decide +kernel
theorem dX2_carve_74 : decode cX2_carve 74 = .ok (.iload 5, 2) := by decide +kernel
theorem dX2_carve_76 : decode cX2_carve 76 = .ok (.iload 4, 2) := by decide +kernel
theorem dX2_carve_78 : decode cX2_carve 78 = .ok (.iconst 1, 1) := by decide +kernel
theorem dX2_carve_79 : decode cX2_carve 79 = .ok (.iadd, 1) := by decide +kernel
theorem dX2_carve_80 : decode cX2_carve 80 = .ok (.iastore, 1) := by decide +kernel
theorem dX2_carve_81 : decode cX2_carve 81 = .ok (.iload 6, 2) := by decide +kernel
theorem dX2_carve_83 : decode cX2_carve 83 = .ok (.ireturn, 1) := by decide +kernel
set_option maxRecDepth 20000 in
theorem ggX2_scrape_X2_isSpot : GoodIn wsX2_scrape wsX2_isSpot := goodIn_r _ [8, 9, 10, 11, 12, 7, 13, 14, 15, 16, 17, 18, 19, 20, 28, 29, 30, 31, 32, 33, 34, 35, 36, 37, 38, 39, 40] (by decide +kernel) (by decide +kernel)
set_option maxRecDepth 20000 in
theorem gX2_scrape_X2_isSpot : GoodIn wsX2_scrape (wsV RX2 70 RX2 yX2_isSpot wsX2_isSpot) := goodIn_app (goodIn_of _ (by decide +kernel)) ggX2_scrape_X2_isSpot
set_option maxRecDepth 20000 in
theorem ggX2_scrape_X2_no : GoodIn wsX2_scrape wsX2_no := goodIn_r _ [24, 1, 28, 29, 30, 31, 32, 33, 34, 35, 36, 37, 38, 39, 40] (by decide +kernel) (by decide +kernel)
set_option maxRecDepth 20000 in
theorem gX2_scrape_X2_no : GoodIn wsX2_scrape (wsV RX2 58 RX2 yX2_no wsX2_no) := goodIn_app (goodIn_of _ (by decide +kernel)) ggX2_scrape_X2_no
set_option maxRecDepth 20000 in
theorem ggX2_scrape_X2_spot : GoodIn wsX2_scrape wsX2_spot := goodIn_r _ [27] (by decide +kernel) (by decide +kernel)
set_option maxRecDepth 20000 in
theorem gX2_scrape_X2_spot : GoodIn wsX2_scrape (va_wsS RX2 76 yX2_spot wsX2_spot) := goodIn_app (goodIn_of _ (by decide +kernel)) ggX2_scrape_X2_spot
theorem dX2_scrape_0 : decode cX2_scrape 0 = .ok (.aload_n 0, 1) := by decide +kernel
theorem dX2_scrape_1 : decode cX2_scrape 1 = .ok (.iconst 0, 1) := by decide +kernel
theorem dX2_scrape_2 : decode cX2_scrape 2 = .ok (.putfield 40, 3) := by decide +kernel
theorem dX2_scrape_5 : decode cX2_scrape 5 = .ok (.aload_n 0, 1) := by decide +kernel
theorem dX2_scrape_6 : decode cX2_scrape 6 = .ok (.iload_n 1, 1) := by decide +kernel
theorem dX2_scrape_7 : decode cX2_scrape 7 = .ok (.iload_n 2, 1) := by decide +kernel
theorem dX2_scrape_8 : decode cX2_scrape 8 = .ok (.iload_n 3, 1) := by decide +kernel
theorem dX2_scrape_9 : decode cX2_scrape 9 = .ok (.invokevirtual 70, 3) := by decide +kernel
theorem dX2_scrape_12 : decode cX2_scrape 12 = .ok (.ifCond .ne 9, 3) := by decide +kernel
theorem dX2_scrape_15 : decode cX2_scrape 15 = .ok (.aload_n 0, 1) := by decide +kernel
theorem dX2_scrape_16 : decode cX2_scrape 16 = .ok (.iconst 1, 1) := by decide +kernel
theorem dX2_scrape_17 : decode cX2_scrape 17 = .ok (.invokevirtual 58, 3) := by decide +kernel
theorem dX2_scrape_20 : decode cX2_scrape 20 = .ok (.ireturn, 1) := by decide +kernel
theorem dX2_scrape_21 : decode cX2_scrape 21 = .ok (.iload_n 1, 1) := by decide +kernel
theorem dX2_scrape_22 : decode cX2_scrape 22 = .ok (.iload_n 3, 1) := by decide +kernel
theorem dX2_scrape_23 : decode cX2_scrape 23 = .ok (.iload_n 2, 1) := by decide +kernel
theorem dX2_scrape_24 : decode cX2_scrape 24 = .ok (.invokestatic 76, 3) := by decide +kernel
theorem dX2_scrape_27 : decode cX2_scrape 27 = .ok (.istore 4, 2) := by decide +kernel
theorem dX2_scrape_29 : decode cX2_scrape 29 = .ok (.aload_n 0, 1) := by decide +kernel
theorem dX2_scrape_30 : decode cX2_scrape 30 = .ok (.getfield 16, 3) := by decide +kernel
theorem dX2_scrape_33 : decode cX2_scrape 33 = .ok (.iload_n 1, 1) := by decide +kernel
theorem dX2_scrape_34 : decode cX2_scrape 34 = .ok (.iaload, 1) := by decide +kernel
theorem dX2_scrape_35 : decode cX2_scrape 35 = .ok (.iconst 1, 1) := by decide +kernel
theorem dX2_scrape_36 : decode cX2_scrape 36 = .ok (.if_icmp .eq 13, 3) := by decide +kernel
theorem dX2_scrape_39 : decode cX2_scrape 39 = .ok (.aload_n 0, 1) := by decide +kernel
theorem dX2_scrape_40 : decode cX2_scrape 40 = .ok (.getfield 25, 3) := by decide +kernel
theorem dX2_scrape_43 : decode cX2_scrape 43 = .ok (.iload 4, 2) := by decide +kernel
theorem dX2_scrape_45 : decode cX2_scrape 45 = .ok (.iaload, 1) := by decide +kernel
theorem dX2_scrape_46 : decode cX2_scrape 46 = .ok (.ifCond .ne 9, 3) := by decide +kernel
theorem dX2_scrape_49 : decode cX2_scrape 49 = .ok (.aload_n 0, 1) := by decide +kernel
theorem dX2_scrape_50 : decode cX2_scrape 50 = .ok (.iconst 2, 1) := by decide +kernel
theorem dX2_scrape_51 : decode cX2_scrape 51 = .ok (.invokevirtual 58, 3) := by decide +kernel
theorem dX2_scrape_54 : decode cX2_scrape 54 = .ok (.ireturn, 1) := by decide +kernel
theorem dX2_scrape_55 : decode cX2_scrape 55 = .ok (.aload_n 0, 1) := by decide +kernel
theorem dX2_scrape_56 : decode cX2_scrape 56 = .ok (.getfield 25, 3) := by decide +kernel
theorem dX2_scrape_59 : decode cX2_scrape 59 = .ok (.iload 4, 2) := by decide +kernel
theorem dX2_scrape_61 : decode cX2_scrape 61 = .ok (.iaload, 1) := by decide +kernel
theorem dX2_scrape_62 : decode cX2_scrape 62 = .ok (.iconst 1, 1) := by decide +kernel
theorem dX2_scrape_63 : decode cX2_scrape 63 = .ok (.isub, 1) := by decide +kernel
theorem dX2_scrape_64 : decode cX2_scrape 64 = .ok (.istore 5, 2) := by decide +kernel
theorem dX2_scrape_66 : decode cX2_scrape 66 = .ok (.aload_n 0, 1) := by decide +kernel
theorem dX2_scrape_67 : decode cX2_scrape 67 = .ok (.getfield 25, 3) := by decide +kernel
theorem dX2_scrape_70 : decode cX2_scrape 70 = .ok (.iload 4, 2) := by decide +kernel
theorem dX2_scrape_72 : decode cX2_scrape 72 = .ok (.iconst 0, 1) := by decide +kernel
theorem dX2_scrape_73 : decode cX2_scrape 73 = .ok (.iastore, 1) := by decide +kernel
theorem dX2_scrape_74 : decode cX2_scrape 74 = .ok (.iload 5, 2) := by decide +kernel
theorem dX2_scrape_76 : decode cX2_scrape 76 = .ok (.ireturn, 1) := by decide +kernel
set_option maxRecDepth 20000 in
theorem ggX2_roll_X2_isStick : GoodIn wsX2_roll wsX2_isStick := goodIn_r _ [8, 9, 10, 11, 7, 12, 17, 18, 19, 20, 21, 22, 23, 24, 25, 26, 27, 28, 29] (by decide +kernel) (by decide +kernel)
set_option maxRecDepth 20000 in
theorem gX2_roll_X2_isStick : GoodIn wsX2_roll (wsV RX2 51 RX2 yX2_isStick wsX2_isStick) := goodIn_app (goodIn_of _ (by decide +kernel)) ggX2_roll_X2_isStick
set_option maxRecDepth 20000 in
theorem ggX2_roll_X2_no : GoodIn wsX2_roll wsX2_no := goodIn_r _ [16, 1, 17, 18, 19, 20, 21, 22, 23, 24, 25, 26, 27, 28, 29] (by decide +kernel) (by decide +kernel)
set_option maxRecDepth 20000 in
theorem gX2_roll_X2_no : GoodIn wsX2_roll (wsV RX2 58 RX2 yX2_no wsX2_no) := goodIn_app (goodIn_of _ (by decide +kernel)) ggX2_roll_X2_no
set_option maxRecDepth 20000 in
theorem ggX2_roll_X2_isIn : GoodIn wsX2_roll wsX2_isIn := goodIn_r _ [12] (by decide +kernel) (by decide +kernel)
set_option maxRecDepth 20000 in
theorem gX2_roll_X2_isIn : GoodIn wsX2_roll (va_wsS RX2 47 yX2_isIn wsX2_isIn) := goodIn_app (goodIn_of _ (by decide +kernel)) ggX2_roll_X2_isIn
theorem dX2_roll_0 : decode cX2_roll 0 = .ok (.aload_n 0, 1) := by decide +kernel
theorem dX2_roll_1 : decode cX2_roll 1 = .ok (.iconst 0, 1) := by decide +kernel
theorem dX2_roll_2 : decode cX2_roll 2 = .ok (.putfield 40, 3) := by decide +kernel
theorem dX2_roll_5 : decode cX2_roll 5 = .ok (.aload_n 0, 1) := by decide +kernel
theorem dX2_roll_6 : decode cX2_roll 6 = .ok (.iload_n 1, 1) := by decide +kernel
theorem dX2_roll_7 : decode cX2_roll 7 = .ok (.invokevirtual 51, 3) := by decide +kernel
theorem dX2_roll_10 : decode cX2_roll 10 = .ok (.ifCond .ne 9, 3) := by decide +kernel
theorem dX2_roll_13 : decode cX2_roll 13 = .ok (.aload_n 0, 1) := by decide +kernel
theorem dX2_roll_14 : decode cX2_roll 14 = .ok (.iconst 1, 1) := by decide +kernel
theorem dX2_roll_15 : decode cX2_roll 15 = .ok (.invokevirtual 58, 3) := by decide +kernel
theorem dX2_roll_18 : decode cX2_roll 18 = .ok (.ireturn, 1) := by decide +kernel
theorem dX2_roll_19 : decode cX2_roll 19 = .ok (.iload_n 2, 1) := by decide +kernel
theorem dX2_roll_20 : decode cX2_roll 20 = .ok (.iconst 0, 1) := by decide +kernel
theorem dX2_roll_21 : decode cX2_roll 21 = .ok (.iconst 2, 1) := by decide +kernel
theorem dX2_roll_22 : decode cX2_roll 22 = .ok (.invokestatic 47, 3) := by decide +kernel
theorem dX2_roll_25 : decode cX2_roll 25 = .ok (.ifCond .ne 9, 3) := by decide +kernel
theorem dX2_roll_28 : decode cX2_roll 28 = .ok (.aload_n 0, 1) := by decide +kernel
theorem dX2_roll_29 : decode cX2_roll 29 = .ok (.iconst 2, 1) := by decide +kernel
theorem dX2_roll_30 : decode cX2_roll 30 = .ok (.invokevirtual 58, 3) := by decide +kernel
theorem dX2_roll_33 : decode cX2_roll 33 = .ok (.ireturn, 1) := by decide +kernel
theorem dX2_roll_34 : decode cX2_roll 34 = .ok (.aload_n 0, 1) := by decide +kernel
theorem dX2_roll_35 : decode cX2_roll 35 = .ok (.getfield 16, 3) := by decide +kernel
theorem dX2_roll_38 : decode cX2_roll 38 = .ok (.iload_n 1, 1) := by decide +kernel
theorem dX2_roll_39 : decode cX2_roll 39 = .ok (.iaload, 1) := by decide +kernel
theorem dX2_roll_40 : decode cX2_roll 40 = .ok (.iconst 1, 1) := by decide +kernel
theorem dX2_roll_41 : decode cX2_roll 41 = .ok (.if_icmp .ne 9, 3) := by decide +kernel
theorem dX2_roll_44 : decode cX2_roll 44 = .ok (.aload_n 0, 1) := by decide +kernel
theorem dX2_roll_45 : decode cX2_roll 45 = .ok (.iconst 3, 1) := by decide +kernel
theorem dX2_roll_46 : decode cX2_roll 46 = .ok (.invokevirtual 58, 3) := by decide +kernel
theorem dX2_roll_49 : decode cX2_roll 49 = .ok (.ireturn, 1) := by decide +kernel
theorem dX2_roll_50 : decode cX2_roll 50 = .ok (.aload_n 0, 1) := by decide +kernel
theorem dX2_roll_51 : decode cX2_roll 51 = .ok (.getfield 13, 3) := by decide +kernel
theorem dX2_roll_54 : decode cX2_roll 54 = .ok (.iload_n 1, 1) := by decide +kernel
theorem dX2_roll_55 : decode cX2_roll 55 = .ok (.aload_n 0, 1) := by decide +kernel
theorem dX2_roll_56 : decode cX2_roll 56 = .ok (.getfield 13, 3) := by decide +kernel
theorem dX2_roll_59 : decode cX2_roll 59 = .ok (.iload_n 1, 1) := by decide +kernel
theorem dX2_roll_60 : decode cX2_roll 60 = .ok (.iaload, 1) := by decide +kernel
theorem dX2_roll_61 : decode cX2_roll 61 = .ok (.iload_n 2, 1) := by decide +kernel
theorem dX2_roll_62 : decode cX2_roll 62 = .ok (.iadd, 1) := by decide +kernel
theorem dX2_roll_63 : decode cX2_roll 63 = .ok (.iconst 3, 1) := by decide +kernel
theorem dX2_roll_64 : decode cX2_roll 64 = .ok (.irem, 1) := by decide +kernel
theorem dX2_roll_65 : decode cX2_roll 65 = .ok (.iastore, 1) := by decide +kernel
theorem dX2_roll_66 : decode cX2_roll 66 = .ok (.aload_n 0, 1) := by decide +kernel
theorem dX2_roll_67 : decode cX2_roll 67 = .ok (.getfield 13, 3) := by decide +kernel
theorem dX2_roll_70 : decode cX2_roll 70 = .ok (.iload_n 1, 1) := by decide +kernel
theorem dX2_roll_71 : decode cX2_roll 71 = .ok (.iaload, 1) := by decide +kernel
theorem dX2_roll_72 : decode cX2_roll 72 = .ok (.ireturn, 1) := by decide +kernel
set_option maxRecDepth 20000 in
theorem ggX2_runesAt_X2_spot : GoodIn wsX2_runesAt wsX2_spot := goodIn_r _ [5] (by decide +kernel) (by decide +kernel)
set_option maxRecDepth 20000 in
theorem gX2_runesAt_X2_spot : GoodIn wsX2_runesAt (va_wsS RX2 76 yX2_spot wsX2_spot) := goodIn_app (goodIn_of _ (by decide +kernel)) ggX2_runesAt_X2_spot
theorem dX2_runesAt_0 : decode cX2_runesAt 0 = .ok (.iconst 0, 1) := by decide +kernel
theorem dX2_runesAt_1 : decode cX2_runesAt 1 = .ok (.istore_n 3, 1) := by decide +kernel
theorem dX2_runesAt_2 : decode cX2_runesAt 2 = .ok (.iconst 0, 1) := by decide +kernel
theorem dX2_runesAt_3 : decode cX2_runesAt 3 = .ok (.istore 4, 2) := by decide +kernel
theorem dX2_runesAt_5 : decode cX2_runesAt 5 = .ok (.iload 4, 2) := by decide +kernel
theorem dX2_runesAt_7 : decode cX2_runesAt 7 = .ok (.iconst 3, 1) := by decide +kernel
theorem dX2_runesAt_8 : decode cX2_runesAt 8 = .ok (.if_icmp .ge 32, 3) := by decide +kernel
theorem dX2_runesAt_11 : decode cX2_runesAt 11 = .ok (.iload_n 3, 1) := by decide +kernel
theorem dX2_runesAt_12 : decode cX2_runesAt 12 = .ok (.aload_n 0, 1) := by decide +kernel
theorem dX2_runesAt_13 : decode cX2_runesAt 13 = .ok (.getfield 25, 3) := by decide +kernel
theorem dX2_runesAt_16 : decode cX2_runesAt 16 = .ok (.iload_n 1, 1) := by decide +kernel
theorem dX2_runesAt_17 : decode cX2_runesAt 17 = .ok (.iload_n 2, 1) := by decide +kernel
theorem dX2_runesAt_18 : decode cX2_runesAt 18 = .ok (.iload 4, 2) := by decide +kernel
theorem dX2_runesAt_20 : decode cX2_runesAt 20 = .ok (.invokestatic 76, 3) := by decide +kernel
theorem dX2_runesAt_23 : decode cX2_runesAt 23 = .ok (.iaload, 1) := by decide +kernel
theorem dX2_runesAt_24 : decode cX2_runesAt 24 = .ok (.ifCond .le 7, 3) := by decide +kernel
theorem dX2_runesAt_27 : decode cX2_runesAt 27 = .ok (.iconst 1, 1) := by decide +kernel
theorem dX2_runesAt_28 : decode cX2_runesAt 28 = .ok (.goto 4, 3) := by decide +kernel
theorem dX2_runesAt_31 : decode cX2_runesAt 31 = .ok (.iconst 0, 1) := by decide +kernel
theorem dX2_runesAt_32 : decode cX2_runesAt 32 = .ok (.iadd, 1) := by decide +kernel
theorem dX2_runesAt_33 : decode cX2_runesAt 33 = .ok (.istore_n 3, 1) := by decide +kernel
theorem dX2_runesAt_34 : decode cX2_runesAt 34 = .ok (.iinc 4 1, 3) := by decide +kernel
theorem dX2_runesAt_37 : decode cX2_runesAt 37 = .ok (.goto (-32), 3) := by decide +kernel
theorem dX2_runesAt_40 : decode cX2_runesAt 40 = .ok (.iload_n 3, 1) := by decide +kernel
theorem dX2_runesAt_41 : decode cX2_runesAt 41 = .ok (.ireturn, 1) := by decide +kernel
set_option maxRecDepth 20000 in
theorem ggX2_strong_X2_runesAt : GoodIn wsX2_strong wsX2_runesAt := goodIn_r _ [10, 11, 12, 13, 9, 14, 15, 16, 17, 18, 19, 20, 21, 22, 23, 24, 25, 26, 27] (by decide +kernel) (by decide +kernel)
set_option maxRecDepth 20000 in
theorem gX2_strong_X2_runesAt : GoodIn wsX2_strong (wsV RX2 80 RX2 yX2_runesAt wsX2_runesAt) := goodIn_app (goodIn_of _ (by decide +kernel)) ggX2_strong_X2_runesAt
theorem dX2_strong_0 : decode cX2_strong 0 = .ok (.iconst 0, 1) := by decide +kernel
theorem dX2_strong_1 : decode cX2_strong 1 = .ok (.aload_n 0, 1) := by decide +kernel
theorem dX2_strong_2 : decode cX2_strong 2 = .ok (.getfield 28, 3) := by decide +kernel
theorem dX2_strong_5 : decode cX2_strong 5 = .ok (.bipush 12, 2) := by decide +kernel
theorem dX2_strong_7 : decode cX2_strong 7 = .ok (.iload_n 1, 1) := by decide +kernel
theorem dX2_strong_8 : decode cX2_strong 8 = .ok (.imul, 1) := by decide +kernel
theorem dX2_strong_9 : decode cX2_strong 9 = .ok (.iload_n 2, 1) := by decide +kernel
theorem dX2_strong_10 : decode cX2_strong 10 = .ok (.iadd, 1) := by decide +kernel
theorem dX2_strong_11 : decode cX2_strong 11 = .ok (.iaload, 1) := by decide +kernel
theorem dX2_strong_12 : decode cX2_strong 12 = .ok (.aload_n 0, 1) := by decide +kernel
theorem dX2_strong_13 : decode cX2_strong 13 = .ok (.iload_n 1, 1) := by decide +kernel
theorem dX2_strong_14 : decode cX2_strong 14 = .ok (.iload_n 2, 1) := by decide +kernel
theorem dX2_strong_15 : decode cX2_strong 15 = .ok (.invokevirtual 80, 3) := by decide +kernel
theorem dX2_strong_18 : decode cX2_strong 18 = .ok (.isub, 1) := by decide +kernel
theorem dX2_strong_19 : decode cX2_strong 19 = .ok (.aload_n 0, 1) := by decide +kernel
theorem dX2_strong_20 : decode cX2_strong 20 = .ok (.iload_n 1, 1) := by decide +kernel
theorem dX2_strong_21 : decode cX2_strong 21 = .ok (.iload_n 2, 1) := by decide +kernel
theorem dX2_strong_22 : decode cX2_strong 22 = .ok (.iconst 1, 1) := by decide +kernel
theorem dX2_strong_23 : decode cX2_strong 23 = .ok (.iadd, 1) := by decide +kernel
theorem dX2_strong_24 : decode cX2_strong 24 = .ok (.invokevirtual 80, 3) := by decide +kernel
theorem dX2_strong_27 : decode cX2_strong 27 = .ok (.isub, 1) := by decide +kernel
theorem dX2_strong_28 : decode cX2_strong 28 = .ok (.invokestatic 84, 3) := by decide +kernel
theorem dX2_strong_31 : decode cX2_strong 31 = .ok (.ireturn, 1) := by decide +kernel
set_option maxRecDepth 20000 in
theorem ggX2_weakest_X2_strong : GoodIn wsX2_weakest wsX2_strong := goodIn_r _ [6, 7, 8, 9, 10, 11, 12, 13, 14, 5, 15, 16, 17, 18, 19, 20, 21, 22, 23, 24, 25, 26, 27, 28, 29, 30, 31, 32] (by decide +kernel) (by decide +kernel)
set_option maxRecDepth 20000 in
theorem gX2_weakest_X2_strong : GoodIn wsX2_weakest (wsV RX2 89 RX2 yX2_strong wsX2_strong) := goodIn_app (goodIn_of _ (by decide +kernel)) ggX2_weakest_X2_strong
theorem dX2_weakest_0 : decode cX2_weakest 0 = .ok (.iconst (-1), 1) := by decide +kernel
theorem dX2_weakest_1 : decode cX2_weakest 1 = .ok (.istore_n 2, 1) := by decide +kernel
theorem dX2_weakest_2 : decode cX2_weakest 2 = .ok (.iconst 0, 1) := by decide +kernel
theorem dX2_weakest_3 : decode cX2_weakest 3 = .ok (.istore_n 3, 1) := by decide +kernel
theorem dX2_weakest_4 : decode cX2_weakest 4 = .ok (.iload_n 3, 1) := by decide +kernel
theorem dX2_weakest_5 : decode cX2_weakest 5 = .ok (.aload_n 0, 1) := by decide +kernel
theorem dX2_weakest_6 : decode cX2_weakest 6 = .ok (.getfield 9, 3) := by decide +kernel
theorem dX2_weakest_9 : decode cX2_weakest 9 = .ok (.iload_n 1, 1) := by decide +kernel
theorem dX2_weakest_10 : decode cX2_weakest 10 = .ok (.iaload, 1) := by decide +kernel
theorem dX2_weakest_11 : decode cX2_weakest 11 = .ok (.iconst 1, 1) := by decide +kernel
theorem dX2_weakest_12 : decode cX2_weakest 12 = .ok (.isub, 1) := by decide +kernel
theorem dX2_weakest_13 : decode cX2_weakest 13 = .ok (.if_icmp .ge 31, 3) := by decide +kernel
theorem dX2_weakest_16 : decode cX2_weakest 16 = .ok (.iload_n 2, 1) := by decide +kernel
theorem dX2_weakest_17 : decode cX2_weakest 17 = .ok (.iconst (-1), 1) := by decide +kernel
theorem dX2_weakest_18 : decode cX2_weakest 18 = .ok (.if_icmp .eq 18, 3) := by decide +kernel
theorem dX2_weakest_21 : decode cX2_weakest 21 = .ok (.aload_n 0, 1) := by decide +kernel
theorem dX2_weakest_22 : decode cX2_weakest 22 = .ok (.iload_n 1, 1) := by decide +kernel
theorem dX2_weakest_23 : decode cX2_weakest 23 = .ok (.iload_n 3, 1) := by decide +kernel
theorem dX2_weakest_24 : decode cX2_weakest 24 = .ok (.invokevirtual 89, 3) := by decide +kernel
theorem dX2_weakest_27 : decode cX2_weakest 27 = .ok (.aload_n 0, 1) := by decide +kernel
theorem dX2_weakest_28 : decode cX2_weakest 28 = .ok (.iload_n 1, 1) := by decide +kernel
theorem dX2_weakest_29 : decode cX2_weakest 29 = .ok (.iload_n 2, 1) := by decide +kernel
theorem dX2_weakest_30 : decode cX2_weakest 30 = .ok (.invokevirtual 89, 3) := by decide +kernel
theorem dX2_weakest_33 : decode cX2_weakest 33 = .ok (.if_icmp .ge 5, 3) := by decide +kernel
theorem dX2_weakest_36 : decode cX2_weakest 36 = .ok (.iload_n 3, 1) := by decide +kernel
theorem dX2_weakest_37 : decode cX2_weakest 37 = .ok (.istore_n 2, 1) := by decide +kernel
theorem dX2_weakest_38 : decode cX2_weakest 38 = .ok (.iinc 3 1, 3) := by decide +kernel
theorem dX2_weakest_41 : decode cX2_weakest 41 = .ok (.goto (-37), 3) := by decide +kernel
theorem dX2_weakest_44 : decode cX2_weakest 44 = .ok (.iload_n 2, 1) := by decide +kernel
theorem dX2_weakest_45 : decode cX2_weakest 45 = .ok (.ireturn, 1) := by decide +kernel
set_option maxRecDepth 20000 in
theorem ggX2_lay_X2_spot : GoodIn wsX2_lay wsX2_spot := goodIn_r _ [7] (by decide +kernel) (by decide +kernel)
set_option maxRecDepth 20000 in
theorem gX2_lay_X2_spot : GoodIn wsX2_lay (va_wsS RX2 76 yX2_spot wsX2_spot) := goodIn_app (goodIn_of _ (by decide +kernel)) ggX2_lay_X2_spot
theorem dX2_lay_0 : decode cX2_lay 0 = .ok (.iconst 0, 1) := by decide +kernel
theorem dX2_lay_1 : decode cX2_lay 1 = .ok (.istore 7, 2) := by decide +kernel
theorem dX2_lay_3 : decode cX2_lay 3 = .ok (.iload 7, 2) := by decide +kernel
theorem dX2_lay_5 : decode cX2_lay 5 = .ok (.iload_n 3, 1) := by decide +kernel
theorem dX2_lay_6 : decode cX2_lay 6 = .ok (.if_icmp .ge 132, 3) := by decide +kernel
theorem dX2_lay_9 : decode cX2_lay 9 = .ok (.iconst 0, 1) := by decide +kernel
theorem dX2_lay_10 : decode cX2_lay 10 = .ok (.istore 8, 2) := by decide +kernel
theorem dX2_lay_12 : decode cX2_lay 12 = .ok (.iload 8, 2) := by decide +kernel
theorem dX2_lay_14 : decode cX2_lay 14 = .ok (.iconst 3, 1) := by decide +kernel
theorem dX2_lay_15 : decode cX2_lay 15 = .ok (.if_icmp .ge 46, 3) := by decide +kernel
theorem dX2_lay_18 : decode cX2_lay 18 = .ok (.aload_n 0, 1) := by decide +kernel
theorem dX2_lay_19 : decode cX2_lay 19 = .ok (.getfield 25, 3) := by decide +kernel
theorem dX2_lay_22 : decode cX2_lay 22 = .ok (.iload 4, 2) := by decide +kernel
theorem dX2_lay_24 : decode cX2_lay 24 = .ok (.iload 5, 2) := by decide +kernel
theorem dX2_lay_26 : decode cX2_lay 26 = .ok (.iload 7, 2) := by decide +kernel
theorem dX2_lay_28 : decode cX2_lay 28 = .ok (.iadd, 1) := by decide +kernel
theorem dX2_lay_29 : decode cX2_lay 29 = .ok (.iload 8, 2) := by decide +kernel
theorem dX2_lay_31 : decode cX2_lay 31 = .ok (.invokestatic 76, 3) := by decide +kernel
theorem dX2_lay_34 : decode cX2_lay 34 = .ok (.aload_n 0, 1) := by decide +kernel
theorem dX2_lay_35 : decode cX2_lay 35 = .ok (.getfield 25, 3) := by decide +kernel
theorem dX2_lay_38 : decode cX2_lay 38 = .ok (.iload_n 1, 1) := by decide +kernel
theorem dX2_lay_39 : decode cX2_lay 39 = .ok (.iload_n 2, 1) := by decide +kernel
theorem dX2_lay_40 : decode cX2_lay 40 = .ok (.iload 7, 2) := by decide +kernel
theorem dX2_lay_42 : decode cX2_lay 42 = .ok (.iadd, 1) := by decide +kernel
theorem dX2_lay_43 : decode cX2_lay 43 = .ok (.iload 8, 2) := by decide +kernel
theorem dX2_lay_45 : decode cX2_lay 45 = .ok (.iload 6, 2) := by decide +kernel
theorem dX2_lay_47 : decode cX2_lay 47 = .ok (.iadd, 1) := by decide +kernel
theorem dX2_lay_48 : decode cX2_lay 48 = .ok (.iconst 3, 1) := by decide +kernel
theorem dX2_lay_49 : decode cX2_lay 49 = .ok (.irem, 1) := by decide +kernel
theorem dX2_lay_50 : decode cX2_lay 50 = .ok (.invokestatic 76, 3) := by decide +kernel
theorem dX2_lay_53 : decode cX2_lay 53 = .ok (.iaload, 1) := by decide +kernel
theorem dX2_lay_54 : decode cX2_lay 54 = .ok (.iastore, 1) := by decide +kernel
theorem dX2_lay_55 : decode cX2_lay 55 = .ok (.iinc 8 1, 3) := by decide +kernel
theorem dX2_lay_58 : decode cX2_lay 58 = .ok (.goto (-46), 3) := by decide +kernel
theorem dX2_lay_61 : decode cX2_lay 61 = .ok (.iload 7, 2) := by decide +kernel
theorem dX2_lay_63 : decode cX2_lay 63 = .ok (.iload_n 3, 1) := by decide +kernel
theorem dX2_lay_64 : decode cX2_lay 64 = .ok (.iconst 1, 1) := by decide +kernel
theorem dX2_lay_65 : decode cX2_lay 65 = .ok (.isub, 1) := by decide +kernel
theorem dX2_lay_66 : decode cX2_lay 66 = .ok (.if_icmp .ne 6, 3) := by decide +kernel
theorem dX2_lay_69 : decode cX2_lay 69 = .ok (.goto 63, 3) := by decide +kernel
theorem dX2_lay_72 : decode cX2_lay 72 = .ok (.aload_n 0, 1) := by decide +kernel
theorem dX2_lay_73 : decode cX2_lay 73 = .ok (.getfield 28, 3) := by decide +kernel
theorem dX2_lay_76 : decode cX2_lay 76 = .ok (.bipush 12, 2) := by decide +kernel
theorem dX2_lay_78 : decode cX2_lay 78 = .ok (.iload 4, 2) := by decide +kernel
theorem dX2_lay_80 : decode cX2_lay 80 = .ok (.imul, 1) := by decide +kernel
theorem dX2_lay_81 : decode cX2_lay 81 = .ok (.iload 5, 2) := by decide +kernel
theorem dX2_lay_83 : decode cX2_lay 83 = .ok (.iadd, 1) := by decide +kernel
theorem dX2_lay_84 : decode cX2_lay 84 = .ok (.iload 7, 2) := by decide +kernel
theorem dX2_lay_86 : decode cX2_lay 86 = .ok (.iadd, 1) := by decide +kernel
theorem dX2_lay_87 : decode cX2_lay 87 = .ok (.aload_n 0, 1) := by decide +kernel
theorem dX2_lay_88 : decode cX2_lay 88 = .ok (.getfield 28, 3) := by decide +kernel
theorem dX2_lay_91 : decode cX2_lay 91 = .ok (.bipush 12, 2) := by decide +kernel
theorem dX2_lay_93 : decode cX2_lay 93 = .ok (.iload_n 1, 1) := by decide +kernel
theorem dX2_lay_94 : decode cX2_lay 94 = .ok (.imul, 1) := by decide +kernel
theorem dX2_lay_95 : decode cX2_lay 95 = .ok (.iload_n 2, 1) := by decide +kernel
theorem dX2_lay_96 : decode cX2_lay 96 = .ok (.iadd, 1) := by decide +kernel
theorem dX2_lay_97 : decode cX2_lay 97 = .ok (.iload 7, 2) := by decide +kernel
theorem dX2_lay_99 : decode cX2_lay 99 = .ok (.iadd, 1) := by decide +kernel
theorem dX2_lay_100 : decode cX2_lay 100 = .ok (.iaload, 1) := by decide +kernel
theorem dX2_lay_101 : decode cX2_lay 101 = .ok (.iastore, 1) := by decide +kernel
theorem dX2_lay_102 : decode cX2_lay 102 = .ok (.aload_n 0, 1) := by decide +kernel
theorem dX2_lay_103 : decode cX2_lay 103 = .ok (.getfield 31, 3) := by decide +kernel
theorem dX2_lay_106 : decode cX2_lay 106 = .ok (.bipush 12, 2) := by decide +kernel
theorem dX2_lay_108 : decode cX2_lay 108 = .ok (.iload 4, 2) := by decide +kernel
theorem dX2_lay_110 : decode cX2_lay 110 = .ok (.imul, 1) := by decide +kernel
theorem dX2_lay_111 : decode cX2_lay 111 = .ok (.iload 5, 2) := by decide +kernel
theorem dX2_lay_113 : decode cX2_lay 113 = .ok (.iadd, 1) := by decide +kernel
theorem dX2_lay_114 : decode cX2_lay 114 = .ok (.iload 7, 2) := by decide +kernel
theorem dX2_lay_116 : decode cX2_lay 116 = .ok (.iadd, 1) := by decide +kernel
theorem dX2_lay_117 : decode cX2_lay 117 = .ok (.aload_n 0, 1) := by decide +kernel
theorem dX2_lay_118 : decode cX2_lay 118 = .ok (.getfield 31, 3) := by decide +kernel
theorem dX2_lay_121 : decode cX2_lay 121 = .ok (.bipush 12, 2) := by decide +kernel
theorem dX2_lay_123 : decode cX2_lay 123 = .ok (.iload_n 1, 1) := by decide +kernel
theorem dX2_lay_124 : decode cX2_lay 124 = .ok (.imul, 1) := by decide +kernel
theorem dX2_lay_125 : decode cX2_lay 125 = .ok (.iload_n 2, 1) := by decide +kernel
theorem dX2_lay_126 : decode cX2_lay 126 = .ok (.iadd, 1) := by decide +kernel
theorem dX2_lay_127 : decode cX2_lay 127 = .ok (.iload 7, 2) := by decide +kernel
theorem dX2_lay_129 : decode cX2_lay 129 = .ok (.iadd, 1) := by decide +kernel
theorem dX2_lay_130 : decode cX2_lay 130 = .ok (.iaload, 1) := by decide +kernel
theorem dX2_lay_131 : decode cX2_lay 131 = .ok (.iastore, 1) := by decide +kernel
theorem dX2_lay_132 : decode cX2_lay 132 = .ok (.iinc 7 1, 3) := by decide +kernel
theorem dX2_lay_135 : decode cX2_lay 135 = .ok (.goto (-132), 3) := by decide +kernel
theorem dX2_lay_138 : decode cX2_lay 138 = .ok (.return_, 1) := by decide +kernel
set_option maxRecDepth 20000 in
theorem ggX2_bend_X2_isStick : GoodIn wsX2_bend wsX2_isStick := goodIn_r _ [13, 3, 14, 15, 12, 16, 55, 56, 57, 58, 59, 60, 61, 62, 63, 64, 65, 66, 67] (by decide +kernel) (by decide +kernel)
set_option maxRecDepth 20000 in
theorem gX2_bend_X2_isStick : GoodIn wsX2_bend (wsV RX2 51 RX2 yX2_isStick wsX2_isStick) := goodIn_app (goodIn_of _ (by decide +kernel)) ggX2_bend_X2_isStick
set_option maxRecDepth 20000 in
theorem ggX2_bend_X2_no : GoodIn wsX2_bend wsX2_no := goodIn_r _ [20, 1, 55, 56, 57, 58, 59, 60, 61, 62, 63, 64, 65, 66, 67] (by decide +kernel) (by decide +kernel)
set_option maxRecDepth 20000 in
theorem gX2_bend_X2_no : GoodIn wsX2_bend (wsV RX2 58 RX2 yX2_no wsX2_no) := goodIn_app (goodIn_of _ (by decide +kernel)) ggX2_bend_X2_no
set_option maxRecDepth 20000 in
theorem ggX2_bend_X2_isIn : GoodIn wsX2_bend wsX2_isIn := goodIn_r _ [16] (by decide +kernel) (by decide +kernel)
set_option maxRecDepth 20000 in
theorem gX2_bend_X2_isIn : GoodIn wsX2_bend (va_wsS RX2 47 yX2_isIn wsX2_isIn) := goodIn_app (goodIn_of _ (by decide +kernel)) ggX2_bend_X2_isIn
set_option maxRecDepth 20000 in
theorem ggX2_bend_X2_weakest : GoodIn wsX2_bend wsX2_weakest := goodIn_r _ [24, 7, 25, 26, 27, 12, 28, 29, 30, 31, 32, 33, 34, 35, 36, 37, 38, 39, 40, 41, 55, 56, 57, 58, 59, 60, 61, 62, 63, 64, 65, 66, 67] (by decide +kernel) (by decide +kernel)
set_option maxRecDepth 20000 in
theorem gX2_bend_X2_weakest : GoodIn wsX2_bend (wsV RX2 92 RX2 yX2_weakest wsX2_weakest) := goodIn_app (goodIn_of _ (by decide +kernel)) ggX2_bend_X2_weakest
set_option maxRecDepth 20000 in
theorem ggX2_bend_X2_strong : GoodIn wsX2_bend wsX2_strong := goodIn_r _ [28, 29, 30, 31, 32, 33, 34, 35, 36, 12, 37, 38, 39, 40, 41, 55, 56, 57, 58, 59, 60, 61, 62, 63, 64, 65, 66, 67] (by decide +kernel) (by decide +kernel)
set_option maxRecDepth 20000 in
theorem gX2_bend_X2_strong : GoodIn wsX2_bend (wsV RX2 89 RX2 yX2_strong wsX2_strong) := goodIn_app (goodIn_of _ (by decide +kernel)) ggX2_bend_X2_strong
set_option maxRecDepth 20000 in
theorem ggX2_bend_X2_there : GoodIn wsX2_bend wsX2_there := goodIn_r _ [45, 3, 2, 55, 56, 57, 58, 59, 60, 61, 62, 63, 64, 65, 66, 67] (by decide +kernel) (by decide +kernel)
set_option maxRecDepth 20000 in
theorem gX2_bend_X2_there : GoodIn wsX2_bend (wsV RX2 62 RX2 yX2_there wsX2_there) := goodIn_app (goodIn_of _ (by decide +kernel)) ggX2_bend_X2_there
set_option maxRecDepth 20000 in
theorem ggX2_bend_X2_add : GoodIn wsX2_bend wsX2_add := goodIn_r _ [49, 7, 3, 4, 5, 8, 29, 50, 55, 56, 57, 58, 59, 60, 61, 62, 63, 64, 65, 66, 67] (by decide +kernel) (by decide +kernel)
set_option maxRecDepth 20000 in
theorem gX2_bend_X2_add : GoodIn wsX2_bend (wsV RX2 66 RX2 yX2_add wsX2_add) := goodIn_app (goodIn_of _ (by decide +kernel)) ggX2_bend_X2_add
set_option maxRecDepth 20000 in
theorem ggX2_bend_X2_lay : GoodIn wsX2_bend wsX2_lay := goodIn_r _ [54, 38, 29, 50, 39, 40, 12, 41, 55, 56, 57, 58, 59, 60, 61, 62, 63, 64, 65, 66, 67] (by decide +kernel) (by decide +kernel)
set_option maxRecDepth 20000 in
theorem gX2_bend_X2_lay : GoodIn wsX2_bend (wsV RX2 98 RX2 yX2_lay wsX2_lay) := goodIn_app (goodIn_of _ (by decide +kernel)) ggX2_bend_X2_lay
theorem dX2_bend_0 : decode cX2_bend 0 = .ok (.aload_n 0, 1) := by decide +kernel
theorem dX2_bend_1 : decode cX2_bend 1 = .ok (.iconst 0, 1) := by decide +kernel
theorem dX2_bend_2 : decode cX2_bend 2 = .ok (.putfield 40, 3) := by decide +kernel
theorem dX2_bend_5 : decode cX2_bend 5 = .ok (.aload_n 0, 1) := by decide +kernel
theorem dX2_bend_6 : decode cX2_bend 6 = .ok (.iload_n 1, 1) := by decide +kernel
theorem dX2_bend_7 : decode cX2_bend 7 = .ok (.invokevirtual 51, 3) := by decide +kernel
theorem dX2_bend_10 : decode cX2_bend 10 = .ok (.ifCond .ne 9, 3) := by decide +kernel
theorem dX2_bend_13 : decode cX2_bend 13 = .ok (.aload_n 0, 1) := by decide +kernel
theorem dX2_bend_14 : decode cX2_bend 14 = .ok (.iconst 1, 1) := by decide +kernel
theorem dX2_bend_15 : decode cX2_bend 15 = .ok (.invokevirtual 58, 3) := by decide +kernel
theorem dX2_bend_18 : decode cX2_bend 18 = .ok (.ireturn, 1) := by decide +kernel
theorem dX2_bend_19 : decode cX2_bend 19 = .ok (.iload_n 2, 1) := by decide +kernel
theorem dX2_bend_20 : decode cX2_bend 20 = .ok (.iconst 1, 1) := by decide +kernel
theorem dX2_bend_21 : decode cX2_bend 21 = .ok (.bipush 20, 2) := by decide +kernel
theorem dX2_bend_23 : decode cX2_bend 23 = .ok (.invokestatic 47, 3) := by decide +kernel
theorem dX2_bend_26 : decode cX2_bend 26 = .ok (.ifCond .ne 9, 3) := by decide +kernel
theorem dX2_bend_29 : decode cX2_bend 29 = .ok (.aload_n 0, 1) := by decide +kernel
theorem dX2_bend_30 : decode cX2_bend 30 = .ok (.iconst 2, 1) := by decide +kernel
theorem dX2_bend_31 : decode cX2_bend 31 = .ok (.invokevirtual 58, 3) := by decide +kernel
theorem dX2_bend_34 : decode cX2_bend 34 = .ok (.ireturn, 1) := by decide +kernel
theorem dX2_bend_35 : decode cX2_bend 35 = .ok (.aload_n 0, 1) := by decide +kernel
theorem dX2_bend_36 : decode cX2_bend 36 = .ok (.getfield 16, 3) := by decide +kernel
theorem dX2_bend_39 : decode cX2_bend 39 = .ok (.iload_n 1, 1) := by decide +kernel
theorem dX2_bend_40 : decode cX2_bend 40 = .ok (.iaload, 1) := by decide +kernel
theorem dX2_bend_41 : decode cX2_bend 41 = .ok (.iconst 1, 1) := by decide +kernel
theorem dX2_bend_42 : decode cX2_bend 42 = .ok (.if_icmp .ne 9, 3) := by decide +kernel
theorem dX2_bend_45 : decode cX2_bend 45 = .ok (.aload_n 0, 1) := by decide +kernel
theorem dX2_bend_46 : decode cX2_bend 46 = .ok (.iconst 3, 1) := by decide +kernel
theorem dX2_bend_47 : decode cX2_bend 47 = .ok (.invokevirtual 58, 3) := by decide +kernel
theorem dX2_bend_50 : decode cX2_bend 50 = .ok (.ireturn, 1) := by decide +kernel
theorem dX2_bend_51 : decode cX2_bend 51 = .ok (.aload_n 0, 1) := by decide +kernel
theorem dX2_bend_52 : decode cX2_bend 52 = .ok (.iload_n 1, 1) := by decide +kernel
theorem dX2_bend_53 : decode cX2_bend 53 = .ok (.invokevirtual 92, 3) := by decide +kernel
theorem dX2_bend_56 : decode cX2_bend 56 = .ok (.istore_n 3, 1) := by decide +kernel
theorem dX2_bend_57 : decode cX2_bend 57 = .ok (.iload_n 3, 1) := by decide +kernel
theorem dX2_bend_58 : decode cX2_bend 58 = .ok (.iconst (-1), 1) := by decide +kernel
theorem dX2_bend_59 : decode cX2_bend 59 = .ok (.if_icmp .eq 13, 3) := by decide +kernel
theorem dX2_bend_62 : decode cX2_bend 62 = .ok (.aload_n 0, 1) := by decide +kernel
theorem dX2_bend_63 : decode cX2_bend 63 = .ok (.iload_n 1, 1) := by decide +kernel
theorem dX2_bend_64 : decode cX2_bend 64 = .ok (.iload_n 3, 1) := by decide +kernel
theorem dX2_bend_65 : decode cX2_bend 65 = .ok (.invokevirtual 89, 3) := by decide +kernel
theorem dX2_bend_68 : decode cX2_bend 68 = .ok (.iload_n 2, 1) := by decide +kernel
theorem dX2_bend_69 : decode cX2_bend 69 = .ok (.if_icmp .lt 5, 3) := by decide +kernel
theorem dX2_bend_72 : decode cX2_bend 72 = .ok (.iconst (-1), 1) := by decide +kernel
theorem dX2_bend_73 : decode cX2_bend 73 = .ok (.ireturn, 1) := by decide +kernel
theorem dX2_bend_74 : decode cX2_bend 74 = .ok (.aload_n 0, 1) := by decide +kernel
theorem dX2_bend_75 : decode cX2_bend 75 = .ok (.invokevirtual 62, 3) := by decide +kernel
theorem dX2_bend_78 : decode cX2_bend 78 = .ok (.bipush 12, 2) := by decide +kernel
theorem dX2_bend_80 : decode cX2_bend 80 = .ok (.if_icmp .eq 12, 3) := by decide +kernel
theorem dX2_bend_83 : decode cX2_bend 83 = .ok (.aload_n 0, 1) := by decide +kernel
theorem dX2_bend_84 : decode cX2_bend 84 = .ok (.getfield 44, 3) := by decide +kernel
theorem dX2_bend_87 : decode cX2_bend 87 = .ok (.bipush 38, 2) := by decide +kernel
theorem dX2_bend_89 : decode cX2_bend 89 = .ok (.if_icmp .le 9, 3) := by decide +kernel
theorem dX2_bend_92 : decode cX2_bend 92 = .ok (.aload_n 0, 1) := by decide +kernel
theorem dX2_bend_93 : decode cX2_bend 93 = .ok (.iconst 3, 1) := by decide +kernel
theorem dX2_bend_94 : decode cX2_bend 94 = .ok (.invokevirtual 58, 3) := by decide +kernel
theorem dX2_bend_97 : decode cX2_bend 97 = .ok (.ireturn, 1) := by decide +kernel
theorem dX2_bend_98 : decode cX2_bend 98 = .ok (.aload_n 0, 1) := by decide +kernel
theorem dX2_bend_99 : decode cX2_bend 99 = .ok (.getfield 16, 3) := by decide +kernel
theorem dX2_bend_102 : decode cX2_bend 102 = .ok (.iload_n 1, 1) := by decide +kernel
theorem dX2_bend_103 : decode cX2_bend 103 = .ok (.iconst 1, 1) := by decide +kernel
theorem dX2_bend_104 : decode cX2_bend 104 = .ok (.iastore, 1) := by decide +kernel
theorem dX2_bend_105 : decode cX2_bend 105 = .ok (.iload_n 3, 1) := by decide +kernel
theorem dX2_bend_106 : decode cX2_bend 106 = .ok (.iconst 1, 1) := by decide +kernel
theorem dX2_bend_107 : decode cX2_bend 107 = .ok (.iadd, 1) := by decide +kernel
theorem dX2_bend_108 : decode cX2_bend 108 = .ok (.istore 4, 2) := by decide +kernel
theorem dX2_bend_110 : decode cX2_bend 110 = .ok (.aload_n 0, 1) := by decide +kernel
theorem dX2_bend_111 : decode cX2_bend 111 = .ok (.iload 4, 2) := by decide +kernel
theorem dX2_bend_113 : decode cX2_bend 113 = .ok (.aload_n 0, 1) := by decide +kernel
theorem dX2_bend_114 : decode cX2_bend 114 = .ok (.getfield 13, 3) := by decide +kernel
theorem dX2_bend_117 : decode cX2_bend 117 = .ok (.iload_n 1, 1) := by decide +kernel
theorem dX2_bend_118 : decode cX2_bend 118 = .ok (.iaload, 1) := by decide +kernel
theorem dX2_bend_119 : decode cX2_bend 119 = .ok (.aload_n 0, 1) := by decide +kernel
theorem dX2_bend_120 : decode cX2_bend 120 = .ok (.getfield 19, 3) := by decide +kernel
theorem dX2_bend_123 : decode cX2_bend 123 = .ok (.iload_n 1, 1) := by decide +kernel
theorem dX2_bend_124 : decode cX2_bend 124 = .ok (.iaload, 1) := by decide +kernel
theorem dX2_bend_125 : decode cX2_bend 125 = .ok (.aload_n 0, 1) := by decide +kernel
theorem dX2_bend_126 : decode cX2_bend 126 = .ok (.getfield 95, 3) := by decide +kernel
theorem dX2_bend_129 : decode cX2_bend 129 = .ok (.invokevirtual 66, 3) := by decide +kernel
theorem dX2_bend_132 : decode cX2_bend 132 = .ok (.istore 5, 2) := by decide +kernel
theorem dX2_bend_134 : decode cX2_bend 134 = .ok (.aload_n 0, 1) := by decide +kernel
theorem dX2_bend_135 : decode cX2_bend 135 = .ok (.aload_n 0, 1) := by decide +kernel
theorem dX2_bend_136 : decode cX2_bend 136 = .ok (.getfield 9, 3) := by decide +kernel
theorem dX2_bend_139 : decode cX2_bend 139 = .ok (.iload_n 1, 1) := by decide +kernel
theorem dX2_bend_140 : decode cX2_bend 140 = .ok (.iaload, 1) := by decide +kernel
theorem dX2_bend_141 : decode cX2_bend 141 = .ok (.iload 4, 2) := by decide +kernel
theorem dX2_bend_143 : decode cX2_bend 143 = .ok (.isub, 1) := by decide +kernel
theorem dX2_bend_144 : decode cX2_bend 144 = .ok (.aload_n 0, 1) := by decide +kernel
theorem dX2_bend_145 : decode cX2_bend 145 = .ok (.getfield 13, 3) := by decide +kernel
theorem dX2_bend_148 : decode cX2_bend 148 = .ok (.iload_n 1, 1) := by decide +kernel
theorem dX2_bend_149 : decode cX2_bend 149 = .ok (.iaload, 1) := by decide +kernel
theorem dX2_bend_150 : decode cX2_bend 150 = .ok (.aload_n 0, 1) := by decide +kernel
theorem dX2_bend_151 : decode cX2_bend 151 = .ok (.getfield 95, 3) := by decide +kernel
theorem dX2_bend_154 : decode cX2_bend 154 = .ok (.aload_n 0, 1) := by decide +kernel
theorem dX2_bend_155 : decode cX2_bend 155 = .ok (.getfield 22, 3) := by decide +kernel
theorem dX2_bend_158 : decode cX2_bend 158 = .ok (.iload_n 1, 1) := by decide +kernel
theorem dX2_bend_159 : decode cX2_bend 159 = .ok (.iaload, 1) := by decide +kernel
theorem dX2_bend_160 : decode cX2_bend 160 = .ok (.invokevirtual 66, 3) := by decide +kernel
theorem dX2_bend_163 : decode cX2_bend 163 = .ok (.istore 6, 2) := by decide +kernel
theorem dX2_bend_165 : decode cX2_bend 165 = .ok (.aload_n 0, 1) := by decide +kernel
theorem dX2_bend_166 : decode cX2_bend 166 = .ok (.dup, 1) := by decide +kernel
theorem dX2_bend_167 : decode cX2_bend 167 = .ok (.getfield 95, 3) := by decide +kernel
theorem dX2_bend_170 : decode cX2_bend 170 = .ok (.iconst 1, 1) := by decide +kernel
theorem dX2_bend_171 : decode cX2_bend 171 = .ok (.iadd, 1) := by decide +kernel
theorem dX2_bend_172 : decode cX2_bend 172 = .ok (.putfield 95, 3) := by decide +kernel
theorem dX2_bend_175 : decode cX2_bend 175 = .ok (.aload_n 0, 1) := by decide +kernel
theorem dX2_bend_176 : decode cX2_bend 176 = .ok (.iload_n 1, 1) := by decide +kernel
theorem dX2_bend_177 : decode cX2_bend 177 = .ok (.iconst 0, 1) := by decide +kernel
theorem dX2_bend_178 : decode cX2_bend 178 = .ok (.iload 4, 2) := by decide +kernel
theorem dX2_bend_180 : decode cX2_bend 180 = .ok (.iload 5, 2) := by decide +kernel
theorem dX2_bend_182 : decode cX2_bend 182 = .ok (.iconst 0, 1) := by decide +kernel
theorem dX2_bend_183 : decode cX2_bend 183 = .ok (.iconst 0, 1) := by decide +kernel
theorem dX2_bend_184 : decode cX2_bend 184 = .ok (.invokevirtual 98, 3) := by decide +kernel
theorem dX2_bend_187 : decode cX2_bend 187 = .ok (.aload_n 0, 1) := by decide +kernel
theorem dX2_bend_188 : decode cX2_bend 188 = .ok (.iload_n 1, 1) := by decide +kernel
theorem dX2_bend_189 : decode cX2_bend 189 = .ok (.iload 4, 2) := by decide +kernel
theorem dX2_bend_191 : decode cX2_bend 191 = .ok (.aload_n 0, 1) := by decide +kernel
theorem dX2_bend_192 : decode cX2_bend 192 = .ok (.getfield 9, 3) := by decide +kernel
theorem dX2_bend_195 : decode cX2_bend 195 = .ok (.iload 6, 2) := by decide +kernel
theorem dX2_bend_197 : decode cX2_bend 197 = .ok (.iaload, 1) := by decide +kernel
theorem dX2_bend_198 : decode cX2_bend 198 = .ok (.iload 6, 2) := by decide +kernel
theorem dX2_bend_200 : decode cX2_bend 200 = .ok (.iconst 0, 1) := by decide +kernel
theorem dX2_bend_201 : decode cX2_bend 201 = .ok (.iconst 0, 1) := by decide +kernel
theorem dX2_bend_202 : decode cX2_bend 202 = .ok (.invokevirtual 98, 3) := by decide +kernel
theorem dX2_bend_205 : decode cX2_bend 205 = .ok (.iload 5, 2) := by decide +kernel
theorem dX2_bend_207 : decode cX2_bend 207 = .ok (.ireturn, 1) := by decide +kernel
theorem dX2_fit_0 : decode cX2_fit 0 = .ok (.iload_n 1, 1) := by decide +kernel
theorem dX2_fit_1 : decode cX2_fit 1 = .ok (.iload_n 2, 1) := by decide +kernel
theorem dX2_fit_2 : decode cX2_fit 2 = .ok (.if_icmp .eq 48, 3) := by decide +kernel
theorem dX2_fit_5 : decode cX2_fit 5 = .ok (.aload_n 0, 1) := by decide +kernel
theorem dX2_fit_6 : decode cX2_fit 6 = .ok (.getfield 16, 3) := by decide +kernel
theorem dX2_fit_9 : decode cX2_fit 9 = .ok (.iload_n 1, 1) := by decide +kernel
theorem dX2_fit_10 : decode cX2_fit 10 = .ok (.iaload, 1) := by decide +kernel
theorem dX2_fit_11 : decode cX2_fit 11 = .ok (.aload_n 0, 1) := by decide +kernel
theorem dX2_fit_12 : decode cX2_fit 12 = .ok (.getfield 16, 3) := by decide +kernel
theorem dX2_fit_15 : decode cX2_fit 15 = .ok (.iload_n 2, 1) := by decide +kernel
theorem dX2_fit_16 : decode cX2_fit 16 = .ok (.iaload, 1) := by decide +kernel
theorem dX2_fit_17 : decode cX2_fit 17 = .ok (.iadd, 1) := by decide +kernel
theorem dX2_fit_18 : decode cX2_fit 18 = .ok (.ifCond .ne 32, 3) := by decide +kernel
theorem dX2_fit_21 : decode cX2_fit 21 = .ok (.aload_n 0, 1) := by decide +kernel
theorem dX2_fit_22 : decode cX2_fit 22 = .ok (.getfield 22, 3) := by decide +kernel
theorem dX2_fit_25 : decode cX2_fit 25 = .ok (.iload_n 1, 1) := by decide +kernel
theorem dX2_fit_26 : decode cX2_fit 26 = .ok (.iaload, 1) := by decide +kernel
theorem dX2_fit_27 : decode cX2_fit 27 = .ok (.iconst (-1), 1) := by decide +kernel
theorem dX2_fit_28 : decode cX2_fit 28 = .ok (.if_icmp .eq 22, 3) := by decide +kernel
theorem dX2_fit_31 : decode cX2_fit 31 = .ok (.aload_n 0, 1) := by decide +kernel
theorem dX2_fit_32 : decode cX2_fit 32 = .ok (.getfield 22, 3) := by decide +kernel
theorem dX2_fit_35 : decode cX2_fit 35 = .ok (.iload_n 1, 1) := by decide +kernel
theorem dX2_fit_36 : decode cX2_fit 36 = .ok (.iaload, 1) := by decide +kernel
theorem dX2_fit_37 : decode cX2_fit 37 = .ok (.aload_n 0, 1) := by decide +kernel
theorem dX2_fit_38 : decode cX2_fit 38 = .ok (.getfield 19, 3) := by decide +kernel
theorem dX2_fit_41 : decode cX2_fit 41 = .ok (.iload_n 2, 1) := by decide +kernel
theorem dX2_fit_42 : decode cX2_fit 42 = .ok (.iaload, 1) := by decide +kernel
theorem dX2_fit_43 : decode cX2_fit 43 = .ok (.if_icmp .ne 7, 3) := by decide +kernel
theorem dX2_fit_46 : decode cX2_fit 46 = .ok (.iconst 1, 1) := by decide +kernel
theorem dX2_fit_47 : decode cX2_fit 47 = .ok (.goto 4, 3) := by decide +kernel
theorem dX2_fit_50 : decode cX2_fit 50 = .ok (.iconst 0, 1) := by decide +kernel
theorem dX2_fit_51 : decode cX2_fit 51 = .ok (.ireturn, 1) := by decide +kernel
set_option maxRecDepth 20000 in
theorem ggX2_glue_X2_isStick : GoodIn wsX2_glue wsX2_isStick := goodIn_r _ [14, 4, 15, 16, 13, 17, 38, 39, 40, 41, 42, 43, 44, 45, 46, 47, 48, 49, 50] (by decide +kernel) (by decide +kernel)
set_option maxRecDepth 20000 in
theorem gX2_glue_X2_isStick : GoodIn wsX2_glue (wsV RX2 51 RX2 yX2_isStick wsX2_isStick) := goodIn_app (goodIn_of _ (by decide +kernel)) ggX2_glue_X2_isStick
set_option maxRecDepth 20000 in
theorem ggX2_glue_X2_no : GoodIn wsX2_glue wsX2_no := goodIn_r _ [21, 1, 38, 39, 40, 41, 42, 43, 44, 45, 46, 47, 48, 49, 50] (by decide +kernel) (by decide +kernel)
set_option maxRecDepth 20000 in
theorem gX2_glue_X2_no : GoodIn wsX2_glue (wsV RX2 58 RX2 yX2_no wsX2_no) := goodIn_app (goodIn_of _ (by decide +kernel)) ggX2_glue_X2_no
set_option maxRecDepth 20000 in
theorem ggX2_glue_X2_isIn : GoodIn wsX2_glue wsX2_isIn := goodIn_r _ [17] (by decide +kernel) (by decide +kernel)
set_option maxRecDepth 20000 in
theorem gX2_glue_X2_isIn : GoodIn wsX2_glue (va_wsS RX2 47 yX2_isIn wsX2_isIn) := goodIn_app (goodIn_of _ (by decide +kernel)) ggX2_glue_X2_isIn
set_option maxRecDepth 20000 in
theorem ggX2_glue_X2_fit : GoodIn wsX2_glue wsX2_fit := goodIn_r _ [25, 2, 7, 6, 38, 39, 40, 41, 42, 43, 44, 45, 46, 47, 48, 49, 50] (by decide +kernel) (by decide +kernel)
set_option maxRecDepth 20000 in
theorem gX2_glue_X2_fit : GoodIn wsX2_glue (wsV RX2 102 RX2 yX2_fit wsX2_fit) := goodIn_app (goodIn_of _ (by decide +kernel)) ggX2_glue_X2_fit
set_option maxRecDepth 20000 in
theorem ggX2_glue_X2_add : GoodIn wsX2_glue wsX2_add := goodIn_r _ [29, 3, 4, 5, 6, 7, 8, 9, 38, 39, 40, 41, 42, 43, 44, 45, 46, 47, 48, 49, 50] (by decide +kernel) (by decide +kernel)
set_option maxRecDepth 20000 in
theorem gX2_glue_X2_add : GoodIn wsX2_glue (wsV RX2 66 RX2 yX2_add wsX2_add) := goodIn_app (goodIn_of _ (by decide +kernel)) ggX2_glue_X2_add
set_option maxRecDepth 20000 in
theorem ggX2_glue_X2_lay : GoodIn wsX2_glue wsX2_lay := goodIn_r _ [33, 34, 8, 9, 35, 36, 13, 37, 38, 39, 40, 41, 42, 43, 44, 45, 46, 47, 48, 49, 50] (by decide +kernel) (by decide +kernel)
set_option maxRecDepth 20000 in
theorem gX2_glue_X2_lay : GoodIn wsX2_glue (wsV RX2 98 RX2 yX2_lay wsX2_lay) := goodIn_app (goodIn_of _ (by decide +kernel)) ggX2_glue_X2_lay
theorem dX2_glue_0 : decode cX2_glue 0 = .ok (.aload_n 0, 1) := by decide +kernel
theorem dX2_glue_1 : decode cX2_glue 1 = .ok (.iconst 0, 1) := by decide +kernel
theorem dX2_glue_2 : decode cX2_glue 2 = .ok (.putfield 40, 3) := by decide +kernel
theorem dX2_glue_5 : decode cX2_glue 5 = .ok (.aload_n 0, 1) := by decide +kernel
theorem dX2_glue_6 : decode cX2_glue 6 = .ok (.iload_n 1, 1) := by decide +kernel
theorem dX2_glue_7 : decode cX2_glue 7 = .ok (.invokevirtual 51, 3) := by decide +kernel
theorem dX2_glue_10 : decode cX2_glue 10 = .ok (.ifCond .eq 11, 3) := by decide +kernel
theorem dX2_glue_13 : decode cX2_glue 13 = .ok (.aload_n 0, 1) := by decide +kernel
theorem dX2_glue_14 : decode cX2_glue 14 = .ok (.iload_n 2, 1) := by decide +kernel
theorem dX2_glue_15 : decode cX2_glue 15 = .ok (.invokevirtual 51, 3) := by decide +kernel
theorem dX2_glue_18 : decode cX2_glue 18 = .ok (.ifCond .ne 9, 3) := by decide +kernel
theorem dX2_glue_21 : decode cX2_glue 21 = .ok (.aload_n 0, 1) := by decide +kernel
theorem dX2_glue_22 : decode cX2_glue 22 = .ok (.iconst 1, 1) := by decide +kernel
theorem dX2_glue_23 : decode cX2_glue 23 = .ok (.invokevirtual 58, 3) := by decide +kernel
theorem dX2_glue_26 : decode cX2_glue 26 = .ok (.ireturn, 1) := by decide +kernel
theorem dX2_glue_27 : decode cX2_glue 27 = .ok (.iload_n 3, 1) := by decide +kernel
theorem dX2_glue_28 : decode cX2_glue 28 = .ok (.iconst 0, 1) := by decide +kernel
theorem dX2_glue_29 : decode cX2_glue 29 = .ok (.iconst 2, 1) := by decide +kernel
theorem dX2_glue_30 : decode cX2_glue 30 = .ok (.invokestatic 47, 3) := by decide +kernel
theorem dX2_glue_33 : decode cX2_glue 33 = .ok (.ifCond .eq 14, 3) := by decide +kernel
theorem dX2_glue_36 : decode cX2_glue 36 = .ok (.iload 4, 2) := by decide +kernel
theorem dX2_glue_38 : decode cX2_glue 38 = .ok (.iconst 1, 1) := by decide +kernel
theorem dX2_glue_39 : decode cX2_glue 39 = .ok (.bipush 9, 2) := by decide +kernel
theorem dX2_glue_41 : decode cX2_glue 41 = .ok (.invokestatic 47, 3) := by decide +kernel
theorem dX2_glue_44 : decode cX2_glue 44 = .ok (.ifCond .ne 9, 3) := by decide +kernel
theorem dX2_glue_47 : decode cX2_glue 47 = .ok (.aload_n 0, 1) := by decide +kernel
theorem dX2_glue_48 : decode cX2_glue 48 = .ok (.iconst 2, 1) := by decide +kernel
theorem dX2_glue_49 : decode cX2_glue 49 = .ok (.invokevirtual 58, 3) := by decide +kernel
theorem dX2_glue_52 : decode cX2_glue 52 = .ok (.ireturn, 1) := by decide +kernel
theorem dX2_glue_53 : decode cX2_glue 53 = .ok (.aload_n 0, 1) := by decide +kernel
theorem dX2_glue_54 : decode cX2_glue 54 = .ok (.getfield 16, 3) := by decide +kernel
theorem dX2_glue_57 : decode cX2_glue 57 = .ok (.iload_n 1, 1) := by decide +kernel
theorem dX2_glue_58 : decode cX2_glue 58 = .ok (.iaload, 1) := by decide +kernel
theorem dX2_glue_59 : decode cX2_glue 59 = .ok (.aload_n 0, 1) := by decide +kernel
theorem dX2_glue_60 : decode cX2_glue 60 = .ok (.getfield 16, 3) := by decide +kernel
theorem dX2_glue_63 : decode cX2_glue 63 = .ok (.iload_n 2, 1) := by decide +kernel
theorem dX2_glue_64 : decode cX2_glue 64 = .ok (.iaload, 1) := by decide +kernel
theorem dX2_glue_65 : decode cX2_glue 65 = .ok (.iadd, 1) := by decide +kernel
theorem dX2_glue_66 : decode cX2_glue 66 = .ok (.ifCond .gt 35, 3) := by decide +kernel
theorem dX2_glue_69 : decode cX2_glue 69 = .ok (.iload_n 1, 1) := by decide +kernel
theorem dX2_glue_70 : decode cX2_glue 70 = .ok (.iload_n 2, 1) := by decide +kernel
theorem dX2_glue_71 : decode cX2_glue 71 = .ok (.if_icmp .eq 30, 3) := by decide +kernel
theorem dX2_glue_74 : decode cX2_glue 74 = .ok (.aload_n 0, 1) := by decide +kernel
theorem dX2_glue_75 : decode cX2_glue 75 = .ok (.getfield 9, 3) := by decide +kernel
theorem dX2_glue_78 : decode cX2_glue 78 = .ok (.iload_n 1, 1) := by decide +kernel
theorem dX2_glue_79 : decode cX2_glue 79 = .ok (.iaload, 1) := by decide +kernel
theorem dX2_glue_80 : decode cX2_glue 80 = .ok (.aload_n 0, 1) := by decide +kernel
theorem dX2_glue_81 : decode cX2_glue 81 = .ok (.getfield 9, 3) := by decide +kernel
theorem dX2_glue_84 : decode cX2_glue 84 = .ok (.iload_n 2, 1) := by decide +kernel
theorem dX2_glue_85 : decode cX2_glue 85 = .ok (.iaload, 1) := by decide +kernel
theorem dX2_glue_86 : decode cX2_glue 86 = .ok (.iadd, 1) := by decide +kernel
theorem dX2_glue_87 : decode cX2_glue 87 = .ok (.bipush 12, 2) := by decide +kernel
theorem dX2_glue_89 : decode cX2_glue 89 = .ok (.if_icmp .gt 12, 3) := by decide +kernel
theorem dX2_glue_92 : decode cX2_glue 92 = .ok (.aload_n 0, 1) := by decide +kernel
theorem dX2_glue_93 : decode cX2_glue 93 = .ok (.getfield 44, 3) := by decide +kernel
theorem dX2_glue_96 : decode cX2_glue 96 = .ok (.bipush 40, 2) := by decide +kernel
theorem dX2_glue_98 : decode cX2_glue 98 = .ok (.if_icmp .ne 9, 3) := by decide +kernel
theorem dX2_glue_101 : decode cX2_glue 101 = .ok (.aload_n 0, 1) := by decide +kernel
theorem dX2_glue_102 : decode cX2_glue 102 = .ok (.iconst 3, 1) := by decide +kernel
theorem dX2_glue_103 : decode cX2_glue 103 = .ok (.invokevirtual 58, 3) := by decide +kernel
theorem dX2_glue_106 : decode cX2_glue 106 = .ok (.ireturn, 1) := by decide +kernel
theorem dX2_glue_107 : decode cX2_glue 107 = .ok (.iload_n 3, 1) := by decide +kernel
theorem dX2_glue_108 : decode cX2_glue 108 = .ok (.ifCond .ne 16, 3) := by decide +kernel
theorem dX2_glue_111 : decode cX2_glue 111 = .ok (.aload_n 0, 1) := by decide +kernel
theorem dX2_glue_112 : decode cX2_glue 112 = .ok (.iload_n 1, 1) := by decide +kernel
theorem dX2_glue_113 : decode cX2_glue 113 = .ok (.iload_n 2, 1) := by decide +kernel
theorem dX2_glue_114 : decode cX2_glue 114 = .ok (.invokevirtual 102, 3) := by decide +kernel
theorem dX2_glue_117 : decode cX2_glue 117 = .ok (.ifCond .eq 7, 3) := by decide +kernel
theorem dX2_glue_120 : decode cX2_glue 120 = .ok (.iconst 3, 1) := by decide +kernel
theorem dX2_glue_121 : decode cX2_glue 121 = .ok (.goto 4, 3) := by decide +kernel
theorem dX2_glue_124 : decode cX2_glue 124 = .ok (.iconst 0, 1) := by decide +kernel
theorem dX2_glue_125 : decode cX2_glue 125 = .ok (.istore 5, 2) := by decide +kernel
theorem dX2_glue_127 : decode cX2_glue 127 = .ok (.aload_n 0, 1) := by decide +kernel
theorem dX2_glue_128 : decode cX2_glue 128 = .ok (.getfield 16, 3) := by decide +kernel
theorem dX2_glue_131 : decode cX2_glue 131 = .ok (.iload_n 1, 1) := by decide +kernel
theorem dX2_glue_132 : decode cX2_glue 132 = .ok (.iconst 1, 1) := by decide +kernel
theorem dX2_glue_133 : decode cX2_glue 133 = .ok (.iastore, 1) := by decide +kernel
theorem dX2_glue_134 : decode cX2_glue 134 = .ok (.aload_n 0, 1) := by decide +kernel
theorem dX2_glue_135 : decode cX2_glue 135 = .ok (.getfield 16, 3) := by decide +kernel
theorem dX2_glue_138 : decode cX2_glue 138 = .ok (.iload_n 2, 1) := by decide +kernel
theorem dX2_glue_139 : decode cX2_glue 139 = .ok (.iconst 1, 1) := by decide +kernel
theorem dX2_glue_140 : decode cX2_glue 140 = .ok (.iastore, 1) := by decide +kernel
theorem dX2_glue_141 : decode cX2_glue 141 = .ok (.aload_n 0, 1) := by decide +kernel
theorem dX2_glue_142 : decode cX2_glue 142 = .ok (.aload_n 0, 1) := by decide +kernel
theorem dX2_glue_143 : decode cX2_glue 143 = .ok (.getfield 9, 3) := by decide +kernel
theorem dX2_glue_146 : decode cX2_glue 146 = .ok (.iload_n 1, 1) := by decide +kernel
theorem dX2_glue_147 : decode cX2_glue 147 = .ok (.iaload, 1) := by decide +kernel
theorem dX2_glue_148 : decode cX2_glue 148 = .ok (.aload_n 0, 1) := by decide +kernel
theorem dX2_glue_149 : decode cX2_glue 149 = .ok (.getfield 9, 3) := by decide +kernel
theorem dX2_glue_152 : decode cX2_glue 152 = .ok (.iload_n 2, 1) := by decide +kernel
theorem dX2_glue_153 : decode cX2_glue 153 = .ok (.iaload, 1) := by decide +kernel
theorem dX2_glue_154 : decode cX2_glue 154 = .ok (.iadd, 1) := by decide +kernel
theorem dX2_glue_155 : decode cX2_glue 155 = .ok (.aload_n 0, 1) := by decide +kernel
theorem dX2_glue_156 : decode cX2_glue 156 = .ok (.getfield 13, 3) := by decide +kernel
theorem dX2_glue_159 : decode cX2_glue 159 = .ok (.iload_n 1, 1) := by decide +kernel
theorem dX2_glue_160 : decode cX2_glue 160 = .ok (.iaload, 1) := by decide +kernel
theorem dX2_glue_161 : decode cX2_glue 161 = .ok (.aload_n 0, 1) := by decide +kernel
theorem dX2_glue_162 : decode cX2_glue 162 = .ok (.getfield 19, 3) := by decide +kernel
theorem dX2_glue_165 : decode cX2_glue 165 = .ok (.iload_n 1, 1) := by decide +kernel
theorem dX2_glue_166 : decode cX2_glue 166 = .ok (.iaload, 1) := by decide +kernel
theorem dX2_glue_167 : decode cX2_glue 167 = .ok (.aload_n 0, 1) := by decide +kernel
theorem dX2_glue_168 : decode cX2_glue 168 = .ok (.getfield 22, 3) := by decide +kernel
theorem dX2_glue_171 : decode cX2_glue 171 = .ok (.iload_n 2, 1) := by decide +kernel
theorem dX2_glue_172 : decode cX2_glue 172 = .ok (.iaload, 1) := by decide +kernel
theorem dX2_glue_173 : decode cX2_glue 173 = .ok (.invokevirtual 66, 3) := by decide +kernel
theorem dX2_glue_176 : decode cX2_glue 176 = .ok (.istore 6, 2) := by decide +kernel
theorem dX2_glue_178 : decode cX2_glue 178 = .ok (.aload_n 0, 1) := by decide +kernel
theorem dX2_glue_179 : decode cX2_glue 179 = .ok (.iload_n 1, 1) := by decide +kernel
theorem dX2_glue_180 : decode cX2_glue 180 = .ok (.iconst 0, 1) := by decide +kernel
theorem dX2_glue_181 : decode cX2_glue 181 = .ok (.aload_n 0, 1) := by decide +kernel
theorem dX2_glue_182 : decode cX2_glue 182 = .ok (.getfield 9, 3) := by decide +kernel
theorem dX2_glue_185 : decode cX2_glue 185 = .ok (.iload_n 1, 1) := by decide +kernel
theorem dX2_glue_186 : decode cX2_glue 186 = .ok (.iaload, 1) := by decide +kernel
theorem dX2_glue_187 : decode cX2_glue 187 = .ok (.iload 6, 2) := by decide +kernel
theorem dX2_glue_189 : decode cX2_glue 189 = .ok (.iconst 0, 1) := by decide +kernel
theorem dX2_glue_190 : decode cX2_glue 190 = .ok (.iconst 0, 1) := by decide +kernel
theorem dX2_glue_191 : decode cX2_glue 191 = .ok (.invokevirtual 98, 3) := by decide +kernel
theorem dX2_glue_194 : decode cX2_glue 194 = .ok (.aload_n 0, 1) := by decide +kernel
theorem dX2_glue_195 : decode cX2_glue 195 = .ok (.iload_n 2, 1) := by decide +kernel
theorem dX2_glue_196 : decode cX2_glue 196 = .ok (.iconst 0, 1) := by decide +kernel
theorem dX2_glue_197 : decode cX2_glue 197 = .ok (.aload_n 0, 1) := by decide +kernel
theorem dX2_glue_198 : decode cX2_glue 198 = .ok (.getfield 9, 3) := by decide +kernel
theorem dX2_glue_201 : decode cX2_glue 201 = .ok (.iload_n 2, 1) := by decide +kernel
theorem dX2_glue_202 : decode cX2_glue 202 = .ok (.iaload, 1) := by decide +kernel
theorem dX2_glue_203 : decode cX2_glue 203 = .ok (.iload 6, 2) := by decide +kernel
theorem dX2_glue_205 : decode cX2_glue 205 = .ok (.aload_n 0, 1) := by decide +kernel
theorem dX2_glue_206 : decode cX2_glue 206 = .ok (.getfield 9, 3) := by decide +kernel
theorem dX2_glue_209 : decode cX2_glue 209 = .ok (.iload_n 1, 1) := by decide +kernel
theorem dX2_glue_210 : decode cX2_glue 210 = .ok (.iaload, 1) := by decide +kernel
theorem dX2_glue_211 : decode cX2_glue 211 = .ok (.iload_n 3, 1) := by decide +kernel
theorem dX2_glue_212 : decode cX2_glue 212 = .ok (.invokevirtual 98, 3) := by decide +kernel
theorem dX2_glue_215 : decode cX2_glue 215 = .ok (.aload_n 0, 1) := by decide +kernel
theorem dX2_glue_216 : decode cX2_glue 216 = .ok (.getfield 28, 3) := by decide +kernel
theorem dX2_glue_219 : decode cX2_glue 219 = .ok (.bipush 12, 2) := by decide +kernel
theorem dX2_glue_221 : decode cX2_glue 221 = .ok (.iload 6, 2) := by decide +kernel
theorem dX2_glue_223 : decode cX2_glue 223 = .ok (.imul, 1) := by decide +kernel
theorem dX2_glue_224 : decode cX2_glue 224 = .ok (.aload_n 0, 1) := by decide +kernel
theorem dX2_glue_225 : decode cX2_glue 225 = .ok (.getfield 9, 3) := by decide +kernel
theorem dX2_glue_228 : decode cX2_glue 228 = .ok (.iload_n 1, 1) := by decide +kernel
theorem dX2_glue_229 : decode cX2_glue 229 = .ok (.iaload, 1) := by decide +kernel
theorem dX2_glue_230 : decode cX2_glue 230 = .ok (.iadd, 1) := by decide +kernel
theorem dX2_glue_231 : decode cX2_glue 231 = .ok (.iconst 1, 1) := by decide +kernel
theorem dX2_glue_232 : decode cX2_glue 232 = .ok (.isub, 1) := by decide +kernel
theorem dX2_glue_233 : decode cX2_glue 233 = .ok (.iload 4, 2) := by decide +kernel
theorem dX2_glue_235 : decode cX2_glue 235 = .ok (.iload 5, 2) := by decide +kernel
theorem dX2_glue_237 : decode cX2_glue 237 = .ok (.iadd, 1) := by decide +kernel
theorem dX2_glue_238 : decode cX2_glue 238 = .ok (.iastore, 1) := by decide +kernel
theorem dX2_glue_239 : decode cX2_glue 239 = .ok (.aload_n 0, 1) := by decide +kernel
theorem dX2_glue_240 : decode cX2_glue 240 = .ok (.getfield 31, 3) := by decide +kernel
theorem dX2_glue_243 : decode cX2_glue 243 = .ok (.bipush 12, 2) := by decide +kernel
theorem dX2_glue_245 : decode cX2_glue 245 = .ok (.iload 6, 2) := by decide +kernel
theorem dX2_glue_247 : decode cX2_glue 247 = .ok (.imul, 1) := by decide +kernel
theorem dX2_glue_248 : decode cX2_glue 248 = .ok (.aload_n 0, 1) := by decide +kernel
theorem dX2_glue_249 : decode cX2_glue 249 = .ok (.getfield 9, 3) := by decide +kernel
theorem dX2_glue_252 : decode cX2_glue 252 = .ok (.iload_n 1, 1) := by decide +kernel
theorem dX2_glue_253 : decode cX2_glue 253 = .ok (.iaload, 1) := by decide +kernel
theorem dX2_glue_254 : decode cX2_glue 254 = .ok (.iadd, 1) := by decide +kernel
theorem dX2_glue_255 : decode cX2_glue 255 = .ok (.iconst 1, 1) := by decide +kernel
theorem dX2_glue_256 : decode cX2_glue 256 = .ok (.isub, 1) := by decide +kernel
theorem dX2_glue_257 : decode cX2_glue 257 = .ok (.iconst 1, 1) := by decide +kernel
theorem dX2_glue_258 : decode cX2_glue 258 = .ok (.iastore, 1) := by decide +kernel
theorem dX2_glue_259 : decode cX2_glue 259 = .ok (.iload 6, 2) := by decide +kernel
theorem dX2_glue_261 : decode cX2_glue 261 = .ok (.ireturn, 1) := by decide +kernel
set_option maxRecDepth 20000 in
theorem ggX2_runesOn_X2_runesAt : GoodIn wsX2_runesOn wsX2_runesAt := goodIn_r _ [6, 7, 8, 9, 5, 10, 11, 12, 13, 14, 15, 16, 17, 18, 19, 20, 21, 22, 23] (by decide +kernel) (by decide +kernel)
set_option maxRecDepth 20000 in
theorem gX2_runesOn_X2_runesAt : GoodIn wsX2_runesOn (wsV RX2 80 RX2 yX2_runesAt wsX2_runesAt) := goodIn_app (goodIn_of _ (by decide +kernel)) ggX2_runesOn_X2_runesAt
theorem dX2_runesOn_0 : decode cX2_runesOn 0 = .ok (.iconst 0, 1) := by decide +kernel
theorem dX2_runesOn_1 : decode cX2_runesOn 1 = .ok (.istore_n 2, 1) := by decide +kernel
theorem dX2_runesOn_2 : decode cX2_runesOn 2 = .ok (.iconst 0, 1) := by decide +kernel
theorem dX2_runesOn_3 : decode cX2_runesOn 3 = .ok (.istore_n 3, 1) := by decide +kernel
theorem dX2_runesOn_4 : decode cX2_runesOn 4 = .ok (.iload_n 3, 1) := by decide +kernel
theorem dX2_runesOn_5 : decode cX2_runesOn 5 = .ok (.aload_n 0, 1) := by decide +kernel
theorem dX2_runesOn_6 : decode cX2_runesOn 6 = .ok (.getfield 9, 3) := by decide +kernel
theorem dX2_runesOn_9 : decode cX2_runesOn 9 = .ok (.iload_n 1, 1) := by decide +kernel
theorem dX2_runesOn_10 : decode cX2_runesOn 10 = .ok (.iaload, 1) := by decide +kernel
theorem dX2_runesOn_11 : decode cX2_runesOn 11 = .ok (.if_icmp .ge 18, 3) := by decide +kernel
theorem dX2_runesOn_14 : decode cX2_runesOn 14 = .ok (.iload_n 2, 1) := by decide +kernel
theorem dX2_runesOn_15 : decode cX2_runesOn 15 = .ok (.aload_n 0, 1) := by decide +kernel
theorem dX2_runesOn_16 : decode cX2_runesOn 16 = .ok (.iload_n 1, 1) := by decide +kernel
theorem dX2_runesOn_17 : decode cX2_runesOn 17 = .ok (.iload_n 3, 1) := by decide +kernel
theorem dX2_runesOn_18 : decode cX2_runesOn 18 = .ok (.invokevirtual 80, 3) := by decide +kernel
theorem dX2_runesOn_21 : decode cX2_runesOn 21 = .ok (.iadd, 1) := by decide +kernel
theorem dX2_runesOn_22 : decode cX2_runesOn 22 = .ok (.istore_n 2, 1) := by decide +kernel
theorem dX2_runesOn_23 : decode cX2_runesOn 23 = .ok (.iinc 3 1, 3) := by decide +kernel
theorem dX2_runesOn_26 : decode cX2_runesOn 26 = .ok (.goto (-22), 3) := by decide +kernel
theorem dX2_runesOn_29 : decode cX2_runesOn 29 = .ok (.iload_n 2, 1) := by decide +kernel
theorem dX2_runesOn_30 : decode cX2_runesOn 30 = .ok (.ireturn, 1) := by decide +kernel
theorem dX2_glued_0 : decode cX2_glued 0 = .ok (.iconst 0, 1) := by decide +kernel
theorem dX2_glued_1 : decode cX2_glued 1 = .ok (.istore_n 2, 1) := by decide +kernel
theorem dX2_glued_2 : decode cX2_glued 2 = .ok (.iconst 0, 1) := by decide +kernel
theorem dX2_glued_3 : decode cX2_glued 3 = .ok (.istore_n 3, 1) := by decide +kernel
theorem dX2_glued_4 : decode cX2_glued 4 = .ok (.iload_n 3, 1) := by decide +kernel
theorem dX2_glued_5 : decode cX2_glued 5 = .ok (.aload_n 0, 1) := by decide +kernel
theorem dX2_glued_6 : decode cX2_glued 6 = .ok (.getfield 9, 3) := by decide +kernel
theorem dX2_glued_9 : decode cX2_glued 9 = .ok (.iload_n 1, 1) := by decide +kernel
theorem dX2_glued_10 : decode cX2_glued 10 = .ok (.iaload, 1) := by decide +kernel
theorem dX2_glued_11 : decode cX2_glued 11 = .ok (.iconst 1, 1) := by decide +kernel
theorem dX2_glued_12 : decode cX2_glued 12 = .ok (.isub, 1) := by decide +kernel
theorem dX2_glued_13 : decode cX2_glued 13 = .ok (.if_icmp .ge 23, 3) := by decide +kernel
theorem dX2_glued_16 : decode cX2_glued 16 = .ok (.iload_n 2, 1) := by decide +kernel
theorem dX2_glued_17 : decode cX2_glued 17 = .ok (.aload_n 0, 1) := by decide +kernel
theorem dX2_glued_18 : decode cX2_glued 18 = .ok (.getfield 31, 3) := by decide +kernel
theorem dX2_glued_21 : decode cX2_glued 21 = .ok (.bipush 12, 2) := by decide +kernel
theorem dX2_glued_23 : decode cX2_glued 23 = .ok (.iload_n 1, 1) := by decide +kernel
theorem dX2_glued_24 : decode cX2_glued 24 = .ok (.imul, 1) := by decide +kernel
theorem dX2_glued_25 : decode cX2_glued 25 = .ok (.iload_n 3, 1) := by decide +kernel
theorem dX2_glued_26 : decode cX2_glued 26 = .ok (.iadd, 1) := by decide +kernel
theorem dX2_glued_27 : decode cX2_glued 27 = .ok (.iaload, 1) := by decide +kernel
theorem dX2_glued_28 : decode cX2_glued 28 = .ok (.iadd, 1) := by decide +kernel
theorem dX2_glued_29 : decode cX2_glued 29 = .ok (.istore_n 2, 1) := by decide +kernel
theorem dX2_glued_30 : decode cX2_glued 30 = .ok (.iinc 3 1, 3) := by decide +kernel
theorem dX2_glued_33 : decode cX2_glued 33 = .ok (.goto (-29), 3) := by decide +kernel
theorem dX2_glued_36 : decode cX2_glued 36 = .ok (.iload_n 2, 1) := by decide +kernel
theorem dX2_glued_37 : decode cX2_glued 37 = .ok (.ireturn, 1) := by decide +kernel
set_option maxRecDepth 20000 in
theorem ggX2_stickTold_X2_runesOn : GoodIn wsX2_stickTold wsX2_runesOn := goodIn_r _ [11, 2, 12, 13, 14, 10, 15, 16, 17, 18, 19, 25, 26, 27, 28, 29, 30, 31, 32, 33, 34, 35, 36, 37] (by decide +kernel) (by decide +kernel)
set_option maxRecDepth 20000 in
theorem gX2_stickTold_X2_runesOn : GoodIn wsX2_stickTold (wsV RX2 106 RX2 yX2_runesOn wsX2_runesOn) := goodIn_app (goodIn_of _ (by decide +kernel)) ggX2_stickTold_X2_runesOn
set_option maxRecDepth 20000 in
theorem ggX2_stickTold_X2_glued : GoodIn wsX2_stickTold wsX2_glued := goodIn_r _ [23, 2, 24, 25, 26, 27, 28, 29, 30, 31, 32, 33, 34, 35, 36, 37] (by decide +kernel) (by decide +kernel)
set_option maxRecDepth 20000 in
theorem gX2_stickTold_X2_glued : GoodIn wsX2_stickTold (wsV RX2 109 RX2 yX2_glued wsX2_glued) := goodIn_app (goodIn_of _ (by decide +kernel)) ggX2_stickTold_X2_glued
theorem dX2_stickTold_0 : decode cX2_stickTold 0 = .ok (.bipush 7, 2) := by decide +kernel
theorem dX2_stickTold_2 : decode cX2_stickTold 2 = .ok (.newarray .int, 2) := by decide +kernel
theorem dX2_stickTold_4 : decode cX2_stickTold 4 = .ok (.dup, 1) := by decide +kernel
theorem dX2_stickTold_5 : decode cX2_stickTold 5 = .ok (.iconst 0, 1) := by decide +kernel
theorem dX2_stickTold_6 : decode cX2_stickTold 6 = .ok (.aload_n 0, 1) := by decide +kernel
theorem dX2_stickTold_7 : decode cX2_stickTold 7 = .ok (.getfield 9, 3) := by decide +kernel
theorem dX2_stickTold_10 : decode cX2_stickTold 10 = .ok (.iload_n 1, 1) := by decide +kernel
theorem dX2_stickTold_11 : decode cX2_stickTold 11 = .ok (.iaload, 1) := by decide +kernel
theorem dX2_stickTold_12 : decode cX2_stickTold 12 = .ok (.iastore, 1) := by decide +kernel
theorem dX2_stickTold_13 : decode cX2_stickTold 13 = .ok (.dup, 1) := by decide +kernel
theorem dX2_stickTold_14 : decode cX2_stickTold 14 = .ok (.iconst 1, 1) := by decide +kernel
theorem dX2_stickTold_15 : decode cX2_stickTold 15 = .ok (.aload_n 0, 1) := by decide +kernel
theorem dX2_stickTold_16 : decode cX2_stickTold 16 = .ok (.getfield 13, 3) := by decide +kernel
theorem dX2_stickTold_19 : decode cX2_stickTold 19 = .ok (.iload_n 1, 1) := by decide +kernel
theorem dX2_stickTold_20 : decode cX2_stickTold 20 = .ok (.iaload, 1) := by decide +kernel
theorem dX2_stickTold_21 : decode cX2_stickTold 21 = .ok (.iastore, 1) := by decide +kernel
theorem dX2_stickTold_22 : decode cX2_stickTold 22 = .ok (.dup, 1) := by decide +kernel
theorem dX2_stickTold_23 : decode cX2_stickTold 23 = .ok (.iconst 2, 1) := by decide +kernel
theorem dX2_stickTold_24 : decode cX2_stickTold 24 = .ok (.aload_n 0, 1) := by decide +kernel
theorem dX2_stickTold_25 : decode cX2_stickTold 25 = .ok (.iload_n 1, 1) := by decide +kernel
theorem dX2_stickTold_26 : decode cX2_stickTold 26 = .ok (.invokevirtual 106, 3) := by decide +kernel
theorem dX2_stickTold_29 : decode cX2_stickTold 29 = .ok (.iastore, 1) := by decide +kernel
theorem dX2_stickTold_30 : decode cX2_stickTold 30 = .ok (.dup, 1) := by decide +kernel
theorem dX2_stickTold_31 : decode cX2_stickTold 31 = .ok (.iconst 3, 1) := by decide +kernel
theorem dX2_stickTold_32 : decode cX2_stickTold 32 = .ok (.aload_n 0, 1) := by decide +kernel
theorem dX2_stickTold_33 : decode cX2_stickTold 33 = .ok (.iload_n 1, 1) := by decide +kernel
theorem dX2_stickTold_34 : decode cX2_stickTold 34 = .ok (.invokevirtual 109, 3) := by decide +kernel
theorem dX2_stickTold_37 : decode cX2_stickTold 37 = .ok (.iastore, 1) := by decide +kernel
theorem dX2_stickTold_38 : decode cX2_stickTold 38 = .ok (.dup, 1) := by decide +kernel
theorem dX2_stickTold_39 : decode cX2_stickTold 39 = .ok (.iconst 4, 1) := by decide +kernel
theorem dX2_stickTold_40 : decode cX2_stickTold 40 = .ok (.aload_n 0, 1) := by decide +kernel
theorem dX2_stickTold_41 : decode cX2_stickTold 41 = .ok (.getfield 19, 3) := by decide +kernel
theorem dX2_stickTold_44 : decode cX2_stickTold 44 = .ok (.iload_n 1, 1) := by decide +kernel
theorem dX2_stickTold_45 : decode cX2_stickTold 45 = .ok (.iaload, 1) := by decide +kernel
theorem dX2_stickTold_46 : decode cX2_stickTold 46 = .ok (.iastore, 1) := by decide +kernel
theorem dX2_stickTold_47 : decode cX2_stickTold 47 = .ok (.dup, 1) := by decide +kernel
theorem dX2_stickTold_48 : decode cX2_stickTold 48 = .ok (.iconst 5, 1) := by decide +kernel
theorem dX2_stickTold_49 : decode cX2_stickTold 49 = .ok (.aload_n 0, 1) := by decide +kernel
theorem dX2_stickTold_50 : decode cX2_stickTold 50 = .ok (.getfield 22, 3) := by decide +kernel
theorem dX2_stickTold_53 : decode cX2_stickTold 53 = .ok (.iload_n 1, 1) := by decide +kernel
theorem dX2_stickTold_54 : decode cX2_stickTold 54 = .ok (.iaload, 1) := by decide +kernel
theorem dX2_stickTold_55 : decode cX2_stickTold 55 = .ok (.iastore, 1) := by decide +kernel
theorem dX2_stickTold_56 : decode cX2_stickTold 56 = .ok (.dup, 1) := by decide +kernel
theorem dX2_stickTold_57 : decode cX2_stickTold 57 = .ok (.bipush 6, 2) := by decide +kernel
theorem dX2_stickTold_59 : decode cX2_stickTold 59 = .ok (.aload_n 0, 1) := by decide +kernel
theorem dX2_stickTold_60 : decode cX2_stickTold 60 = .ok (.getfield 16, 3) := by decide +kernel
theorem dX2_stickTold_63 : decode cX2_stickTold 63 = .ok (.iload_n 1, 1) := by decide +kernel
theorem dX2_stickTold_64 : decode cX2_stickTold 64 = .ok (.iaload, 1) := by decide +kernel
theorem dX2_stickTold_65 : decode cX2_stickTold 65 = .ok (.iastore, 1) := by decide +kernel
theorem dX2_stickTold_66 : decode cX2_stickTold 66 = .ok (.astore_n 3, 1) := by decide +kernel
theorem dX2_stickTold_67 : decode cX2_stickTold 67 = .ok (.aload_n 3, 1) := by decide +kernel
theorem dX2_stickTold_68 : decode cX2_stickTold 68 = .ok (.iload_n 2, 1) := by decide +kernel
theorem dX2_stickTold_69 : decode cX2_stickTold 69 = .ok (.iaload, 1) := by decide +kernel
theorem dX2_stickTold_70 : decode cX2_stickTold 70 = .ok (.ireturn, 1) := by decide +kernel
set_option maxRecDepth 20000 in
theorem ggX2_stick_X2_isStick : GoodIn wsX2_stick wsX2_isStick := goodIn_r _ [6, 7, 8, 9, 5, 10, 42, 43, 44, 45, 46, 47, 48, 49, 50, 51, 52, 53, 54] (by decide +kernel) (by decide +kernel)
set_option maxRecDepth 20000 in
theorem gX2_stick_X2_isStick : GoodIn wsX2_stick (wsV RX2 51 RX2 yX2_isStick wsX2_isStick) := goodIn_app (goodIn_of _ (by decide +kernel)) ggX2_stick_X2_isStick
set_option maxRecDepth 20000 in
theorem ggX2_stick_X2_isIn : GoodIn wsX2_stick wsX2_isIn := goodIn_r _ [10] (by decide +kernel) (by decide +kernel)
set_option maxRecDepth 20000 in
theorem gX2_stick_X2_isIn : GoodIn wsX2_stick (va_wsS RX2 47 yX2_isIn wsX2_isIn) := goodIn_app (goodIn_of _ (by decide +kernel)) ggX2_stick_X2_isIn
set_option maxRecDepth 20000 in
theorem ggX2_stick_X2_stickTold : GoodIn wsX2_stick wsX2_stickTold := goodIn_r _ [14, 15, 16, 17, 18, 19, 20, 21, 22, 23, 5, 24, 25, 26, 27, 28, 29, 30, 31, 32, 33, 34, 35, 36, 37, 42, 43, 44, 45, 46, 47, 48, 49, 50, 51, 52, 53, 54] (by decide +kernel) (by decide +kernel)
set_option maxRecDepth 20000 in
theorem gX2_stick_X2_stickTold : GoodIn wsX2_stick (wsV RX2 112 RX2 yX2_stickTold wsX2_stickTold) := goodIn_app (goodIn_of _ (by decide +kernel)) ggX2_stick_X2_stickTold
set_option maxRecDepth 20000 in
theorem ggX2_stick_X2_no : GoodIn wsX2_stick wsX2_no := goodIn_r _ [41, 1, 42, 43, 44, 45, 46, 47, 48, 49, 50, 51, 52, 53, 54] (by decide +kernel) (by decide +kernel)
set_option maxRecDepth 20000 in
theorem gX2_stick_X2_no : GoodIn wsX2_stick (wsV RX2 58 RX2 yX2_no wsX2_no) := goodIn_app (goodIn_of _ (by decide +kernel)) ggX2_stick_X2_no
theorem dX2_stick_0 : decode cX2_stick 0 = .ok (.aload_n 0, 1) := by decide +kernel
theorem dX2_stick_1 : decode cX2_stick 1 = .ok (.iconst 0, 1) := by decide +kernel
theorem dX2_stick_2 : decode cX2_stick 2 = .ok (.putfield 40, 3) := by decide +kernel
theorem dX2_stick_5 : decode cX2_stick 5 = .ok (.aload_n 0, 1) := by decide +kernel
theorem dX2_stick_6 : decode cX2_stick 6 = .ok (.iload_n 1, 1) := by decide +kernel
theorem dX2_stick_7 : decode cX2_stick 7 = .ok (.invokevirtual 51, 3) := by decide +kernel
theorem dX2_stick_10 : decode cX2_stick 10 = .ok (.ifCond .eq 22, 3) := by decide +kernel
theorem dX2_stick_13 : decode cX2_stick 13 = .ok (.iload_n 2, 1) := by decide +kernel
theorem dX2_stick_14 : decode cX2_stick 14 = .ok (.iconst 0, 1) := by decide +kernel
theorem dX2_stick_15 : decode cX2_stick 15 = .ok (.bipush 6, 2) := by decide +kernel
theorem dX2_stick_17 : decode cX2_stick 17 = .ok (.invokestatic 47, 3) := by decide +kernel
theorem dX2_stick_20 : decode cX2_stick 20 = .ok (.ifCond .eq 12, 3) := by decide +kernel
theorem dX2_stick_23 : decode cX2_stick 23 = .ok (.aload_n 0, 1) := by decide +kernel
theorem dX2_stick_24 : decode cX2_stick 24 = .ok (.iload_n 1, 1) := by decide +kernel
theorem dX2_stick_25 : decode cX2_stick 25 = .ok (.iload_n 2, 1) := by decide +kernel
theorem dX2_stick_26 : decode cX2_stick 26 = .ok (.invokevirtual 112, 3) := by decide +kernel
theorem dX2_stick_29 : decode cX2_stick 29 = .ok (.goto 8, 3) := by decide +kernel
theorem dX2_stick_32 : decode cX2_stick 32 = .ok (.aload_n 0, 1) := by decide +kernel
theorem dX2_stick_33 : decode cX2_stick 33 = .ok (.iconst 1, 1) := by decide +kernel
theorem dX2_stick_34 : decode cX2_stick 34 = .ok (.invokevirtual 58, 3) := by decide +kernel
theorem dX2_stick_37 : decode cX2_stick 37 = .ok (.ireturn, 1) := by decide +kernel
set_option maxRecDepth 20000 in
theorem ggX2_rune_X2_isSpot : GoodIn wsX2_rune wsX2_isSpot := goodIn_r _ [7, 8, 9, 10, 11, 6, 12, 13, 14, 15, 16, 17, 18, 19, 27, 28, 29, 30, 31, 32, 33, 34, 35, 36, 37, 38, 39] (by decide +kernel) (by decide +kernel)
set_option maxRecDepth 20000 in
theorem gX2_rune_X2_isSpot : GoodIn wsX2_rune (wsV RX2 70 RX2 yX2_isSpot wsX2_isSpot) := goodIn_app (goodIn_of _ (by decide +kernel)) ggX2_rune_X2_isSpot
set_option maxRecDepth 20000 in
theorem ggX2_rune_X2_spot : GoodIn wsX2_rune wsX2_spot := goodIn_r _ [22] (by decide +kernel) (by decide +kernel)
set_option maxRecDepth 20000 in
theorem gX2_rune_X2_spot : GoodIn wsX2_rune (va_wsS RX2 76 yX2_spot wsX2_spot) := goodIn_app (goodIn_of _ (by decide +kernel)) ggX2_rune_X2_spot
set_option maxRecDepth 20000 in
theorem ggX2_rune_X2_no : GoodIn wsX2_rune wsX2_no := goodIn_r _ [26, 1, 27, 28, 29, 30, 31, 32, 33, 34, 35, 36, 37, 38, 39] (by decide +kernel) (by decide +kernel)
set_option maxRecDepth 20000 in
theorem gX2_rune_X2_no : GoodIn wsX2_rune (wsV RX2 58 RX2 yX2_no wsX2_no) := goodIn_app (goodIn_of _ (by decide +kernel)) ggX2_rune_X2_no
theorem dX2_rune_0 : decode cX2_rune 0 = .ok (.aload_n 0, 1) := by decide +kernel
theorem dX2_rune_1 : decode cX2_rune 1 = .ok (.iconst 0, 1) := by decide +kernel
theorem dX2_rune_2 : decode cX2_rune 2 = .ok (.putfield 40, 3) := by decide +kernel
theorem dX2_rune_5 : decode cX2_rune 5 = .ok (.aload_n 0, 1) := by decide +kernel
theorem dX2_rune_6 : decode cX2_rune 6 = .ok (.iload_n 1, 1) := by decide +kernel
theorem dX2_rune_7 : decode cX2_rune 7 = .ok (.iload_n 2, 1) := by decide +kernel
theorem dX2_rune_8 : decode cX2_rune 8 = .ok (.iload_n 3, 1) := by decide +kernel
theorem dX2_rune_9 : decode cX2_rune 9 = .ok (.invokevirtual 70, 3) := by decide +kernel
theorem dX2_rune_12 : decode cX2_rune 12 = .ok (.ifCond .eq 19, 3) := by decide +kernel
theorem dX2_rune_15 : decode cX2_rune 15 = .ok (.aload_n 0, 1) := by decide +kernel
theorem dX2_rune_16 : decode cX2_rune 16 = .ok (.getfield 25, 3) := by decide +kernel
theorem dX2_rune_19 : decode cX2_rune 19 = .ok (.iload_n 1, 1) := by decide +kernel
theorem dX2_rune_20 : decode cX2_rune 20 = .ok (.iload_n 3, 1) := by decide +kernel
theorem dX2_rune_21 : decode cX2_rune 21 = .ok (.iload_n 2, 1) := by decide +kernel
theorem dX2_rune_22 : decode cX2_rune 22 = .ok (.invokestatic 76, 3) := by decide +kernel
theorem dX2_rune_25 : decode cX2_rune 25 = .ok (.iaload, 1) := by decide +kernel
theorem dX2_rune_26 : decode cX2_rune 26 = .ok (.iconst 1, 1) := by decide +kernel
theorem dX2_rune_27 : decode cX2_rune 27 = .ok (.isub, 1) := by decide +kernel
theorem dX2_rune_28 : decode cX2_rune 28 = .ok (.goto 8, 3) := by decide +kernel
theorem dX2_rune_31 : decode cX2_rune 31 = .ok (.aload_n 0, 1) := by decide +kernel
theorem dX2_rune_32 : decode cX2_rune 32 = .ok (.iconst 1, 1) := by decide +kernel
theorem dX2_rune_33 : decode cX2_rune 33 = .ok (.invokevirtual 58, 3) := by decide +kernel
theorem dX2_rune_36 : decode cX2_rune 36 = .ok (.ireturn, 1) := by decide +kernel
set_option maxRecDepth 20000 in
theorem ggX2_strength_X2_isStick : GoodIn wsX2_strength wsX2_isStick := goodIn_r _ [7, 8, 9, 10, 6, 11, 33, 34, 35, 36, 37, 38, 39, 40, 41, 42, 43, 44, 45] (by decide +kernel) (by decide +kernel)
set_option maxRecDepth 20000 in
theorem gX2_strength_X2_isStick : GoodIn wsX2_strength (wsV RX2 51 RX2 yX2_isStick wsX2_isStick) := goodIn_app (goodIn_of _ (by decide +kernel)) ggX2_strength_X2_isStick
set_option maxRecDepth 20000 in
theorem ggX2_strength_X2_isIn : GoodIn wsX2_strength wsX2_isIn := goodIn_r _ [11] (by decide +kernel) (by decide +kernel)
set_option maxRecDepth 20000 in
theorem gX2_strength_X2_isIn : GoodIn wsX2_strength (va_wsS RX2 47 yX2_isIn wsX2_isIn) := goodIn_app (goodIn_of _ (by decide +kernel)) ggX2_strength_X2_isIn
set_option maxRecDepth 20000 in
theorem ggX2_strength_X2_strong : GoodIn wsX2_strength wsX2_strong := goodIn_r _ [15, 16, 17, 18, 19, 20, 21, 22, 23, 6, 24, 25, 26, 27, 28, 33, 34, 35, 36, 37, 38, 39, 40, 41, 42, 43, 44, 45] (by decide +kernel) (by decide +kernel)
set_option maxRecDepth 20000 in
theorem gX2_strength_X2_strong : GoodIn wsX2_strength (wsV RX2 89 RX2 yX2_strong wsX2_strong) := goodIn_app (goodIn_of _ (by decide +kernel)) ggX2_strength_X2_strong
set_option maxRecDepth 20000 in
theorem ggX2_strength_X2_no : GoodIn wsX2_strength wsX2_no := goodIn_r _ [32, 1, 33, 34, 35, 36, 37, 38, 39, 40, 41, 42, 43, 44, 45] (by decide +kernel) (by decide +kernel)
set_option maxRecDepth 20000 in
theorem gX2_strength_X2_no : GoodIn wsX2_strength (wsV RX2 58 RX2 yX2_no wsX2_no) := goodIn_app (goodIn_of _ (by decide +kernel)) ggX2_strength_X2_no
theorem dX2_strength_0 : decode cX2_strength 0 = .ok (.aload_n 0, 1) := by decide +kernel
theorem dX2_strength_1 : decode cX2_strength 1 = .ok (.iconst 0, 1) := by decide +kernel
theorem dX2_strength_2 : decode cX2_strength 2 = .ok (.putfield 40, 3) := by decide +kernel
theorem dX2_strength_5 : decode cX2_strength 5 = .ok (.aload_n 0, 1) := by decide +kernel
theorem dX2_strength_6 : decode cX2_strength 6 = .ok (.iload_n 1, 1) := by decide +kernel
theorem dX2_strength_7 : decode cX2_strength 7 = .ok (.invokevirtual 51, 3) := by decide +kernel
theorem dX2_strength_10 : decode cX2_strength 10 = .ok (.ifCond .eq 28, 3) := by decide +kernel
theorem dX2_strength_13 : decode cX2_strength 13 = .ok (.iload_n 2, 1) := by decide +kernel
theorem dX2_strength_14 : decode cX2_strength 14 = .ok (.iconst 0, 1) := by decide +kernel
theorem dX2_strength_15 : decode cX2_strength 15 = .ok (.aload_n 0, 1) := by decide +kernel
theorem dX2_strength_16 : decode cX2_strength 16 = .ok (.getfield 9, 3) := by decide +kernel
theorem dX2_strength_19 : decode cX2_strength 19 = .ok (.iload_n 1, 1) := by decide +kernel
theorem dX2_strength_20 : decode cX2_strength 20 = .ok (.iaload, 1) := by decide +kernel
theorem dX2_strength_21 : decode cX2_strength 21 = .ok (.iconst 2, 1) := by decide +kernel
theorem dX2_strength_22 : decode cX2_strength 22 = .ok (.isub, 1) := by decide +kernel
theorem dX2_strength_23 : decode cX2_strength 23 = .ok (.invokestatic 47, 3) := by decide +kernel
theorem dX2_strength_26 : decode cX2_strength 26 = .ok (.ifCond .eq 12, 3) := by decide +kernel
theorem dX2_strength_29 : decode cX2_strength 29 = .ok (.aload_n 0, 1) := by decide +kernel
theorem dX2_strength_30 : decode cX2_strength 30 = .ok (.iload_n 1, 1) := by decide +kernel
theorem dX2_strength_31 : decode cX2_strength 31 = .ok (.iload_n 2, 1) := by decide +kernel
theorem dX2_strength_32 : decode cX2_strength 32 = .ok (.invokevirtual 89, 3) := by decide +kernel
theorem dX2_strength_35 : decode cX2_strength 35 = .ok (.goto 8, 3) := by decide +kernel
theorem dX2_strength_38 : decode cX2_strength 38 = .ok (.aload_n 0, 1) := by decide +kernel
theorem dX2_strength_39 : decode cX2_strength 39 = .ok (.iconst 1, 1) := by decide +kernel
theorem dX2_strength_40 : decode cX2_strength 40 = .ok (.invokevirtual 58, 3) := by decide +kernel
theorem dX2_strength_43 : decode cX2_strength 43 = .ok (.ireturn, 1) := by decide +kernel
set_option maxRecDepth 20000 in
theorem ggX2_counted_X2_runesOn : GoodIn wsX2_counted wsX2_runesOn := goodIn_r _ [10, 3, 11, 12, 13, 9, 14, 15, 16, 17, 18, 34, 35, 36, 37, 38, 39, 40, 41, 42, 43, 44, 45, 46] (by decide +kernel) (by decide +kernel)
set_option maxRecDepth 20000 in
theorem gX2_counted_X2_runesOn : GoodIn wsX2_counted (wsV RX2 106 RX2 yX2_runesOn wsX2_runesOn) := goodIn_app (goodIn_of _ (by decide +kernel)) ggX2_counted_X2_runesOn
set_option maxRecDepth 20000 in
theorem ggX2_counted_X2_glued : GoodIn wsX2_counted wsX2_glued := goodIn_r _ [22, 3, 23, 34, 35, 36, 37, 38, 39, 40, 41, 42, 43, 44, 45, 46] (by decide +kernel) (by decide +kernel)
set_option maxRecDepth 20000 in
theorem gX2_counted_X2_glued : GoodIn wsX2_counted (wsV RX2 109 RX2 yX2_glued wsX2_glued) := goodIn_app (goodIn_of _ (by decide +kernel)) ggX2_counted_X2_glued
set_option maxRecDepth 20000 in
theorem ggX2_counted_X2_fit : GoodIn wsX2_counted wsX2_fit := goodIn_r _ [27, 2, 28, 29, 34, 35, 36, 37, 38, 39, 40, 41, 42, 43, 44, 45, 46] (by decide +kernel) (by decide +kernel)
set_option maxRecDepth 20000 in
theorem gX2_counted_X2_fit : GoodIn wsX2_counted (wsV RX2 102 RX2 yX2_fit wsX2_fit) := goodIn_app (goodIn_of _ (by decide +kernel)) ggX2_counted_X2_fit
set_option maxRecDepth 20000 in
theorem ggX2_counted_X2_there : GoodIn wsX2_counted wsX2_there := goodIn_r _ [33, 1, 2, 34, 35, 36, 37, 38, 39, 40, 41, 42, 43, 44, 45, 46] (by decide +kernel) (by decide +kernel)
set_option maxRecDepth 20000 in
theorem gX2_counted_X2_there : GoodIn wsX2_counted (wsV RX2 62 RX2 yX2_there wsX2_there) := goodIn_app (goodIn_of _ (by decide +kernel)) ggX2_counted_X2_there
theorem dX2_counted_0 : decode cX2_counted 0 = .ok (.iconst 0, 1) := by decide +kernel
theorem dX2_counted_1 : decode cX2_counted 1 = .ok (.istore_n 2, 1) := by decide +kernel
theorem dX2_counted_2 : decode cX2_counted 2 = .ok (.iconst 0, 1) := by decide +kernel
theorem dX2_counted_3 : decode cX2_counted 3 = .ok (.istore_n 3, 1) := by decide +kernel
theorem dX2_counted_4 : decode cX2_counted 4 = .ok (.iconst 0, 1) := by decide +kernel
theorem dX2_counted_5 : decode cX2_counted 5 = .ok (.istore 4, 2) := by decide +kernel
theorem dX2_counted_7 : decode cX2_counted 7 = .ok (.iconst 0, 1) := by decide +kernel
theorem dX2_counted_8 : decode cX2_counted 8 = .ok (.istore 5, 2) := by decide +kernel
theorem dX2_counted_10 : decode cX2_counted 10 = .ok (.iconst 0, 1) := by decide +kernel
theorem dX2_counted_11 : decode cX2_counted 11 = .ok (.istore 6, 2) := by decide +kernel
theorem dX2_counted_13 : decode cX2_counted 13 = .ok (.iload 6, 2) := by decide +kernel
theorem dX2_counted_15 : decode cX2_counted 15 = .ok (.aload_n 0, 1) := by decide +kernel
theorem dX2_counted_16 : decode cX2_counted 16 = .ok (.getfield 44, 3) := by decide +kernel
theorem dX2_counted_19 : decode cX2_counted 19 = .ok (.if_icmp .ge 92, 3) := by decide +kernel
theorem dX2_counted_22 : decode cX2_counted 22 = .ok (.aload_n 0, 1) := by decide +kernel
theorem dX2_counted_23 : decode cX2_counted 23 = .ok (.getfield 16, 3) := by decide +kernel
theorem dX2_counted_26 : decode cX2_counted 26 = .ok (.iload 6, 2) := by decide +kernel
theorem dX2_counted_28 : decode cX2_counted 28 = .ok (.iaload, 1) := by decide +kernel
theorem dX2_counted_29 : decode cX2_counted 29 = .ok (.iconst 1, 1) := by decide +kernel
theorem dX2_counted_30 : decode cX2_counted 30 = .ok (.if_icmp .ne 6, 3) := by decide +kernel
theorem dX2_counted_33 : decode cX2_counted 33 = .ok (.goto 72, 3) := by decide +kernel
theorem dX2_counted_36 : decode cX2_counted 36 = .ok (.iload_n 2, 1) := by decide +kernel
theorem dX2_counted_37 : decode cX2_counted 37 = .ok (.aload_n 0, 1) := by decide +kernel
theorem dX2_counted_38 : decode cX2_counted 38 = .ok (.iload 6, 2) := by decide +kernel
theorem dX2_counted_40 : decode cX2_counted 40 = .ok (.invokevirtual 106, 3) := by decide +kernel
theorem dX2_counted_43 : decode cX2_counted 43 = .ok (.iadd, 1) := by decide +kernel
theorem dX2_counted_44 : decode cX2_counted 44 = .ok (.istore_n 2, 1) := by decide +kernel
theorem dX2_counted_45 : decode cX2_counted 45 = .ok (.iload_n 3, 1) := by decide +kernel
theorem dX2_counted_46 : decode cX2_counted 46 = .ok (.aload_n 0, 1) := by decide +kernel
theorem dX2_counted_47 : decode cX2_counted 47 = .ok (.iload 6, 2) := by decide +kernel
theorem dX2_counted_49 : decode cX2_counted 49 = .ok (.invokevirtual 109, 3) := by decide +kernel
theorem dX2_counted_52 : decode cX2_counted 52 = .ok (.iadd, 1) := by decide +kernel
theorem dX2_counted_53 : decode cX2_counted 53 = .ok (.istore_n 3, 1) := by decide +kernel
theorem dX2_counted_54 : decode cX2_counted 54 = .ok (.iload 4, 2) := by decide +kernel
theorem dX2_counted_56 : decode cX2_counted 56 = .ok (.aload_n 0, 1) := by decide +kernel
theorem dX2_counted_57 : decode cX2_counted 57 = .ok (.getfield 9, 3) := by decide +kernel
theorem dX2_counted_60 : decode cX2_counted 60 = .ok (.iload 6, 2) := by decide +kernel
theorem dX2_counted_62 : decode cX2_counted 62 = .ok (.iaload, 1) := by decide +kernel
theorem dX2_counted_63 : decode cX2_counted 63 = .ok (.iadd, 1) := by decide +kernel
theorem dX2_counted_64 : decode cX2_counted 64 = .ok (.istore 4, 2) := by decide +kernel
theorem dX2_counted_66 : decode cX2_counted 66 = .ok (.iconst 0, 1) := by decide +kernel
theorem dX2_counted_67 : decode cX2_counted 67 = .ok (.istore 7, 2) := by decide +kernel
theorem dX2_counted_69 : decode cX2_counted 69 = .ok (.iload 7, 2) := by decide +kernel
theorem dX2_counted_71 : decode cX2_counted 71 = .ok (.aload_n 0, 1) := by decide +kernel
theorem dX2_counted_72 : decode cX2_counted 72 = .ok (.getfield 44, 3) := by decide +kernel
theorem dX2_counted_75 : decode cX2_counted 75 = .ok (.if_icmp .ge 30, 3) := by decide +kernel
theorem dX2_counted_78 : decode cX2_counted 78 = .ok (.iload 5, 2) := by decide +kernel
theorem dX2_counted_80 : decode cX2_counted 80 = .ok (.aload_n 0, 1) := by decide +kernel
theorem dX2_counted_81 : decode cX2_counted 81 = .ok (.iload 6, 2) := by decide +kernel
theorem dX2_counted_83 : decode cX2_counted 83 = .ok (.iload 7, 2) := by decide +kernel
theorem dX2_counted_85 : decode cX2_counted 85 = .ok (.invokevirtual 102, 3) := by decide +kernel
theorem dX2_counted_88 : decode cX2_counted 88 = .ok (.ifCond .eq 7, 3) := by decide +kernel
theorem dX2_counted_91 : decode cX2_counted 91 = .ok (.iconst 1, 1) := by decide +kernel
theorem dX2_counted_92 : decode cX2_counted 92 = .ok (.goto 4, 3) := by decide +kernel
theorem dX2_counted_95 : decode cX2_counted 95 = .ok (.iconst 0, 1) := by decide +kernel
theorem dX2_counted_96 : decode cX2_counted 96 = .ok (.iadd, 1) := by decide +kernel
theorem dX2_counted_97 : decode cX2_counted 97 = .ok (.istore 5, 2) := by decide +kernel
theorem dX2_counted_99 : decode cX2_counted 99 = .ok (.iinc 7 1, 3) := by decide +kernel
theorem dX2_counted_102 : decode cX2_counted 102 = .ok (.goto (-33), 3) := by decide +kernel
theorem dX2_counted_105 : decode cX2_counted 105 = .ok (.iinc 6 1, 3) := by decide +kernel
theorem dX2_counted_108 : decode cX2_counted 108 = .ok (.goto (-95), 3) := by decide +kernel
theorem dX2_counted_111 : decode cX2_counted 111 = .ok (.bipush 7, 2) := by decide +kernel
theorem dX2_counted_113 : decode cX2_counted 113 = .ok (.newarray .int, 2) := by decide +kernel
theorem dX2_counted_115 : decode cX2_counted 115 = .ok (.dup, 1) := by decide +kernel
theorem dX2_counted_116 : decode cX2_counted 116 = .ok (.iconst 0, 1) := by decide +kernel
theorem dX2_counted_117 : decode cX2_counted 117 = .ok (.aload_n 0, 1) := by decide +kernel
theorem dX2_counted_118 : decode cX2_counted 118 = .ok (.invokevirtual 62, 3) := by decide +kernel
theorem dX2_counted_121 : decode cX2_counted 121 = .ok (.iastore, 1) := by decide +kernel
theorem dX2_counted_122 : decode cX2_counted 122 = .ok (.dup, 1) := by decide +kernel
theorem dX2_counted_123 : decode cX2_counted 123 = .ok (.iconst 1, 1) := by decide +kernel
theorem dX2_counted_124 : decode cX2_counted 124 = .ok (.aload_n 0, 1) := by decide +kernel
theorem dX2_counted_125 : decode cX2_counted 125 = .ok (.getfield 44, 3) := by decide +kernel
theorem dX2_counted_128 : decode cX2_counted 128 = .ok (.iastore, 1) := by decide +kernel
theorem dX2_counted_129 : decode cX2_counted 129 = .ok (.dup, 1) := by decide +kernel
theorem dX2_counted_130 : decode cX2_counted 130 = .ok (.iconst 2, 1) := by decide +kernel
theorem dX2_counted_131 : decode cX2_counted 131 = .ok (.iload_n 2, 1) := by decide +kernel
theorem dX2_counted_132 : decode cX2_counted 132 = .ok (.iastore, 1) := by decide +kernel
theorem dX2_counted_133 : decode cX2_counted 133 = .ok (.dup, 1) := by decide +kernel
theorem dX2_counted_134 : decode cX2_counted 134 = .ok (.iconst 3, 1) := by decide +kernel
theorem dX2_counted_135 : decode cX2_counted 135 = .ok (.aload_n 0, 1) := by decide +kernel
theorem dX2_counted_136 : decode cX2_counted 136 = .ok (.getfield 95, 3) := by decide +kernel
theorem dX2_counted_139 : decode cX2_counted 139 = .ok (.iastore, 1) := by decide +kernel
theorem dX2_counted_140 : decode cX2_counted 140 = .ok (.dup, 1) := by decide +kernel
theorem dX2_counted_141 : decode cX2_counted 141 = .ok (.iconst 4, 1) := by decide +kernel
theorem dX2_counted_142 : decode cX2_counted 142 = .ok (.iload_n 3, 1) := by decide +kernel
theorem dX2_counted_143 : decode cX2_counted 143 = .ok (.iastore, 1) := by decide +kernel
theorem dX2_counted_144 : decode cX2_counted 144 = .ok (.dup, 1) := by decide +kernel
theorem dX2_counted_145 : decode cX2_counted 145 = .ok (.iconst 5, 1) := by decide +kernel
theorem dX2_counted_146 : decode cX2_counted 146 = .ok (.iload 4, 2) := by decide +kernel
theorem dX2_counted_148 : decode cX2_counted 148 = .ok (.iastore, 1) := by decide +kernel
theorem dX2_counted_149 : decode cX2_counted 149 = .ok (.dup, 1) := by decide +kernel
theorem dX2_counted_150 : decode cX2_counted 150 = .ok (.bipush 6, 2) := by decide +kernel
theorem dX2_counted_152 : decode cX2_counted 152 = .ok (.iload 5, 2) := by decide +kernel
theorem dX2_counted_154 : decode cX2_counted 154 = .ok (.iastore, 1) := by decide +kernel
theorem dX2_counted_155 : decode cX2_counted 155 = .ok (.astore 6, 2) := by decide +kernel
theorem dX2_counted_157 : decode cX2_counted 157 = .ok (.aload 6, 2) := by decide +kernel
theorem dX2_counted_159 : decode cX2_counted 159 = .ok (.iload_n 1, 1) := by decide +kernel
theorem dX2_counted_160 : decode cX2_counted 160 = .ok (.iaload, 1) := by decide +kernel
theorem dX2_counted_161 : decode cX2_counted 161 = .ok (.ireturn, 1) := by decide +kernel
set_option maxRecDepth 20000 in
theorem ggX2_count_X2_isIn : GoodIn wsX2_count wsX2_isIn := goodIn_r _ [5] (by decide +kernel) (by decide +kernel)
set_option maxRecDepth 20000 in
theorem gX2_count_X2_isIn : GoodIn wsX2_count (va_wsS RX2 47 yX2_isIn wsX2_isIn) := goodIn_app (goodIn_of _ (by decide +kernel)) ggX2_count_X2_isIn
set_option maxRecDepth 20000 in
theorem ggX2_count_X2_counted : GoodIn wsX2_count wsX2_counted := goodIn_r _ [9, 10, 11, 12, 13, 14, 15, 16, 17, 4, 18, 19, 20, 21, 22, 23, 24, 25, 26, 27, 28, 29, 30, 31, 32, 33, 34, 35, 36, 37, 38, 39, 40, 41, 46, 47, 48, 49, 50, 51, 52, 53, 54, 55, 56, 57, 58] (by decide +kernel) (by decide +kernel)
set_option maxRecDepth 20000 in
theorem gX2_count_X2_counted : GoodIn wsX2_count (wsV RX2 115 RX2 yX2_counted wsX2_counted) := goodIn_app (goodIn_of _ (by decide +kernel)) ggX2_count_X2_counted
set_option maxRecDepth 20000 in
theorem ggX2_count_X2_no : GoodIn wsX2_count wsX2_no := goodIn_r _ [45, 1, 46, 47, 48, 49, 50, 51, 52, 53, 54, 55, 56, 57, 58] (by decide +kernel) (by decide +kernel)
set_option maxRecDepth 20000 in
theorem gX2_count_X2_no : GoodIn wsX2_count (wsV RX2 58 RX2 yX2_no wsX2_no) := goodIn_app (goodIn_of _ (by decide +kernel)) ggX2_count_X2_no
theorem dX2_count_0 : decode cX2_count 0 = .ok (.aload_n 0, 1) := by decide +kernel
theorem dX2_count_1 : decode cX2_count 1 = .ok (.iconst 0, 1) := by decide +kernel
theorem dX2_count_2 : decode cX2_count 2 = .ok (.putfield 40, 3) := by decide +kernel
theorem dX2_count_5 : decode cX2_count 5 = .ok (.iload_n 1, 1) := by decide +kernel
theorem dX2_count_6 : decode cX2_count 6 = .ok (.iconst 0, 1) := by decide +kernel
theorem dX2_count_7 : decode cX2_count 7 = .ok (.bipush 6, 2) := by decide +kernel
theorem dX2_count_9 : decode cX2_count 9 = .ok (.invokestatic 47, 3) := by decide +kernel
theorem dX2_count_12 : decode cX2_count 12 = .ok (.ifCond .eq 11, 3) := by decide +kernel
theorem dX2_count_15 : decode cX2_count 15 = .ok (.aload_n 0, 1) := by decide +kernel
theorem dX2_count_16 : decode cX2_count 16 = .ok (.iload_n 1, 1) := by decide +kernel
theorem dX2_count_17 : decode cX2_count 17 = .ok (.invokevirtual 115, 3) := by decide +kernel
theorem dX2_count_20 : decode cX2_count 20 = .ok (.goto 8, 3) := by decide +kernel
theorem dX2_count_23 : decode cX2_count 23 = .ok (.aload_n 0, 1) := by decide +kernel
theorem dX2_count_24 : decode cX2_count 24 = .ok (.iconst 1, 1) := by decide +kernel
theorem dX2_count_25 : decode cX2_count 25 = .ok (.invokevirtual 58, 3) := by decide +kernel
theorem dX2_count_28 : decode cX2_count 28 = .ok (.ireturn, 1) := by decide +kernel
set_option maxRecDepth 20000 in
theorem ggX2_fits_X2_isStick : GoodIn wsX2_fits wsX2_isStick := goodIn_r _ [6, 7, 8, 9, 5, 10, 22, 23, 24, 25, 26, 27, 28, 29, 30, 31, 32, 33, 34] (by decide +kernel) (by decide +kernel)
set_option maxRecDepth 20000 in
theorem gX2_fits_X2_isStick : GoodIn wsX2_fits (wsV RX2 51 RX2 yX2_isStick wsX2_isStick) := goodIn_app (goodIn_of _ (by decide +kernel)) ggX2_fits_X2_isStick
set_option maxRecDepth 20000 in
theorem ggX2_fits_X2_fit : GoodIn wsX2_fits wsX2_fit := goodIn_r _ [14, 15, 16, 17, 22, 23, 24, 25, 26, 27, 28, 29, 30, 31, 32, 33, 34] (by decide +kernel) (by decide +kernel)
set_option maxRecDepth 20000 in
theorem gX2_fits_X2_fit : GoodIn wsX2_fits (wsV RX2 102 RX2 yX2_fit wsX2_fit) := goodIn_app (goodIn_of _ (by decide +kernel)) ggX2_fits_X2_fit
set_option maxRecDepth 20000 in
theorem ggX2_fits_X2_no : GoodIn wsX2_fits wsX2_no := goodIn_r _ [21, 1, 22, 23, 24, 25, 26, 27, 28, 29, 30, 31, 32, 33, 34] (by decide +kernel) (by decide +kernel)
set_option maxRecDepth 20000 in
theorem gX2_fits_X2_no : GoodIn wsX2_fits (wsV RX2 58 RX2 yX2_no wsX2_no) := goodIn_app (goodIn_of _ (by decide +kernel)) ggX2_fits_X2_no
theorem dX2_fits_0 : decode cX2_fits 0 = .ok (.aload_n 0, 1) := by decide +kernel
theorem dX2_fits_1 : decode cX2_fits 1 = .ok (.iconst 0, 1) := by decide +kernel
theorem dX2_fits_2 : decode cX2_fits 2 = .ok (.putfield 40, 3) := by decide +kernel
theorem dX2_fits_5 : decode cX2_fits 5 = .ok (.aload_n 0, 1) := by decide +kernel
theorem dX2_fits_6 : decode cX2_fits 6 = .ok (.iload_n 1, 1) := by decide +kernel
theorem dX2_fits_7 : decode cX2_fits 7 = .ok (.invokevirtual 51, 3) := by decide +kernel
theorem dX2_fits_10 : decode cX2_fits 10 = .ok (.ifCond .eq 20, 3) := by decide +kernel
theorem dX2_fits_13 : decode cX2_fits 13 = .ok (.aload_n 0, 1) := by decide +kernel
theorem dX2_fits_14 : decode cX2_fits 14 = .ok (.iload_n 2, 1) := by decide +kernel
theorem dX2_fits_15 : decode cX2_fits 15 = .ok (.invokevirtual 51, 3) := by decide +kernel
theorem dX2_fits_18 : decode cX2_fits 18 = .ok (.ifCond .eq 12, 3) := by decide +kernel
theorem dX2_fits_21 : decode cX2_fits 21 = .ok (.aload_n 0, 1) := by decide +kernel
theorem dX2_fits_22 : decode cX2_fits 22 = .ok (.iload_n 1, 1) := by decide +kernel
theorem dX2_fits_23 : decode cX2_fits 23 = .ok (.iload_n 2, 1) := by decide +kernel
theorem dX2_fits_24 : decode cX2_fits 24 = .ok (.invokevirtual 102, 3) := by decide +kernel
theorem dX2_fits_27 : decode cX2_fits 27 = .ok (.goto 16, 3) := by decide +kernel
theorem dX2_fits_30 : decode cX2_fits 30 = .ok (.aload_n 0, 1) := by decide +kernel
theorem dX2_fits_31 : decode cX2_fits 31 = .ok (.iconst 1, 1) := by decide +kernel
theorem dX2_fits_32 : decode cX2_fits 32 = .ok (.invokevirtual 58, 3) := by decide +kernel
theorem dX2_fits_35 : decode cX2_fits 35 = .ok (.ifCond .eq 7, 3) := by decide +kernel
theorem dX2_fits_38 : decode cX2_fits 38 = .ok (.iconst 1, 1) := by decide +kernel
theorem dX2_fits_39 : decode cX2_fits 39 = .ok (.goto 4, 3) := by decide +kernel
theorem dX2_fits_42 : decode cX2_fits 42 = .ok (.iconst 0, 1) := by decide +kernel
theorem dX2_fits_43 : decode cX2_fits 43 = .ok (.ireturn, 1) := by decide +kernel
set_option maxRecDepth 20000 in
theorem ggX2_read_X2_spot : GoodIn wsX2_read wsX2_spot := goodIn_r _ [6] (by decide +kernel) (by decide +kernel)
set_option maxRecDepth 20000 in
theorem gX2_read_X2_spot : GoodIn wsX2_read (va_wsS RX2 76 yX2_spot wsX2_spot) := goodIn_app (goodIn_of _ (by decide +kernel)) ggX2_read_X2_spot
theorem dX2_read_0 : decode cX2_read 0 = .ok (.iconst 0, 1) := by decide +kernel
theorem dX2_read_1 : decode cX2_read 1 = .ok (.istore 5, 2) := by decide +kernel
theorem dX2_read_3 : decode cX2_read 3 = .ok (.iconst 0, 1) := by decide +kernel
theorem dX2_read_4 : decode cX2_read 4 = .ok (.istore 6, 2) := by decide +kernel
theorem dX2_read_6 : decode cX2_read 6 = .ok (.iload 6, 2) := by decide +kernel
theorem dX2_read_8 : decode cX2_read 8 = .ok (.aload_n 0, 1) := by decide +kernel
theorem dX2_read_9 : decode cX2_read 9 = .ok (.getfield 9, 3) := by decide +kernel
theorem dX2_read_12 : decode cX2_read 12 = .ok (.iload_n 1, 1) := by decide +kernel
theorem dX2_read_13 : decode cX2_read 13 = .ok (.iaload, 1) := by decide +kernel
theorem dX2_read_14 : decode cX2_read 14 = .ok (.if_icmp .ge 50, 3) := by decide +kernel
theorem dX2_read_17 : decode cX2_read 17 = .ok (.aload_n 0, 1) := by decide +kernel
theorem dX2_read_18 : decode cX2_read 18 = .ok (.getfield 25, 3) := by decide +kernel
theorem dX2_read_21 : decode cX2_read 21 = .ok (.iload_n 1, 1) := by decide +kernel
theorem dX2_read_22 : decode cX2_read 22 = .ok (.iload 6, 2) := by decide +kernel
theorem dX2_read_24 : decode cX2_read 24 = .ok (.iload_n 2, 1) := by decide +kernel
theorem dX2_read_25 : decode cX2_read 25 = .ok (.iload 6, 2) := by decide +kernel
theorem dX2_read_27 : decode cX2_read 27 = .ok (.iload_n 3, 1) := by decide +kernel
theorem dX2_read_28 : decode cX2_read 28 = .ok (.imul, 1) := by decide +kernel
theorem dX2_read_29 : decode cX2_read 29 = .ok (.iadd, 1) := by decide +kernel
theorem dX2_read_30 : decode cX2_read 30 = .ok (.iconst 3, 1) := by decide +kernel
theorem dX2_read_31 : decode cX2_read 31 = .ok (.irem, 1) := by decide +kernel
theorem dX2_read_32 : decode cX2_read 32 = .ok (.invokestatic 76, 3) := by decide +kernel
theorem dX2_read_35 : decode cX2_read 35 = .ok (.iaload, 1) := by decide +kernel
theorem dX2_read_36 : decode cX2_read 36 = .ok (.istore 7, 2) := by decide +kernel
theorem dX2_read_38 : decode cX2_read 38 = .ok (.iload 7, 2) := by decide +kernel
theorem dX2_read_40 : decode cX2_read 40 = .ok (.ifCond .ne 6, 3) := by decide +kernel
theorem dX2_read_43 : decode cX2_read 43 = .ok (.goto 15, 3) := by decide +kernel
theorem dX2_read_46 : decode cX2_read 46 = .ok (.aload 4, 2) := by decide +kernel
theorem dX2_read_48 : decode cX2_read 48 = .ok (.iload 5, 2) := by decide +kernel
theorem dX2_read_50 : decode cX2_read 50 = .ok (.iload 7, 2) := by decide +kernel
theorem dX2_read_52 : decode cX2_read 52 = .ok (.iconst 1, 1) := by decide +kernel
theorem dX2_read_53 : decode cX2_read 53 = .ok (.isub, 1) := by decide +kernel
theorem dX2_read_54 : decode cX2_read 54 = .ok (.iastore, 1) := by decide +kernel
theorem dX2_read_55 : decode cX2_read 55 = .ok (.iinc 5 1, 3) := by decide +kernel
theorem dX2_read_58 : decode cX2_read 58 = .ok (.iinc 6 1, 3) := by decide +kernel
theorem dX2_read_61 : decode cX2_read 61 = .ok (.goto (-55), 3) := by decide +kernel
theorem dX2_read_64 : decode cX2_read 64 = .ok (.iload 5, 2) := by decide +kernel
theorem dX2_read_66 : decode cX2_read 66 = .ok (.ireturn, 1) := by decide +kernel
set_option maxRecDepth 20000 in
theorem ggX2_size_X2_isStick : GoodIn wsX2_size wsX2_isStick := goodIn_r _ [8, 9, 10, 11, 7, 12, 26, 27, 28, 29, 30, 31, 32, 33, 34, 35, 36, 37, 38] (by decide +kernel) (by decide +kernel)
set_option maxRecDepth 20000 in
theorem gX2_size_X2_isStick : GoodIn wsX2_size (wsV RX2 51 RX2 yX2_isStick wsX2_isStick) := goodIn_app (goodIn_of _ (by decide +kernel)) ggX2_size_X2_isStick
set_option maxRecDepth 20000 in
theorem ggX2_size_X2_no : GoodIn wsX2_size wsX2_no := goodIn_r _ [16, 1, 26, 27, 28, 29, 30, 31, 32, 33, 34, 35, 36, 37, 38] (by decide +kernel) (by decide +kernel)
set_option maxRecDepth 20000 in
theorem gX2_size_X2_no : GoodIn wsX2_size (wsV RX2 58 RX2 yX2_no wsX2_no) := goodIn_app (goodIn_of _ (by decide +kernel)) ggX2_size_X2_no
set_option maxRecDepth 20000 in
theorem ggX2_size_X2_isIn : GoodIn wsX2_size wsX2_isIn := goodIn_r _ [12] (by decide +kernel) (by decide +kernel)
set_option maxRecDepth 20000 in
theorem gX2_size_X2_isIn : GoodIn wsX2_size (va_wsS RX2 47 yX2_isIn wsX2_isIn) := goodIn_app (goodIn_of _ (by decide +kernel)) ggX2_size_X2_isIn
set_option maxRecDepth 20000 in
theorem ggX2_size_X2_read : GoodIn wsX2_size wsX2_read := goodIn_r _ [20, 21, 22, 23, 24, 7, 25, 26, 27, 28, 29, 30, 31, 32, 33, 34, 35, 36, 37, 38] (by decide +kernel) (by decide +kernel)
set_option maxRecDepth 20000 in
theorem gX2_size_X2_read : GoodIn wsX2_size (wsV RX2 118 RX2 yX2_read wsX2_read) := goodIn_app (goodIn_of _ (by decide +kernel)) ggX2_size_X2_read
theorem dX2_size_0 : decode cX2_size 0 = .ok (.aload_n 0, 1) := by decide +kernel
theorem dX2_size_1 : decode cX2_size 1 = .ok (.iconst 0, 1) := by decide +kernel
theorem dX2_size_2 : decode cX2_size 2 = .ok (.putfield 40, 3) := by decide +kernel
theorem dX2_size_5 : decode cX2_size 5 = .ok (.aload_n 0, 1) := by decide +kernel
theorem dX2_size_6 : decode cX2_size 6 = .ok (.iload_n 1, 1) := by decide +kernel
theorem dX2_size_7 : decode cX2_size 7 = .ok (.invokevirtual 51, 3) := by decide +kernel
theorem dX2_size_10 : decode cX2_size 10 = .ok (.ifCond .ne 9, 3) := by decide +kernel
theorem dX2_size_13 : decode cX2_size 13 = .ok (.aload_n 0, 1) := by decide +kernel
theorem dX2_size_14 : decode cX2_size 14 = .ok (.iconst 1, 1) := by decide +kernel
theorem dX2_size_15 : decode cX2_size 15 = .ok (.invokevirtual 58, 3) := by decide +kernel
theorem dX2_size_18 : decode cX2_size 18 = .ok (.ireturn, 1) := by decide +kernel
theorem dX2_size_19 : decode cX2_size 19 = .ok (.iload_n 2, 1) := by decide +kernel
theorem dX2_size_20 : decode cX2_size 20 = .ok (.iconst 0, 1) := by decide +kernel
theorem dX2_size_21 : decode cX2_size 21 = .ok (.iconst 2, 1) := by decide +kernel
theorem dX2_size_22 : decode cX2_size 22 = .ok (.invokestatic 47, 3) := by decide +kernel
theorem dX2_size_25 : decode cX2_size 25 = .ok (.ifCond .eq 22, 3) := by decide +kernel
theorem dX2_size_28 : decode cX2_size 28 = .ok (.aload_n 0, 1) := by decide +kernel
theorem dX2_size_29 : decode cX2_size 29 = .ok (.iload_n 1, 1) := by decide +kernel
theorem dX2_size_30 : decode cX2_size 30 = .ok (.aload_n 0, 1) := by decide +kernel
theorem dX2_size_31 : decode cX2_size 31 = .ok (.getfield 13, 3) := by decide +kernel
theorem dX2_size_34 : decode cX2_size 34 = .ok (.iload_n 1, 1) := by decide +kernel
theorem dX2_size_35 : decode cX2_size 35 = .ok (.iaload, 1) := by decide +kernel
theorem dX2_size_36 : decode cX2_size 36 = .ok (.iload_n 2, 1) := by decide +kernel
theorem dX2_size_37 : decode cX2_size 37 = .ok (.aload_n 0, 1) := by decide +kernel
theorem dX2_size_38 : decode cX2_size 38 = .ok (.getfield 34, 3) := by decide +kernel
theorem dX2_size_41 : decode cX2_size 41 = .ok (.invokevirtual 118, 3) := by decide +kernel
theorem dX2_size_44 : decode cX2_size 44 = .ok (.goto 8, 3) := by decide +kernel
theorem dX2_size_47 : decode cX2_size 47 = .ok (.aload_n 0, 1) := by decide +kernel
theorem dX2_size_48 : decode cX2_size 48 = .ok (.iconst 2, 1) := by decide +kernel
theorem dX2_size_49 : decode cX2_size 49 = .ok (.invokevirtual 58, 3) := by decide +kernel
theorem dX2_size_52 : decode cX2_size 52 = .ok (.ireturn, 1) := by decide +kernel
set_option maxRecDepth 20000 in
theorem ggX2_reads_X2_isStick : GoodIn wsX2_reads wsX2_isStick := goodIn_r _ [8, 9, 10, 11, 7, 12, 26, 27, 28, 29, 30, 31, 32, 33, 34, 35, 36, 37, 38] (by decide +kernel) (by decide +kernel)
set_option maxRecDepth 20000 in
theorem gX2_reads_X2_isStick : GoodIn wsX2_reads (wsV RX2 51 RX2 yX2_isStick wsX2_isStick) := goodIn_app (goodIn_of _ (by decide +kernel)) ggX2_reads_X2_isStick
set_option maxRecDepth 20000 in
theorem ggX2_reads_X2_no : GoodIn wsX2_reads wsX2_no := goodIn_r _ [16, 1, 26, 27, 28, 29, 30, 31, 32, 33, 34, 35, 36, 37, 38] (by decide +kernel) (by decide +kernel)
set_option maxRecDepth 20000 in
theorem gX2_reads_X2_no : GoodIn wsX2_reads (wsV RX2 58 RX2 yX2_no wsX2_no) := goodIn_app (goodIn_of _ (by decide +kernel)) ggX2_reads_X2_no
set_option maxRecDepth 20000 in
theorem ggX2_reads_X2_isIn : GoodIn wsX2_reads wsX2_isIn := goodIn_r _ [12] (by decide +kernel) (by decide +kernel)
set_option maxRecDepth 20000 in
theorem gX2_reads_X2_isIn : GoodIn wsX2_reads (va_wsS RX2 47 yX2_isIn wsX2_isIn) := goodIn_app (goodIn_of _ (by decide +kernel)) ggX2_reads_X2_isIn
set_option maxRecDepth 20000 in
theorem ggX2_reads_X2_read : GoodIn wsX2_reads wsX2_read := goodIn_r _ [20, 21, 22, 23, 24, 7, 25, 26, 27, 28, 29, 30, 31, 32, 33, 34, 35, 36, 37, 38] (by decide +kernel) (by decide +kernel)
set_option maxRecDepth 20000 in
theorem gX2_reads_X2_read : GoodIn wsX2_reads (wsV RX2 118 RX2 yX2_read wsX2_read) := goodIn_app (goodIn_of _ (by decide +kernel)) ggX2_reads_X2_read
theorem dX2_reads_0 : decode cX2_reads 0 = .ok (.aload_n 0, 1) := by decide +kernel
theorem dX2_reads_1 : decode cX2_reads 1 = .ok (.iconst 0, 1) := by decide +kernel
theorem dX2_reads_2 : decode cX2_reads 2 = .ok (.putfield 40, 3) := by decide +kernel
theorem dX2_reads_5 : decode cX2_reads 5 = .ok (.aload_n 0, 1) := by decide +kernel
theorem dX2_reads_6 : decode cX2_reads 6 = .ok (.iload_n 1, 1) := by decide +kernel
theorem dX2_reads_7 : decode cX2_reads 7 = .ok (.invokevirtual 51, 3) := by decide +kernel
theorem dX2_reads_10 : decode cX2_reads 10 = .ok (.ifCond .ne 9, 3) := by decide +kernel
theorem dX2_reads_13 : decode cX2_reads 13 = .ok (.aload_n 0, 1) := by decide +kernel
theorem dX2_reads_14 : decode cX2_reads 14 = .ok (.iconst 1, 1) := by decide +kernel
theorem dX2_reads_15 : decode cX2_reads 15 = .ok (.invokevirtual 58, 3) := by decide +kernel
theorem dX2_reads_18 : decode cX2_reads 18 = .ok (.ireturn, 1) := by decide +kernel
theorem dX2_reads_19 : decode cX2_reads 19 = .ok (.iload_n 2, 1) := by decide +kernel
theorem dX2_reads_20 : decode cX2_reads 20 = .ok (.iconst 0, 1) := by decide +kernel
theorem dX2_reads_21 : decode cX2_reads 21 = .ok (.iconst 2, 1) := by decide +kernel
theorem dX2_reads_22 : decode cX2_reads 22 = .ok (.invokestatic 47, 3) := by decide +kernel
theorem dX2_reads_25 : decode cX2_reads 25 = .ok (.ifCond .eq 29, 3) := by decide +kernel
theorem dX2_reads_28 : decode cX2_reads 28 = .ok (.iload_n 3, 1) := by decide +kernel
theorem dX2_reads_29 : decode cX2_reads 29 = .ok (.iconst 0, 1) := by decide +kernel
theorem dX2_reads_30 : decode cX2_reads 30 = .ok (.aload_n 0, 1) := by decide +kernel
theorem dX2_reads_31 : decode cX2_reads 31 = .ok (.iload_n 1, 1) := by decide +kernel
theorem dX2_reads_32 : decode cX2_reads 32 = .ok (.aload_n 0, 1) := by decide +kernel
theorem dX2_reads_33 : decode cX2_reads 33 = .ok (.getfield 13, 3) := by decide +kernel
theorem dX2_reads_36 : decode cX2_reads 36 = .ok (.iload_n 1, 1) := by decide +kernel
theorem dX2_reads_37 : decode cX2_reads 37 = .ok (.iaload, 1) := by decide +kernel
theorem dX2_reads_38 : decode cX2_reads 38 = .ok (.iload_n 2, 1) := by decide +kernel
theorem dX2_reads_39 : decode cX2_reads 39 = .ok (.aload_n 0, 1) := by decide +kernel
theorem dX2_reads_40 : decode cX2_reads 40 = .ok (.getfield 34, 3) := by decide +kernel
theorem dX2_reads_43 : decode cX2_reads 43 = .ok (.invokevirtual 118, 3) := by decide +kernel
theorem dX2_reads_46 : decode cX2_reads 46 = .ok (.iconst 1, 1) := by decide +kernel
theorem dX2_reads_47 : decode cX2_reads 47 = .ok (.isub, 1) := by decide +kernel
theorem dX2_reads_48 : decode cX2_reads 48 = .ok (.invokestatic 47, 3) := by decide +kernel
theorem dX2_reads_51 : decode cX2_reads 51 = .ok (.ifCond .ne 9, 3) := by decide +kernel
theorem dX2_reads_54 : decode cX2_reads 54 = .ok (.aload_n 0, 1) := by decide +kernel
theorem dX2_reads_55 : decode cX2_reads 55 = .ok (.iconst 2, 1) := by decide +kernel
theorem dX2_reads_56 : decode cX2_reads 56 = .ok (.invokevirtual 58, 3) := by decide +kernel
theorem dX2_reads_59 : decode cX2_reads 59 = .ok (.ireturn, 1) := by decide +kernel
theorem dX2_reads_60 : decode cX2_reads 60 = .ok (.aload_n 0, 1) := by decide +kernel
theorem dX2_reads_61 : decode cX2_reads 61 = .ok (.getfield 34, 3) := by decide +kernel
theorem dX2_reads_64 : decode cX2_reads 64 = .ok (.iload_n 3, 1) := by decide +kernel
theorem dX2_reads_65 : decode cX2_reads 65 = .ok (.iaload, 1) := by decide +kernel
theorem dX2_reads_66 : decode cX2_reads 66 = .ok (.ireturn, 1) := by decide +kernel
set_option maxRecDepth 20000 in
theorem ggX2_has_X2_isStick : GoodIn wsX2_has wsX2_isStick := goodIn_r _ [7, 8, 9, 10, 6, 11, 28, 29, 30, 31, 32, 33, 34, 35, 36, 37, 38, 39, 40] (by decide +kernel) (by decide +kernel)
set_option maxRecDepth 20000 in
theorem gX2_has_X2_isStick : GoodIn wsX2_has (wsV RX2 51 RX2 yX2_isStick wsX2_isStick) := goodIn_app (goodIn_of _ (by decide +kernel)) ggX2_has_X2_isStick
set_option maxRecDepth 20000 in
theorem ggX2_has_X2_no : GoodIn wsX2_has wsX2_no := goodIn_r _ [15, 1, 28, 29, 30, 31, 32, 33, 34, 35, 36, 37, 38, 39, 40] (by decide +kernel) (by decide +kernel)
set_option maxRecDepth 20000 in
theorem gX2_has_X2_no : GoodIn wsX2_has (wsV RX2 58 RX2 yX2_no wsX2_no) := goodIn_app (goodIn_of _ (by decide +kernel)) ggX2_has_X2_no
set_option maxRecDepth 20000 in
theorem ggX2_has_X2_isRune : GoodIn wsX2_has wsX2_isRune := goodIn_r _ [18, 9, 10, 6, 11] (by decide +kernel) (by decide +kernel)
set_option maxRecDepth 20000 in
theorem gX2_has_X2_isRune : GoodIn wsX2_has (va_wsS RX2 73 yX2_isRune wsX2_isRune) := goodIn_app (goodIn_of _ (by decide +kernel)) ggX2_has_X2_isRune
set_option maxRecDepth 20000 in
theorem ggX2_has_X2_read : GoodIn wsX2_has wsX2_read := goodIn_r _ [22, 23, 24, 25, 26, 6, 27, 28, 29, 30, 31, 32, 33, 34, 35, 36, 37, 38, 39, 40] (by decide +kernel) (by decide +kernel)
set_option maxRecDepth 20000 in
theorem gX2_has_X2_read : GoodIn wsX2_has (wsV RX2 118 RX2 yX2_read wsX2_read) := goodIn_app (goodIn_of _ (by decide +kernel)) ggX2_has_X2_read
theorem dX2_has_0 : decode cX2_has 0 = .ok (.aload_n 0, 1) := by decide +kernel
theorem dX2_has_1 : decode cX2_has 1 = .ok (.iconst 0, 1) := by decide +kernel
theorem dX2_has_2 : decode cX2_has 2 = .ok (.putfield 40, 3) := by decide +kernel
theorem dX2_has_5 : decode cX2_has 5 = .ok (.aload_n 0, 1) := by decide +kernel
theorem dX2_has_6 : decode cX2_has 6 = .ok (.iload_n 1, 1) := by decide +kernel
theorem dX2_has_7 : decode cX2_has 7 = .ok (.invokevirtual 51, 3) := by decide +kernel
theorem dX2_has_10 : decode cX2_has 10 = .ok (.ifCond .ne 9, 3) := by decide +kernel
theorem dX2_has_13 : decode cX2_has 13 = .ok (.aload_n 0, 1) := by decide +kernel
theorem dX2_has_14 : decode cX2_has 14 = .ok (.iconst 1, 1) := by decide +kernel
theorem dX2_has_15 : decode cX2_has 15 = .ok (.invokevirtual 58, 3) := by decide +kernel
theorem dX2_has_18 : decode cX2_has 18 = .ok (.ireturn, 1) := by decide +kernel
theorem dX2_has_19 : decode cX2_has 19 = .ok (.iload_n 2, 1) := by decide +kernel
theorem dX2_has_20 : decode cX2_has 20 = .ok (.invokestatic 73, 3) := by decide +kernel
theorem dX2_has_23 : decode cX2_has 23 = .ok (.ifCond .eq 10, 3) := by decide +kernel
theorem dX2_has_26 : decode cX2_has 26 = .ok (.iload_n 3, 1) := by decide +kernel
theorem dX2_has_27 : decode cX2_has 27 = .ok (.invokestatic 73, 3) := by decide +kernel
theorem dX2_has_30 : decode cX2_has 30 = .ok (.ifCond .ne 9, 3) := by decide +kernel
theorem dX2_has_33 : decode cX2_has 33 = .ok (.aload_n 0, 1) := by decide +kernel
theorem dX2_has_34 : decode cX2_has 34 = .ok (.iconst 2, 1) := by decide +kernel
theorem dX2_has_35 : decode cX2_has 35 = .ok (.invokevirtual 58, 3) := by decide +kernel
theorem dX2_has_38 : decode cX2_has 38 = .ok (.ireturn, 1) := by decide +kernel
theorem dX2_has_39 : decode cX2_has 39 = .ok (.iconst 0, 1) := by decide +kernel
theorem dX2_has_40 : decode cX2_has 40 = .ok (.istore 4, 2) := by decide +kernel
theorem dX2_has_42 : decode cX2_has 42 = .ok (.iconst 0, 1) := by decide +kernel
theorem dX2_has_43 : decode cX2_has 43 = .ok (.istore 5, 2) := by decide +kernel
theorem dX2_has_45 : decode cX2_has 45 = .ok (.iload 5, 2) := by decide +kernel
theorem dX2_has_47 : decode cX2_has 47 = .ok (.bipush 9, 2) := by decide +kernel
theorem dX2_has_49 : decode cX2_has 49 = .ok (.if_icmp .ge 96, 3) := by decide +kernel
theorem dX2_has_52 : decode cX2_has 52 = .ok (.aload_n 0, 1) := by decide +kernel
theorem dX2_has_53 : decode cX2_has 53 = .ok (.iload_n 1, 1) := by decide +kernel
theorem dX2_has_54 : decode cX2_has 54 = .ok (.iload 5, 2) := by decide +kernel
theorem dX2_has_56 : decode cX2_has 56 = .ok (.iconst 3, 1) := by decide +kernel
theorem dX2_has_57 : decode cX2_has 57 = .ok (.idiv, 1) := by decide +kernel
theorem dX2_has_58 : decode cX2_has 58 = .ok (.iload 5, 2) := by decide +kernel
theorem dX2_has_60 : decode cX2_has 60 = .ok (.iconst 3, 1) := by decide +kernel
theorem dX2_has_61 : decode cX2_has 61 = .ok (.irem, 1) := by decide +kernel
theorem dX2_has_62 : decode cX2_has 62 = .ok (.aload_n 0, 1) := by decide +kernel
theorem dX2_has_63 : decode cX2_has 63 = .ok (.getfield 34, 3) := by decide +kernel
theorem dX2_has_66 : decode cX2_has 66 = .ok (.invokevirtual 118, 3) := by decide +kernel
theorem dX2_has_69 : decode cX2_has 69 = .ok (.istore 6, 2) := by decide +kernel
theorem dX2_has_71 : decode cX2_has 71 = .ok (.iconst 0, 1) := by decide +kernel
theorem dX2_has_72 : decode cX2_has 72 = .ok (.istore 7, 2) := by decide +kernel
theorem dX2_has_74 : decode cX2_has 74 = .ok (.iconst 1, 1) := by decide +kernel
theorem dX2_has_75 : decode cX2_has 75 = .ok (.istore 8, 2) := by decide +kernel
theorem dX2_has_77 : decode cX2_has 77 = .ok (.iload 8, 2) := by decide +kernel
theorem dX2_has_79 : decode cX2_has 79 = .ok (.iload 6, 2) := by decide +kernel
theorem dX2_has_81 : decode cX2_has 81 = .ok (.if_icmp .ge 43, 3) := by decide +kernel
theorem dX2_has_84 : decode cX2_has 84 = .ok (.iload 7, 2) := by decide +kernel
theorem dX2_has_86 : decode cX2_has 86 = .ok (.aload_n 0, 1) := by decide +kernel
theorem dX2_has_87 : decode cX2_has 87 = .ok (.getfield 34, 3) := by decide +kernel
theorem dX2_has_90 : decode cX2_has 90 = .ok (.iload 8, 2) := by decide +kernel
theorem dX2_has_92 : decode cX2_has 92 = .ok (.iconst 1, 1) := by decide +kernel
theorem dX2_has_93 : decode cX2_has 93 = .ok (.isub, 1) := by decide +kernel
theorem dX2_has_94 : decode cX2_has 94 = .ok (.iaload, 1) := by decide +kernel
theorem dX2_has_95 : decode cX2_has 95 = .ok (.iload_n 2, 1) := by decide +kernel
theorem dX2_has_96 : decode cX2_has 96 = .ok (.if_icmp .ne 18, 3) := by decide +kernel
theorem dX2_has_99 : decode cX2_has 99 = .ok (.aload_n 0, 1) := by decide +kernel
theorem dX2_has_100 : decode cX2_has 100 = .ok (.getfield 34, 3) := by decide +kernel
theorem dX2_has_103 : decode cX2_has 103 = .ok (.iload 8, 2) := by decide +kernel
theorem dX2_has_105 : decode cX2_has 105 = .ok (.iaload, 1) := by decide +kernel
theorem dX2_has_106 : decode cX2_has 106 = .ok (.iload_n 3, 1) := by decide +kernel
theorem dX2_has_107 : decode cX2_has 107 = .ok (.if_icmp .ne 7, 3) := by decide +kernel
theorem dX2_has_110 : decode cX2_has 110 = .ok (.iconst 1, 1) := by decide +kernel
theorem dX2_has_111 : decode cX2_has 111 = .ok (.goto 4, 3) := by decide +kernel
theorem dX2_has_114 : decode cX2_has 114 = .ok (.iconst 0, 1) := by decide +kernel
theorem dX2_has_115 : decode cX2_has 115 = .ok (.ior, 1) := by decide +kernel
theorem dX2_has_116 : decode cX2_has 116 = .ok (.istore 7, 2) := by decide +kernel
theorem dX2_has_118 : decode cX2_has 118 = .ok (.iinc 8 1, 3) := by decide +kernel
theorem dX2_has_121 : decode cX2_has 121 = .ok (.goto (-44), 3) := by decide +kernel
theorem dX2_has_124 : decode cX2_has 124 = .ok (.iload 4, 2) := by decide +kernel
theorem dX2_has_126 : decode cX2_has 126 = .ok (.iload 7, 2) := by decide +kernel
theorem dX2_has_128 : decode cX2_has 128 = .ok (.ifCond .eq 7, 3) := by decide +kernel
theorem dX2_has_131 : decode cX2_has 131 = .ok (.iconst 1, 1) := by decide +kernel
theorem dX2_has_132 : decode cX2_has 132 = .ok (.goto 4, 3) := by decide +kernel
theorem dX2_has_135 : decode cX2_has 135 = .ok (.iconst 0, 1) := by decide +kernel
theorem dX2_has_136 : decode cX2_has 136 = .ok (.iadd, 1) := by decide +kernel
theorem dX2_has_137 : decode cX2_has 137 = .ok (.istore 4, 2) := by decide +kernel
theorem dX2_has_139 : decode cX2_has 139 = .ok (.iinc 5 1, 3) := by decide +kernel
theorem dX2_has_142 : decode cX2_has 142 = .ok (.goto (-97), 3) := by decide +kernel
theorem dX2_has_145 : decode cX2_has 145 = .ok (.iload 4, 2) := by decide +kernel
theorem dX2_has_147 : decode cX2_has 147 = .ok (.ireturn, 1) := by decide +kernel
set_option maxRecDepth 20000 in
theorem ggX2_rhymeOf_X2_read : GoodIn wsX2_rhymeOf wsX2_read := goodIn_r _ [8, 9, 10, 11, 12, 7, 13, 14, 15, 16, 17, 18, 19, 20, 21, 22, 23, 24, 25, 26] (by decide +kernel) (by decide +kernel)
set_option maxRecDepth 20000 in
theorem gX2_rhymeOf_X2_read : GoodIn wsX2_rhymeOf (wsV RX2 118 RX2 yX2_read wsX2_read) := goodIn_app (goodIn_of _ (by decide +kernel)) ggX2_rhymeOf_X2_read
theorem dX2_rhymeOf_0 : decode cX2_rhymeOf 0 = .ok (.aload_n 0, 1) := by decide +kernel
theorem dX2_rhymeOf_1 : decode cX2_rhymeOf 1 = .ok (.iload_n 1, 1) := by decide +kernel
theorem dX2_rhymeOf_2 : decode cX2_rhymeOf 2 = .ok (.iload_n 2, 1) := by decide +kernel
theorem dX2_rhymeOf_3 : decode cX2_rhymeOf 3 = .ok (.iload 4, 2) := by decide +kernel
theorem dX2_rhymeOf_5 : decode cX2_rhymeOf 5 = .ok (.aload_n 0, 1) := by decide +kernel
theorem dX2_rhymeOf_6 : decode cX2_rhymeOf 6 = .ok (.getfield 34, 3) := by decide +kernel
theorem dX2_rhymeOf_9 : decode cX2_rhymeOf 9 = .ok (.invokevirtual 118, 3) := by decide +kernel
theorem dX2_rhymeOf_12 : decode cX2_rhymeOf 12 = .ok (.iconst 1, 1) := by decide +kernel
theorem dX2_rhymeOf_13 : decode cX2_rhymeOf 13 = .ok (.isub, 1) := by decide +kernel
theorem dX2_rhymeOf_14 : decode cX2_rhymeOf 14 = .ok (.istore 5, 2) := by decide +kernel
theorem dX2_rhymeOf_16 : decode cX2_rhymeOf 16 = .ok (.aload_n 0, 1) := by decide +kernel
theorem dX2_rhymeOf_17 : decode cX2_rhymeOf 17 = .ok (.iload_n 3, 1) := by decide +kernel
theorem dX2_rhymeOf_18 : decode cX2_rhymeOf 18 = .ok (.aload_n 0, 1) := by decide +kernel
theorem dX2_rhymeOf_19 : decode cX2_rhymeOf 19 = .ok (.getfield 13, 3) := by decide +kernel
theorem dX2_rhymeOf_22 : decode cX2_rhymeOf 22 = .ok (.iload_n 3, 1) := by decide +kernel
theorem dX2_rhymeOf_23 : decode cX2_rhymeOf 23 = .ok (.iaload, 1) := by decide +kernel
theorem dX2_rhymeOf_24 : decode cX2_rhymeOf 24 = .ok (.iload 4, 2) := by decide +kernel
theorem dX2_rhymeOf_26 : decode cX2_rhymeOf 26 = .ok (.aload_n 0, 1) := by decide +kernel
theorem dX2_rhymeOf_27 : decode cX2_rhymeOf 27 = .ok (.getfield 37, 3) := by decide +kernel
theorem dX2_rhymeOf_30 : decode cX2_rhymeOf 30 = .ok (.invokevirtual 118, 3) := by decide +kernel
theorem dX2_rhymeOf_33 : decode cX2_rhymeOf 33 = .ok (.iconst 1, 1) := by decide +kernel
theorem dX2_rhymeOf_34 : decode cX2_rhymeOf 34 = .ok (.isub, 1) := by decide +kernel
theorem dX2_rhymeOf_35 : decode cX2_rhymeOf 35 = .ok (.istore 6, 2) := by decide +kernel
theorem dX2_rhymeOf_37 : decode cX2_rhymeOf 37 = .ok (.iconst 0, 1) := by decide +kernel
theorem dX2_rhymeOf_38 : decode cX2_rhymeOf 38 = .ok (.istore 7, 2) := by decide +kernel
theorem dX2_rhymeOf_40 : decode cX2_rhymeOf 40 = .ok (.iload 5, 2) := by decide +kernel
theorem dX2_rhymeOf_42 : decode cX2_rhymeOf 42 = .ok (.ifCond .lt 67, 3) := by decide +kernel
theorem dX2_rhymeOf_45 : decode cX2_rhymeOf 45 = .ok (.iload 6, 2) := by decide +kernel
theorem dX2_rhymeOf_47 : decode cX2_rhymeOf 47 = .ok (.ifCond .lt 62, 3) := by decide +kernel
theorem dX2_rhymeOf_50 : decode cX2_rhymeOf 50 = .ok (.aload_n 0, 1) := by decide +kernel
theorem dX2_rhymeOf_51 : decode cX2_rhymeOf 51 = .ok (.getfield 34, 3) := by decide +kernel
theorem dX2_rhymeOf_54 : decode cX2_rhymeOf 54 = .ok (.iload 5, 2) := by decide +kernel
theorem dX2_rhymeOf_56 : decode cX2_rhymeOf 56 = .ok (.iaload, 1) := by decide +kernel
theorem dX2_rhymeOf_57 : decode cX2_rhymeOf 57 = .ok (.bipush 8, 2) := by decide +kernel
theorem dX2_rhymeOf_59 : decode cX2_rhymeOf 59 = .ok (.idiv, 1) := by decide +kernel
theorem dX2_rhymeOf_60 : decode cX2_rhymeOf 60 = .ok (.aload_n 0, 1) := by decide +kernel
theorem dX2_rhymeOf_61 : decode cX2_rhymeOf 61 = .ok (.getfield 37, 3) := by decide +kernel
theorem dX2_rhymeOf_64 : decode cX2_rhymeOf 64 = .ok (.iload 6, 2) := by decide +kernel
theorem dX2_rhymeOf_66 : decode cX2_rhymeOf 66 = .ok (.iaload, 1) := by decide +kernel
theorem dX2_rhymeOf_67 : decode cX2_rhymeOf 67 = .ok (.bipush 8, 2) := by decide +kernel
theorem dX2_rhymeOf_69 : decode cX2_rhymeOf 69 = .ok (.idiv, 1) := by decide +kernel
theorem dX2_rhymeOf_70 : decode cX2_rhymeOf 70 = .ok (.if_icmp .ne 39, 3) := by decide +kernel
theorem dX2_rhymeOf_73 : decode cX2_rhymeOf 73 = .ok (.iload 7, 2) := by decide +kernel
theorem dX2_rhymeOf_75 : decode cX2_rhymeOf 75 = .ok (.aload_n 0, 1) := by decide +kernel
theorem dX2_rhymeOf_76 : decode cX2_rhymeOf 76 = .ok (.getfield 34, 3) := by decide +kernel
theorem dX2_rhymeOf_79 : decode cX2_rhymeOf 79 = .ok (.iload 5, 2) := by decide +kernel
theorem dX2_rhymeOf_81 : decode cX2_rhymeOf 81 = .ok (.iaload, 1) := by decide +kernel
theorem dX2_rhymeOf_82 : decode cX2_rhymeOf 82 = .ok (.aload_n 0, 1) := by decide +kernel
theorem dX2_rhymeOf_83 : decode cX2_rhymeOf 83 = .ok (.getfield 37, 3) := by decide +kernel
theorem dX2_rhymeOf_86 : decode cX2_rhymeOf 86 = .ok (.iload 6, 2) := by decide +kernel
theorem dX2_rhymeOf_88 : decode cX2_rhymeOf 88 = .ok (.iaload, 1) := by decide +kernel
theorem dX2_rhymeOf_89 : decode cX2_rhymeOf 89 = .ok (.if_icmp .ne 7, 3) := by decide +kernel
theorem dX2_rhymeOf_92 : decode cX2_rhymeOf 92 = .ok (.iconst 2, 1) := by decide +kernel
theorem dX2_rhymeOf_93 : decode cX2_rhymeOf 93 = .ok (.goto 4, 3) := by decide +kernel
theorem dX2_rhymeOf_96 : decode cX2_rhymeOf 96 = .ok (.iconst 1, 1) := by decide +kernel
theorem dX2_rhymeOf_97 : decode cX2_rhymeOf 97 = .ok (.iadd, 1) := by decide +kernel
theorem dX2_rhymeOf_98 : decode cX2_rhymeOf 98 = .ok (.istore 7, 2) := by decide +kernel
theorem dX2_rhymeOf_100 : decode cX2_rhymeOf 100 = .ok (.iinc 5 (-1), 3) := by decide +kernel
theorem dX2_rhymeOf_103 : decode cX2_rhymeOf 103 = .ok (.iinc 6 (-1), 3) := by decide +kernel
theorem dX2_rhymeOf_106 : decode cX2_rhymeOf 106 = .ok (.goto (-66), 3) := by decide +kernel
theorem dX2_rhymeOf_109 : decode cX2_rhymeOf 109 = .ok (.iload 7, 2) := by decide +kernel
theorem dX2_rhymeOf_111 : decode cX2_rhymeOf 111 = .ok (.ireturn, 1) := by decide +kernel
set_option maxRecDepth 20000 in
theorem ggX2_rhyme_X2_isStick : GoodIn wsX2_rhyme wsX2_isStick := goodIn_r _ [7, 8, 9, 10, 6, 11, 31, 32, 33, 34, 35, 36, 37, 38, 39, 40, 41, 42, 43] (by decide +kernel) (by decide +kernel)
set_option maxRecDepth 20000 in
theorem gX2_rhyme_X2_isStick : GoodIn wsX2_rhyme (wsV RX2 51 RX2 yX2_isStick wsX2_isStick) := goodIn_app (goodIn_of _ (by decide +kernel)) ggX2_rhyme_X2_isStick
set_option maxRecDepth 20000 in
theorem ggX2_rhyme_X2_no : GoodIn wsX2_rhyme wsX2_no := goodIn_r _ [15, 1, 31, 32, 33, 34, 35, 36, 37, 38, 39, 40, 41, 42, 43] (by decide +kernel) (by decide +kernel)
set_option maxRecDepth 20000 in
theorem gX2_rhyme_X2_no : GoodIn wsX2_rhyme (wsV RX2 58 RX2 yX2_no wsX2_no) := goodIn_app (goodIn_of _ (by decide +kernel)) ggX2_rhyme_X2_no
set_option maxRecDepth 20000 in
theorem ggX2_rhyme_X2_isIn : GoodIn wsX2_rhyme wsX2_isIn := goodIn_r _ [11] (by decide +kernel) (by decide +kernel)
set_option maxRecDepth 20000 in
theorem gX2_rhyme_X2_isIn : GoodIn wsX2_rhyme (va_wsS RX2 47 yX2_isIn wsX2_isIn) := goodIn_app (goodIn_of _ (by decide +kernel)) ggX2_rhyme_X2_isIn
set_option maxRecDepth 20000 in
theorem ggX2_rhyme_X2_rhymeOf : GoodIn wsX2_rhyme wsX2_rhymeOf := goodIn_r _ [19, 20, 2, 21, 22, 23, 24, 6, 25, 26, 27, 28, 29, 30, 31, 32, 33, 34, 35, 36, 37, 38, 39, 40, 41, 42, 43] (by decide +kernel) (by decide +kernel)
set_option maxRecDepth 20000 in
theorem gX2_rhyme_X2_rhymeOf : GoodIn wsX2_rhyme (wsV RX2 122 RX2 yX2_rhymeOf wsX2_rhymeOf) := goodIn_app (goodIn_of _ (by decide +kernel)) ggX2_rhyme_X2_rhymeOf
theorem dX2_rhyme_0 : decode cX2_rhyme 0 = .ok (.aload_n 0, 1) := by decide +kernel
theorem dX2_rhyme_1 : decode cX2_rhyme 1 = .ok (.iconst 0, 1) := by decide +kernel
theorem dX2_rhyme_2 : decode cX2_rhyme 2 = .ok (.putfield 40, 3) := by decide +kernel
theorem dX2_rhyme_5 : decode cX2_rhyme 5 = .ok (.aload_n 0, 1) := by decide +kernel
theorem dX2_rhyme_6 : decode cX2_rhyme 6 = .ok (.iload_n 1, 1) := by decide +kernel
theorem dX2_rhyme_7 : decode cX2_rhyme 7 = .ok (.invokevirtual 51, 3) := by decide +kernel
theorem dX2_rhyme_10 : decode cX2_rhyme 10 = .ok (.ifCond .eq 11, 3) := by decide +kernel
theorem dX2_rhyme_13 : decode cX2_rhyme 13 = .ok (.aload_n 0, 1) := by decide +kernel
theorem dX2_rhyme_14 : decode cX2_rhyme 14 = .ok (.iload_n 2, 1) := by decide +kernel
theorem dX2_rhyme_15 : decode cX2_rhyme 15 = .ok (.invokevirtual 51, 3) := by decide +kernel
theorem dX2_rhyme_18 : decode cX2_rhyme 18 = .ok (.ifCond .ne 9, 3) := by decide +kernel
theorem dX2_rhyme_21 : decode cX2_rhyme 21 = .ok (.aload_n 0, 1) := by decide +kernel
theorem dX2_rhyme_22 : decode cX2_rhyme 22 = .ok (.iconst 1, 1) := by decide +kernel
theorem dX2_rhyme_23 : decode cX2_rhyme 23 = .ok (.invokevirtual 58, 3) := by decide +kernel
theorem dX2_rhyme_26 : decode cX2_rhyme 26 = .ok (.ireturn, 1) := by decide +kernel
theorem dX2_rhyme_27 : decode cX2_rhyme 27 = .ok (.iload_n 3, 1) := by decide +kernel
theorem dX2_rhyme_28 : decode cX2_rhyme 28 = .ok (.iconst 0, 1) := by decide +kernel
theorem dX2_rhyme_29 : decode cX2_rhyme 29 = .ok (.iconst 2, 1) := by decide +kernel
theorem dX2_rhyme_30 : decode cX2_rhyme 30 = .ok (.invokestatic 47, 3) := by decide +kernel
theorem dX2_rhyme_33 : decode cX2_rhyme 33 = .ok (.ifCond .eq 19, 3) := by decide +kernel
theorem dX2_rhyme_36 : decode cX2_rhyme 36 = .ok (.aload_n 0, 1) := by decide +kernel
theorem dX2_rhyme_37 : decode cX2_rhyme 37 = .ok (.iload_n 1, 1) := by decide +kernel
theorem dX2_rhyme_38 : decode cX2_rhyme 38 = .ok (.aload_n 0, 1) := by decide +kernel
theorem dX2_rhyme_39 : decode cX2_rhyme 39 = .ok (.getfield 13, 3) := by decide +kernel
theorem dX2_rhyme_42 : decode cX2_rhyme 42 = .ok (.iload_n 1, 1) := by decide +kernel
theorem dX2_rhyme_43 : decode cX2_rhyme 43 = .ok (.iaload, 1) := by decide +kernel
theorem dX2_rhyme_44 : decode cX2_rhyme 44 = .ok (.iload_n 2, 1) := by decide +kernel
theorem dX2_rhyme_45 : decode cX2_rhyme 45 = .ok (.iload_n 3, 1) := by decide +kernel
theorem dX2_rhyme_46 : decode cX2_rhyme 46 = .ok (.invokevirtual 122, 3) := by decide +kernel
theorem dX2_rhyme_49 : decode cX2_rhyme 49 = .ok (.goto 8, 3) := by decide +kernel
theorem dX2_rhyme_52 : decode cX2_rhyme 52 = .ok (.aload_n 0, 1) := by decide +kernel
theorem dX2_rhyme_53 : decode cX2_rhyme 53 = .ok (.iconst 2, 1) := by decide +kernel
theorem dX2_rhyme_54 : decode cX2_rhyme 54 = .ok (.invokevirtual 58, 3) := by decide +kernel
theorem dX2_rhyme_57 : decode cX2_rhyme 57 = .ok (.ireturn, 1) := by decide +kernel
set_option maxRecDepth 20000 in
theorem ggX2_best_X2_isStick : GoodIn wsX2_best wsX2_isStick := goodIn_r _ [6, 7, 8, 9, 5, 10, 31, 32, 33, 34, 35, 36, 37, 38, 39, 40, 41, 42, 43] (by decide +kernel) (by decide +kernel)
set_option maxRecDepth 20000 in
theorem gX2_best_X2_isStick : GoodIn wsX2_best (wsV RX2 51 RX2 yX2_isStick wsX2_isStick) := goodIn_app (goodIn_of _ (by decide +kernel)) ggX2_best_X2_isStick
set_option maxRecDepth 20000 in
theorem ggX2_best_X2_no : GoodIn wsX2_best wsX2_no := goodIn_r _ [14, 1, 31, 32, 33, 34, 35, 36, 37, 38, 39, 40, 41, 42, 43] (by decide +kernel) (by decide +kernel)
set_option maxRecDepth 20000 in
theorem gX2_best_X2_no : GoodIn wsX2_best (wsV RX2 58 RX2 yX2_no wsX2_no) := goodIn_app (goodIn_of _ (by decide +kernel)) ggX2_best_X2_no
set_option maxRecDepth 20000 in
theorem ggX2_best_X2_isIn : GoodIn wsX2_best wsX2_isIn := goodIn_r _ [10] (by decide +kernel) (by decide +kernel)
set_option maxRecDepth 20000 in
theorem gX2_best_X2_isIn : GoodIn wsX2_best (va_wsS RX2 47 yX2_isIn wsX2_isIn) := goodIn_app (goodIn_of _ (by decide +kernel)) ggX2_best_X2_isIn
set_option maxRecDepth 20000 in
theorem ggX2_best_X2_rhymeOf : GoodIn wsX2_best wsX2_rhymeOf := goodIn_r _ [18, 19, 20, 21, 22, 23, 24, 5, 25, 26, 27, 28, 29, 30, 31, 32, 33, 34, 35, 36, 37, 38, 39, 40, 41, 42, 43] (by decide +kernel) (by decide +kernel)
set_option maxRecDepth 20000 in
theorem gX2_best_X2_rhymeOf : GoodIn wsX2_best (wsV RX2 122 RX2 yX2_rhymeOf wsX2_rhymeOf) := goodIn_app (goodIn_of _ (by decide +kernel)) ggX2_best_X2_rhymeOf
theorem dX2_best_0 : decode cX2_best 0 = .ok (.aload_n 0, 1) := by decide +kernel
theorem dX2_best_1 : decode cX2_best 1 = .ok (.iconst 0, 1) := by decide +kernel
theorem dX2_best_2 : decode cX2_best 2 = .ok (.putfield 40, 3) := by decide +kernel
theorem dX2_best_5 : decode cX2_best 5 = .ok (.aload_n 0, 1) := by decide +kernel
theorem dX2_best_6 : decode cX2_best 6 = .ok (.iload_n 1, 1) := by decide +kernel
theorem dX2_best_7 : decode cX2_best 7 = .ok (.invokevirtual 51, 3) := by decide +kernel
theorem dX2_best_10 : decode cX2_best 10 = .ok (.ifCond .eq 11, 3) := by decide +kernel
theorem dX2_best_13 : decode cX2_best 13 = .ok (.aload_n 0, 1) := by decide +kernel
theorem dX2_best_14 : decode cX2_best 14 = .ok (.iload_n 2, 1) := by decide +kernel
theorem dX2_best_15 : decode cX2_best 15 = .ok (.invokevirtual 51, 3) := by decide +kernel
theorem dX2_best_18 : decode cX2_best 18 = .ok (.ifCond .ne 9, 3) := by decide +kernel
theorem dX2_best_21 : decode cX2_best 21 = .ok (.aload_n 0, 1) := by decide +kernel
theorem dX2_best_22 : decode cX2_best 22 = .ok (.iconst 1, 1) := by decide +kernel
theorem dX2_best_23 : decode cX2_best 23 = .ok (.invokevirtual 58, 3) := by decide +kernel
theorem dX2_best_26 : decode cX2_best 26 = .ok (.ireturn, 1) := by decide +kernel
theorem dX2_best_27 : decode cX2_best 27 = .ok (.iload_n 3, 1) := by decide +kernel
theorem dX2_best_28 : decode cX2_best 28 = .ok (.iconst 0, 1) := by decide +kernel
theorem dX2_best_29 : decode cX2_best 29 = .ok (.iconst 2, 1) := by decide +kernel
theorem dX2_best_30 : decode cX2_best 30 = .ok (.invokestatic 47, 3) := by decide +kernel
theorem dX2_best_33 : decode cX2_best 33 = .ok (.ifCond .ne 9, 3) := by decide +kernel
theorem dX2_best_36 : decode cX2_best 36 = .ok (.aload_n 0, 1) := by decide +kernel
theorem dX2_best_37 : decode cX2_best 37 = .ok (.iconst 2, 1) := by decide +kernel
theorem dX2_best_38 : decode cX2_best 38 = .ok (.invokevirtual 58, 3) := by decide +kernel
theorem dX2_best_41 : decode cX2_best 41 = .ok (.ireturn, 1) := by decide +kernel
theorem dX2_best_42 : decode cX2_best 42 = .ok (.iconst 0, 1) := by decide +kernel
theorem dX2_best_43 : decode cX2_best 43 = .ok (.istore 4, 2) := by decide +kernel
theorem dX2_best_45 : decode cX2_best 45 = .ok (.iconst 1, 1) := by decide +kernel
theorem dX2_best_46 : decode cX2_best 46 = .ok (.istore 5, 2) := by decide +kernel
theorem dX2_best_48 : decode cX2_best 48 = .ok (.iload 5, 2) := by decide +kernel
theorem dX2_best_50 : decode cX2_best 50 = .ok (.iconst 3, 1) := by decide +kernel
theorem dX2_best_51 : decode cX2_best 51 = .ok (.if_icmp .ge 34, 3) := by decide +kernel
theorem dX2_best_54 : decode cX2_best 54 = .ok (.aload_n 0, 1) := by decide +kernel
theorem dX2_best_55 : decode cX2_best 55 = .ok (.iload_n 1, 1) := by decide +kernel
theorem dX2_best_56 : decode cX2_best 56 = .ok (.iload 5, 2) := by decide +kernel
theorem dX2_best_58 : decode cX2_best 58 = .ok (.iload_n 2, 1) := by decide +kernel
theorem dX2_best_59 : decode cX2_best 59 = .ok (.iload_n 3, 1) := by decide +kernel
theorem dX2_best_60 : decode cX2_best 60 = .ok (.invokevirtual 122, 3) := by decide +kernel
theorem dX2_best_63 : decode cX2_best 63 = .ok (.aload_n 0, 1) := by decide +kernel
theorem dX2_best_64 : decode cX2_best 64 = .ok (.iload_n 1, 1) := by decide +kernel
theorem dX2_best_65 : decode cX2_best 65 = .ok (.iload 4, 2) := by decide +kernel
theorem dX2_best_67 : decode cX2_best 67 = .ok (.iload_n 2, 1) := by decide +kernel
theorem dX2_best_68 : decode cX2_best 68 = .ok (.iload_n 3, 1) := by decide +kernel
theorem dX2_best_69 : decode cX2_best 69 = .ok (.invokevirtual 122, 3) := by decide +kernel
theorem dX2_best_72 : decode cX2_best 72 = .ok (.if_icmp .le 7, 3) := by decide +kernel
theorem dX2_best_75 : decode cX2_best 75 = .ok (.iload 5, 2) := by decide +kernel
theorem dX2_best_77 : decode cX2_best 77 = .ok (.istore 4, 2) := by decide +kernel
theorem dX2_best_79 : decode cX2_best 79 = .ok (.iinc 5 1, 3) := by decide +kernel
theorem dX2_best_82 : decode cX2_best 82 = .ok (.goto (-34), 3) := by decide +kernel
theorem dX2_best_85 : decode cX2_best 85 = .ok (.iload 4, 2) := by decide +kernel
theorem dX2_best_87 : decode cX2_best 87 = .ok (.ireturn, 1) := by decide +kernel
set_option maxRecDepth 20000 in
theorem ggX2_pieces_X2_isStick : GoodIn wsX2_pieces wsX2_isStick := goodIn_r _ [7, 8, 9, 10, 6, 11, 33, 34, 35, 36, 37, 38, 39, 40, 41, 42, 43, 44, 45] (by decide +kernel) (by decide +kernel)
set_option maxRecDepth 20000 in
theorem gX2_pieces_X2_isStick : GoodIn wsX2_pieces (wsV RX2 51 RX2 yX2_isStick wsX2_isStick) := goodIn_app (goodIn_of _ (by decide +kernel)) ggX2_pieces_X2_isStick
set_option maxRecDepth 20000 in
theorem ggX2_pieces_X2_no : GoodIn wsX2_pieces wsX2_no := goodIn_r _ [15, 1, 33, 34, 35, 36, 37, 38, 39, 40, 41, 42, 43, 44, 45] (by decide +kernel) (by decide +kernel)
set_option maxRecDepth 20000 in
theorem gX2_pieces_X2_no : GoodIn wsX2_pieces (wsV RX2 58 RX2 yX2_no wsX2_no) := goodIn_app (goodIn_of _ (by decide +kernel)) ggX2_pieces_X2_no
set_option maxRecDepth 20000 in
theorem ggX2_pieces_X2_isIn : GoodIn wsX2_pieces wsX2_isIn := goodIn_r _ [11] (by decide +kernel) (by decide +kernel)
set_option maxRecDepth 20000 in
theorem gX2_pieces_X2_isIn : GoodIn wsX2_pieces (va_wsS RX2 47 yX2_isIn wsX2_isIn) := goodIn_app (goodIn_of _ (by decide +kernel)) ggX2_pieces_X2_isIn
set_option maxRecDepth 20000 in
theorem ggX2_pieces_X2_strong : GoodIn wsX2_pieces wsX2_strong := goodIn_r _ [19, 20, 21, 22, 23, 24, 25, 26, 27, 6, 28, 29, 30, 31, 32, 33, 34, 35, 36, 37, 38, 39, 40, 41, 42, 43, 44, 45] (by decide +kernel) (by decide +kernel)
set_option maxRecDepth 20000 in
theorem gX2_pieces_X2_strong : GoodIn wsX2_pieces (wsV RX2 89 RX2 yX2_strong wsX2_strong) := goodIn_app (goodIn_of _ (by decide +kernel)) ggX2_pieces_X2_strong
theorem dX2_pieces_0 : decode cX2_pieces 0 = .ok (.aload_n 0, 1) := by decide +kernel
theorem dX2_pieces_1 : decode cX2_pieces 1 = .ok (.iconst 0, 1) := by decide +kernel
theorem dX2_pieces_2 : decode cX2_pieces 2 = .ok (.putfield 40, 3) := by decide +kernel
theorem dX2_pieces_5 : decode cX2_pieces 5 = .ok (.aload_n 0, 1) := by decide +kernel
theorem dX2_pieces_6 : decode cX2_pieces 6 = .ok (.iload_n 1, 1) := by decide +kernel
theorem dX2_pieces_7 : decode cX2_pieces 7 = .ok (.invokevirtual 51, 3) := by decide +kernel
theorem dX2_pieces_10 : decode cX2_pieces 10 = .ok (.ifCond .ne 9, 3) := by decide +kernel
theorem dX2_pieces_13 : decode cX2_pieces 13 = .ok (.aload_n 0, 1) := by decide +kernel
theorem dX2_pieces_14 : decode cX2_pieces 14 = .ok (.iconst 1, 1) := by decide +kernel
theorem dX2_pieces_15 : decode cX2_pieces 15 = .ok (.invokevirtual 58, 3) := by decide +kernel
theorem dX2_pieces_18 : decode cX2_pieces 18 = .ok (.ireturn, 1) := by decide +kernel
theorem dX2_pieces_19 : decode cX2_pieces 19 = .ok (.iload_n 2, 1) := by decide +kernel
theorem dX2_pieces_20 : decode cX2_pieces 20 = .ok (.iconst 1, 1) := by decide +kernel
theorem dX2_pieces_21 : decode cX2_pieces 21 = .ok (.bipush 20, 2) := by decide +kernel
theorem dX2_pieces_23 : decode cX2_pieces 23 = .ok (.invokestatic 47, 3) := by decide +kernel
theorem dX2_pieces_26 : decode cX2_pieces 26 = .ok (.ifCond .ne 9, 3) := by decide +kernel
theorem dX2_pieces_29 : decode cX2_pieces 29 = .ok (.aload_n 0, 1) := by decide +kernel
theorem dX2_pieces_30 : decode cX2_pieces 30 = .ok (.iconst 2, 1) := by decide +kernel
theorem dX2_pieces_31 : decode cX2_pieces 31 = .ok (.invokevirtual 58, 3) := by decide +kernel
theorem dX2_pieces_34 : decode cX2_pieces 34 = .ok (.ireturn, 1) := by decide +kernel
theorem dX2_pieces_35 : decode cX2_pieces 35 = .ok (.iconst 1, 1) := by decide +kernel
theorem dX2_pieces_36 : decode cX2_pieces 36 = .ok (.istore_n 3, 1) := by decide +kernel
theorem dX2_pieces_37 : decode cX2_pieces 37 = .ok (.iconst 0, 1) := by decide +kernel
theorem dX2_pieces_38 : decode cX2_pieces 38 = .ok (.istore 4, 2) := by decide +kernel
theorem dX2_pieces_40 : decode cX2_pieces 40 = .ok (.iload 4, 2) := by decide +kernel
theorem dX2_pieces_42 : decode cX2_pieces 42 = .ok (.aload_n 0, 1) := by decide +kernel
theorem dX2_pieces_43 : decode cX2_pieces 43 = .ok (.getfield 9, 3) := by decide +kernel
theorem dX2_pieces_46 : decode cX2_pieces 46 = .ok (.iload_n 1, 1) := by decide +kernel
theorem dX2_pieces_47 : decode cX2_pieces 47 = .ok (.iaload, 1) := by decide +kernel
theorem dX2_pieces_48 : decode cX2_pieces 48 = .ok (.iconst 1, 1) := by decide +kernel
theorem dX2_pieces_49 : decode cX2_pieces 49 = .ok (.isub, 1) := by decide +kernel
theorem dX2_pieces_50 : decode cX2_pieces 50 = .ok (.if_icmp .ge 28, 3) := by decide +kernel
theorem dX2_pieces_53 : decode cX2_pieces 53 = .ok (.iload_n 3, 1) := by decide +kernel
theorem dX2_pieces_54 : decode cX2_pieces 54 = .ok (.aload_n 0, 1) := by decide +kernel
theorem dX2_pieces_55 : decode cX2_pieces 55 = .ok (.iload_n 1, 1) := by decide +kernel
theorem dX2_pieces_56 : decode cX2_pieces 56 = .ok (.iload 4, 2) := by decide +kernel
theorem dX2_pieces_58 : decode cX2_pieces 58 = .ok (.invokevirtual 89, 3) := by decide +kernel
theorem dX2_pieces_61 : decode cX2_pieces 61 = .ok (.iload_n 2, 1) := by decide +kernel
theorem dX2_pieces_62 : decode cX2_pieces 62 = .ok (.if_icmp .ge 7, 3) := by decide +kernel
theorem dX2_pieces_65 : decode cX2_pieces 65 = .ok (.iconst 1, 1) := by decide +kernel
theorem dX2_pieces_66 : decode cX2_pieces 66 = .ok (.goto 4, 3) := by decide +kernel
theorem dX2_pieces_69 : decode cX2_pieces 69 = .ok (.iconst 0, 1) := by decide +kernel
theorem dX2_pieces_70 : decode cX2_pieces 70 = .ok (.iadd, 1) := by decide +kernel
theorem dX2_pieces_71 : decode cX2_pieces 71 = .ok (.istore_n 3, 1) := by decide +kernel
theorem dX2_pieces_72 : decode cX2_pieces 72 = .ok (.iinc 4 1, 3) := by decide +kernel
theorem dX2_pieces_75 : decode cX2_pieces 75 = .ok (.goto (-35), 3) := by decide +kernel
theorem dX2_pieces_78 : decode cX2_pieces 78 = .ok (.iload_n 3, 1) := by decide +kernel
theorem dX2_pieces_79 : decode cX2_pieces 79 = .ok (.ireturn, 1) := by decide +kernel
set_option maxRecDepth 20000 in
theorem ggX2_row_X2_isStick : GoodIn wsX2_row wsX2_isStick := goodIn_r _ [9, 3, 10, 11, 8, 12, 32, 33, 34, 35, 36, 37, 38, 39, 40, 41, 42, 43, 44] (by decide +kernel) (by decide +kernel)
set_option maxRecDepth 20000 in
theorem gX2_row_X2_isStick : GoodIn wsX2_row (wsV RX2 51 RX2 yX2_isStick wsX2_isStick) := goodIn_app (goodIn_of _ (by decide +kernel)) ggX2_row_X2_isStick
set_option maxRecDepth 20000 in
theorem ggX2_row_X2_no : GoodIn wsX2_row wsX2_no := goodIn_r _ [16, 1, 32, 33, 34, 35, 36, 37, 38, 39, 40, 41, 42, 43, 44] (by decide +kernel) (by decide +kernel)
set_option maxRecDepth 20000 in
theorem gX2_row_X2_no : GoodIn wsX2_row (wsV RX2 58 RX2 yX2_no wsX2_no) := goodIn_app (goodIn_of _ (by decide +kernel)) ggX2_row_X2_no
set_option maxRecDepth 20000 in
theorem ggX2_row_X2_isIn : GoodIn wsX2_row wsX2_isIn := goodIn_r _ [12] (by decide +kernel) (by decide +kernel)
set_option maxRecDepth 20000 in
theorem gX2_row_X2_isIn : GoodIn wsX2_row (va_wsS RX2 47 yX2_isIn wsX2_isIn) := goodIn_app (goodIn_of _ (by decide +kernel)) ggX2_row_X2_isIn
set_option maxRecDepth 20000 in
theorem ggX2_row_X2_rhymeOf : GoodIn wsX2_row wsX2_rhymeOf := goodIn_r _ [20, 21, 4, 22, 23, 24, 25, 8, 26, 27, 28, 29, 30, 31, 32, 33, 34, 35, 36, 37, 38, 39, 40, 41, 42, 43, 44] (by decide +kernel) (by decide +kernel)
set_option maxRecDepth 20000 in
theorem gX2_row_X2_rhymeOf : GoodIn wsX2_row (wsV RX2 122 RX2 yX2_rhymeOf wsX2_rhymeOf) := goodIn_app (goodIn_of _ (by decide +kernel)) ggX2_row_X2_rhymeOf
theorem dX2_row_0 : decode cX2_row 0 = .ok (.aload_n 0, 1) := by decide +kernel
theorem dX2_row_1 : decode cX2_row 1 = .ok (.iconst 0, 1) := by decide +kernel
theorem dX2_row_2 : decode cX2_row 2 = .ok (.putfield 40, 3) := by decide +kernel
theorem dX2_row_5 : decode cX2_row 5 = .ok (.aload_n 0, 1) := by decide +kernel
theorem dX2_row_6 : decode cX2_row 6 = .ok (.iload_n 1, 1) := by decide +kernel
theorem dX2_row_7 : decode cX2_row 7 = .ok (.invokevirtual 51, 3) := by decide +kernel
theorem dX2_row_10 : decode cX2_row 10 = .ok (.ifCond .ne 9, 3) := by decide +kernel
theorem dX2_row_13 : decode cX2_row 13 = .ok (.aload_n 0, 1) := by decide +kernel
theorem dX2_row_14 : decode cX2_row 14 = .ok (.iconst 1, 1) := by decide +kernel
theorem dX2_row_15 : decode cX2_row 15 = .ok (.invokevirtual 58, 3) := by decide +kernel
theorem dX2_row_18 : decode cX2_row 18 = .ok (.ireturn, 1) := by decide +kernel
theorem dX2_row_19 : decode cX2_row 19 = .ok (.iload_n 2, 1) := by decide +kernel
theorem dX2_row_20 : decode cX2_row 20 = .ok (.iconst 0, 1) := by decide +kernel
theorem dX2_row_21 : decode cX2_row 21 = .ok (.iconst 2, 1) := by decide +kernel
theorem dX2_row_22 : decode cX2_row 22 = .ok (.invokestatic 47, 3) := by decide +kernel
theorem dX2_row_25 : decode cX2_row 25 = .ok (.ifCond .ne 9, 3) := by decide +kernel
theorem dX2_row_28 : decode cX2_row 28 = .ok (.aload_n 0, 1) := by decide +kernel
theorem dX2_row_29 : decode cX2_row 29 = .ok (.iconst 2, 1) := by decide +kernel
theorem dX2_row_30 : decode cX2_row 30 = .ok (.invokevirtual 58, 3) := by decide +kernel
theorem dX2_row_33 : decode cX2_row 33 = .ok (.ireturn, 1) := by decide +kernel
theorem dX2_row_34 : decode cX2_row 34 = .ok (.aload_n 0, 1) := by decide +kernel
theorem dX2_row_35 : decode cX2_row 35 = .ok (.getfield 16, 3) := by decide +kernel
theorem dX2_row_38 : decode cX2_row 38 = .ok (.iload_n 1, 1) := by decide +kernel
theorem dX2_row_39 : decode cX2_row 39 = .ok (.iaload, 1) := by decide +kernel
theorem dX2_row_40 : decode cX2_row 40 = .ok (.iconst 1, 1) := by decide +kernel
theorem dX2_row_41 : decode cX2_row 41 = .ok (.if_icmp .ne 9, 3) := by decide +kernel
theorem dX2_row_44 : decode cX2_row 44 = .ok (.aload_n 0, 1) := by decide +kernel
theorem dX2_row_45 : decode cX2_row 45 = .ok (.iconst 3, 1) := by decide +kernel
theorem dX2_row_46 : decode cX2_row 46 = .ok (.invokevirtual 58, 3) := by decide +kernel
theorem dX2_row_49 : decode cX2_row 49 = .ok (.ireturn, 1) := by decide +kernel
theorem dX2_row_50 : decode cX2_row 50 = .ok (.lconst 1, 1) := by decide +kernel
theorem dX2_row_51 : decode cX2_row 51 = .ok (.iload_n 1, 1) := by decide +kernel
theorem dX2_row_52 : decode cX2_row 52 = .ok (.lshl, 1) := by decide +kernel
theorem dX2_row_53 : decode cX2_row 53 = .ok (.lstore_n 3, 1) := by decide +kernel
theorem dX2_row_54 : decode cX2_row 54 = .ok (.iconst 1, 1) := by decide +kernel
theorem dX2_row_55 : decode cX2_row 55 = .ok (.istore 5, 2) := by decide +kernel
theorem dX2_row_57 : decode cX2_row 57 = .ok (.iload_n 1, 1) := by decide +kernel
theorem dX2_row_58 : decode cX2_row 58 = .ok (.istore 6, 2) := by decide +kernel
theorem dX2_row_60 : decode cX2_row 60 = .ok (.iload 6, 2) := by decide +kernel
theorem dX2_row_62 : decode cX2_row 62 = .ok (.iconst (-1), 1) := by decide +kernel
theorem dX2_row_63 : decode cX2_row 63 = .ok (.if_icmp .eq 114, 3) := by decide +kernel
theorem dX2_row_66 : decode cX2_row 66 = .ok (.iconst (-1), 1) := by decide +kernel
theorem dX2_row_67 : decode cX2_row 67 = .ok (.istore 7, 2) := by decide +kernel
theorem dX2_row_69 : decode cX2_row 69 = .ok (.iconst 0, 1) := by decide +kernel
theorem dX2_row_70 : decode cX2_row 70 = .ok (.istore 8, 2) := by decide +kernel
theorem dX2_row_72 : decode cX2_row 72 = .ok (.iconst 0, 1) := by decide +kernel
theorem dX2_row_73 : decode cX2_row 73 = .ok (.istore 9, 2) := by decide +kernel
theorem dX2_row_75 : decode cX2_row 75 = .ok (.iload 9, 2) := by decide +kernel
theorem dX2_row_77 : decode cX2_row 77 = .ok (.aload_n 0, 1) := by decide +kernel
theorem dX2_row_78 : decode cX2_row 78 = .ok (.getfield 44, 3) := by decide +kernel
theorem dX2_row_81 : decode cX2_row 81 = .ok (.if_icmp .ge 70, 3) := by decide +kernel
theorem dX2_row_84 : decode cX2_row 84 = .ok (.aload_n 0, 1) := by decide +kernel
theorem dX2_row_85 : decode cX2_row 85 = .ok (.getfield 16, 3) := by decide +kernel
theorem dX2_row_88 : decode cX2_row 88 = .ok (.iload 9, 2) := by decide +kernel
theorem dX2_row_90 : decode cX2_row 90 = .ok (.iaload, 1) := by decide +kernel
theorem dX2_row_91 : decode cX2_row 91 = .ok (.iconst 1, 1) := by decide +kernel
theorem dX2_row_92 : decode cX2_row 92 = .ok (.if_icmp .eq 53, 3) := by decide +kernel
theorem dX2_row_95 : decode cX2_row 95 = .ok (.lload_n 3, 1) := by decide +kernel
theorem dX2_row_96 : decode cX2_row 96 = .ok (.iload 9, 2) := by decide +kernel
theorem dX2_row_98 : decode cX2_row 98 = .ok (.lshr, 1) := by decide +kernel
theorem dX2_row_99 : decode cX2_row 99 = .ok (.lconst 1, 1) := by decide +kernel
theorem dX2_row_100 : decode cX2_row 100 = .ok (.land, 1) := by decide +kernel
theorem dX2_row_101 : decode cX2_row 101 = .ok (.lconst 1, 1) := by decide +kernel
theorem dX2_row_102 : decode cX2_row 102 = .ok (.lcmp, 1) := by decide +kernel
theorem dX2_row_103 : decode cX2_row 103 = .ok (.ifCond .ne 6, 3) := by decide +kernel
theorem dX2_row_106 : decode cX2_row 106 = .ok (.goto 39, 3) := by decide +kernel
theorem dX2_row_109 : decode cX2_row 109 = .ok (.aload_n 0, 1) := by decide +kernel
theorem dX2_row_110 : decode cX2_row 110 = .ok (.iload 6, 2) := by decide +kernel
theorem dX2_row_112 : decode cX2_row 112 = .ok (.aload_n 0, 1) := by decide +kernel
theorem dX2_row_113 : decode cX2_row 113 = .ok (.getfield 13, 3) := by decide +kernel
theorem dX2_row_116 : decode cX2_row 116 = .ok (.iload 6, 2) := by decide +kernel
theorem dX2_row_118 : decode cX2_row 118 = .ok (.iaload, 1) := by decide +kernel
theorem dX2_row_119 : decode cX2_row 119 = .ok (.iload 9, 2) := by decide +kernel
theorem dX2_row_121 : decode cX2_row 121 = .ok (.iload_n 2, 1) := by decide +kernel
theorem dX2_row_122 : decode cX2_row 122 = .ok (.invokevirtual 122, 3) := by decide +kernel
theorem dX2_row_125 : decode cX2_row 125 = .ok (.istore 10, 2) := by decide +kernel
theorem dX2_row_127 : decode cX2_row 127 = .ok (.iload 10, 2) := by decide +kernel
theorem dX2_row_129 : decode cX2_row 129 = .ok (.iload 8, 2) := by decide +kernel
theorem dX2_row_131 : decode cX2_row 131 = .ok (.if_icmp .gt 6, 3) := by decide +kernel
theorem dX2_row_134 : decode cX2_row 134 = .ok (.goto 11, 3) := by decide +kernel
theorem dX2_row_137 : decode cX2_row 137 = .ok (.iload 10, 2) := by decide +kernel
theorem dX2_row_139 : decode cX2_row 139 = .ok (.istore 8, 2) := by decide +kernel
theorem dX2_row_141 : decode cX2_row 141 = .ok (.iload 9, 2) := by decide +kernel
theorem dX2_row_143 : decode cX2_row 143 = .ok (.istore 7, 2) := by decide +kernel
theorem dX2_row_145 : decode cX2_row 145 = .ok (.iinc 9 1, 3) := by decide +kernel
theorem dX2_row_148 : decode cX2_row 148 = .ok (.goto (-73), 3) := by decide +kernel
theorem dX2_row_151 : decode cX2_row 151 = .ok (.iload 7, 2) := by decide +kernel
theorem dX2_row_153 : decode cX2_row 153 = .ok (.istore 6, 2) := by decide +kernel
theorem dX2_row_155 : decode cX2_row 155 = .ok (.iload 6, 2) := by decide +kernel
theorem dX2_row_157 : decode cX2_row 157 = .ok (.iconst (-1), 1) := by decide +kernel
theorem dX2_row_158 : decode cX2_row 158 = .ok (.if_icmp .ne 6, 3) := by decide +kernel
theorem dX2_row_161 : decode cX2_row 161 = .ok (.goto (-101), 3) := by decide +kernel
theorem dX2_row_164 : decode cX2_row 164 = .ok (.lload_n 3, 1) := by decide +kernel
theorem dX2_row_165 : decode cX2_row 165 = .ok (.lconst 1, 1) := by decide +kernel
theorem dX2_row_166 : decode cX2_row 166 = .ok (.iload 6, 2) := by decide +kernel
theorem dX2_row_168 : decode cX2_row 168 = .ok (.lshl, 1) := by decide +kernel
theorem dX2_row_169 : decode cX2_row 169 = .ok (.lor, 1) := by decide +kernel
theorem dX2_row_170 : decode cX2_row 170 = .ok (.lstore_n 3, 1) := by decide +kernel
theorem dX2_row_171 : decode cX2_row 171 = .ok (.iinc 5 1, 3) := by decide +kernel
theorem dX2_row_174 : decode cX2_row 174 = .ok (.goto (-114), 3) := by decide +kernel
theorem dX2_row_177 : decode cX2_row 177 = .ok (.iload 5, 2) := by decide +kernel
theorem dX2_row_179 : decode cX2_row 179 = .ok (.ireturn, 1) := by decide +kernel
set_option maxRecDepth 20000 in
theorem ggX2_mean_X2_there : GoodIn wsX2_mean wsX2_there := goodIn_r _ [6, 7, 8, 39, 40, 41, 42, 43, 44, 45, 46, 47, 48, 49, 50, 51] (by decide +kernel) (by decide +kernel)
set_option maxRecDepth 20000 in
theorem gX2_mean_X2_there : GoodIn wsX2_mean (wsV RX2 62 RX2 yX2_there wsX2_there) := goodIn_app (goodIn_of _ (by decide +kernel)) ggX2_mean_X2_there
set_option maxRecDepth 20000 in
theorem ggX2_mean_X2_counted : GoodIn wsX2_mean wsX2_counted := goodIn_r _ [12, 7, 8, 13, 14, 15, 16, 17, 18, 5, 19, 20, 21, 22, 23, 24, 25, 26, 27, 28, 29, 30, 31, 32, 33, 34, 35, 36, 37, 38, 2, 3, 4, 6, 39, 40, 41, 42, 43, 44, 45, 46, 47, 48, 49, 50, 51] (by decide +kernel) (by decide +kernel)
set_option maxRecDepth 20000 in
theorem gX2_mean_X2_counted : GoodIn wsX2_mean (wsV RX2 115 RX2 yX2_counted wsX2_counted) := goodIn_app (goodIn_of _ (by decide +kernel)) ggX2_mean_X2_counted
theorem dX2_mean_0 : decode cX2_mean 0 = .ok (.aload_n 0, 1) := by decide +kernel
theorem dX2_mean_1 : decode cX2_mean 1 = .ok (.iconst 0, 1) := by decide +kernel
theorem dX2_mean_2 : decode cX2_mean 2 = .ok (.putfield 40, 3) := by decide +kernel
theorem dX2_mean_5 : decode cX2_mean 5 = .ok (.aload_n 0, 1) := by decide +kernel
theorem dX2_mean_6 : decode cX2_mean 6 = .ok (.invokevirtual 62, 3) := by decide +kernel
theorem dX2_mean_9 : decode cX2_mean 9 = .ok (.ifCond .ne 7, 3) := by decide +kernel
theorem dX2_mean_12 : decode cX2_mean 12 = .ok (.dconst 0, 1) := by decide +kernel
theorem dX2_mean_13 : decode cX2_mean 13 = .ok (.goto 15, 3) := by decide +kernel
theorem dX2_mean_16 : decode cX2_mean 16 = .ok (.aload_n 0, 1) := by decide +kernel
theorem dX2_mean_17 : decode cX2_mean 17 = .ok (.iconst 2, 1) := by decide +kernel
theorem dX2_mean_18 : decode cX2_mean 18 = .ok (.invokevirtual 115, 3) := by decide +kernel
theorem dX2_mean_21 : decode cX2_mean 21 = .ok (.i2d, 1) := by decide +kernel
theorem dX2_mean_22 : decode cX2_mean 22 = .ok (.aload_n 0, 1) := by decide +kernel
theorem dX2_mean_23 : decode cX2_mean 23 = .ok (.invokevirtual 62, 3) := by decide +kernel
theorem dX2_mean_26 : decode cX2_mean 26 = .ok (.i2d, 1) := by decide +kernel
theorem dX2_mean_27 : decode cX2_mean 27 = .ok (.ddiv, 1) := by decide +kernel
theorem dX2_mean_28 : decode cX2_mean 28 = .ok (.dreturn, 1) := by decide +kernel
set_option maxRecDepth 20000 in
theorem ggX2_digest_X2_counted : GoodIn wsX2_digest wsX2_counted := goodIn_r _ [12, 4, 13, 5, 14, 15, 16, 17, 18, 11, 19, 20, 21, 22, 23, 6, 24, 25, 26, 27, 28, 29, 30, 31, 32, 33, 34, 35, 36, 37, 38, 39, 40, 41, 47, 48, 49, 50, 51, 52, 53, 54, 55, 56, 57, 58, 59] (by decide +kernel) (by decide +kernel)
set_option maxRecDepth 20000 in
theorem gX2_digest_X2_counted : GoodIn wsX2_digest (wsV RX2 115 RX2 yX2_counted wsX2_counted) := goodIn_app (goodIn_of _ (by decide +kernel)) ggX2_digest_X2_counted
set_option maxRecDepth 20000 in
theorem ggX2_digest_X2_stickTold : GoodIn wsX2_digest wsX2_stickTold := goodIn_r _ [45, 14, 5, 46, 37, 36, 13, 16, 17, 18, 11, 19, 20, 21, 22, 23, 6, 24, 25, 26, 27, 28, 29, 30, 31, 47, 48, 49, 50, 51, 52, 53, 54, 55, 56, 57, 58, 59] (by decide +kernel) (by decide +kernel)
set_option maxRecDepth 20000 in
theorem gX2_digest_X2_stickTold : GoodIn wsX2_digest (wsV RX2 112 RX2 yX2_stickTold wsX2_stickTold) := goodIn_app (goodIn_of _ (by decide +kernel)) ggX2_digest_X2_stickTold
set_option maxRecDepth 20000 in
theorem ggX2_digest_X2_spot : GoodIn wsX2_digest wsX2_spot := goodIn_r _ [26] (by decide +kernel) (by decide +kernel)
set_option maxRecDepth 20000 in
theorem gX2_digest_X2_spot : GoodIn wsX2_digest (va_wsS RX2 76 yX2_spot wsX2_spot) := goodIn_app (goodIn_of _ (by decide +kernel)) ggX2_digest_X2_spot
theorem dX2_digest_0 : decode cX2_digest 0 = .ok (.aload_n 0, 1) := by decide +kernel
theorem dX2_digest_1 : decode cX2_digest 1 = .ok (.iconst 0, 1) := by decide +kernel
theorem dX2_digest_2 : decode cX2_digest 2 = .ok (.putfield 40, 3) := by decide +kernel
theorem dX2_digest_5 : decode cX2_digest 5 = .ok (.ldc2_w 125, 3) := by decide +kernel
theorem dX2_digest_8 : decode cX2_digest 8 = .ok (.lstore_n 1, 1) := by decide +kernel
theorem dX2_digest_9 : decode cX2_digest 9 = .ok (.iconst 0, 1) := by decide +kernel
theorem dX2_digest_10 : decode cX2_digest 10 = .ok (.istore_n 3, 1) := by decide +kernel
theorem dX2_digest_11 : decode cX2_digest 11 = .ok (.iload_n 3, 1) := by decide +kernel
theorem dX2_digest_12 : decode cX2_digest 12 = .ok (.bipush 6, 2) := by decide +kernel
theorem dX2_digest_14 : decode cX2_digest 14 = .ok (.if_icmp .gt 22, 3) := by decide +kernel
theorem dX2_digest_17 : decode cX2_digest 17 = .ok (.lload_n 1, 1) := by decide +kernel
theorem dX2_digest_18 : decode cX2_digest 18 = .ok (.ldc2_w 127, 3) := by decide +kernel
theorem dX2_digest_21 : decode cX2_digest 21 = .ok (.lmul, 1) := by decide +kernel
theorem dX2_digest_22 : decode cX2_digest 22 = .ok (.aload_n 0, 1) := by decide +kernel
theorem dX2_digest_23 : decode cX2_digest 23 = .ok (.iload_n 3, 1) := by decide +kernel
theorem dX2_digest_24 : decode cX2_digest 24 = .ok (.invokevirtual 115, 3) := by decide +kernel
theorem dX2_digest_27 : decode cX2_digest 27 = .ok (.i2l, 1) := by decide +kernel
theorem dX2_digest_28 : decode cX2_digest 28 = .ok (.ladd, 1) := by decide +kernel
theorem dX2_digest_29 : decode cX2_digest 29 = .ok (.lstore_n 1, 1) := by decide +kernel
theorem dX2_digest_30 : decode cX2_digest 30 = .ok (.iinc 3 1, 3) := by decide +kernel
theorem dX2_digest_33 : decode cX2_digest 33 = .ok (.goto (-22), 3) := by decide +kernel
theorem dX2_digest_36 : decode cX2_digest 36 = .ok (.iconst 0, 1) := by decide +kernel
theorem dX2_digest_37 : decode cX2_digest 37 = .ok (.istore_n 3, 1) := by decide +kernel
theorem dX2_digest_38 : decode cX2_digest 38 = .ok (.iload_n 3, 1) := by decide +kernel
theorem dX2_digest_39 : decode cX2_digest 39 = .ok (.aload_n 0, 1) := by decide +kernel
theorem dX2_digest_40 : decode cX2_digest 40 = .ok (.getfield 44, 3) := by decide +kernel
theorem dX2_digest_43 : decode cX2_digest 43 = .ok (.if_icmp .ge 128, 3) := by decide +kernel
theorem dX2_digest_46 : decode cX2_digest 46 = .ok (.iconst 0, 1) := by decide +kernel
theorem dX2_digest_47 : decode cX2_digest 47 = .ok (.istore 4, 2) := by decide +kernel
theorem dX2_digest_49 : decode cX2_digest 49 = .ok (.iload 4, 2) := by decide +kernel
theorem dX2_digest_51 : decode cX2_digest 51 = .ok (.bipush 6, 2) := by decide +kernel
theorem dX2_digest_53 : decode cX2_digest 53 = .ok (.if_icmp .gt 24, 3) := by decide +kernel
theorem dX2_digest_56 : decode cX2_digest 56 = .ok (.lload_n 1, 1) := by decide +kernel
theorem dX2_digest_57 : decode cX2_digest 57 = .ok (.ldc2_w 127, 3) := by decide +kernel
theorem dX2_digest_60 : decode cX2_digest 60 = .ok (.lmul, 1) := by decide +kernel
theorem dX2_digest_61 : decode cX2_digest 61 = .ok (.aload_n 0, 1) := by decide +kernel
theorem dX2_digest_62 : decode cX2_digest 62 = .ok (.iload_n 3, 1) := by decide +kernel
theorem dX2_digest_63 : decode cX2_digest 63 = .ok (.iload 4, 2) := by decide +kernel
theorem dX2_digest_65 : decode cX2_digest 65 = .ok (.invokevirtual 112, 3) := by decide +kernel
theorem dX2_digest_68 : decode cX2_digest 68 = .ok (.i2l, 1) := by decide +kernel
theorem dX2_digest_69 : decode cX2_digest 69 = .ok (.ladd, 1) := by decide +kernel
theorem dX2_digest_70 : decode cX2_digest 70 = .ok (.lstore_n 1, 1) := by decide +kernel
theorem dX2_digest_71 : decode cX2_digest 71 = .ok (.iinc 4 1, 3) := by decide +kernel
theorem dX2_digest_74 : decode cX2_digest 74 = .ok (.goto (-25), 3) := by decide +kernel
theorem dX2_digest_77 : decode cX2_digest 77 = .ok (.iconst 0, 1) := by decide +kernel
theorem dX2_digest_78 : decode cX2_digest 78 = .ok (.istore 4, 2) := by decide +kernel
theorem dX2_digest_80 : decode cX2_digest 80 = .ok (.iload 4, 2) := by decide +kernel
theorem dX2_digest_82 : decode cX2_digest 82 = .ok (.iconst 3, 1) := by decide +kernel
theorem dX2_digest_83 : decode cX2_digest 83 = .ok (.aload_n 0, 1) := by decide +kernel
theorem dX2_digest_84 : decode cX2_digest 84 = .ok (.getfield 9, 3) := by decide +kernel
theorem dX2_digest_87 : decode cX2_digest 87 = .ok (.iload_n 3, 1) := by decide +kernel
theorem dX2_digest_88 : decode cX2_digest 88 = .ok (.iaload, 1) := by decide +kernel
theorem dX2_digest_89 : decode cX2_digest 89 = .ok (.imul, 1) := by decide +kernel
theorem dX2_digest_90 : decode cX2_digest 90 = .ok (.if_icmp .ge 33, 3) := by decide +kernel
theorem dX2_digest_93 : decode cX2_digest 93 = .ok (.lload_n 1, 1) := by decide +kernel
theorem dX2_digest_94 : decode cX2_digest 94 = .ok (.ldc2_w 127, 3) := by decide +kernel
theorem dX2_digest_97 : decode cX2_digest 97 = .ok (.lmul, 1) := by decide +kernel
theorem dX2_digest_98 : decode cX2_digest 98 = .ok (.aload_n 0, 1) := by decide +kernel
theorem dX2_digest_99 : decode cX2_digest 99 = .ok (.getfield 25, 3) := by decide +kernel
theorem dX2_digest_102 : decode cX2_digest 102 = .ok (.iload_n 3, 1) := by decide +kernel
theorem dX2_digest_103 : decode cX2_digest 103 = .ok (.iconst 0, 1) := by decide +kernel
theorem dX2_digest_104 : decode cX2_digest 104 = .ok (.iconst 0, 1) := by decide +kernel
theorem dX2_digest_105 : decode cX2_digest 105 = .ok (.invokestatic 76, 3) := by decide +kernel
theorem dX2_digest_108 : decode cX2_digest 108 = .ok (.iload 4, 2) := by decide +kernel
theorem dX2_digest_110 : decode cX2_digest 110 = .ok (.iadd, 1) := by decide +kernel
theorem dX2_digest_111 : decode cX2_digest 111 = .ok (.iaload, 1) := by decide +kernel
theorem dX2_digest_112 : decode cX2_digest 112 = .ok (.i2l, 1) := by decide +kernel
theorem dX2_digest_113 : decode cX2_digest 113 = .ok (.ladd, 1) := by decide +kernel
theorem dX2_digest_114 : decode cX2_digest 114 = .ok (.lconst 1, 1) := by decide +kernel
theorem dX2_digest_115 : decode cX2_digest 115 = .ok (.lsub, 1) := by decide +kernel
theorem dX2_digest_116 : decode cX2_digest 116 = .ok (.lstore_n 1, 1) := by decide +kernel
theorem dX2_digest_117 : decode cX2_digest 117 = .ok (.iinc 4 1, 3) := by decide +kernel
theorem dX2_digest_120 : decode cX2_digest 120 = .ok (.goto (-40), 3) := by decide +kernel
theorem dX2_digest_123 : decode cX2_digest 123 = .ok (.iconst 0, 1) := by decide +kernel
theorem dX2_digest_124 : decode cX2_digest 124 = .ok (.istore 4, 2) := by decide +kernel
theorem dX2_digest_126 : decode cX2_digest 126 = .ok (.iload 4, 2) := by decide +kernel
theorem dX2_digest_128 : decode cX2_digest 128 = .ok (.aload_n 0, 1) := by decide +kernel
theorem dX2_digest_129 : decode cX2_digest 129 = .ok (.getfield 9, 3) := by decide +kernel
theorem dX2_digest_132 : decode cX2_digest 132 = .ok (.iload_n 3, 1) := by decide +kernel
theorem dX2_digest_133 : decode cX2_digest 133 = .ok (.iaload, 1) := by decide +kernel
theorem dX2_digest_134 : decode cX2_digest 134 = .ok (.iconst 1, 1) := by decide +kernel
theorem dX2_digest_135 : decode cX2_digest 135 = .ok (.isub, 1) := by decide +kernel
theorem dX2_digest_136 : decode cX2_digest 136 = .ok (.if_icmp .ge 29, 3) := by decide +kernel
theorem dX2_digest_139 : decode cX2_digest 139 = .ok (.lload_n 1, 1) := by decide +kernel
theorem dX2_digest_140 : decode cX2_digest 140 = .ok (.ldc2_w 127, 3) := by decide +kernel
theorem dX2_digest_143 : decode cX2_digest 143 = .ok (.lmul, 1) := by decide +kernel
theorem dX2_digest_144 : decode cX2_digest 144 = .ok (.aload_n 0, 1) := by decide +kernel
theorem dX2_digest_145 : decode cX2_digest 145 = .ok (.getfield 28, 3) := by decide +kernel
theorem dX2_digest_148 : decode cX2_digest 148 = .ok (.bipush 12, 2) := by decide +kernel
theorem dX2_digest_150 : decode cX2_digest 150 = .ok (.iload_n 3, 1) := by decide +kernel
theorem dX2_digest_151 : decode cX2_digest 151 = .ok (.imul, 1) := by decide +kernel
theorem dX2_digest_152 : decode cX2_digest 152 = .ok (.iload 4, 2) := by decide +kernel
theorem dX2_digest_154 : decode cX2_digest 154 = .ok (.iadd, 1) := by decide +kernel
theorem dX2_digest_155 : decode cX2_digest 155 = .ok (.iaload, 1) := by decide +kernel
theorem dX2_digest_156 : decode cX2_digest 156 = .ok (.i2l, 1) := by decide +kernel
theorem dX2_digest_157 : decode cX2_digest 157 = .ok (.ladd, 1) := by decide +kernel
theorem dX2_digest_158 : decode cX2_digest 158 = .ok (.lstore_n 1, 1) := by decide +kernel
theorem dX2_digest_159 : decode cX2_digest 159 = .ok (.iinc 4 1, 3) := by decide +kernel
theorem dX2_digest_162 : decode cX2_digest 162 = .ok (.goto (-36), 3) := by decide +kernel
theorem dX2_digest_165 : decode cX2_digest 165 = .ok (.iinc 3 1, 3) := by decide +kernel
theorem dX2_digest_168 : decode cX2_digest 168 = .ok (.goto (-130), 3) := by decide +kernel
theorem dX2_digest_171 : decode cX2_digest 171 = .ok (.lload_n 1, 1) := by decide +kernel
theorem dX2_digest_172 : decode cX2_digest 172 = .ok (.lreturn, 1) := by decide +kernel
theorem dJ9_max_7cf53_0 : decode cJ9_max_7cf53 0 = .ok (.iload_n 0, 1) := by decide +kernel
theorem dJ9_max_7cf53_1 : decode cJ9_max_7cf53 1 = .ok (.iload_n 1, 1) := by decide +kernel
theorem dJ9_max_7cf53_2 : decode cJ9_max_7cf53 2 = .ok (.if_icmp .lt 7, 3) := by decide +kernel
theorem dJ9_max_7cf53_5 : decode cJ9_max_7cf53 5 = .ok (.iload_n 0, 1) := by decide +kernel
theorem dJ9_max_7cf53_6 : decode cJ9_max_7cf53 6 = .ok (.goto 4, 3) := by decide +kernel
theorem dJ9_max_7cf53_9 : decode cJ9_max_7cf53 9 = .ok (.iload_n 1, 1) := by decide +kernel
theorem dJ9_max_7cf53_10 : decode cJ9_max_7cf53 10 = .ok (.ireturn, 1) := by decide +kernel
theorem dJ7_fill_53178_0 : decode cJ7_fill_53178 0 = .ok (.iconst 0, 1) := by decide +kernel
theorem dJ7_fill_53178_1 : decode cJ7_fill_53178 1 = .ok (.istore_n 2, 1) := by decide +kernel
theorem dJ7_fill_53178_2 : decode cJ7_fill_53178 2 = .ok (.aload_n 0, 1) := by decide +kernel
theorem dJ7_fill_53178_3 : decode cJ7_fill_53178 3 = .ok (.arraylength, 1) := by decide +kernel
theorem dJ7_fill_53178_4 : decode cJ7_fill_53178 4 = .ok (.istore_n 3, 1) := by decide +kernel
theorem dJ7_fill_53178_5 : decode cJ7_fill_53178 5 = .ok (.iload_n 2, 1) := by decide +kernel
theorem dJ7_fill_53178_6 : decode cJ7_fill_53178 6 = .ok (.iload_n 3, 1) := by decide +kernel
theorem dJ7_fill_53178_7 : decode cJ7_fill_53178 7 = .ok (.if_icmp .ge 13, 3) := by decide +kernel
theorem dJ7_fill_53178_10 : decode cJ7_fill_53178 10 = .ok (.aload_n 0, 1) := by decide +kernel
theorem dJ7_fill_53178_11 : decode cJ7_fill_53178 11 = .ok (.iload_n 2, 1) := by decide +kernel
theorem dJ7_fill_53178_12 : decode cJ7_fill_53178 12 = .ok (.iload_n 1, 1) := by decide +kernel
theorem dJ7_fill_53178_13 : decode cJ7_fill_53178 13 = .ok (.iastore, 1) := by decide +kernel
theorem dJ7_fill_53178_14 : decode cJ7_fill_53178 14 = .ok (.iinc 2 1, 3) := by decide +kernel
theorem dJ7_fill_53178_17 : decode cJ7_fill_53178 17 = .ok (.goto (-12), 3) := by decide +kernel
theorem dJ7_fill_53178_20 : decode cJ7_fill_53178 20 = .ok (.return_, 1) := by decide +kernel
end
section
/-! the framework: single cells, contracts that only read, rows over numbers -/
abbrev GG : Type := va_G × (ClassId × (ClassId × ClassId))
def xK (Γ : GG) (U : State) : Prop := va_K Γ.1 vwCl [(Γ.2.1, .int), (Γ.2.2.1, .boolean), (Γ.2.2.2, .object RX0)] U
theorem xK.moved {Γ : GG} {u U : State} (hvm : u.vm.Alike U.vm) (h : xK Γ u) : xK Γ U := va_K.moved hvm h
def Ob (Γ : GG) (ci a : Nat) (fs : List Value) (H : Heap) : Prop := va_at Γ.1 vwCl (a, .inr (ci, fs)) H
def Ai (Γ : GG) (a n : Nat) (f : Nat → Int32) (H : Heap) : Prop := va_at Γ.1 vwCl (a, .inl (Γ.2.1, n, .inl f)) H
def Az (Γ : GG) (a n : Nat) (f : Nat → Int32) (H : Heap) : Prop := va_at Γ.1 vwCl (a, .inl (Γ.2.2.1, n, .inl f)) H
def Aq (Γ : GG) (a n : Nat) (f : Nat → Option Nat) (H : Heap) : Prop := va_at Γ.1 vwCl (a, .inl (Γ.2.2.2, n, .inr (.inr (.inr (.inr f))))) H
theorem x_P1 {D : va_G} {cl : List vw_C} {q : Nat × va_E} {H : Heap} (h : va_at D cl q H) : va_P D cl [q] H := by
  intro k q' hk
  match k, hk with
  | 0, hk => cases hk; exact h
  | k + 1, hk => simp at hk
theorem Ob.kept {Γ : GG} {ci a : Nat} {fs : List Value} {H H1 : Heap} (h : Ob Γ ci a fs H) (hq : H1[a]? = H[a]?) : Ob Γ ci a fs H1 := va_at.kept h hq
theorem Ai.kept {Γ : GG} {a n : Nat} {f : Nat → Int32} {H H1 : Heap} (h : Ai Γ a n f H) (hq : H1[a]? = H[a]?) : Ai Γ a n f H1 := va_at.kept (q := (a, .inl (Γ.2.1, n, .inl f))) h hq
theorem Az.kept {Γ : GG} {a n : Nat} {f : Nat → Int32} {H H1 : Heap} (h : Az Γ a n f H) (hq : H1[a]? = H[a]?) : Az Γ a n f H1 := va_at.kept (q := (a, .inl (Γ.2.2.1, n, .inl f))) h hq
theorem Aq.kept {Γ : GG} {a n : Nat} {f : Nat → Option Nat} {H H1 : Heap} (h : Aq Γ a n f H) (hq : H1[a]? = H[a]?) : Aq Γ a n f H1 := va_at.kept (q := (a, .inl (Γ.2.2.2, n, .inr (.inr (.inr (.inr f)))))) h hq
theorem Ob.lt {Γ : GG} {ci a : Nat} {fs : List Value} {H : Heap} (h : Ob Γ ci a fs H) : a < H.size := va_at.lt h
theorem Ai.lt {Γ : GG} {a n : Nat} {f : Nat → Int32} {H : Heap} (h : Ai Γ a n f H) : a < H.size := va_at.lt (q := (a, .inl (Γ.2.1, n, .inl f))) h
theorem Az.lt {Γ : GG} {a n : Nat} {f : Nat → Int32} {H : Heap} (h : Az Γ a n f H) : a < H.size := va_at.lt (q := (a, .inl (Γ.2.2.1, n, .inl f))) h
theorem Aq.lt {Γ : GG} {a n : Nat} {f : Nat → Option Nat} {H : Heap} (h : Aq Γ a n f H) : a < H.size := va_at.lt (q := (a, .inl (Γ.2.2.2, n, .inr (.inr (.inr (.inr f)))))) h
theorem Ob.recv {Γ : GG} {ci a : Nat} {fs : List Value} {H : Heap} {s : State} {q : vw_C} (hK : xK Γ s) (h : Ob Γ ci a fs H) (hc : vwCl[ci]? = some q) : ∃ cell : Cell, H[a]? = some cell ∧ cell.vm.isStatics = false ∧ s.vm.findClass q.1 = some cell.cls :=
  va_recv (ws := [(a, .inr (ci, fs))]) (q0 := 0) hK (x_P1 h) hc rfl
/-- what was written lies above a bound -/
def lo (bs : Nat) (locs : List Loc) : Prop := ∀ q ∈ locs, bs ≤ q.base
theorem lo.nil {bs : Nat} : lo bs [] := fun _ h => by cases h
theorem lo.app1 {bs a i : Nat} {locs : List Loc} (h : lo bs locs) (ha : bs ≤ a) : lo bs (locs ++ [⟨a, i⟩]) := by
  intro q hq
  rcases List.mem_append.mp hq with h1 | h1
  · exact h q h1
  · rw [List.mem_singleton] at h1
    subst h1
    exact ha
theorem lo.app {bs : Nat} {locs L : List Loc} (h : lo bs locs) (ha : ∀ q ∈ L, bs ≤ q.base) : lo bs (locs ++ L) := by
  intro q hq
  rcases List.mem_append.mp hq with h1 | h1
  · exact h q h1
  · exact ha q h1
/-- a contract of a method that only reads, its answer one value -/
def Ro (l : Launch) (y : MethodName) (ws : List Cond) (rm : Room) (Γ : GG) (av : List Value) (Pre : Heap → Prop) (v : Option Value) : Prop :=
  Met l y ws rm (va_Pc av (fun U => xK Γ U ∧ Pre U.heap)) (fun _ st o t => o = .returned v ∧ t.heap = st.heap) 0 0 (fun _ => False)
theorem x_blind {Γ : GG} {av : List Value} {Pre : Heap → Prop} : FrameBlind (va_Pc av (fun U => xK Γ U ∧ Pre U.heap)) := fun a U g mk h => ⟨h.1, xK.moved (u := U) (U := U.calling g mk a) (Vm.Alike.refl U.vm) h.2.1, h.2.2⟩
theorem Ro.of {l : Launch} {y : MethodName} {ws ws' : List Cond} {rm : Room} {Γ : GG} {av : List Value} {Pre : Heap → Prop} {v : Option Value} {cc : ByteArray} {maxL : Nat} {ret : Option FieldType} (hy : plainName y.cls = true) (hw : ws = Cond.code y cc maxL ret :: ws') (hle : (lg_sl av).length ≤ maxL)
    (body : ∀ (p : Program) (e : Env) (s : State) (m : MethodId) (below : List Frame) (meth : Method) (c : Code), CallFix p m c cc maxL s av.toArray ws y.cls → meth.sig.returnType = ret → meth.locks = false → xK Γ s → Pre s.heap → ∀ ls : Array Slot, lv_has ls maxL (lv_args 0 av) →
      W p l e rm s m av.toArray below meth c s.heap [] 0 0 (MQ below (fun _ st o t => o = .returned v ∧ t.heap = st.heap) av.toArray s 0 0 (fun _ => False)) (F0 m 0 ls [])) : Ro l y ws rm Γ av Pre v := by
  refine Met.ofW (cc := cc) (maxL := maxL) (ret := ret) hy hw ?_
  intro p e s m args below meth c s₁ B hml hv
  obtain ⟨rfl, hK, hPre⟩ := hv
  rw [lg_entry_eq]
  exact body p e s m below meth c ⟨B.exec, B.bytes, hml, findClass_of_methodNamed B.named, atoms_spec (ws := ws) B.pre⟩ B.returns B.notSynchronized hK hPre _ (lv_entry av hle)
section XW
variable {p : Program} {l : Launch} {e : Env} {R : Room} {s : State} {m : MethodId} {args : Array Value} {below : List Frame} {meth : Method} {c : Code} {H : Heap} {locs : List Loc} {cells slots : Nat} {Q : State → Prop}
variable {cc : ByteArray} {pc : Nat} {ls : Array Slot} {rest st0 : List Value} {Γ : GG}
theorem x_e {x y : Int32} (h : x = y) (k : W p l e R s m args below meth c H locs cells slots Q (F0 m pc ls (.int y :: rest))) : W p l e R s m args below meth c H locs cells slots Q (F0 m pc ls (.int x :: rest)) := by rw [h]; exact k
theorem x_eL {x y : Int64} (h : x = y) (k : W p l e R s m args below meth c H locs cells slots Q (F0 m pc ls (.long y :: rest))) : W p l e R s m args below meth c H locs cells slots Q (F0 m pc ls (.long x :: rest)) := by rw [h]; exact k
theorem x_add (hx : p.tables.exec = Jvm.exec) (hb : c.code = cc) {a b : Nat} (hdg : decode cc pc = .ok (.iadd, 1)) (k : W p l e R s m args below meth c H locs cells slots Q (F0 m (pc + 1) ls (.int (nI (a + b)) :: rest))) : W p l e R s m args below meth c H locs cells slots Q (F0 m pc ls (.int (nI b) :: .int (nI a) :: rest)) := lv_iadd hx hb hdg (x_e (nI_add a b) k)
theorem x_sub (hx : p.tables.exec = Jvm.exec) (hb : c.code = cc) {a b : Nat} (h : b ≤ a) (hdg : decode cc pc = .ok (.isub, 1)) (k : W p l e R s m args below meth c H locs cells slots Q (F0 m (pc + 1) ls (.int (nI (a - b)) :: rest))) : W p l e R s m args below meth c H locs cells slots Q (F0 m pc ls (.int (nI b) :: .int (nI a) :: rest)) := lv_isub hx hb hdg (x_e (pk_sub h) k)
theorem x_mul (hx : p.tables.exec = Jvm.exec) (hb : c.code = cc) {a b : Nat} (hdg : decode cc pc = .ok (.imul, 1)) (k : W p l e R s m args below meth c H locs cells slots Q (F0 m (pc + 1) ls (.int (nI (a * b)) :: rest))) : W p l e R s m args below meth c H locs cells slots Q (F0 m pc ls (.int (nI b) :: .int (nI a) :: rest)) := lv_imul hx hb hdg (x_e (pk_mul a b) k)
theorem x_rem (hx : p.tables.exec = Jvm.exec) (hb : c.code = cc) {a b : Nat} (ha : a < 2 ^ 31) (h0 : 0 < b) (hb2 : b < 2 ^ 31) (hdg : decode cc pc = .ok (.irem, 1)) (k : W p l e R s m args below meth c H locs cells slots Q (F0 m (pc + 1) ls (.int (nI (a % b)) :: rest))) : W p l e R s m args below meth c H locs cells slots Q (F0 m pc ls (.int (nI b) :: .int (nI a) :: rest)) := lv_irem hx hb hdg (nI_ne0 h0 hb2) (x_e (pk_rem ha h0 hb2) k)
theorem x_div (hx : p.tables.exec = Jvm.exec) (hb : c.code = cc) {a b : Nat} (ha : a < 2 ^ 31) (h0 : 0 < b) (hb2 : b < 2 ^ 31) (hdg : decode cc pc = .ok (.idiv, 1)) (k : W p l e R s m args below meth c H locs cells slots Q (F0 m (pc + 1) ls (.int (nI (a / b)) :: rest))) : W p l e R s m args below meth c H locs cells slots Q (F0 m pc ls (.int (nI b) :: .int (nI a) :: rest)) := lv_idiv hx hb hdg (nI_ne0 h0 hb2) (x_e (pk_div ha h0 hb2) k)
theorem x_iinc (hx : p.tables.exec = Jvm.exec) (hb : c.code = cc) {i nL k n a : Nat} {lv lv' : List (Nat × Value)} (hdg : decode cc pc = .ok (.iinc i n, 3)) (h : lv_has ls nL lv) (hk : lv[k]? = some (i, .int (nI a))) (hn : i < nL) (hl : (i, Value.int (nI (a + n))) :: lv.filter (fun q => !(q.1 == i) && !(q.1 + 1 == i && q.2.category == 2)) = lv')
    (kk : ∀ ls' : Array Slot, lv_has ls' nL lv' → W p l e R s m args below meth c H locs cells slots Q (F0 m (pc + 3) ls' rest)) : W p l e R s m args below meth c H locs cells slots Q (F0 m pc ls rest) := lv_iinc hx hb hdg h hk (by show nI a + Int32.ofInt (n : Int) = nI (a + n); rw [← nI_add]; rfl) hn hl kk
theorem x_hl {ls : Array Slot} {nL : Nat} {l l' : List (Nat × Value)} (h : lv_has ls nL l) (e : l = l') : lv_has ls nL l' := e ▸ h
theorem x_loop {σ : Type} {nL : Nat} {st : List Value} (I : σ → List (Nat × Value)) (P : σ → Prop) (μ : σ → Nat)
    (step : ∀ u : σ, P u → (∀ u' : σ, P u' → μ u' < μ u → ∀ ls : Array Slot, lv_has ls nL (I u') → W p l e R s m args below meth c H locs cells slots Q (F0 m pc ls st)) → ∀ ls : Array Slot, lv_has ls nL (I u) → W p l e R s m args below meth c H locs cells slots Q (F0 m pc ls st))
    (u0 : σ) (h0 : P u0) (ls : Array Slot) (hl : lv_has ls nL (I u0)) : W p l e R s m args below meth c H locs cells slots Q (F0 m pc ls st) := by
  have key : ∀ (n : Nat) (u : σ), μ u < n → P u → ∀ ls : Array Slot, lv_has ls nL (I u) → W p l e R s m args below meth c H locs cells slots Q (F0 m pc ls st) := by
    intro n
    induction n with
    | zero => intro u hu; omega
    | succ n ih => exact fun u hu hp => step u hp (fun u' hp' hm => ih u' (by omega) hp')
  exact key (μ u0 + 1) u0 (Nat.lt_succ_self _) h0 ls hl
theorem x_idec (hx : p.tables.exec = Jvm.exec) (hb : c.code = cc) {i nL k n a : Nat} {z : Int} {lv lv' : List (Nat × Value)} (hna : n ≤ a) (hdg : decode cc pc = .ok (.iinc i z, 3)) (hz : Int32.ofInt z = -nI n) (h : lv_has ls nL lv) (hk : lv[k]? = some (i, .int (nI a))) (hn : i < nL) (hl : (i, Value.int (nI (a - n))) :: lv.filter (fun q => !(q.1 == i) && !(q.1 + 1 == i && q.2.category == 2)) = lv')
    (kk : ∀ ls' : Array Slot, lv_has ls' nL lv' → W p l e R s m args below meth c H locs cells slots Q (F0 m (pc + 3) ls' rest)) : W p l e R s m args below meth c H locs cells slots Q (F0 m pc ls rest) := lv_iinc hx hb hdg h hk (by rw [hz, ← pk_sub hna, Int32.sub_eq_add_neg]) hn hl kk
/-! branches over numbers -/
theorem x_icge (hx : p.tables.exec = Jvm.exec) (hb : c.code = cc) {a b : Nat} (ha : a < 2 ^ 31) (hb2 : b < 2 ^ 31) {off : Int} {tgt : Nat} (hdg : decode cc pc = .ok (.if_icmp .ge off, 3)) (ht : (pc : Int) + off = (tgt : Int)) (kt : b ≤ a → W p l e R s m args below meth c H locs cells slots Q (F0 m tgt ls rest)) (kf : a < b → W p l e R s m args below meth c H locs cells slots Q (F0 m (pc + 3) ls rest)) : W p l e R s m args below meth c H locs cells slots Q (F0 m pc ls (.int (nI b) :: .int (nI a) :: rest)) :=
  lv_icmp_ge hx hb hdg ht (fun h => kt ((nI_leI hb2 ha).mp h)) (fun h => kf (Nat.not_le.mp fun q => h ((nI_leI hb2 ha).mpr q)))
theorem x_icgt (hx : p.tables.exec = Jvm.exec) (hb : c.code = cc) {a b : Nat} (ha : a < 2 ^ 31) (hb2 : b < 2 ^ 31) {off : Int} {tgt : Nat} (hdg : decode cc pc = .ok (.if_icmp .gt off, 3)) (ht : (pc : Int) + off = (tgt : Int)) (kt : b < a → W p l e R s m args below meth c H locs cells slots Q (F0 m tgt ls rest)) (kf : a ≤ b → W p l e R s m args below meth c H locs cells slots Q (F0 m (pc + 3) ls rest)) : W p l e R s m args below meth c H locs cells slots Q (F0 m pc ls (.int (nI b) :: .int (nI a) :: rest)) :=
  lv_icmp_gt hx hb hdg ht (fun h => kt ((nI_ltI hb2 ha).mp h)) (fun h => kf (Nat.not_lt.mp fun q => h ((nI_ltI hb2 ha).mpr q)))
theorem x_iclt (hx : p.tables.exec = Jvm.exec) (hb : c.code = cc) {a b : Nat} (ha : a < 2 ^ 31) (hb2 : b < 2 ^ 31) {off : Int} {tgt : Nat} (hdg : decode cc pc = .ok (.if_icmp .lt off, 3)) (ht : (pc : Int) + off = (tgt : Int)) (kt : a < b → W p l e R s m args below meth c H locs cells slots Q (F0 m tgt ls rest)) (kf : b ≤ a → W p l e R s m args below meth c H locs cells slots Q (F0 m (pc + 3) ls rest)) : W p l e R s m args below meth c H locs cells slots Q (F0 m pc ls (.int (nI b) :: .int (nI a) :: rest)) :=
  lv_icmp_lt hx hb hdg ht (fun h => kt ((nI_ltI ha hb2).mp h)) (fun h => kf (Nat.not_lt.mp fun q => h ((nI_ltI ha hb2).mpr q)))
theorem x_icle (hx : p.tables.exec = Jvm.exec) (hb : c.code = cc) {a b : Nat} (ha : a < 2 ^ 31) (hb2 : b < 2 ^ 31) {off : Int} {tgt : Nat} (hdg : decode cc pc = .ok (.if_icmp .le off, 3)) (ht : (pc : Int) + off = (tgt : Int)) (kt : a ≤ b → W p l e R s m args below meth c H locs cells slots Q (F0 m tgt ls rest)) (kf : b < a → W p l e R s m args below meth c H locs cells slots Q (F0 m (pc + 3) ls rest)) : W p l e R s m args below meth c H locs cells slots Q (F0 m pc ls (.int (nI b) :: .int (nI a) :: rest)) :=
  lv_icmp_le hx hb hdg ht (fun h => kt ((nI_leI ha hb2).mp h)) (fun h => kf (Nat.not_le.mp fun q => h ((nI_leI ha hb2).mpr q)))
theorem x_iceq (hx : p.tables.exec = Jvm.exec) (hb : c.code = cc) {a b : Nat} (ha : a < 2 ^ 31) (hb2 : b < 2 ^ 31) {off : Int} {tgt : Nat} (hdg : decode cc pc = .ok (.if_icmp .eq off, 3)) (ht : (pc : Int) + off = (tgt : Int)) (kt : a = b → W p l e R s m args below meth c H locs cells slots Q (F0 m tgt ls rest)) (kf : ¬ a = b → W p l e R s m args below meth c H locs cells slots Q (F0 m (pc + 3) ls rest)) : W p l e R s m args below meth c H locs cells slots Q (F0 m pc ls (.int (nI b) :: .int (nI a) :: rest)) :=
  lv_icmp_eq hx hb hdg ht (fun h => kt ((nI_eq ha hb2).mp h)) (fun h => kf fun q => h ((nI_eq ha hb2).mpr q))
theorem x_icne (hx : p.tables.exec = Jvm.exec) (hb : c.code = cc) {a b : Nat} (ha : a < 2 ^ 31) (hb2 : b < 2 ^ 31) {off : Int} {tgt : Nat} (hdg : decode cc pc = .ok (.if_icmp .ne off, 3)) (ht : (pc : Int) + off = (tgt : Int)) (kt : ¬ a = b → W p l e R s m args below meth c H locs cells slots Q (F0 m tgt ls rest)) (kf : a = b → W p l e R s m args below meth c H locs cells slots Q (F0 m (pc + 3) ls rest)) : W p l e R s m args below meth c H locs cells slots Q (F0 m pc ls (.int (nI b) :: .int (nI a) :: rest)) :=
  lv_icmp_ne hx hb hdg ht (fun h => kt fun q => h ((nI_eq ha hb2).mpr q)) (fun h => kf ((nI_eq ha hb2).mp h))
theorem x_ifeq (hx : p.tables.exec = Jvm.exec) (hb : c.code = cc) {a : Nat} (ha : a < 2 ^ 31) {off : Int} {tgt : Nat} (hdg : decode cc pc = .ok (.ifCond .eq off, 3)) (ht : (pc : Int) + off = (tgt : Int)) (kt : a = 0 → W p l e R s m args below meth c H locs cells slots Q (F0 m tgt ls rest)) (kf : 0 < a → W p l e R s m args below meth c H locs cells slots Q (F0 m (pc + 3) ls rest)) : W p l e R s m args below meth c H locs cells slots Q (F0 m pc ls (.int (nI a) :: rest)) :=
  lv_if_eq hx hb hdg ht (fun h => kt ((nI_eq ha (by decide)).mp h)) (fun h => kf (Nat.pos_of_ne_zero fun q => h (by rw [q]; rfl)))
theorem x_ifne (hx : p.tables.exec = Jvm.exec) (hb : c.code = cc) {a : Nat} (ha : a < 2 ^ 31) {off : Int} {tgt : Nat} (hdg : decode cc pc = .ok (.ifCond .ne off, 3)) (ht : (pc : Int) + off = (tgt : Int)) (kt : 0 < a → W p l e R s m args below meth c H locs cells slots Q (F0 m tgt ls rest)) (kf : a = 0 → W p l e R s m args below meth c H locs cells slots Q (F0 m (pc + 3) ls rest)) : W p l e R s m args below meth c H locs cells slots Q (F0 m pc ls (.int (nI a) :: rest)) :=
  lv_if_ne hx hb hdg ht (fun h => kt (Nat.pos_of_ne_zero fun q => h (by rw [q]; rfl))) (fun h => kf ((nI_eq ha (by decide)).mp h))
/-! cells -/
theorem x_get {own ref C : String} {T : u_T} {N ci a index nL : Nat} {fs : List Value} {Ts : List Cond} {v : Value} (S : CallFix p m c cc nL s args Ts own) (hin : ∀ w ∈ u_ws C T N, w ∈ Ts) (hK : xK Γ s) (hO : Ob Γ ci a fs H) (hc : vwCl[ci]? = some (C, T, N)) (k : Nat) (hk : k < N) (hlink : Cond.fieldLink own index ref (T k).2.1 (T k).2.2.1 ∈ Ts) (href : (T k).1 = ref) (hv : fs[k]? = some v) (hdg : decode cc pc = .ok (.getfield index, 3))
    (kk : W p l e R s m args below meth c H locs cells slots Q (F0 m (pc + 3) ls (v :: rest))) : W p l e R s m args below meth c H locs cells slots Q (F0 m pc ls (.ref a :: rest)) :=
  va_get (ws := [(a, .inr (ci, fs))]) S.1 S.2.1 S.2.2.2.2 hin S.2.2.2.1 hK (x_P1 hO) 0 rfl hc k hk (S.2.2.2.2 _ hlink) (fun x h => by rw [← href]; exact h) hv hdg kk
theorem x_iald (hx : p.tables.exec = Jvm.exec) (hb : c.code = cc) (hK : xK Γ s) {a n i : Nat} {f : Nat → Int32} (hA : Ai Γ a n f H) (hi : i < n) (hi2 : i < 2 ^ 31) (hdg : decode cc pc = .ok (.iaload, 1)) (k : W p l e R s m args below meth c H locs cells slots Q (F0 m (pc + 1) ls (.int (f i) :: rest))) : W p l e R s m args below meth c H locs cells slots Q (F0 m pc ls (.int (nI i) :: .ref a :: rest)) := by
  have hc : (nI i).toNatClampNeg = i := nI_clamp hi2
  refine va_iald (ws := [(a, .inl (Γ.2.1, n, .inl f))]) hx hb hK (x_P1 hA) 0 0 rfl rfl (by unfold vp_in; rw [hc]; intro q; rcases q with q | q; exact nI_pos hi2 q; omega) hdg ?_
  rw [hc]
  exact k
theorem x_zald (hx : p.tables.exec = Jvm.exec) (hb : c.code = cc) (hK : xK Γ s) {a n i : Nat} {f : Nat → Int32} (hA : Az Γ a n f H) (hi : i < n) (hi2 : i < 2 ^ 31) (hdg : decode cc pc = .ok (.baload, 1)) (k : W p l e R s m args below meth c H locs cells slots Q (F0 m (pc + 1) ls (.int (f i) :: rest))) : W p l e R s m args below meth c H locs cells slots Q (F0 m pc ls (.int (nI i) :: .ref a :: rest)) := by
  have hc : (nI i).toNatClampNeg = i := nI_clamp hi2
  refine va_zald (ws := [(a, .inl (Γ.2.2.1, n, .inl f))]) hx hb hK (x_P1 hA) 0 1 rfl rfl (by unfold vp_in; rw [hc]; intro q; rcases q with q | q; exact nI_pos hi2 q; omega) hdg ?_
  rw [hc]
  exact k
theorem x_aald (hx : p.tables.exec = Jvm.exec) (hb : c.code = cc) (hK : xK Γ s) {a n i : Nat} {f : Nat → Option Nat} (hA : Aq Γ a n f H) (hi : i < n) (hi2 : i < 2 ^ 31) (hdg : decode cc pc = .ok (.aaload, 1)) (k : W p l e R s m args below meth c H locs cells slots Q (F0 m (pc + 1) ls (va_rf (f i) :: rest))) : W p l e R s m args below meth c H locs cells slots Q (F0 m pc ls (.int (nI i) :: .ref a :: rest)) := by
  have hc : (nI i).toNatClampNeg = i := nI_clamp hi2
  refine va_aldq (ws := [(a, .inl (Γ.2.2.2, n, .inr (.inr (.inr (.inr f)))))]) hx hb hK (x_P1 hA) 0 2 rfl rfl (by unfold vp_in; rw [hc]; intro q; rcases q with q | q; exact nI_pos hi2 q; omega) hdg ?_
  rw [hc]
  exact k
/-! calls of methods that only read -/
theorem ro_run {v : Option Value} (hr : va_Run p l e R s m args below meth c H locs cells slots 0 0 (F0 m pc ls st0) rest (fun (st : State) (o : Outcome) (t : State) => o = .returned v ∧ t.heap = st.heap) (fun _ => False)) (k : W p l e R s m args below meth c H locs cells slots Q (F0 m (pc + 3) ls (v.toList ++ rest))) : W p l e R s m args below meth c H locs cells slots Q (F0 m pc ls st0) := by
  intro T hT X
  obtain ⟨v', st₀, t, T', L, h0, X', hL, e1, -, ⟨hv, hh⟩, st⟩ := hr T hT X
  cases hv
  obtain ⟨t2, a1, b1⟩ := k T' (by rw [e1, hh, h0]) (Stand.forget X' (fun q h => (hL q h).elim))
  exact ⟨t2, st t2 a1, b1⟩
theorem ro_V {own C : String} {index maxL nL n b : Nat} {y : MethodName} {bytes : ByteArray} {ret : Option FieldType} {Ts wsy : List Cond} {rm : Room} {Pre : Heap → Prop} {v : Option Value} {As : List Value} (S : CallFix p m c cc nL s args Ts own) (hK : xK Γ s) (hM : Ro l y wsy rm Γ (.ref b :: As) Pre v) (cw : CallW R s args own C index y bytes maxL ret wsy rm 0 0 n) (hrec : ∃ cell : Cell, H[b]? = some cell ∧ cell.vm.isStatics = false ∧ s.vm.findClass C = some cell.cls) (hpre : Pre H) (hn : As.length = n) (hsz : ls.size = nL) (hst : st0 = As.reverse ++ .ref b :: rest) (hW : (rest.map fun v => v.category).sum ≤ 8) (hdg : decode cc pc = .ok (.invokevirtual index, 3)) (hf : cells ≤ R.cells ∧ slots ≤ R.slots)
    (k : W p l e R s m args below meth c H locs cells slots Q (F0 m (pc + 3) ls (v.toList ++ rest))) : W p l e R s m args below meth c H locs cells slots Q (F0 m pc ls st0) := by
  subst hst
  exact ro_run (va_runV S hM cw ⟨x_blind, hrec, fun U hU hW => ⟨rfl, hK.moved hW.alike, by rw [hU]; exact hpre⟩⟩ rfl hn hsz rfl (lv_room hW) hdg hf) k
theorem ro_S {own : String} {index maxL nL n : Nat} {y : MethodName} {bytes : ByteArray} {ret : Option FieldType} {Ts wsy : List Cond} {rm : Room} {Pre : Heap → Prop} {v : Option Value} {As : List Value} (S : CallFix p m c cc nL s args Ts own) (hK : xK Γ s) (hM : Ro l y wsy rm Γ As Pre v) (cw : CallB R s args own index y bytes maxL ret wsy rm 0 0 n ∧ (Cond.static y).before args s = true) (hpre : Pre H) (hn : As.length = n) (hsz : ls.size = nL) (hst : st0 = As.reverse ++ rest) (hW : (rest.map fun v => v.category).sum ≤ 8) (hdg : decode cc pc = .ok (.invokestatic index, 3)) (hf : cells ≤ R.cells ∧ slots ≤ R.slots)
    (k : W p l e R s m args below meth c H locs cells slots Q (F0 m (pc + 3) ls (v.toList ++ rest))) : W p l e R s m args below meth c H locs cells slots Q (F0 m pc ls st0) := by
  subst hst
  exact ro_run (va_runS S hM cw ⟨x_blind, fun U hU hW => ⟨rfl, hK.moved hW.alike, by rw [hU]; exact hpre⟩⟩ rfl hn hsz rfl (lv_room hW) hdg hf) k
theorem ro_iret {r : Int32} {free : Addr → Prop} (hx : p.tables.exec = Jvm.exec) (hb : c.code = cc) (hr : meth.sig.returnType = some .int) (hlk : meth.locks = false) (hdg : decode cc pc = .ok (.ireturn, 1)) : W p l e R s m args below meth c s.heap [] cells slots (MQ below (fun _ st o t => o = .returned (some (.int r)) ∧ t.heap = st.heap) args s cells slots free) (F0 m pc ls [.int r]) :=
  W.iret hx hb hr (fun t ht _ => ⟨rfl, ht⟩) (fun _ h => by cases h) hdg hlk
theorem x_nz {a : Nat} (h : a ≤ 1) : narrow .boolean (.int (nI a)) = .int (nI a) := by
  rcases (show a = 0 ∨ a = 1 by omega) with rfl | rfl <;> decide +kernel
theorem ro_zret {a : Nat} {free : Addr → Prop} (ha : a ≤ 1) (hx : p.tables.exec = Jvm.exec) (hb : c.code = cc) (hr : meth.sig.returnType = some .boolean) (hlk : meth.locks = false) (hdg : decode cc pc = .ok (.ireturn, 1)) : W p l e R s m args below meth c s.heap [] cells slots (MQ below (fun _ st o t => o = .returned (some (.int (nI a))) ∧ t.heap = st.heap) args s cells slots free) (F0 m pc ls [.int (nI a)]) :=
  W.zret hx hb hr (x_nz ha) (fun t ht _ => ⟨rfl, ht⟩) (fun _ h => by cases h) hdg hlk
end XW
end
section
/-! the mathematics of one stick: its runes by place and side, its joints -/
def cU (f : Nat → Int32) : Nat → Nat
  | 0 => 0
  | n + 1 => cU f n + (if f n = -1 then 0 else 1)
def sN (f : Nat → Nat) : Nat → Nat
  | 0 => 0
  | n + 1 => sN f n + f n
theorem cU_le (f : Nat → Int32) : ∀ n, cU f n ≤ n
  | 0 => Nat.le_refl 0
  | n + 1 => by
    have h := cU_le f n
    show cU f n + _ ≤ n + 1
    split <;> omega
theorem sN_le {f : Nat → Nat} {c : Nat} : ∀ {n : Nat}, (∀ k, k < n → f k ≤ c) → sN f n ≤ n * c
  | 0, _ => Nat.zero_le _
  | n + 1, h => by
    have h1 := sN_le (n := n) fun k hk => h k (Nat.lt_succ_of_lt hk)
    have h2 := h n (Nat.lt_succ_self n)
    show sN f n + f n ≤ (n + 1) * c
    rw [Nat.succ_mul]
    omega
theorem cU_cong {f g : Nat → Int32} : ∀ {n : Nat}, (∀ k, k < n → f k = g k) → cU f n = cU g n
  | 0, _ => rfl
  | n + 1, h => by
    show cU f n + _ = cU g n + _
    rw [cU_cong (n := n) fun k hk => h k (Nat.lt_succ_of_lt hk), h n (Nat.lt_succ_self n)]
theorem sN_cong {f g : Nat → Nat} : ∀ {n : Nat}, (∀ k, k < n → f k = g k) → sN f n = sN g n
  | 0, _ => rfl
  | n + 1, h => by
    show sN f n + f n = sN g n + g n
    rw [sN_cong (n := n) fun k hk => h k (Nat.lt_succ_of_lt hk), h n (Nat.lt_succ_self n)]
def rc (R : Nat → Int32) (p : Nat) : Nat := cU (fun s => R (3 * p + s)) 3
def rT (R : Nat → Int32) (P : Nat) : Nat := sN (rc R) P
def gT (Gl : Nat → Int32) (n : Nat) : Nat := sN (fun j => if Gl j = 0 then 0 else 1) n
theorem rc_le (R : Nat → Int32) (p : Nat) : rc R p ≤ 3 := cU_le _ 3
theorem rT_le (R : Nat → Int32) (P : Nat) : rT R P ≤ P * 3 := sN_le fun k _ => rc_le R k
theorem gT_le (Gl : Nat → Int32) (n : Nat) : gT Gl n ≤ n := by
  have h := sN_le (f := fun j => if Gl j = 0 then 0 else 1) (c := 1) (n := n) (fun k _ => by split <;> omega)
  unfold gT
  omega
def mx0 (x : Int32) : Int32 := if (0 : Int32) < x then x else 0
def stn (R Bs : Nat → Int32) (j : Nat) : Int32 := mx0 (Bs j - nI (rc R j) - nI (rc R (j + 1)))
theorem cU_n {f : Nat → Int32} {n : Nat} (h : f n = -1) : cU f (n + 1) = cU f n := by
  show cU f n + _ = _
  rw [if_pos h, Nat.add_zero]
theorem cU_y {f : Nat → Int32} {n : Nat} (h : ¬ f n = -1) : cU f (n + 1) = cU f n + 1 := by
  show cU f n + _ = _
  rw [if_neg h]
theorem sN_s (f : Nat → Nat) (n : Nat) : sN f (n + 1) = sN f n + f n := rfl
/-- the first place of the least value -/
def wk (f : Nat → Int32) : Nat → Option Nat
  | 0 => none
  | n + 1 => match wk f n with
    | none => some n
    | some w => if f n < f w then some n else some w
def oI (o : Option Nat) : Int32 := match o with
  | none => -1
  | some w => nI w
theorem wk_lt (f : Nat → Int32) : ∀ (n w : Nat), wk f n = some w → w < n
  | 0, w, h => by cases h
  | n + 1, w, h => by
    have ih := wk_lt f n
    unfold wk at h
    cases hq : wk f n with
    | none => rw [hq] at h; cases h; omega
    | some v =>
      rw [hq] at h
      have hv := ih v hq
      dsimp only at h
      split at h <;> cases h <;> omega
theorem wk_some (f : Nat → Int32) : ∀ n, 0 < n → ∃ w, wk f n = some w
  | 0, h => absurd h (Nat.lt_irrefl 0)
  | n + 1, _ => by
    unfold wk
    cases wk f n with
    | none => exact ⟨n, rfl⟩
    | some v =>
      dsimp only
      split
      · exact ⟨n, rfl⟩
      · exact ⟨v, rfl⟩
def cW (f : Nat → Int32) (x : Int32) : Nat → Nat
  | 0 => 0
  | n + 1 => cW f x n + (if f n < x then 1 else 0)
theorem cW_le (f : Nat → Int32) (x : Int32) : ∀ n, cW f x n ≤ n
  | 0 => Nat.le_refl 0
  | n + 1 => by
    have h := cW_le f x n
    show cW f x n + _ ≤ n + 1
    split <;> omega
theorem cW_y {f : Nat → Int32} {x : Int32} {n : Nat} (h : f n < x) : cW f x (n + 1) = cW f x n + 1 := by
  show cW f x n + _ = _
  rw [if_pos h]
theorem cW_n {f : Nat → Int32} {x : Int32} {n : Nat} (h : ¬ f n < x) : cW f x (n + 1) = cW f x n := by
  show cW f x n + _ = _
  rw [if_neg h, Nat.add_zero]
theorem wk_0 {f : Nat → Int32} {n : Nat} (h : wk f n = none) : wk f (n + 1) = some n := by
  unfold wk
  rw [h]
theorem wk_y {f : Nat → Int32} {n w : Nat} (h : wk f n = some w) (h2 : f n < f w) : wk f (n + 1) = some n := by
  unfold wk
  rw [h]
  exact if_pos h2
theorem wk_n {f : Nat → Int32} {n w : Nat} (h : wk f n = some w) (h2 : ¬ f n < f w) : wk f (n + 1) = some w := by
  unfold wk
  rw [h]
  exact if_neg h2
theorem oI_n {o : Option Nat} (h : oI o = -1) (hb : ∀ w, o = some w → w < 2 ^ 31) : o = none := by
  cases o with
  | none => rfl
  | some w =>
    have h1 := nI_toInt (hb w rfl)
    have h2 : nI w = -1 := h
    rw [h2] at h1
    have h3 : (-1 : Int32).toInt = -1 := by decide +kernel
    omega
theorem oI_s {o : Option Nat} (h : ¬ oI o = -1) : ∃ w, o = some w := by
  cases o with
  | none => exact absurd rfl h
  | some w => exact ⟨w, rfl⟩
def inb (x : Int32) (n : Nat) : Prop := 0 ≤ x.toInt ∧ x.toInt < (n : Int)
theorem inb_lt0 {x : Int32} {n : Nat} (h : x < 0) (q : inb x n) : False := by
  have h1 := Int32.lt_iff_toInt_lt.mp h
  rw [Int32.toInt_zero] at h1
  have h2 := q.1
  omega
theorem inb_ge {x : Int32} {n k : Nat} (hk : n ≤ k) (hk2 : k < 2 ^ 31) (h : nI k ≤ x) (q : inb x n) : False := by
  have h1 := Int32.le_iff_toInt_le.mp h
  rw [nI_toInt hk2] at h1
  have h2 := q.2
  omega
theorem inb_of {x : Int32} {n : Nat} (hn : n < 2 ^ 31) (h1 : ¬ x < 0) (h2 : ¬ nI n ≤ x) : inb x n := by
  constructor
  · have h := mt Int32.lt_iff_toInt_lt.mpr h1
    rw [Int32.toInt_zero] at h
    omega
  · have h := mt Int32.le_iff_toInt_le.mpr h2
    rw [nI_toInt hn] at h
    omega
theorem inb_nI {a n : Nat} (ha : a < 2 ^ 31) : inb (nI a) n ↔ a < n := by
  unfold inb
  rw [nI_toInt ha]
  omega
theorem inb_ex {x : Int32} {n : Nat} (h : inb x n) : ∃ k, k < n ∧ x = nI k := by
  refine ⟨x.toInt.toNat, by have := h.1; have := h.2; omega, ?_⟩
  apply Int32.toInt_inj.mp
  have h3 : x.toInt < 2 ^ 31 := Int32.toInt_lt x
  rw [nI_toInt (by omega)]
  have := h.1
  omega
def rd (R : Nat → Int32) (su t p : Nat) : Int32 := R (3 * p + (su + p * t) % 3)
/-- the last place ahead of n that is read -/
def lst (f : Nat → Int32) : Nat → Option Nat
  | 0 => none
  | n + 1 => if f n = -1 then lst f n else some n
theorem lst_lt (f : Nat → Int32) : ∀ (n w : Nat), lst f n = some w → w < n
  | 0, w, h => by cases h
  | n + 1, w, h => by
    unfold lst at h
    split at h
    · have := lst_lt f n w h
      omega
    · cases h
      omega
theorem lst_ne (f : Nat → Int32) : ∀ (n w : Nat), lst f n = some w → ¬ f w = -1
  | 0, w, h => by cases h
  | n + 1, w, h => by
    unfold lst at h
    split at h
    · exact lst_ne f n w h
    · cases h
      assumption
/-- a reading, as a list -/
def rl (f : Nat → Int32) : Nat → List Int32
  | 0 => []
  | n + 1 => rl f n ++ (if f n = -1 then [] else [f n])
theorem rl_len (f : Nat → Int32) : ∀ n, (rl f n).length = cU f n
  | 0 => rfl
  | n + 1 => by
    show (rl f n ++ _).length = cU f n + _
    rw [List.length_append, rl_len f n]
    split <;> rfl
theorem rl_pre (f : Nat → Int32) : ∀ (n k : Nat), ∃ t, rl f (n + k) = rl f n ++ t
  | n, 0 => ⟨[], (List.append_nil _).symm⟩
  | n, k + 1 => by
    obtain ⟨t, h⟩ := rl_pre f n k
    exact ⟨t ++ (if f (n + k) = -1 then [] else [f (n + k)]), by show rl f (n + k) ++ (if f (n + k) = -1 then [] else [f (n + k)]) = _; rw [h, List.append_assoc]⟩
theorem rl_get (f : Nat → Int32) {n P : Nat} (h : n < P) (hf : ¬ f n = -1) : (rl f P)[cU f n]? = some (f n) := by
  obtain ⟨t, ht⟩ := rl_pre f (n + 1) (P - (n + 1))
  rw [show n + 1 + (P - (n + 1)) = P by omega] at ht
  rw [ht]
  have e : rl f (n + 1) = rl f n ++ [f n] := by show rl f n ++ _ = _; rw [if_neg hf]
  rw [e, List.append_assoc, List.getElem?_append_right (by rw [rl_len]; exact Nat.le_refl _), rl_len, Nat.sub_self]
  rfl
/-- the rune of a reading by its number, -1 where there is none -/
def nth (f : Nat → Int32) (P : Nat) (idx : Int32) : Int32 := if 0 ≤ idx.toInt then ((rl f P)[idx.toInt.toNat]?).getD (-1) else -1
/-- the last rune read ahead of n, -1 without one -/
def lastv (f : Nat → Int32) (n : Nat) : Int32 := match lst f n with
  | none => -1
  | some q => f q
theorem lastv_0 (f : Nat → Int32) : lastv f 0 = -1 := rfl
theorem lastv_y {f : Nat → Int32} {n : Nat} (h : ¬ f n = -1) : lastv f (n + 1) = f n := by
  unfold lastv
  rw [show lst f (n + 1) = some n by unfold lst; rw [if_neg h]]
theorem lastv_n {f : Nat → Int32} {n : Nat} (h : f n = -1) : lastv f (n + 1) = lastv f n := by
  unfold lastv
  rw [show lst f (n + 1) = lst f n by rw [lst.eq_2, if_pos h]]
/-- is a read somewhere, and b directly behind it -/
def pr (f : Nat → Int32) (a b : Int32) : Nat → Bool
  | 0 => false
  | n + 1 => pr f a b n || (decide (¬ f n = -1) && (decide (lastv f n = a) && decide (f n = b)))
noncomputable def bP (P : Prop) : Nat := by classical exact if P then 1 else 0
theorem bP_t {P : Prop} (h : P) : bP P = 1 := by
  unfold bP
  exact if_pos h
theorem bP_f {P : Prop} (h : ¬ P) : bP P = 0 := by
  unfold bP
  exact if_neg h
theorem bP_le (P : Prop) : bP P ≤ 1 := by
  by_cases h : P
  · rw [bP_t h]; exact Nat.le_refl 1
  · rw [bP_f h]; exact Nat.zero_le 1
def b01 (b : Bool) : Nat := if b then 1 else 0
theorem b01_le (b : Bool) : b01 b ≤ 1 := by cases b <;> decide
def dF (g : Nat → Int32) (d : Int64) : Nat → Int64
  | 0 => d
  | n + 1 => dF g d n * 31 + (g n).toInt64
theorem dF_s (g : Nat → Int32) (d : Int64) (n : Nat) : dF g d (n + 1) = dF g d n * 31 + (g n).toInt64 := rfl
/-- what stick() tells -/
def fct (P U : Nat) (B E : Int32) (G : Nat) (R Gl : Nat → Int32) (w : Nat) : Int32 :=
  if w = 0 then nI P else if w = 1 then nI U else if w = 2 then nI (rT R P) else if w = 3 then nI (gT Gl (P - 1)) else if w = 4 then B else if w = 5 then E else nI G
def addTo (P U : Nat) (B E : Int32) (G : Nat) (R Bs Gl : Nat → Int32) (d : Int64) : Int64 :=
  dF Bs (dF R (dF (fct P U B E G R Gl) d 7) (3 * P)) (P - 1)
/-- a stick's cells: the object, its rows behind it -/
def SW (Γ : GG) (a P U : Nat) (B E : Int32) (G : Nat) (R Bs Gl : Nat → Int32) (H : Heap) : Prop :=
  Ob Γ 0 a [.int (nI P), .int (nI U), .int B, .int E, .int (nI G), .ref (a + 1), .ref (a + 2), .ref (a + 3)] H ∧ Ai Γ (a + 1) 36 R H ∧ Ai Γ (a + 2) 11 Bs H ∧ Az Γ (a + 3) 11 Gl H
theorem SW.kept {Γ : GG} {a P U : Nat} {B E : Int32} {G : Nat} {R Bs Gl : Nat → Int32} {H H1 : Heap} (h : SW Γ a P U B E G R Bs Gl H) (hq : ∀ q, a ≤ q → q < a + 4 → H1[q]? = H[q]?) : SW Γ a P U B E G R Bs Gl H1 :=
  ⟨h.1.kept (hq _ (by omega) (by omega)), h.2.1.kept (hq _ (by omega) (by omega)), h.2.2.1.kept (hq _ (by omega) (by omega)), h.2.2.2.kept (hq _ (by omega) (by omega))⟩
theorem bP_0 {P : Prop} (h : bP P = 0) : ¬ P := fun q => by
  rw [bP_t q] at h
  exact absurd h (by decide)
theorem bP_1 {P : Prop} (h : 0 < bP P) : P := by
  by_cases q : P
  · exact q
  · rw [bP_f q] at h
    exact absurd h (by decide)
theorem gT_n {Gl : Nat → Int32} {n : Nat} (h : ¬ ¬ Gl n = 0) : gT Gl (n + 1) = gT Gl n := by
  show gT Gl n + (if Gl n = 0 then 0 else 1) = _
  rw [if_pos (Classical.not_not.mp h), Nat.add_zero]
theorem gT_y {Gl : Nat → Int32} {n : Nat} (h : ¬ Gl n = 0) : gT Gl (n + 1) = gT Gl n + 1 := by
  show gT Gl n + (if Gl n = 0 then 0 else 1) = _
  rw [if_neg h]
/-- the number ahead of n -/
def pn (n : Nat) : Int32 := nI n + (-1)
theorem pn_s (k : Nat) : pn (k + 1) = nI k := pk_m1 k
theorem pn_sub (q : Nat) : nI q - nI 1 = pn q := by
  unfold pn
  rw [Int32.sub_eq_add_neg]
  rfl
theorem lst_n {f : Nat → Int32} {n : Nat} (h : f n = -1) : lst f (n + 1) = lst f n := by
  rw [lst.eq_2, if_pos h]
theorem lst_y {f : Nat → Int32} {n : Nat} (h : ¬ f n = -1) : lst f (n + 1) = some n := by
  rw [lst.eq_2, if_neg h]
/-- each number below the length of a reading is that of a place -/
theorem cU_onto (f : Nat → Int32) : ∀ (P j : Nat), j < cU f P → ∃ k, k < P ∧ ¬ f k = -1 ∧ cU f k = j
  | 0, j, h => absurd h (Nat.not_lt_zero j)
  | n + 1, j, h => by
    by_cases hf : f n = -1
    · rw [cU_n hf] at h
      obtain ⟨k, h1, h2, h3⟩ := cU_onto f n j h
      exact ⟨k, by omega, h2, h3⟩
    · rw [cU_y hf] at h
      rcases Nat.lt_or_ge j (cU f n) with q | q
      · obtain ⟨k, h1, h2, h3⟩ := cU_onto f n j q
        exact ⟨k, by omega, h2, h3⟩
      · exact ⟨n, Nat.lt_succ_self n, hf, by omega⟩
theorem i32_nat {x : Int32} (h : 0 ≤ x.toInt) : x = nI x.toInt.toNat := by
  apply Int32.toInt_inj.mp
  have h3 : x.toInt < 2 ^ 31 := Int32.toInt_lt x
  rw [nI_toInt (by omega)]
  omega
theorem nth_y {f : Nat → Int32} {i P : Nat} {x : Int32} (hi : i < P) (hP : P ≤ 12) (hf : ¬ f i = -1) (h : nI (cU f i) = x) : nth f P x = f i := by
  have hc := cU_le f i
  unfold nth
  rw [← h, nI_toInt (by omega), if_pos (by omega), Int.toNat_natCast, rl_get f hi hf]
  rfl
theorem nth_n {f : Nat → Int32} {P : Nat} {x : Int32} (h : ∀ k, k < P → ¬ f k = -1 → ¬ nI (cU f k) = x) : nth f P x = -1 := by
  unfold nth
  split
  · rename_i h0
    rw [List.getElem?_eq_none]
    · rfl
    · rw [rl_len]
      rcases Nat.lt_or_ge x.toInt.toNat (cU f P) with q | q
      · obtain ⟨k, h1, h2, h3⟩ := cU_onto f P _ q
        exact absurd (by rw [h3]; exact (i32_nat h0).symm) (h k h1 h2)
      · exact q
  · rfl
theorem pr_s (f : Nat → Int32) (a b : Int32) (n : Nat) : pr f a b (n + 1) = (pr f a b n || (decide (¬ f n = -1) && (decide (lastv f n = a) && decide (f n = b)))) := rfl
theorem pr_skip {f : Nat → Int32} {a b : Int32} {n : Nat} (h : pr f a b n = false) (hf : f n = -1) : pr f a b (n + 1) = false := by
  rw [pr_s, h]
  simp [hf]
theorem pr_no {f : Nat → Int32} {a b : Int32} {n : Nat} (h : pr f a b n = false) (hf : ¬ lastv f n = a ∨ ¬ f n = b) : pr f a b (n + 1) = false := by
  rw [pr_s, h]
  rcases hf with q | q <;> simp [q]
theorem pr_mono {f : Nat → Int32} {a b : Int32} {n : Nat} (h : pr f a b n = true) : ∀ k, pr f a b (n + k) = true
  | 0 => h
  | k + 1 => by
    show pr f a b (n + k + 1) = true
    rw [pr_s, pr_mono h k]
    rfl
theorem pr_yes {f : Nat → Int32} {a b : Int32} {n P : Nat} (hn : n < P) (h1 : ¬ f n = -1) (h2 : lastv f n = a) (h3 : f n = b) : pr f a b P = true := by
  have h : pr f a b (n + 1) = true := by
    rw [pr_s]
    have h4 : ¬ b = -1 := h3 ▸ h1
    simp [h2, h3, h4]
  have h9 := pr_mono h (P - (n + 1))
  rw [show n + 1 + (P - (n + 1)) = P by omega] at h9
  exact h9
section XR
variable {p : Program} {l : Launch} {e : Env} {R : Room} {s : State} {m : MethodId} {args : Array Value} {below : List Frame} {meth : Method} {c : Code} {H : Heap} {locs : List Loc} {cells slots : Nat} {cc : ByteArray} {pc : Nat} {ls : Array Slot}
theorem ro_lret {r : Int64} {free : Addr → Prop} (hx : p.tables.exec = Jvm.exec) (hb : c.code = cc) (hr : meth.sig.returnType = some .long) (hlk : meth.locks = false) (hdg : decode cc pc = .ok (.lreturn, 1)) : W p l e R s m args below meth c s.heap [] cells slots (MQ below (fun _ st o t => o = .returned (some (.long r)) ∧ t.heap = st.heap) args s cells slots free) (F0 m pc ls [.long r]) :=
  W.lret hx hb hr (fun t ht _ => ⟨rfl, ht⟩) (fun _ h => by cases h) hdg hlk
end XR
end
section
theorem in_X0_hasPlace_X0 : ∀ w ∈ wsX00, w ∈ wsX0_hasPlace := by decide +kernel
set_option maxHeartbeats 4000000 in
set_option maxRecDepth 100000 in
theorem c_X0_hasPlace (l : Launch) (Γ : GG) (a P U : Nat) (B E : Int32) (G : Nat) (R Bs Gl : Nat → Int32) (hP0 : 1 ≤ P) (hP : P ≤ 12) (x y : Int32)  : Ro l yX0_hasPlace wsX0_hasPlace ({ frames := 0, cells := 0, slots := 0, locals := 0 }) Γ [.ref a, .int x, .int y] (SW Γ a P U B E G R Bs Gl) (some (.int (nI (bP (inb x 3 ∧ inb y P))))) := by
  refine Ro.of (cc := cX0_hasPlace) (maxL := 3) (ret := some .boolean) (by decide) rfl (Nat.le_of_ble_eq_true rfl) ?_
  intro p e s m below meth c S hr hlk hK hW ls hl
  obtain ⟨hx, hb, hml, hown, hts⟩ := id S
  have hl : lv_has ls 3 [(0, .ref a), (1, .int x), (2, .int y)] := hl
  refine lv_iload_n hx hb dX0_hasPlace_0 rfl (lv_at hl 1 rfl) ?_
  refine lv_if_lt (tgt := 31) hx hb dX0_hasPlace_1 (by decide) (fun c_1 => ?_) (fun c_1 => ?_)
  · skip
    refine lv_iconst (v := nI 0) hx hb dX0_hasPlace_31 (by decide +kernel) ?_
    refine x_e (show nI 0 = nI (bP (inb x 3 ∧ inb y P)) by rw [bP_f (fun q => inb_lt0 c_1 q.1)]) ?_
    exact ro_zret (bP_le _) hx hb hr hlk dX0_hasPlace_32
  · skip
    refine lv_iload_n hx hb dX0_hasPlace_4 rfl (lv_at hl 1 rfl) ?_
    refine lv_iconst (v := nI 3) hx hb dX0_hasPlace_5 (by decide +kernel) ?_
    refine lv_icmp_ge (tgt := 31) hx hb dX0_hasPlace_6 (by decide) (fun c_2 => ?_) (fun c_2 => ?_)
    · skip
      refine lv_iconst (v := nI 0) hx hb dX0_hasPlace_31 (by decide +kernel) ?_
      refine x_e (show nI 0 = nI (bP (inb x 3 ∧ inb y P)) by rw [bP_f (fun q => inb_ge (Nat.le_refl 3) (by decide) c_2 q.1)]) ?_
      exact ro_zret (bP_le _) hx hb hr hlk dX0_hasPlace_32
    · skip
      refine lv_iload_n hx hb dX0_hasPlace_9 rfl (lv_at hl 2 rfl) ?_
      refine lv_if_lt (tgt := 31) hx hb dX0_hasPlace_10 (by decide) (fun c_3 => ?_) (fun c_3 => ?_)
      · skip
        refine lv_iconst (v := nI 0) hx hb dX0_hasPlace_31 (by decide +kernel) ?_
        refine x_e (show nI 0 = nI (bP (inb x 3 ∧ inb y P)) by rw [bP_f (fun q => inb_lt0 c_3 q.2)]) ?_
        exact ro_zret (bP_le _) hx hb hr hlk dX0_hasPlace_32
      · skip
        refine lv_iload_n hx hb dX0_hasPlace_13 rfl (lv_at hl 2 rfl) ?_
        refine lv_aload_n hx hb dX0_hasPlace_14 rfl (lv_at hl 0 rfl) ?_
        refine x_get S in_X0_hasPlace_X0 hK hW.1 rfl 0 (by decide) (by decide +kernel) rfl rfl dX0_hasPlace_15 ?_
        refine lv_icmp_ge (tgt := 31) hx hb dX0_hasPlace_18 (by decide) (fun c_4 => ?_) (fun c_4 => ?_)
        · skip
          refine lv_iconst (v := nI 0) hx hb dX0_hasPlace_31 (by decide +kernel) ?_
          refine x_e (show nI 0 = nI (bP (inb x 3 ∧ inb y P)) by rw [bP_f (fun q => inb_ge (Nat.le_refl P) (by omega) c_4 q.2)]) ?_
          exact ro_zret (bP_le _) hx hb hr hlk dX0_hasPlace_32
        · skip
          refine lv_iload_n hx hb dX0_hasPlace_21 rfl (lv_at hl 2 rfl) ?_
          refine lv_bipush (v := nI 12) hx hb dX0_hasPlace_22 (by decide +kernel) ?_
          refine lv_icmp_ge (tgt := 31) hx hb dX0_hasPlace_24 (by decide) (fun c_5 => ?_) (fun c_5 => ?_)
          · skip
            refine lv_iconst (v := nI 0) hx hb dX0_hasPlace_31 (by decide +kernel) ?_
            refine x_e (show nI 0 = nI (bP (inb x 3 ∧ inb y P)) by rw [bP_f (fun q => inb_ge hP (by decide) c_5 q.2)]) ?_
            exact ro_zret (bP_le _) hx hb hr hlk dX0_hasPlace_32
          · skip
            refine lv_iconst (v := nI 1) hx hb dX0_hasPlace_27 (by decide +kernel) ?_
            refine lv_goto (tgt := 32) hx hb dX0_hasPlace_28 (by decide) ?_
            refine x_e (show nI 1 = nI (bP (inb x 3 ∧ inb y P)) by rw [bP_t ⟨inb_of (by decide) c_1 c_2, inb_of (by omega) c_3 c_4⟩]) ?_
            exact ro_zret (bP_le _) hx hb hr hlk dX0_hasPlace_32
theorem in_X0_hasJoint_X0 : ∀ w ∈ wsX00, w ∈ wsX0_hasJoint := by decide +kernel
set_option maxHeartbeats 4000000 in
set_option maxRecDepth 100000 in
theorem c_X0_hasJoint (l : Launch) (Γ : GG) (a P U : Nat) (B E : Int32) (G : Nat) (R Bs Gl : Nat → Int32) (hP0 : 1 ≤ P) (hP : P ≤ 12) (x : Int32)  : Ro l yX0_hasJoint wsX0_hasJoint ({ frames := 0, cells := 0, slots := 0, locals := 0 }) Γ [.ref a, .int x] (SW Γ a P U B E G R Bs Gl) (some (.int (nI (bP (inb x (P - 1)))))) := by
  refine Ro.of (cc := cX0_hasJoint) (maxL := 2) (ret := some .boolean) (by decide) rfl (Nat.le_of_ble_eq_true rfl) ?_
  intro p e s m below meth c S hr hlk hK hW ls hl
  obtain ⟨hx, hb, hml, hown, hts⟩ := id S
  have hl : lv_has ls 2 [(0, .ref a), (1, .int x)] := hl
  refine lv_iload_n hx hb dX0_hasJoint_0 rfl (lv_at hl 1 rfl) ?_
  refine lv_if_lt (tgt := 24) hx hb dX0_hasJoint_1 (by decide) (fun c_1 => ?_) (fun c_1 => ?_)
  · skip
    refine lv_iconst (v := nI 0) hx hb dX0_hasJoint_24 (by decide +kernel) ?_
    refine x_e (show nI 0 = nI (bP (inb x (P - 1))) by rw [bP_f (fun q => inb_lt0 c_1 q)]) ?_
    exact ro_zret (bP_le _) hx hb hr hlk dX0_hasJoint_25
  · skip
    refine lv_iload_n hx hb dX0_hasJoint_4 rfl (lv_at hl 1 rfl) ?_
    refine lv_aload_n hx hb dX0_hasJoint_5 rfl (lv_at hl 0 rfl) ?_
    refine x_get S in_X0_hasJoint_X0 hK hW.1 rfl 0 (by decide) (by decide +kernel) rfl rfl dX0_hasJoint_6 ?_
    refine lv_iconst (v := nI 1) hx hb dX0_hasJoint_9 (by decide +kernel) ?_
    refine x_sub hx hb (by omega) dX0_hasJoint_10 ?_
    refine lv_icmp_ge (tgt := 24) hx hb dX0_hasJoint_11 (by decide) (fun c_2 => ?_) (fun c_2 => ?_)
    · skip
      refine lv_iconst (v := nI 0) hx hb dX0_hasJoint_24 (by decide +kernel) ?_
      refine x_e (show nI 0 = nI (bP (inb x (P - 1))) by rw [bP_f (fun q => inb_ge (Nat.le_refl _) (by omega) c_2 q)]) ?_
      exact ro_zret (bP_le _) hx hb hr hlk dX0_hasJoint_25
    · skip
      refine lv_iload_n hx hb dX0_hasJoint_14 rfl (lv_at hl 1 rfl) ?_
      refine lv_bipush (v := nI 11) hx hb dX0_hasJoint_15 (by decide +kernel) ?_
      refine lv_icmp_ge (tgt := 24) hx hb dX0_hasJoint_17 (by decide) (fun c_3 => ?_) (fun c_3 => ?_)
      · skip
        refine lv_iconst (v := nI 0) hx hb dX0_hasJoint_24 (by decide +kernel) ?_
        refine x_e (show nI 0 = nI (bP (inb x (P - 1))) by rw [bP_f (fun q => inb_ge (by omega) (by decide) c_3 q)]) ?_
        exact ro_zret (bP_le _) hx hb hr hlk dX0_hasJoint_25
      · skip
        refine lv_iconst (v := nI 1) hx hb dX0_hasJoint_20 (by decide +kernel) ?_
        refine lv_goto (tgt := 25) hx hb dX0_hasJoint_21 (by decide) ?_
        refine x_e (show nI 1 = nI (bP (inb x (P - 1))) by rw [bP_t (inb_of (by omega) c_1 c_2)]) ?_
        exact ro_zret (bP_le _) hx hb hr hlk dX0_hasJoint_25
theorem in_X0_runeAt_X0 : ∀ w ∈ wsX00, w ∈ wsX0_runeAt := by decide +kernel
set_option maxHeartbeats 4000000 in
set_option maxRecDepth 100000 in
theorem c_X0_runeAt (l : Launch) (Γ : GG) (a P U : Nat) (B E : Int32) (G : Nat) (R Bs Gl : Nat → Int32) (hP0 : 1 ≤ P) (hP : P ≤ 12) (sd pl : Nat) (h1 : sd < 3) (h2 : pl < P) : Ro l yX0_runeAt wsX0_runeAt ({ frames := 1, cells := 0, slots := 0, locals := 22 }) Γ [.ref a, .int (nI sd), .int (nI pl)] (SW Γ a P U B E G R Bs Gl) (some (.int (R (3 * pl + sd)))) := by
  refine Ro.of (cc := cX0_runeAt) (maxL := 3) (ret := some .int) (by decide) rfl (Nat.le_of_ble_eq_true rfl) ?_
  intro p e s m below meth c S hr hlk hK hW ls hl
  obtain ⟨hx, hb, hml, hown, hts⟩ := id S
  have hl : lv_has ls 3 [(0, .ref a), (1, .int (nI sd)), (2, .int (nI pl))] := hl
  refine lv_aload_n hx hb dX0_runeAt_0 rfl (lv_at hl 0 rfl) ?_
  refine lv_iload_n hx hb dX0_runeAt_1 rfl (lv_at hl 1 rfl) ?_
  refine lv_iload_n hx hb dX0_runeAt_2 rfl (lv_at hl 2 rfl) ?_
  refine ro_V (rest := []) S hK (c_X0_hasPlace l Γ a P U B E G R Bs Gl hP0 hP (nI sd) (nI pl)) (cwV 2 hts gX0_runeAt_X0_hasPlace rfl rfl rfl (by decide +kernel) ⟨Nat.le_of_ble_eq_true rfl, Nat.le_of_ble_eq_true rfl⟩) (Ob.recv hK hW.1 rfl) hW rfl hl.1 rfl (Nat.le_of_ble_eq_true rfl) dX0_runeAt_3 ⟨Nat.zero_le _, Nat.zero_le _⟩ ?_
  refine W.eq (g2 := F0 m 6 ls [.int (nI (bP (inb (nI sd) 3 ∧ inb (nI pl) P)))]) rfl ?_
  refine x_e (y := nI 1) (by rw [bP_t ⟨(inb_nI (by omega)).mpr (by omega), (inb_nI (by omega)).mpr (by omega)⟩]) ?_
  refine x_ifeq hx hb (by omega) (tgt := 22) dX0_runeAt_6 (by decide) (fun c_1 => absurd c_1 (by decide)) (fun c_1 => ?_)
  refine lv_aload_n hx hb dX0_runeAt_9 rfl (lv_at hl 0 rfl) ?_
  refine x_get S in_X0_runeAt_X0 hK hW.1 rfl 5 (by decide) (by decide +kernel) rfl rfl dX0_runeAt_10 ?_
  refine lv_iload_n hx hb dX0_runeAt_13 rfl (lv_at hl 2 rfl) ?_
  refine lv_iconst (v := nI 3) hx hb dX0_runeAt_14 (by decide +kernel) ?_
  refine x_mul hx hb dX0_runeAt_15 ?_
  refine lv_iload_n hx hb dX0_runeAt_16 rfl (lv_at hl 1 rfl) ?_
  refine x_add hx hb dX0_runeAt_17 ?_
  refine x_iald hx hb hK hW.2.1 (by omega) (by omega) dX0_runeAt_18 ?_
  refine lv_goto (tgt := 23) hx hb dX0_runeAt_19 (by decide) ?_
  refine x_e (show R (pl * 3 + sd) = R (3 * pl + sd) by rw [Nat.mul_comm pl 3]) ?_
  exact ro_iret hx hb hr hlk dX0_runeAt_23
theorem in_X0_baseAt_X0 : ∀ w ∈ wsX00, w ∈ wsX0_baseAt := by decide +kernel
set_option maxHeartbeats 4000000 in
set_option maxRecDepth 100000 in
theorem c_X0_baseAt (l : Launch) (Γ : GG) (a P U : Nat) (B E : Int32) (G : Nat) (R Bs Gl : Nat → Int32) (hP0 : 1 ≤ P) (hP : P ≤ 12) (j : Nat) (h1 : j < P - 1) : Ro l yX0_baseAt wsX0_baseAt ({ frames := 1, cells := 0, slots := 0, locals := 21 }) Γ [.ref a, .int (nI j)] (SW Γ a P U B E G R Bs Gl) (some (.int (Bs j))) := by
  refine Ro.of (cc := cX0_baseAt) (maxL := 2) (ret := some .int) (by decide) rfl (Nat.le_of_ble_eq_true rfl) ?_
  intro p e s m below meth c S hr hlk hK hW ls hl
  obtain ⟨hx, hb, hml, hown, hts⟩ := id S
  have hl : lv_has ls 2 [(0, .ref a), (1, .int (nI j))] := hl
  refine lv_aload_n hx hb dX0_baseAt_0 rfl (lv_at hl 0 rfl) ?_
  refine lv_iload_n hx hb dX0_baseAt_1 rfl (lv_at hl 1 rfl) ?_
  refine ro_V (rest := []) S hK (c_X0_hasJoint l Γ a P U B E G R Bs Gl hP0 hP (nI j)) (cwV 1 hts gX0_baseAt_X0_hasJoint rfl rfl rfl (by decide +kernel) ⟨Nat.le_of_ble_eq_true rfl, Nat.le_of_ble_eq_true rfl⟩) (Ob.recv hK hW.1 rfl) hW rfl hl.1 rfl (Nat.le_of_ble_eq_true rfl) dX0_baseAt_2 ⟨Nat.zero_le _, Nat.zero_le _⟩ ?_
  refine W.eq (g2 := F0 m 5 ls [.int (nI (bP (inb (nI j) (P - 1))))]) rfl ?_
  refine x_e (y := nI 1) (by rw [bP_t ((inb_nI (by omega)).mpr (by omega))]) ?_
  refine x_ifeq hx hb (by omega) (tgt := 17) dX0_baseAt_5 (by decide) (fun c_1 => absurd c_1 (by decide)) (fun c_1 => ?_)
  refine lv_aload_n hx hb dX0_baseAt_8 rfl (lv_at hl 0 rfl) ?_
  refine x_get S in_X0_baseAt_X0 hK hW.1 rfl 6 (by decide) (by decide +kernel) rfl rfl dX0_baseAt_9 ?_
  refine lv_iload_n hx hb dX0_baseAt_12 rfl (lv_at hl 1 rfl) ?_
  refine x_iald hx hb hK hW.2.2.1 (by omega) (by omega) dX0_baseAt_13 ?_
  refine lv_goto (tgt := 18) hx hb dX0_baseAt_14 (by decide) ?_
  exact ro_iret hx hb hr hlk dX0_baseAt_18
theorem in_X0_gluedAt_X0 : ∀ w ∈ wsX00, w ∈ wsX0_gluedAt := by decide +kernel
set_option maxHeartbeats 4000000 in
set_option maxRecDepth 100000 in
theorem c_X0_gluedAt (l : Launch) (Γ : GG) (a P U : Nat) (B E : Int32) (G : Nat) (R Bs Gl : Nat → Int32) (hP0 : 1 ≤ P) (hP : P ≤ 12) (j : Nat) (h1 : j < P - 1) : Ro l yX0_gluedAt wsX0_gluedAt ({ frames := 1, cells := 0, slots := 0, locals := 21 }) Γ [.ref a, .int (nI j)] (SW Γ a P U B E G R Bs Gl) (some (.int (nI (bP (¬ Gl j = 0))))) := by
  refine Ro.of (cc := cX0_gluedAt) (maxL := 2) (ret := some .boolean) (by decide) rfl (Nat.le_of_ble_eq_true rfl) ?_
  intro p e s m below meth c S hr hlk hK hW ls hl
  obtain ⟨hx, hb, hml, hown, hts⟩ := id S
  have hl : lv_has ls 2 [(0, .ref a), (1, .int (nI j))] := hl
  refine lv_aload_n hx hb dX0_gluedAt_0 rfl (lv_at hl 0 rfl) ?_
  refine lv_iload_n hx hb dX0_gluedAt_1 rfl (lv_at hl 1 rfl) ?_
  refine ro_V (rest := []) S hK (c_X0_hasJoint l Γ a P U B E G R Bs Gl hP0 hP (nI j)) (cwV 1 hts gX0_gluedAt_X0_hasJoint rfl rfl rfl (by decide +kernel) ⟨Nat.le_of_ble_eq_true rfl, Nat.le_of_ble_eq_true rfl⟩) (Ob.recv hK hW.1 rfl) hW rfl hl.1 rfl (Nat.le_of_ble_eq_true rfl) dX0_gluedAt_2 ⟨Nat.zero_le _, Nat.zero_le _⟩ ?_
  refine W.eq (g2 := F0 m 5 ls [.int (nI (bP (inb (nI j) (P - 1))))]) rfl ?_
  refine x_e (y := nI 1) (by rw [bP_t ((inb_nI (by omega)).mpr (by omega))]) ?_
  refine x_ifeq hx hb (by omega) (tgt := 21) dX0_gluedAt_5 (by decide) (fun c_1 => absurd c_1 (by decide)) (fun c_1 => ?_)
  refine lv_aload_n hx hb dX0_gluedAt_8 rfl (lv_at hl 0 rfl) ?_
  refine x_get S in_X0_gluedAt_X0 hK hW.1 rfl 7 (by decide) (by decide +kernel) rfl rfl dX0_gluedAt_9 ?_
  refine lv_iload_n hx hb dX0_gluedAt_12 rfl (lv_at hl 1 rfl) ?_
  refine x_zald hx hb hK hW.2.2.2 (by omega) (by omega) dX0_gluedAt_13 ?_
  refine lv_if_eq (tgt := 21) hx hb dX0_gluedAt_14 (by decide) (fun c_2 => ?_) (fun c_2 => ?_)
  · skip
    refine lv_iconst (v := nI 0) hx hb dX0_gluedAt_21 (by decide +kernel) ?_
    refine x_e (show nI 0 = nI (bP (¬ Gl j = 0)) by rw [bP_f (fun q => q c_2)]) ?_
    exact ro_zret (bP_le _) hx hb hr hlk dX0_gluedAt_22
  · skip
    refine lv_iconst (v := nI 1) hx hb dX0_gluedAt_17 (by decide +kernel) ?_
    refine lv_goto (tgt := 22) hx hb dX0_gluedAt_18 (by decide) ?_
    refine x_e (show nI 1 = nI (bP (¬ Gl j = 0)) by rw [bP_t c_2]) ?_
    exact ro_zret (bP_le _) hx hb hr hlk dX0_gluedAt_22
set_option maxHeartbeats 4000000 in
set_option maxRecDepth 100000 in
theorem c_X0_runesAtPlace (l : Launch) (Γ : GG) (a P U : Nat) (B E : Int32) (G : Nat) (R Bs Gl : Nat → Int32) (hP0 : 1 ≤ P) (hP : P ≤ 12) (pl : Nat) (h1 : pl < P) : Ro l yX0_runesAtPlace wsX0_runesAtPlace ({ frames := 2, cells := 0, slots := 0, locals := 44 }) Γ [.ref a, .int (nI pl)] (SW Γ a P U B E G R Bs Gl) (some (.int (nI (rc R pl)))) := by
  refine Ro.of (cc := cX0_runesAtPlace) (maxL := 4) (ret := some .int) (by decide) rfl (Nat.le_of_ble_eq_true rfl) ?_
  intro p e s m below meth c S hr hlk hK hW ls hl
  obtain ⟨hx, hb, hml, hown, hts⟩ := id S
  have hl : lv_has ls 4 [(0, .ref a), (1, .int (nI pl))] := hl
  refine lv_iconst (v := nI 0) hx hb dX0_runesAtPlace_0 (by decide +kernel) ?_
  refine lv_istore_n (lv' := [(2, .int (nI 0)), (0, .ref a), (1, .int (nI pl))]) hx hb dX0_runesAtPlace_1 rfl hl (by decide) rfl (fun ls hl => ?_)
  refine lv_iconst (v := nI 0) hx hb dX0_runesAtPlace_2 (by decide +kernel) ?_
  refine lv_istore_n (lv' := [(3, .int (nI 0)), (2, .int (nI 0)), (0, .ref a), (1, .int (nI pl))]) hx hb dX0_runesAtPlace_3 rfl hl (by decide) rfl (fun ls hl => ?_)
  refine x_loop (σ := Nat) (fun u => [(0, .ref a), (1, .int (nI pl)), (2, .int (nI (cU (fun s => R (3 * pl + s)) u))), (3, .int (nI u))]) (fun u => u ≤ 3) (fun u => 3 - u) (fun u hu ih ls hl => ?_) 0 (by omega) ls (x_hl (lv_sub (l' := [(0, .ref a), (1, .int (nI pl)), (2, .int (nI 0)), (3, .int (nI 0))]) hl [2, 3, 1, 0] rfl) rfl)
  obtain ⟨i, rfl⟩ : ∃ z, z = u := ⟨_, rfl⟩
  have hu : i ≤ 3 := hu
  have hl : lv_has ls 4 [(0, .ref a), (1, .int (nI pl)), (2, .int (nI (cU (fun s => R (3 * pl + s)) i))), (3, .int (nI i))] := hl
  refine lv_iload_n hx hb dX0_runesAtPlace_4 rfl (lv_at hl 3 rfl) ?_
  refine lv_iconst (v := nI 3) hx hb dX0_runesAtPlace_5 (by decide +kernel) ?_
  refine x_icge hx hb (by omega) (by omega) (tgt := 28) dX0_runesAtPlace_6 (by decide) (fun c_1 => ?_) (fun c_1 => ?_)
  · skip
    refine lv_iload_n hx hb dX0_runesAtPlace_28 rfl (lv_at hl 2 rfl) ?_
    refine x_e (show nI (cU (fun s => R (3 * pl + s)) i) = nI (rc R pl) by rw [show i = 3 by omega]; rfl) ?_
    exact ro_iret hx hb hr hlk dX0_runesAtPlace_29
  · skip
    refine lv_aload_n hx hb dX0_runesAtPlace_9 rfl (lv_at hl 0 rfl) ?_
    refine lv_iload_n hx hb dX0_runesAtPlace_10 rfl (lv_at hl 3 rfl) ?_
    refine lv_iload_n hx hb dX0_runesAtPlace_11 rfl (lv_at hl 1 rfl) ?_
    refine ro_V (rest := []) S hK (c_X0_runeAt l Γ a P U B E G R Bs Gl hP0 hP (i) (pl) (by omega) (by omega)) (cwV 2 hts gX0_runesAtPlace_X0_runeAt rfl rfl rfl (by decide +kernel) ⟨Nat.le_of_ble_eq_true rfl, Nat.le_of_ble_eq_true rfl⟩) (Ob.recv hK hW.1 rfl) hW rfl hl.1 rfl (Nat.le_of_ble_eq_true rfl) dX0_runesAtPlace_12 ⟨Nat.zero_le _, Nat.zero_le _⟩ ?_
    refine W.eq (g2 := F0 m 15 ls [.int (R (3 * pl + i))]) rfl ?_
    refine lv_iconst (v := (-1)) hx hb dX0_runesAtPlace_15 (by decide +kernel) ?_
    refine lv_icmp_eq (tgt := 22) hx hb dX0_runesAtPlace_16 (by decide) (fun c_2 => ?_) (fun c_2 => ?_)
    · skip
      refine x_iinc (n := 1) (lv' := [(3, .int (nI (i + 1))), (0, .ref a), (1, .int (nI pl)), (2, .int (nI (cU (fun s => R (3 * pl + s)) i)))]) hx hb dX0_runesAtPlace_22 hl (k := 3) rfl (by decide) rfl (fun ls hl => ?_)
      refine lv_goto (tgt := 4) hx hb dX0_runesAtPlace_25 (by decide) ?_
      have hl : lv_has ls 4 [(3, .int (nI (i + 1))), (0, .ref a), (1, .int (nI pl)), (2, .int (nI (cU (fun s => R (3 * pl + s)) (i + 1))))] := x_hl hl (by rw [← cU_n (f := fun s => R (3 * pl + s)) (n := i) c_2])
      exact ih (i + 1) (by omega) (by omega) ls (lv_sub hl [1, 2, 3, 0] rfl)
    · skip
      refine x_iinc (n := 1) (lv' := [(2, .int (nI (cU (fun s => R (3 * pl + s)) i + 1))), (0, .ref a), (1, .int (nI pl)), (3, .int (nI i))]) hx hb dX0_runesAtPlace_19 hl (k := 2) rfl (by decide) rfl (fun ls hl => ?_)
      refine x_iinc (n := 1) (lv' := [(3, .int (nI (i + 1))), (2, .int (nI (cU (fun s => R (3 * pl + s)) i + 1))), (0, .ref a), (1, .int (nI pl))]) hx hb dX0_runesAtPlace_22 hl (k := 3) rfl (by decide) rfl (fun ls hl => ?_)
      refine lv_goto (tgt := 4) hx hb dX0_runesAtPlace_25 (by decide) ?_
      have hl : lv_has ls 4 [(3, .int (nI (i + 1))), (2, .int (nI (cU (fun s => R (3 * pl + s)) (i + 1)))), (0, .ref a), (1, .int (nI pl))] := x_hl hl (by rw [← cU_y (f := fun s => R (3 * pl + s)) (n := i) c_2])
      exact ih (i + 1) (by omega) (by omega) ls (lv_sub hl [2, 3, 1, 0] rfl)
theorem in_X0_runesInAll_X0 : ∀ w ∈ wsX00, w ∈ wsX0_runesInAll := by decide +kernel
set_option maxHeartbeats 4000000 in
set_option maxRecDepth 100000 in
theorem c_X0_runesInAll (l : Launch) (Γ : GG) (a P U : Nat) (B E : Int32) (G : Nat) (R Bs Gl : Nat → Int32) (hP0 : 1 ≤ P) (hP : P ≤ 12)   : Ro l yX0_runesInAll wsX0_runesInAll ({ frames := 3, cells := 0, slots := 0, locals := 67 }) Γ [.ref a] (SW Γ a P U B E G R Bs Gl) (some (.int (nI (rT R P)))) := by
  refine Ro.of (cc := cX0_runesInAll) (maxL := 3) (ret := some .int) (by decide) rfl (Nat.le_of_ble_eq_true rfl) ?_
  intro p e s m below meth c S hr hlk hK hW ls hl
  obtain ⟨hx, hb, hml, hown, hts⟩ := id S
  have hl : lv_has ls 3 [(0, .ref a)] := hl
  refine lv_iconst (v := nI 0) hx hb dX0_runesInAll_0 (by decide +kernel) ?_
  refine lv_istore_n (lv' := [(1, .int (nI 0)), (0, .ref a)]) hx hb dX0_runesInAll_1 rfl hl (by decide) rfl (fun ls hl => ?_)
  refine lv_iconst (v := nI 0) hx hb dX0_runesInAll_2 (by decide +kernel) ?_
  refine lv_istore_n (lv' := [(2, .int (nI 0)), (1, .int (nI 0)), (0, .ref a)]) hx hb dX0_runesInAll_3 rfl hl (by decide) rfl (fun ls hl => ?_)
  refine x_loop (σ := Nat) (fun u => [(0, .ref a), (1, .int (nI (sN (rc R) u))), (2, .int (nI u))]) (fun u => u ≤ P) (fun u => P - u) (fun u hu ih ls hl => ?_) 0 (by omega) ls (x_hl (lv_sub (l' := [(0, .ref a), (1, .int (nI 0)), (2, .int (nI 0))]) hl [2, 1, 0] rfl) rfl)
  obtain ⟨i, rfl⟩ : ∃ z, z = u := ⟨_, rfl⟩
  have hu : i ≤ P := hu
  have hl : lv_has ls 3 [(0, .ref a), (1, .int (nI (sN (rc R) i))), (2, .int (nI i))] := hl
  refine lv_iload_n hx hb dX0_runesInAll_4 rfl (lv_at hl 2 rfl) ?_
  refine lv_aload_n hx hb dX0_runesInAll_5 rfl (lv_at hl 0 rfl) ?_
  refine x_get S in_X0_runesInAll_X0 hK hW.1 rfl 0 (by decide) (by decide +kernel) rfl rfl dX0_runesInAll_6 ?_
  refine x_icge hx hb (by omega) (by omega) (tgt := 26) dX0_runesInAll_9 (by decide) (fun c_1 => ?_) (fun c_1 => ?_)
  · skip
    refine lv_iload_n hx hb dX0_runesInAll_26 rfl (lv_at hl 1 rfl) ?_
    refine x_e (show nI (sN (rc R) i) = nI (rT R P) by rw [show i = P by omega]; rfl) ?_
    exact ro_iret hx hb hr hlk dX0_runesInAll_27
  · skip
    refine lv_iload_n hx hb dX0_runesInAll_12 rfl (lv_at hl 1 rfl) ?_
    refine lv_aload_n hx hb dX0_runesInAll_13 rfl (lv_at hl 0 rfl) ?_
    refine lv_iload_n hx hb dX0_runesInAll_14 rfl (lv_at hl 2 rfl) ?_
    refine ro_V (rest := [.int (nI (sN (rc R) i))]) S hK (c_X0_runesAtPlace l Γ a P U B E G R Bs Gl hP0 hP (i) (by omega)) (cwV 1 hts gX0_runesInAll_X0_runesAtPlace rfl rfl rfl (by decide +kernel) ⟨Nat.le_of_ble_eq_true rfl, Nat.le_of_ble_eq_true rfl⟩) (Ob.recv hK hW.1 rfl) hW rfl hl.1 rfl (Nat.le_of_ble_eq_true rfl) dX0_runesInAll_15 ⟨Nat.zero_le _, Nat.zero_le _⟩ ?_
    refine W.eq (g2 := F0 m 18 ls [.int (nI (rc R i)), .int (nI (sN (rc R) i))]) rfl ?_
    refine x_add hx hb dX0_runesInAll_18 ?_
    refine lv_istore_n (lv' := [(1, .int (nI ((sN (rc R) i) + (rc R i)))), (0, .ref a), (2, .int (nI i))]) hx hb dX0_runesInAll_19 rfl hl (by decide) rfl (fun ls hl => ?_)
    refine x_iinc (n := 1) (lv' := [(2, .int (nI (i + 1))), (1, .int (nI ((sN (rc R) i) + (rc R i)))), (0, .ref a)]) hx hb dX0_runesInAll_20 hl (k := 2) rfl (by decide) rfl (fun ls hl => ?_)
    refine lv_goto (tgt := 4) hx hb dX0_runesInAll_23 (by decide) ?_
    have hl : lv_has ls 3 [(2, .int (nI (i + 1))), (1, .int (nI (sN (rc R) (i + 1)))), (0, .ref a)] := x_hl hl (by rw [← sN_s (rc R) i])
    exact ih (i + 1) (by omega) (by omega) ls (lv_sub hl [2, 1, 0] rfl)
theorem in_X0_gluedJoints_X0 : ∀ w ∈ wsX00, w ∈ wsX0_gluedJoints := by decide +kernel
set_option maxHeartbeats 4000000 in
set_option maxRecDepth 100000 in
theorem c_X0_gluedJoints (l : Launch) (Γ : GG) (a P U : Nat) (B E : Int32) (G : Nat) (R Bs Gl : Nat → Int32) (hP0 : 1 ≤ P) (hP : P ≤ 12)   : Ro l yX0_gluedJoints wsX0_gluedJoints ({ frames := 2, cells := 0, slots := 0, locals := 42 }) Γ [.ref a] (SW Γ a P U B E G R Bs Gl) (some (.int (nI (gT Gl (P - 1))))) := by
  refine Ro.of (cc := cX0_gluedJoints) (maxL := 3) (ret := some .int) (by decide) rfl (Nat.le_of_ble_eq_true rfl) ?_
  intro p e s m below meth c S hr hlk hK hW ls hl
  obtain ⟨hx, hb, hml, hown, hts⟩ := id S
  have hl : lv_has ls 3 [(0, .ref a)] := hl
  refine lv_iconst (v := nI 0) hx hb dX0_gluedJoints_0 (by decide +kernel) ?_
  refine lv_istore_n (lv' := [(1, .int (nI 0)), (0, .ref a)]) hx hb dX0_gluedJoints_1 rfl hl (by decide) rfl (fun ls hl => ?_)
  refine lv_iconst (v := nI 0) hx hb dX0_gluedJoints_2 (by decide +kernel) ?_
  refine lv_istore_n (lv' := [(2, .int (nI 0)), (1, .int (nI 0)), (0, .ref a)]) hx hb dX0_gluedJoints_3 rfl hl (by decide) rfl (fun ls hl => ?_)
  refine x_loop (σ := Nat) (fun u => [(0, .ref a), (1, .int (nI (gT Gl u))), (2, .int (nI u))]) (fun u => u ≤ P - 1) (fun u => P - u) (fun u hu ih ls hl => ?_) 0 (by omega) ls (x_hl (lv_sub (l' := [(0, .ref a), (1, .int (nI 0)), (2, .int (nI 0))]) hl [2, 1, 0] rfl) rfl)
  obtain ⟨i, rfl⟩ : ∃ z, z = u := ⟨_, rfl⟩
  have hu : i ≤ P - 1 := hu
  have hl : lv_has ls 3 [(0, .ref a), (1, .int (nI (gT Gl i))), (2, .int (nI i))] := hl
  refine lv_iload_n hx hb dX0_gluedJoints_4 rfl (lv_at hl 2 rfl) ?_
  refine lv_aload_n hx hb dX0_gluedJoints_5 rfl (lv_at hl 0 rfl) ?_
  refine x_get S in_X0_gluedJoints_X0 hK hW.1 rfl 0 (by decide) (by decide +kernel) rfl rfl dX0_gluedJoints_6 ?_
  refine lv_iconst (v := nI 1) hx hb dX0_gluedJoints_9 (by decide +kernel) ?_
  refine x_sub hx hb (by omega) dX0_gluedJoints_10 ?_
  refine x_icge hx hb (by omega) (by omega) (tgt := 31) dX0_gluedJoints_11 (by decide) (fun c_1 => ?_) (fun c_1 => ?_)
  · skip
    refine lv_iload_n hx hb dX0_gluedJoints_31 rfl (lv_at hl 1 rfl) ?_
    refine x_e (show nI (gT Gl i) = nI (gT Gl (P - 1)) by rw [show i = P - 1 by omega]) ?_
    exact ro_iret hx hb hr hlk dX0_gluedJoints_32
  · skip
    refine lv_aload_n hx hb dX0_gluedJoints_14 rfl (lv_at hl 0 rfl) ?_
    refine lv_iload_n hx hb dX0_gluedJoints_15 rfl (lv_at hl 2 rfl) ?_
    refine ro_V (rest := []) S hK (c_X0_gluedAt l Γ a P U B E G R Bs Gl hP0 hP (i) (by omega)) (cwV 1 hts gX0_gluedJoints_X0_gluedAt rfl rfl rfl (by decide +kernel) ⟨Nat.le_of_ble_eq_true rfl, Nat.le_of_ble_eq_true rfl⟩) (Ob.recv hK hW.1 rfl) hW rfl hl.1 rfl (Nat.le_of_ble_eq_true rfl) dX0_gluedJoints_16 ⟨Nat.zero_le _, Nat.zero_le _⟩ ?_
    refine W.eq (g2 := F0 m 19 ls [.int (nI (bP (¬ Gl i = 0)))]) rfl ?_
    have hbb := bP_le (¬ Gl i = 0)
    refine x_ifeq hx hb (by omega) (tgt := 25) dX0_gluedJoints_19 (by decide) (fun c_2 => ?_) (fun c_2 => ?_)
    · skip
      refine x_iinc (n := 1) (lv' := [(2, .int (nI (i + 1))), (0, .ref a), (1, .int (nI (gT Gl i)))]) hx hb dX0_gluedJoints_25 hl (k := 2) rfl (by decide) rfl (fun ls hl => ?_)
      refine lv_goto (tgt := 4) hx hb dX0_gluedJoints_28 (by decide) ?_
      have hl : lv_has ls 3 [(2, .int (nI (i + 1))), (0, .ref a), (1, .int (nI (gT Gl (i + 1))))] := x_hl hl (by rw [← gT_n (Gl := Gl) (n := i) (bP_0 c_2)])
      exact ih (i + 1) (by omega) (by omega) ls (lv_sub hl [1, 2, 0] rfl)
    · skip
      refine x_iinc (n := 1) (lv' := [(1, .int (nI (gT Gl i + 1))), (0, .ref a), (2, .int (nI i))]) hx hb dX0_gluedJoints_22 hl (k := 1) rfl (by decide) rfl (fun ls hl => ?_)
      refine x_iinc (n := 1) (lv' := [(2, .int (nI (i + 1))), (1, .int (nI (gT Gl i + 1))), (0, .ref a)]) hx hb dX0_gluedJoints_25 hl (k := 2) rfl (by decide) rfl (fun ls hl => ?_)
      refine lv_goto (tgt := 4) hx hb dX0_gluedJoints_28 (by decide) ?_
      have hl : lv_has ls 3 [(2, .int (nI (i + 1))), (1, .int (nI (gT Gl (i + 1)))), (0, .ref a)] := x_hl hl (by rw [← gT_y (Gl := Gl) (n := i) (bP_1 c_2)])
      exact ih (i + 1) (by omega) (by omega) ls (lv_sub hl [2, 1, 0] rfl)
set_option maxHeartbeats 4000000 in
set_option maxRecDepth 100000 in
theorem c_X0_strengthAt (l : Launch) (Γ : GG) (a P U : Nat) (B E : Int32) (G : Nat) (R Bs Gl : Nat → Int32) (hP0 : 1 ≤ P) (hP : P ≤ 12) (j : Nat) (h1 : j < P - 1) : Ro l yX0_strengthAt wsX0_strengthAt ({ frames := 3, cells := 0, slots := 0, locals := 67 }) Γ [.ref a, .int (nI j)] (SW Γ a P U B E G R Bs Gl) (some (.int (stn R Bs j))) := by
  refine Ro.of (cc := cX0_strengthAt) (maxL := 2) (ret := some .int) (by decide) rfl (Nat.le_of_ble_eq_true rfl) ?_
  intro p e s m below meth c S hr hlk hK hW ls hl
  obtain ⟨hx, hb, hml, hown, hts⟩ := id S
  have hl : lv_has ls 2 [(0, .ref a), (1, .int (nI j))] := hl
  refine lv_iconst (v := nI 0) hx hb dX0_strengthAt_0 (by decide +kernel) ?_
  refine lv_aload_n hx hb dX0_strengthAt_1 rfl (lv_at hl 0 rfl) ?_
  refine lv_iload_n hx hb dX0_strengthAt_2 rfl (lv_at hl 1 rfl) ?_
  refine ro_V (rest := [.int (nI 0)]) S hK (c_X0_baseAt l Γ a P U B E G R Bs Gl hP0 hP (j) (by omega)) (cwV 1 hts gX0_strengthAt_X0_baseAt rfl rfl rfl (by decide +kernel) ⟨Nat.le_of_ble_eq_true rfl, Nat.le_of_ble_eq_true rfl⟩) (Ob.recv hK hW.1 rfl) hW rfl hl.1 rfl (Nat.le_of_ble_eq_true rfl) dX0_strengthAt_3 ⟨Nat.zero_le _, Nat.zero_le _⟩ ?_
  refine W.eq (g2 := F0 m 6 ls [.int (Bs j), .int (nI 0)]) rfl ?_
  refine lv_aload_n hx hb dX0_strengthAt_6 rfl (lv_at hl 0 rfl) ?_
  refine lv_iload_n hx hb dX0_strengthAt_7 rfl (lv_at hl 1 rfl) ?_
  refine ro_V (rest := [.int (Bs j), .int (nI 0)]) S hK (c_X0_runesAtPlace l Γ a P U B E G R Bs Gl hP0 hP (j) (by omega)) (cwV 1 hts gX0_strengthAt_X0_runesAtPlace rfl rfl rfl (by decide +kernel) ⟨Nat.le_of_ble_eq_true rfl, Nat.le_of_ble_eq_true rfl⟩) (Ob.recv hK hW.1 rfl) hW rfl hl.1 rfl (Nat.le_of_ble_eq_true rfl) dX0_strengthAt_8 ⟨Nat.zero_le _, Nat.zero_le _⟩ ?_
  refine W.eq (g2 := F0 m 11 ls [.int (nI (rc R j)), .int (Bs j), .int (nI 0)]) rfl ?_
  refine lv_isub hx hb dX0_strengthAt_11 ?_
  refine lv_aload_n hx hb dX0_strengthAt_12 rfl (lv_at hl 0 rfl) ?_
  refine lv_iload_n hx hb dX0_strengthAt_13 rfl (lv_at hl 1 rfl) ?_
  refine lv_iconst (v := nI 1) hx hb dX0_strengthAt_14 (by decide +kernel) ?_
  refine x_add hx hb dX0_strengthAt_15 ?_
  refine ro_V (rest := [.int ((Bs j) - (nI (rc R j))), .int (nI 0)]) S hK (c_X0_runesAtPlace l Γ a P U B E G R Bs Gl hP0 hP (j + 1) (by omega)) (cwV 1 hts gX0_strengthAt_X0_runesAtPlace rfl rfl rfl (by decide +kernel) ⟨Nat.le_of_ble_eq_true rfl, Nat.le_of_ble_eq_true rfl⟩) (Ob.recv hK hW.1 rfl) hW rfl hl.1 rfl (Nat.le_of_ble_eq_true rfl) dX0_strengthAt_16 ⟨Nat.zero_le _, Nat.zero_le _⟩ ?_
  refine W.eq (g2 := F0 m 19 ls [.int (nI (rc R (j + 1))), .int ((Bs j) - (nI (rc R j))), .int (nI 0)]) rfl ?_
  refine lv_isub hx hb dX0_strengthAt_19 ?_
  refine va_mmax hx hb (hml.trans hl.1.symm) hown (hts _ (by decide +kernel)) (hts _ (by decide +kernel)) (hts _ (by decide +kernel)) (hts _ (by decide +kernel)) (Nat.le_of_ble_eq_true rfl) (Nat.le_of_ble_eq_true rfl) (Nat.zero_le _) (Nat.zero_le _) dX0_strengthAt_20 ?_
  refine W.eq (g2 := F0 m 23 ls [.int (if nI 0 < ((Bs j) - (nI (rc R j))) - (nI (rc R (j + 1))) then ((Bs j) - (nI (rc R j))) - (nI (rc R (j + 1))) else nI 0)]) rfl ?_
  refine x_e rfl ?_
  exact ro_iret hx hb hr hlk dX0_strengthAt_23
theorem in_X0_firstWeakestJoint_X0 : ∀ w ∈ wsX00, w ∈ wsX0_firstWeakestJoint := by decide +kernel
set_option maxHeartbeats 4000000 in
set_option maxRecDepth 100000 in
theorem c_X0_firstWeakestJoint (l : Launch) (Γ : GG) (a P U : Nat) (B E : Int32) (G : Nat) (R Bs Gl : Nat → Int32) (hP0 : 1 ≤ P) (hP : P ≤ 12)   : Ro l yX0_firstWeakestJoint wsX0_firstWeakestJoint ({ frames := 4, cells := 0, slots := 0, locals := 88 }) Γ [.ref a] (SW Γ a P U B E G R Bs Gl) (some (.int (oI (wk (stn R Bs) (P - 1))))) := by
  refine Ro.of (cc := cX0_firstWeakestJoint) (maxL := 3) (ret := some .int) (by decide) rfl (Nat.le_of_ble_eq_true rfl) ?_
  intro p e s m below meth c S hr hlk hK hW ls hl
  obtain ⟨hx, hb, hml, hown, hts⟩ := id S
  have hl : lv_has ls 3 [(0, .ref a)] := hl
  refine lv_iconst (v := (-1)) hx hb dX0_firstWeakestJoint_0 (by decide +kernel) ?_
  refine lv_istore_n (lv' := [(1, .int ((-1))), (0, .ref a)]) hx hb dX0_firstWeakestJoint_1 rfl hl (by decide) rfl (fun ls hl => ?_)
  refine lv_iconst (v := nI 0) hx hb dX0_firstWeakestJoint_2 (by decide +kernel) ?_
  refine lv_istore_n (lv' := [(2, .int (nI 0)), (1, .int ((-1))), (0, .ref a)]) hx hb dX0_firstWeakestJoint_3 rfl hl (by decide) rfl (fun ls hl => ?_)
  refine x_loop (σ := Nat) (fun u => [(0, .ref a), (1, .int (oI (wk (stn R Bs) u))), (2, .int (nI u))]) (fun u => u ≤ P - 1) (fun u => P - u) (fun u hu ih ls hl => ?_) 0 (by omega) ls (x_hl (lv_sub (l' := [(0, .ref a), (1, .int ((-1))), (2, .int (nI 0))]) hl [2, 1, 0] rfl) rfl)
  obtain ⟨i, rfl⟩ : ∃ z, z = u := ⟨_, rfl⟩
  have hu : i ≤ P - 1 := hu
  have hl : lv_has ls 3 [(0, .ref a), (1, .int (oI (wk (stn R Bs) i))), (2, .int (nI i))] := hl
  refine lv_iload_n hx hb dX0_firstWeakestJoint_4 rfl (lv_at hl 2 rfl) ?_
  refine lv_aload_n hx hb dX0_firstWeakestJoint_5 rfl (lv_at hl 0 rfl) ?_
  refine x_get S in_X0_firstWeakestJoint_X0 hK hW.1 rfl 0 (by decide) (by decide +kernel) rfl rfl dX0_firstWeakestJoint_6 ?_
  refine lv_iconst (v := nI 1) hx hb dX0_firstWeakestJoint_9 (by decide +kernel) ?_
  refine x_sub hx hb (by omega) dX0_firstWeakestJoint_10 ?_
  refine x_icge hx hb (by omega) (by omega) (tgt := 40) dX0_firstWeakestJoint_11 (by decide) (fun c_1 => ?_) (fun c_1 => ?_)
  · skip
    refine lv_iload_n hx hb dX0_firstWeakestJoint_40 rfl (lv_at hl 1 rfl) ?_
    refine x_e (show oI (wk (stn R Bs) i) = oI (wk (stn R Bs) (P - 1)) by rw [show i = P - 1 by omega]) ?_
    exact ro_iret hx hb hr hlk dX0_firstWeakestJoint_41
  · skip
    refine lv_iload_n hx hb dX0_firstWeakestJoint_14 rfl (lv_at hl 1 rfl) ?_
    refine lv_iconst (v := (-1)) hx hb dX0_firstWeakestJoint_15 (by decide +kernel) ?_
    refine lv_icmp_eq (tgt := 32) hx hb dX0_firstWeakestJoint_16 (by decide) (fun c_2 => ?_) (fun c_2 => ?_)
    · skip
      have e1 : wk (stn R Bs) i = none := oI_n c_2 (fun w h => by have := wk_lt _ _ _ h; omega)
      refine lv_iload_n hx hb dX0_firstWeakestJoint_32 rfl (lv_at hl 2 rfl) ?_
      refine lv_istore_n (lv' := [(1, .int (nI i)), (0, .ref a), (2, .int (nI i))]) hx hb dX0_firstWeakestJoint_33 rfl hl (by decide) rfl (fun ls hl => ?_)
      refine x_iinc (n := 1) (lv' := [(2, .int (nI (i + 1))), (1, .int (nI i)), (0, .ref a)]) hx hb dX0_firstWeakestJoint_34 hl (k := 2) rfl (by decide) rfl (fun ls hl => ?_)
      refine lv_goto (tgt := 4) hx hb dX0_firstWeakestJoint_37 (by decide) ?_
      have hl : lv_has ls 3 [(2, .int (nI (i + 1))), (1, .int (oI (wk (stn R Bs) (i + 1)))), (0, .ref a)] := x_hl hl (by rw [show nI i = oI (wk (stn R Bs) (i + 1)) by rw [wk_0 e1]; rfl])
      exact ih (i + 1) (by omega) (by omega) ls (lv_sub hl [2, 1, 0] rfl)
    · skip
      obtain ⟨v, ev⟩ := oI_s c_2
      have hv := wk_lt _ _ _ ev
      have hl : lv_has ls 3 [(0, .ref a), (1, .int (nI v)), (2, .int (nI i))] := x_hl hl (by rw [ev]; rfl)
      refine lv_aload_n hx hb dX0_firstWeakestJoint_19 rfl (lv_at hl 0 rfl) ?_
      refine lv_iload_n hx hb dX0_firstWeakestJoint_20 rfl (lv_at hl 2 rfl) ?_
      refine ro_V (rest := []) S hK (c_X0_strengthAt l Γ a P U B E G R Bs Gl hP0 hP (i) (by omega)) (cwV 1 hts gX0_firstWeakestJoint_X0_strengthAt rfl rfl rfl (by decide +kernel) ⟨Nat.le_of_ble_eq_true rfl, Nat.le_of_ble_eq_true rfl⟩) (Ob.recv hK hW.1 rfl) hW rfl hl.1 rfl (Nat.le_of_ble_eq_true rfl) dX0_firstWeakestJoint_21 ⟨Nat.zero_le _, Nat.zero_le _⟩ ?_
      refine W.eq (g2 := F0 m 24 ls [.int (stn R Bs i)]) rfl ?_
      refine lv_aload_n hx hb dX0_firstWeakestJoint_24 rfl (lv_at hl 0 rfl) ?_
      refine lv_iload_n hx hb dX0_firstWeakestJoint_25 rfl (lv_at hl 1 rfl) ?_
      refine ro_V (rest := [.int (stn R Bs i)]) S hK (c_X0_strengthAt l Γ a P U B E G R Bs Gl hP0 hP (v) (by omega)) (cwV 1 hts gX0_firstWeakestJoint_X0_strengthAt rfl rfl rfl (by decide +kernel) ⟨Nat.le_of_ble_eq_true rfl, Nat.le_of_ble_eq_true rfl⟩) (Ob.recv hK hW.1 rfl) hW rfl hl.1 rfl (Nat.le_of_ble_eq_true rfl) dX0_firstWeakestJoint_26 ⟨Nat.zero_le _, Nat.zero_le _⟩ ?_
      refine W.eq (g2 := F0 m 29 ls [.int (stn R Bs v), .int (stn R Bs i)]) rfl ?_
      refine lv_icmp_ge (tgt := 34) hx hb dX0_firstWeakestJoint_29 (by decide) (fun c_3 => ?_) (fun c_3 => ?_)
      · skip
        refine x_iinc (n := 1) (lv' := [(2, .int (nI (i + 1))), (0, .ref a), (1, .int (nI v))]) hx hb dX0_firstWeakestJoint_34 hl (k := 2) rfl (by decide) rfl (fun ls hl => ?_)
        refine lv_goto (tgt := 4) hx hb dX0_firstWeakestJoint_37 (by decide) ?_
        have hl : lv_has ls 3 [(2, .int (nI (i + 1))), (0, .ref a), (1, .int (oI (wk (stn R Bs) (i + 1))))] := x_hl hl (by rw [show nI v = oI (wk (stn R Bs) (i + 1)) by rw [wk_n ev (Int32.not_lt.mpr c_3)]; rfl])
        exact ih (i + 1) (by omega) (by omega) ls (lv_sub hl [1, 2, 0] rfl)
      · skip
        refine lv_iload_n hx hb dX0_firstWeakestJoint_32 rfl (lv_at hl 2 rfl) ?_
        refine lv_istore_n (lv' := [(1, .int (nI i)), (0, .ref a), (2, .int (nI i))]) hx hb dX0_firstWeakestJoint_33 rfl hl (by decide) rfl (fun ls hl => ?_)
        refine x_iinc (n := 1) (lv' := [(2, .int (nI (i + 1))), (1, .int (nI i)), (0, .ref a)]) hx hb dX0_firstWeakestJoint_34 hl (k := 2) rfl (by decide) rfl (fun ls hl => ?_)
        refine lv_goto (tgt := 4) hx hb dX0_firstWeakestJoint_37 (by decide) ?_
        have hl : lv_has ls 3 [(2, .int (nI (i + 1))), (1, .int (oI (wk (stn R Bs) (i + 1)))), (0, .ref a)] := x_hl hl (by rw [show nI i = oI (wk (stn R Bs) (i + 1)) by rw [wk_y ev (Int32.not_le.mp c_3)]; rfl])
        exact ih (i + 1) (by omega) (by omega) ls (lv_sub hl [2, 1, 0] rfl)
theorem in_X0_jointsWeakerThan_X0 : ∀ w ∈ wsX00, w ∈ wsX0_jointsWeakerThan := by decide +kernel
set_option maxHeartbeats 4000000 in
set_option maxRecDepth 100000 in
theorem c_X0_jointsWeakerThan (l : Launch) (Γ : GG) (a P U : Nat) (B E : Int32) (G : Nat) (R Bs Gl : Nat → Int32) (hP0 : 1 ≤ P) (hP : P ≤ 12) (x : Int32)  : Ro l yX0_jointsWeakerThan wsX0_jointsWeakerThan ({ frames := 4, cells := 0, slots := 0, locals := 88 }) Γ [.ref a, .int x] (SW Γ a P U B E G R Bs Gl) (some (.int (nI (cW (stn R Bs) x (P - 1))))) := by
  refine Ro.of (cc := cX0_jointsWeakerThan) (maxL := 4) (ret := some .int) (by decide) rfl (Nat.le_of_ble_eq_true rfl) ?_
  intro p e s m below meth c S hr hlk hK hW ls hl
  obtain ⟨hx, hb, hml, hown, hts⟩ := id S
  have hl : lv_has ls 4 [(0, .ref a), (1, .int x)] := hl
  refine lv_iconst (v := nI 0) hx hb dX0_jointsWeakerThan_0 (by decide +kernel) ?_
  refine lv_istore_n (lv' := [(2, .int (nI 0)), (0, .ref a), (1, .int x)]) hx hb dX0_jointsWeakerThan_1 rfl hl (by decide) rfl (fun ls hl => ?_)
  refine lv_iconst (v := nI 0) hx hb dX0_jointsWeakerThan_2 (by decide +kernel) ?_
  refine lv_istore_n (lv' := [(3, .int (nI 0)), (2, .int (nI 0)), (0, .ref a), (1, .int x)]) hx hb dX0_jointsWeakerThan_3 rfl hl (by decide) rfl (fun ls hl => ?_)
  refine x_loop (σ := Nat) (fun u => [(0, .ref a), (1, .int x), (2, .int (nI (cW (stn R Bs) x u))), (3, .int (nI u))]) (fun u => u ≤ P - 1) (fun u => P - u) (fun u hu ih ls hl => ?_) 0 (by omega) ls (x_hl (lv_sub (l' := [(0, .ref a), (1, .int x), (2, .int (nI 0)), (3, .int (nI 0))]) hl [2, 3, 1, 0] rfl) rfl)
  obtain ⟨i, rfl⟩ : ∃ z, z = u := ⟨_, rfl⟩
  have hu : i ≤ P - 1 := hu
  have hl : lv_has ls 4 [(0, .ref a), (1, .int x), (2, .int (nI (cW (stn R Bs) x i))), (3, .int (nI i))] := hl
  refine lv_iload_n hx hb dX0_jointsWeakerThan_4 rfl (lv_at hl 3 rfl) ?_
  refine lv_aload_n hx hb dX0_jointsWeakerThan_5 rfl (lv_at hl 0 rfl) ?_
  refine x_get S in_X0_jointsWeakerThan_X0 hK hW.1 rfl 0 (by decide) (by decide +kernel) rfl rfl dX0_jointsWeakerThan_6 ?_
  refine lv_iconst (v := nI 1) hx hb dX0_jointsWeakerThan_9 (by decide +kernel) ?_
  refine x_sub hx hb (by omega) dX0_jointsWeakerThan_10 ?_
  refine x_icge hx hb (by omega) (by omega) (tgt := 32) dX0_jointsWeakerThan_11 (by decide) (fun c_1 => ?_) (fun c_1 => ?_)
  · skip
    refine lv_iload_n hx hb dX0_jointsWeakerThan_32 rfl (lv_at hl 2 rfl) ?_
    refine x_e (show nI (cW (stn R Bs) x i) = nI (cW (stn R Bs) x (P - 1)) by rw [show i = P - 1 by omega]) ?_
    exact ro_iret hx hb hr hlk dX0_jointsWeakerThan_33
  · skip
    refine lv_aload_n hx hb dX0_jointsWeakerThan_14 rfl (lv_at hl 0 rfl) ?_
    refine lv_iload_n hx hb dX0_jointsWeakerThan_15 rfl (lv_at hl 3 rfl) ?_
    refine ro_V (rest := []) S hK (c_X0_strengthAt l Γ a P U B E G R Bs Gl hP0 hP (i) (by omega)) (cwV 1 hts gX0_jointsWeakerThan_X0_strengthAt rfl rfl rfl (by decide +kernel) ⟨Nat.le_of_ble_eq_true rfl, Nat.le_of_ble_eq_true rfl⟩) (Ob.recv hK hW.1 rfl) hW rfl hl.1 rfl (Nat.le_of_ble_eq_true rfl) dX0_jointsWeakerThan_16 ⟨Nat.zero_le _, Nat.zero_le _⟩ ?_
    refine W.eq (g2 := F0 m 19 ls [.int (stn R Bs i)]) rfl ?_
    refine lv_iload_n hx hb dX0_jointsWeakerThan_19 rfl (lv_at hl 1 rfl) ?_
    refine lv_icmp_ge (tgt := 26) hx hb dX0_jointsWeakerThan_20 (by decide) (fun c_2 => ?_) (fun c_2 => ?_)
    · skip
      refine x_iinc (n := 1) (lv' := [(3, .int (nI (i + 1))), (0, .ref a), (1, .int x), (2, .int (nI (cW (stn R Bs) x i)))]) hx hb dX0_jointsWeakerThan_26 hl (k := 3) rfl (by decide) rfl (fun ls hl => ?_)
      refine lv_goto (tgt := 4) hx hb dX0_jointsWeakerThan_29 (by decide) ?_
      have hl : lv_has ls 4 [(3, .int (nI (i + 1))), (0, .ref a), (1, .int x), (2, .int (nI (cW (stn R Bs) x (i + 1))))] := x_hl hl (by rw [← cW_n (f := stn R Bs) (Int32.not_lt.mpr c_2)])
      exact ih (i + 1) (by omega) (by omega) ls (lv_sub hl [1, 2, 3, 0] rfl)
    · skip
      refine x_iinc (n := 1) (lv' := [(2, .int (nI (cW (stn R Bs) x i + 1))), (0, .ref a), (1, .int x), (3, .int (nI i))]) hx hb dX0_jointsWeakerThan_23 hl (k := 2) rfl (by decide) rfl (fun ls hl => ?_)
      refine x_iinc (n := 1) (lv' := [(3, .int (nI (i + 1))), (2, .int (nI (cW (stn R Bs) x i + 1))), (0, .ref a), (1, .int x)]) hx hb dX0_jointsWeakerThan_26 hl (k := 3) rfl (by decide) rfl (fun ls hl => ?_)
      refine lv_goto (tgt := 4) hx hb dX0_jointsWeakerThan_29 (by decide) ?_
      have hl : lv_has ls 4 [(3, .int (nI (i + 1))), (2, .int (nI (cW (stn R Bs) x (i + 1)))), (0, .ref a), (1, .int x)] := x_hl hl (by rw [← cW_y (f := stn R Bs) (Int32.not_le.mp c_2)])
      exact ih (i + 1) (by omega) (by omega) ls (lv_sub hl [2, 3, 1, 0] rfl)
set_option maxHeartbeats 4000000 in
set_option maxRecDepth 100000 in
theorem c_X0_runeRead (l : Launch) (Γ : GG) (a P U : Nat) (B E : Int32) (G : Nat) (R Bs Gl : Nat → Int32) (hP0 : 1 ≤ P) (hP : P ≤ 12) (su t pl : Nat) (h1 : su < 3) (h2 : t < 3) (h3 : pl < P) : Ro l yX0_runeRead wsX0_runeRead ({ frames := 2, cells := 0, slots := 0, locals := 44 }) Γ [.ref a, .int (nI su), .int (nI t), .int (nI pl)] (SW Γ a P U B E G R Bs Gl) (some (.int (rd R su t pl))) := by
  refine Ro.of (cc := cX0_runeRead) (maxL := 4) (ret := some .int) (by decide) rfl (Nat.le_of_ble_eq_true rfl) ?_
  intro p e s m below meth c S hr hlk hK hW ls hl
  obtain ⟨hx, hb, hml, hown, hts⟩ := id S
  have hl : lv_has ls 4 [(0, .ref a), (1, .int (nI su)), (2, .int (nI t)), (3, .int (nI pl))] := hl
  refine lv_aload_n hx hb dX0_runeRead_0 rfl (lv_at hl 0 rfl) ?_
  refine lv_iconst (v := nI 0) hx hb dX0_runeRead_1 (by decide +kernel) ?_
  refine lv_iload_n hx hb dX0_runeRead_2 rfl (lv_at hl 3 rfl) ?_
  refine ro_V (rest := []) S hK (c_X0_hasPlace l Γ a P U B E G R Bs Gl hP0 hP (nI 0) (nI pl)) (cwV 2 hts gX0_runeRead_X0_hasPlace rfl rfl rfl (by decide +kernel) ⟨Nat.le_of_ble_eq_true rfl, Nat.le_of_ble_eq_true rfl⟩) (Ob.recv hK hW.1 rfl) hW rfl hl.1 rfl (Nat.le_of_ble_eq_true rfl) dX0_runeRead_3 ⟨Nat.zero_le _, Nat.zero_le _⟩ ?_
  refine W.eq (g2 := F0 m 6 ls [.int (nI (bP (inb (nI 0) 3 ∧ inb (nI pl) P)))]) rfl ?_
  refine x_e (y := nI 1) (by rw [bP_t ⟨(inb_nI (by omega)).mpr (by omega), (inb_nI (by omega)).mpr (by omega)⟩]) ?_
  refine x_ifeq hx hb (by omega) (tgt := 24) dX0_runeRead_6 (by decide) (fun c_1 => absurd c_1 (by decide)) (fun c_1 => ?_)
  have hm : pl * t < 40 := Nat.lt_of_le_of_lt (Nat.mul_le_mul (show pl ≤ 12 by omega) (show t ≤ 3 by omega)) (by decide)
  refine lv_aload_n hx hb dX0_runeRead_9 rfl (lv_at hl 0 rfl) ?_
  refine lv_iload_n hx hb dX0_runeRead_10 rfl (lv_at hl 1 rfl) ?_
  refine lv_iload_n hx hb dX0_runeRead_11 rfl (lv_at hl 3 rfl) ?_
  refine lv_iload_n hx hb dX0_runeRead_12 rfl (lv_at hl 2 rfl) ?_
  refine x_mul hx hb dX0_runeRead_13 ?_
  refine x_add hx hb dX0_runeRead_14 ?_
  refine lv_iconst (v := nI 3) hx hb dX0_runeRead_15 (by decide +kernel) ?_
  refine x_rem hx hb (by omega) (by omega) (by omega) dX0_runeRead_16 ?_
  refine lv_iload_n hx hb dX0_runeRead_17 rfl (lv_at hl 3 rfl) ?_
  refine ro_V (rest := []) S hK (c_X0_runeAt l Γ a P U B E G R Bs Gl hP0 hP ((su + (pl * t)) % 3) (pl) (by omega) (by omega)) (cwV 2 hts gX0_runeRead_X0_runeAt rfl rfl rfl (by decide +kernel) ⟨Nat.le_of_ble_eq_true rfl, Nat.le_of_ble_eq_true rfl⟩) (Ob.recv hK hW.1 rfl) hW rfl hl.1 rfl (Nat.le_of_ble_eq_true rfl) dX0_runeRead_18 ⟨Nat.zero_le _, Nat.zero_le _⟩ ?_
  refine W.eq (g2 := F0 m 21 ls [.int (R (3 * pl + ((su + (pl * t)) % 3)))]) rfl ?_
  refine lv_goto (tgt := 25) hx hb dX0_runeRead_21 (by decide) ?_
  refine x_e rfl ?_
  exact ro_iret hx hb hr hlk dX0_runeRead_25
set_option maxHeartbeats 4000000 in
set_option maxRecDepth 100000 in
theorem c_X0_placeReadUpTo (l : Launch) (Γ : GG) (a P U : Nat) (B E : Int32) (G : Nat) (R Bs Gl : Nat → Int32) (hP0 : 1 ≤ P) (hP : P ≤ 12) (su t n : Nat) (h1 : su < 3) (h2 : t < 3) (h3 : n ≤ P) : Ro l yX0_placeReadUpTo wsX0_placeReadUpTo ({ frames := 3, cells := 0, slots := 0, locals := 67 }) Γ [.ref a, .int (nI su), .int (nI t), .int (pn n)] (SW Γ a P U B E G R Bs Gl) (some (.int (oI (lst (rd R su t) n)))) := by
  refine Ro.of (cc := cX0_placeReadUpTo) (maxL := 5) (ret := some .int) (by decide) rfl (Nat.le_of_ble_eq_true rfl) ?_
  intro p e s m below meth c S hr hlk hK hW ls hl
  obtain ⟨hx, hb, hml, hown, hts⟩ := id S
  have hl : lv_has ls 5 [(0, .ref a), (1, .int (nI su)), (2, .int (nI t)), (3, .int (pn n))] := hl
  refine lv_iload_n hx hb dX0_placeReadUpTo_0 rfl (lv_at hl 3 rfl) ?_
  refine lv_istore (lv' := [(4, .int (pn n)), (0, .ref a), (1, .int (nI su)), (2, .int (nI t)), (3, .int (pn n))]) hx hb dX0_placeReadUpTo_1 hl (by decide) rfl (fun ls hl => ?_)
  refine x_loop (σ := Nat) (fun u => [(0, .ref a), (1, .int (nI su)), (2, .int (nI t)), (4, .int (pn u))]) (fun u => u ≤ n ∧ lst (rd R su t) u = lst (rd R su t) n) (fun u => u) (fun u hu ih ls hl => ?_) n ⟨Nat.le_refl _, rfl⟩ ls (x_hl (lv_sub (l' := [(0, .ref a), (1, .int (nI su)), (2, .int (nI t)), (4, .int (pn n))]) hl [1, 2, 3, 0] rfl) rfl)
  obtain ⟨i, rfl⟩ : ∃ z, z = u := ⟨_, rfl⟩
  have hu : i ≤ n ∧ lst (rd R su t) i = lst (rd R su t) n := hu
  have hl : lv_has ls 5 [(0, .ref a), (1, .int (nI su)), (2, .int (nI t)), (4, .int (pn i))] := hl
  rcases i with _ | k
  · have hl : lv_has ls 5 [(0, .ref a), (1, .int (nI su)), (2, .int (nI t)), (4, .int ((-1)))] := x_hl hl (by rw [show pn 0 = -1 from rfl])
    refine lv_iload hx hb dX0_placeReadUpTo_3 (lv_at hl 3 rfl) ?_
    refine lv_if_lt (tgt := 29) hx hb dX0_placeReadUpTo_5 (by decide) (fun c_1 => ?_) (fun c_1 => ?_)
    · skip
      refine lv_iconst (v := (-1)) hx hb dX0_placeReadUpTo_29 (by decide +kernel) ?_
      refine x_e (show (-1 : Int32) = oI (lst (rd R su t) n) by rw [← hu.2]; rfl) ?_
      exact ro_iret hx hb hr hlk dX0_placeReadUpTo_30
    · skip
      exact absurd (by decide +kernel) c_1
  · have hl : lv_has ls 5 [(0, .ref a), (1, .int (nI su)), (2, .int (nI t)), (4, .int (nI k))] := x_hl hl (by rw [pn_s])
    refine lv_iload hx hb dX0_placeReadUpTo_3 (lv_at hl 3 rfl) ?_
    refine lv_if_lt (tgt := 29) hx hb dX0_placeReadUpTo_5 (by decide) (fun c_2 => ?_) (fun c_2 => ?_)
    · skip
      exact absurd c_2 (nI_pos (by omega))
    · skip
      refine lv_aload_n hx hb dX0_placeReadUpTo_8 rfl (lv_at hl 0 rfl) ?_
      refine lv_iload_n hx hb dX0_placeReadUpTo_9 rfl (lv_at hl 1 rfl) ?_
      refine lv_iload_n hx hb dX0_placeReadUpTo_10 rfl (lv_at hl 2 rfl) ?_
      refine lv_iload hx hb dX0_placeReadUpTo_11 (lv_at hl 3 rfl) ?_
      refine ro_V (rest := []) S hK (c_X0_runeRead l Γ a P U B E G R Bs Gl hP0 hP (su) (t) (k) (by omega) (by omega) (by omega)) (cwV 3 hts gX0_placeReadUpTo_X0_runeRead rfl rfl rfl (by decide +kernel) ⟨Nat.le_of_ble_eq_true rfl, Nat.le_of_ble_eq_true rfl⟩) (Ob.recv hK hW.1 rfl) hW rfl hl.1 rfl (Nat.le_of_ble_eq_true rfl) dX0_placeReadUpTo_13 ⟨Nat.zero_le _, Nat.zero_le _⟩ ?_
      refine W.eq (g2 := F0 m 16 ls [.int (rd R su t k)]) rfl ?_
      refine lv_iconst (v := (-1)) hx hb dX0_placeReadUpTo_16 (by decide +kernel) ?_
      refine lv_icmp_eq (tgt := 23) hx hb dX0_placeReadUpTo_17 (by decide) (fun c_3 => ?_) (fun c_3 => ?_)
      · skip
        refine lv_iinc (v := pn k) (lv' := [(4, .int (pn k)), (0, .ref a), (1, .int (nI su)), (2, .int (nI t))]) hx hb dX0_placeReadUpTo_23 hl (k := 3) rfl rfl (by decide) rfl (fun ls hl => ?_)
        refine lv_goto (tgt := 3) hx hb dX0_placeReadUpTo_26 (by decide) ?_
        exact ih k ⟨by omega, by rw [← hu.2, lst_n c_3]⟩ (Nat.lt_succ_self k) ls (lv_sub hl [1, 2, 3, 0] rfl)
      · skip
        refine lv_iload hx hb dX0_placeReadUpTo_20 (lv_at hl 3 rfl) ?_
        refine x_e (show nI k = oI (lst (rd R su t) n) by rw [← hu.2, lst_y c_3]; rfl) ?_
        exact ro_iret hx hb hr hlk dX0_placeReadUpTo_22
theorem in_X0_readingLength_X0 : ∀ w ∈ wsX00, w ∈ wsX0_readingLength := by decide +kernel
set_option maxHeartbeats 4000000 in
set_option maxRecDepth 100000 in
theorem c_X0_readingLength (l : Launch) (Γ : GG) (a P U : Nat) (B E : Int32) (G : Nat) (R Bs Gl : Nat → Int32) (hP0 : 1 ≤ P) (hP : P ≤ 12) (su t : Nat) (h1 : su < 3) (h2 : t < 3) : Ro l yX0_readingLength wsX0_readingLength ({ frames := 3, cells := 0, slots := 0, locals := 67 }) Γ [.ref a, .int (nI su), .int (nI t)] (SW Γ a P U B E G R Bs Gl) (some (.int (nI (cU (rd R su t) P)))) := by
  refine Ro.of (cc := cX0_readingLength) (maxL := 5) (ret := some .int) (by decide) rfl (Nat.le_of_ble_eq_true rfl) ?_
  intro p e s m below meth c S hr hlk hK hW ls hl
  obtain ⟨hx, hb, hml, hown, hts⟩ := id S
  have hl : lv_has ls 5 [(0, .ref a), (1, .int (nI su)), (2, .int (nI t))] := hl
  refine lv_iconst (v := nI 0) hx hb dX0_readingLength_0 (by decide +kernel) ?_
  refine lv_istore_n (lv' := [(3, .int (nI 0)), (0, .ref a), (1, .int (nI su)), (2, .int (nI t))]) hx hb dX0_readingLength_1 rfl hl (by decide) rfl (fun ls hl => ?_)
  refine lv_iconst (v := nI 0) hx hb dX0_readingLength_2 (by decide +kernel) ?_
  refine lv_istore (lv' := [(4, .int (nI 0)), (3, .int (nI 0)), (0, .ref a), (1, .int (nI su)), (2, .int (nI t))]) hx hb dX0_readingLength_3 hl (by decide) rfl (fun ls hl => ?_)
  refine x_loop (σ := Nat) (fun u => [(0, .ref a), (1, .int (nI su)), (2, .int (nI t)), (3, .int (nI (cU (rd R su t) u))), (4, .int (nI u))]) (fun u => u ≤ P) (fun u => P - u) (fun u hu ih ls hl => ?_) 0 (by omega) ls (x_hl (lv_sub (l' := [(0, .ref a), (1, .int (nI su)), (2, .int (nI t)), (3, .int (nI 0)), (4, .int (nI 0))]) hl [2, 3, 4, 1, 0] rfl) rfl)
  obtain ⟨i, rfl⟩ : ∃ z, z = u := ⟨_, rfl⟩
  have hu : i ≤ P := hu
  have hl : lv_has ls 5 [(0, .ref a), (1, .int (nI su)), (2, .int (nI t)), (3, .int (nI (cU (rd R su t) i))), (4, .int (nI i))] := hl
  refine lv_iload hx hb dX0_readingLength_5 (lv_at hl 4 rfl) ?_
  refine lv_aload_n hx hb dX0_readingLength_7 rfl (lv_at hl 0 rfl) ?_
  refine x_get S in_X0_readingLength_X0 hK hW.1 rfl 0 (by decide) (by decide +kernel) rfl rfl dX0_readingLength_8 ?_
  refine x_icge hx hb (by omega) (by omega) (tgt := 35) dX0_readingLength_11 (by decide) (fun c_1 => ?_) (fun c_1 => ?_)
  · skip
    refine lv_iload_n hx hb dX0_readingLength_35 rfl (lv_at hl 3 rfl) ?_
    refine x_e (show nI (cU (rd R su t) i) = nI (cU (rd R su t) P) by rw [show i = P by omega]) ?_
    exact ro_iret hx hb hr hlk dX0_readingLength_36
  · skip
    refine lv_aload_n hx hb dX0_readingLength_14 rfl (lv_at hl 0 rfl) ?_
    refine lv_iload_n hx hb dX0_readingLength_15 rfl (lv_at hl 1 rfl) ?_
    refine lv_iload_n hx hb dX0_readingLength_16 rfl (lv_at hl 2 rfl) ?_
    refine lv_iload hx hb dX0_readingLength_17 (lv_at hl 4 rfl) ?_
    refine ro_V (rest := []) S hK (c_X0_runeRead l Γ a P U B E G R Bs Gl hP0 hP (su) (t) (i) (by omega) (by omega) (by omega)) (cwV 3 hts gX0_readingLength_X0_runeRead rfl rfl rfl (by decide +kernel) ⟨Nat.le_of_ble_eq_true rfl, Nat.le_of_ble_eq_true rfl⟩) (Ob.recv hK hW.1 rfl) hW rfl hl.1 rfl (Nat.le_of_ble_eq_true rfl) dX0_readingLength_19 ⟨Nat.zero_le _, Nat.zero_le _⟩ ?_
    refine W.eq (g2 := F0 m 22 ls [.int (rd R su t i)]) rfl ?_
    refine lv_iconst (v := (-1)) hx hb dX0_readingLength_22 (by decide +kernel) ?_
    refine lv_icmp_eq (tgt := 29) hx hb dX0_readingLength_23 (by decide) (fun c_2 => ?_) (fun c_2 => ?_)
    · skip
      refine x_iinc (n := 1) (lv' := [(4, .int (nI (i + 1))), (0, .ref a), (1, .int (nI su)), (2, .int (nI t)), (3, .int (nI (cU (rd R su t) i)))]) hx hb dX0_readingLength_29 hl (k := 4) rfl (by decide) rfl (fun ls hl => ?_)
      refine lv_goto (tgt := 5) hx hb dX0_readingLength_32 (by decide) ?_
      have hl : lv_has ls 5 [(4, .int (nI (i + 1))), (0, .ref a), (1, .int (nI su)), (2, .int (nI t)), (3, .int (nI (cU (rd R su t) (i + 1))))] := x_hl hl (by rw [← cU_n (f := rd R su t) (n := i) c_2])
      exact ih (i + 1) (by omega) (by omega) ls (lv_sub hl [1, 2, 3, 4, 0] rfl)
    · skip
      refine x_iinc (n := 1) (lv' := [(3, .int (nI (cU (rd R su t) i + 1))), (0, .ref a), (1, .int (nI su)), (2, .int (nI t)), (4, .int (nI i))]) hx hb dX0_readingLength_26 hl (k := 3) rfl (by decide) rfl (fun ls hl => ?_)
      refine x_iinc (n := 1) (lv' := [(4, .int (nI (i + 1))), (3, .int (nI (cU (rd R su t) i + 1))), (0, .ref a), (1, .int (nI su)), (2, .int (nI t))]) hx hb dX0_readingLength_29 hl (k := 4) rfl (by decide) rfl (fun ls hl => ?_)
      refine lv_goto (tgt := 5) hx hb dX0_readingLength_32 (by decide) ?_
      have hl : lv_has ls 5 [(4, .int (nI (i + 1))), (3, .int (nI (cU (rd R su t) (i + 1)))), (0, .ref a), (1, .int (nI su)), (2, .int (nI t))] := x_hl hl (by rw [← cU_y (f := rd R su t) (n := i) c_2])
      exact ih (i + 1) (by omega) (by omega) ls (lv_sub hl [2, 3, 4, 1, 0] rfl)
theorem in_X0_runeOfReadingOrNone_X0 : ∀ w ∈ wsX00, w ∈ wsX0_runeOfReadingOrNone := by decide +kernel
set_option maxHeartbeats 4000000 in
set_option maxRecDepth 100000 in
theorem c_X0_runeOfReadingOrNone (l : Launch) (Γ : GG) (a P U : Nat) (B E : Int32) (G : Nat) (R Bs Gl : Nat → Int32) (hP0 : 1 ≤ P) (hP : P ≤ 12) (t : Nat) (x : Int32) (h0 : U < 3) (h2 : t < 3) : Ro l yX0_runeOfReadingOrNone wsX0_runeOfReadingOrNone ({ frames := 3, cells := 0, slots := 0, locals := 67 }) Γ [.ref a, .int (nI t), .int x] (SW Γ a P U B E G R Bs Gl) (some (.int (nth (rd R U t) P x))) := by
  refine Ro.of (cc := cX0_runeOfReadingOrNone) (maxL := 6) (ret := some .int) (by decide) rfl (Nat.le_of_ble_eq_true rfl) ?_
  intro p e s m below meth c S hr hlk hK hW ls hl
  obtain ⟨hx, hb, hml, hown, hts⟩ := id S
  have hl : lv_has ls 6 [(0, .ref a), (1, .int (nI t)), (2, .int x)] := hl
  refine lv_iconst (v := nI 0) hx hb dX0_runeOfReadingOrNone_0 (by decide +kernel) ?_
  refine lv_istore_n (lv' := [(3, .int (nI 0)), (0, .ref a), (1, .int (nI t)), (2, .int x)]) hx hb dX0_runeOfReadingOrNone_1 rfl hl (by decide) rfl (fun ls hl => ?_)
  refine lv_iconst (v := nI 0) hx hb dX0_runeOfReadingOrNone_2 (by decide +kernel) ?_
  refine lv_istore (lv' := [(4, .int (nI 0)), (3, .int (nI 0)), (0, .ref a), (1, .int (nI t)), (2, .int x)]) hx hb dX0_runeOfReadingOrNone_3 hl (by decide) rfl (fun ls hl => ?_)
  refine x_loop (σ := Nat) (fun u => [(0, .ref a), (1, .int (nI t)), (2, .int x), (3, .int (nI (cU (rd R U t) u))), (4, .int (nI u))]) (fun u => u ≤ P ∧ ∀ k, k < u → ¬ (rd R U t) k = -1 → ¬ nI (cU (rd R U t) k) = x) (fun u => P - u) (fun u hu ih ls hl => ?_) 0 ⟨by omega, fun k hk => absurd hk (Nat.not_lt_zero k)⟩ ls (x_hl (lv_sub (l' := [(0, .ref a), (1, .int (nI t)), (2, .int x), (3, .int (nI 0)), (4, .int (nI 0))]) hl [2, 3, 4, 1, 0] rfl) rfl)
  obtain ⟨i, rfl⟩ : ∃ z, z = u := ⟨_, rfl⟩
  have hu : i ≤ P ∧ ∀ k, k < i → ¬ (rd R U t) k = -1 → ¬ nI (cU (rd R U t) k) = x := hu
  have hl : lv_has ls 6 [(0, .ref a), (1, .int (nI t)), (2, .int x), (3, .int (nI (cU (rd R U t) i))), (4, .int (nI i))] := hl
  refine lv_iload hx hb dX0_runeOfReadingOrNone_5 (lv_at hl 4 rfl) ?_
  refine lv_aload_n hx hb dX0_runeOfReadingOrNone_7 rfl (lv_at hl 0 rfl) ?_
  refine x_get S in_X0_runeOfReadingOrNone_X0 hK hW.1 rfl 0 (by decide) (by decide +kernel) rfl rfl dX0_runeOfReadingOrNone_8 ?_
  refine x_icge hx hb (by omega) (by omega) (tgt := 50) dX0_runeOfReadingOrNone_11 (by decide) (fun c_1 => ?_) (fun c_1 => ?_)
  · skip
    refine lv_iconst (v := (-1)) hx hb dX0_runeOfReadingOrNone_50 (by decide +kernel) ?_
    refine x_e (show (-1 : Int32) = nth (rd R U t) P x by rw [nth_n (fun k hk => hu.2 k (by omega))]) ?_
    exact ro_iret hx hb hr hlk dX0_runeOfReadingOrNone_51
  · skip
    refine lv_aload_n hx hb dX0_runeOfReadingOrNone_14 rfl (lv_at hl 0 rfl) ?_
    refine lv_aload_n hx hb dX0_runeOfReadingOrNone_15 rfl (lv_at hl 0 rfl) ?_
    refine x_get S in_X0_runeOfReadingOrNone_X0 hK hW.1 rfl 1 (by decide) (by decide +kernel) rfl rfl dX0_runeOfReadingOrNone_16 ?_
    refine lv_iload_n hx hb dX0_runeOfReadingOrNone_19 rfl (lv_at hl 1 rfl) ?_
    refine lv_iload hx hb dX0_runeOfReadingOrNone_20 (lv_at hl 4 rfl) ?_
    refine ro_V (rest := []) S hK (c_X0_runeRead l Γ a P U B E G R Bs Gl hP0 hP (U) (t) (i) (by omega) (by omega) (by omega)) (cwV 3 hts gX0_runeOfReadingOrNone_X0_runeRead rfl rfl rfl (by decide +kernel) ⟨Nat.le_of_ble_eq_true rfl, Nat.le_of_ble_eq_true rfl⟩) (Ob.recv hK hW.1 rfl) hW rfl hl.1 rfl (Nat.le_of_ble_eq_true rfl) dX0_runeOfReadingOrNone_22 ⟨Nat.zero_le _, Nat.zero_le _⟩ ?_
    refine W.eq (g2 := F0 m 25 ls [.int (rd R U t i)]) rfl ?_
    refine lv_istore (lv' := [(5, .int (rd R U t i)), (0, .ref a), (1, .int (nI t)), (2, .int x), (3, .int (nI (cU (rd R U t) i))), (4, .int (nI i))]) hx hb dX0_runeOfReadingOrNone_25 hl (by decide) rfl (fun ls hl => ?_)
    refine lv_iload hx hb dX0_runeOfReadingOrNone_27 (lv_at hl 0 rfl) ?_
    refine lv_iconst (v := (-1)) hx hb dX0_runeOfReadingOrNone_29 (by decide +kernel) ?_
    refine lv_icmp_eq (tgt := 44) hx hb dX0_runeOfReadingOrNone_30 (by decide) (fun c_2 => ?_) (fun c_2 => ?_)
    · skip
      refine x_iinc (n := 1) (lv' := [(4, .int (nI (i + 1))), (5, .int (rd R U t i)), (0, .ref a), (1, .int (nI t)), (2, .int x), (3, .int (nI (cU (rd R U t) i)))]) hx hb dX0_runeOfReadingOrNone_44 hl (k := 5) rfl (by decide) rfl (fun ls hl => ?_)
      refine lv_goto (tgt := 5) hx hb dX0_runeOfReadingOrNone_47 (by decide) ?_
      have hl : lv_has ls 6 [(4, .int (nI (i + 1))), (5, .int (rd R U t i)), (0, .ref a), (1, .int (nI t)), (2, .int x), (3, .int (nI (cU (rd R U t) (i + 1))))] := x_hl hl (by rw [← cU_n (f := rd R U t) (n := i) c_2])
      exact ih (i + 1) ⟨by omega, fun k hk hf => by rcases Nat.lt_or_ge k i with z | z; exact hu.2 k z hf; exact absurd (show (rd R U t) k = -1 by rw [show k = i by omega]; exact c_2) hf⟩ (by omega) ls (lv_sub hl [2, 3, 4, 5, 0] rfl)
    · skip
      refine lv_iload_n hx hb dX0_runeOfReadingOrNone_33 rfl (lv_at hl 4 rfl) ?_
      refine lv_iload_n hx hb dX0_runeOfReadingOrNone_34 rfl (lv_at hl 3 rfl) ?_
      refine lv_icmp_ne (tgt := 41) hx hb dX0_runeOfReadingOrNone_35 (by decide) (fun c_3 => ?_) (fun c_3 => ?_)
      · skip
        refine x_iinc (n := 1) (lv' := [(3, .int (nI (cU (rd R U t) i + 1))), (5, .int (rd R U t i)), (0, .ref a), (1, .int (nI t)), (2, .int x), (4, .int (nI i))]) hx hb dX0_runeOfReadingOrNone_41 hl (k := 4) rfl (by decide) rfl (fun ls hl => ?_)
        refine x_iinc (n := 1) (lv' := [(4, .int (nI (i + 1))), (3, .int (nI (cU (rd R U t) i + 1))), (5, .int (rd R U t i)), (0, .ref a), (1, .int (nI t)), (2, .int x)]) hx hb dX0_runeOfReadingOrNone_44 hl (k := 5) rfl (by decide) rfl (fun ls hl => ?_)
        refine lv_goto (tgt := 5) hx hb dX0_runeOfReadingOrNone_47 (by decide) ?_
        have hl : lv_has ls 6 [(4, .int (nI (i + 1))), (3, .int (nI (cU (rd R U t) (i + 1)))), (5, .int (rd R U t i)), (0, .ref a), (1, .int (nI t)), (2, .int x)] := x_hl hl (by rw [← cU_y (f := rd R U t) (n := i) c_2])
        exact ih (i + 1) ⟨by omega, fun k hk hf => by rcases Nat.lt_or_ge k i with z | z; exact hu.2 k z hf; exact (show k = i by omega) ▸ c_3⟩ (by omega) ls (lv_sub hl [3, 4, 5, 1, 0] rfl)
      · skip
        refine lv_iload hx hb dX0_runeOfReadingOrNone_38 (lv_at hl 0 rfl) ?_
        refine x_e (show rd R U t i = nth (rd R U t) P x by rw [nth_y (by omega) (by omega) c_2 c_3]) ?_
        exact ro_iret hx hb hr hlk dX0_runeOfReadingOrNone_40
theorem in_X0_readsPair_X0 : ∀ w ∈ wsX00, w ∈ wsX0_readsPair := by decide +kernel
set_option maxHeartbeats 4000000 in
set_option maxRecDepth 100000 in
theorem c_X0_readsPair (l : Launch) (Γ : GG) (a P U : Nat) (B E : Int32) (G : Nat) (R Bs Gl : Nat → Int32) (hP0 : 1 ≤ P) (hP : P ≤ 12) (su t : Nat) (x y : Int32) (h1 : su < 3) (h2 : t < 3) : Ro l yX0_readsPair wsX0_readsPair ({ frames := 3, cells := 0, slots := 0, locals := 67 }) Γ [.ref a, .int (nI su), .int (nI t), .int x, .int y] (SW Γ a P U B E G R Bs Gl) (some (.int (nI (b01 (pr (rd R su t) x y P))))) := by
  refine Ro.of (cc := cX0_readsPair) (maxL := 8) (ret := some .boolean) (by decide) rfl (Nat.le_of_ble_eq_true rfl) ?_
  intro p e s m below meth c S hr hlk hK hW ls hl
  obtain ⟨hx, hb, hml, hown, hts⟩ := id S
  have hl : lv_has ls 8 [(0, .ref a), (1, .int (nI su)), (2, .int (nI t)), (3, .int x), (4, .int y)] := hl
  refine lv_iconst (v := (-1)) hx hb dX0_readsPair_0 (by decide +kernel) ?_
  refine lv_istore (lv' := [(5, .int ((-1))), (0, .ref a), (1, .int (nI su)), (2, .int (nI t)), (3, .int x), (4, .int y)]) hx hb dX0_readsPair_1 hl (by decide) rfl (fun ls hl => ?_)
  refine lv_iconst (v := nI 0) hx hb dX0_readsPair_3 (by decide +kernel) ?_
  refine lv_istore (lv' := [(6, .int (nI 0)), (5, .int ((-1))), (0, .ref a), (1, .int (nI su)), (2, .int (nI t)), (3, .int x), (4, .int y)]) hx hb dX0_readsPair_4 hl (by decide) rfl (fun ls hl => ?_)
  refine x_loop (σ := Nat) (fun u => [(0, .ref a), (1, .int (nI su)), (2, .int (nI t)), (3, .int x), (4, .int y), (5, .int (lastv (rd R su t) u)), (6, .int (nI u))]) (fun u => u ≤ P ∧ pr (rd R su t) x y u = false) (fun u => P - u) (fun u hu ih ls hl => ?_) 0 ⟨by omega, rfl⟩ ls (x_hl (lv_sub (l' := [(0, .ref a), (1, .int (nI su)), (2, .int (nI t)), (3, .int x), (4, .int y), (5, .int ((-1))), (6, .int (nI 0))]) hl [2, 3, 4, 5, 6, 1, 0] rfl) rfl)
  obtain ⟨i, rfl⟩ : ∃ z, z = u := ⟨_, rfl⟩
  have hu : i ≤ P ∧ pr (rd R su t) x y i = false := hu
  have hl : lv_has ls 8 [(0, .ref a), (1, .int (nI su)), (2, .int (nI t)), (3, .int x), (4, .int y), (5, .int (lastv (rd R su t) i)), (6, .int (nI i))] := hl
  refine lv_iload hx hb dX0_readsPair_6 (lv_at hl 6 rfl) ?_
  refine lv_aload_n hx hb dX0_readsPair_8 rfl (lv_at hl 0 rfl) ?_
  refine x_get S in_X0_readsPair_X0 hK hW.1 rfl 0 (by decide) (by decide +kernel) rfl rfl dX0_readsPair_9 ?_
  refine x_icge hx hb (by omega) (by omega) (tgt := 56) dX0_readsPair_12 (by decide) (fun c_1 => ?_) (fun c_1 => ?_)
  · skip
    refine lv_iconst (v := nI 0) hx hb dX0_readsPair_56 (by decide +kernel) ?_
    refine x_e (show nI 0 = nI (b01 (pr (rd R su t) x y P)) by rw [show P = i by omega, hu.2]; rfl) ?_
    exact ro_zret (b01_le _) hx hb hr hlk dX0_readsPair_57
  · skip
    refine lv_aload_n hx hb dX0_readsPair_15 rfl (lv_at hl 0 rfl) ?_
    refine lv_iload_n hx hb dX0_readsPair_16 rfl (lv_at hl 1 rfl) ?_
    refine lv_iload_n hx hb dX0_readsPair_17 rfl (lv_at hl 2 rfl) ?_
    refine lv_iload hx hb dX0_readsPair_18 (lv_at hl 6 rfl) ?_
    refine ro_V (rest := []) S hK (c_X0_runeRead l Γ a P U B E G R Bs Gl hP0 hP (su) (t) (i) (by omega) (by omega) (by omega)) (cwV 3 hts gX0_readsPair_X0_runeRead rfl rfl rfl (by decide +kernel) ⟨Nat.le_of_ble_eq_true rfl, Nat.le_of_ble_eq_true rfl⟩) (Ob.recv hK hW.1 rfl) hW rfl hl.1 rfl (Nat.le_of_ble_eq_true rfl) dX0_readsPair_20 ⟨Nat.zero_le _, Nat.zero_le _⟩ ?_
    refine W.eq (g2 := F0 m 23 ls [.int (rd R su t i)]) rfl ?_
    refine lv_istore (lv' := [(7, .int (rd R su t i)), (0, .ref a), (1, .int (nI su)), (2, .int (nI t)), (3, .int x), (4, .int y), (5, .int (lastv (rd R su t) i)), (6, .int (nI i))]) hx hb dX0_readsPair_23 hl (by decide) rfl (fun ls hl => ?_)
    refine lv_iload hx hb dX0_readsPair_25 (lv_at hl 0 rfl) ?_
    refine lv_iconst (v := (-1)) hx hb dX0_readsPair_27 (by decide +kernel) ?_
    refine lv_icmp_eq (tgt := 50) hx hb dX0_readsPair_28 (by decide) (fun c_2 => ?_) (fun c_2 => ?_)
    · skip
      refine x_iinc (n := 1) (lv' := [(6, .int (nI (i + 1))), (7, .int (rd R su t i)), (0, .ref a), (1, .int (nI su)), (2, .int (nI t)), (3, .int x), (4, .int y), (5, .int (lastv (rd R su t) i))]) hx hb dX0_readsPair_50 hl (k := 7) rfl (by decide) rfl (fun ls hl => ?_)
      refine lv_goto (tgt := 6) hx hb dX0_readsPair_53 (by decide) ?_
      have hl : lv_has ls 8 [(6, .int (nI (i + 1))), (7, .int (rd R su t i)), (0, .ref a), (1, .int (nI su)), (2, .int (nI t)), (3, .int x), (4, .int y), (5, .int (lastv (rd R su t) (i + 1)))] := x_hl hl (by rw [← lastv_n (f := rd R su t) (n := i) c_2])
      exact ih (i + 1) ⟨by omega, pr_skip hu.2 c_2⟩ (by omega) ls (lv_sub hl [2, 3, 4, 5, 6, 7, 0] rfl)
    · skip
      refine lv_iload hx hb dX0_readsPair_31 (lv_at hl 6 rfl) ?_
      refine lv_iload_n hx hb dX0_readsPair_33 rfl (lv_at hl 4 rfl) ?_
      refine lv_icmp_ne (tgt := 46) hx hb dX0_readsPair_34 (by decide) (fun c_3 => ?_) (fun c_3 => ?_)
      · skip
        refine lv_iload hx hb dX0_readsPair_46 (lv_at hl 0 rfl) ?_
        refine lv_istore (lv' := [(5, .int (rd R su t i)), (7, .int (rd R su t i)), (0, .ref a), (1, .int (nI su)), (2, .int (nI t)), (3, .int x), (4, .int y), (6, .int (nI i))]) hx hb dX0_readsPair_48 hl (by decide) rfl (fun ls hl => ?_)
        refine x_iinc (n := 1) (lv' := [(6, .int (nI (i + 1))), (5, .int (rd R su t i)), (7, .int (rd R su t i)), (0, .ref a), (1, .int (nI su)), (2, .int (nI t)), (3, .int x), (4, .int y)]) hx hb dX0_readsPair_50 hl (k := 7) rfl (by decide) rfl (fun ls hl => ?_)
        refine lv_goto (tgt := 6) hx hb dX0_readsPair_53 (by decide) ?_
        have hl : lv_has ls 8 [(6, .int (nI (i + 1))), (5, .int (lastv (rd R su t) (i + 1))), (7, .int (rd R su t i)), (0, .ref a), (1, .int (nI su)), (2, .int (nI t)), (3, .int x), (4, .int y)] := x_hl hl (by rw [← lastv_y (f := rd R su t) (n := i) c_2])
        exact ih (i + 1) ⟨by omega, pr_no hu.2 (Or.inl c_3)⟩ (by omega) ls (lv_sub hl [3, 4, 5, 6, 7, 1, 0] rfl)
      · skip
        refine lv_iload hx hb dX0_readsPair_37 (lv_at hl 0 rfl) ?_
        refine lv_iload hx hb dX0_readsPair_39 (lv_at hl 5 rfl) ?_
        refine lv_icmp_ne (tgt := 46) hx hb dX0_readsPair_41 (by decide) (fun c_4 => ?_) (fun c_4 => ?_)
        · skip
          refine lv_iload hx hb dX0_readsPair_46 (lv_at hl 0 rfl) ?_
          refine lv_istore (lv' := [(5, .int (rd R su t i)), (7, .int (rd R su t i)), (0, .ref a), (1, .int (nI su)), (2, .int (nI t)), (3, .int x), (4, .int y), (6, .int (nI i))]) hx hb dX0_readsPair_48 hl (by decide) rfl (fun ls hl => ?_)
          refine x_iinc (n := 1) (lv' := [(6, .int (nI (i + 1))), (5, .int (rd R su t i)), (7, .int (rd R su t i)), (0, .ref a), (1, .int (nI su)), (2, .int (nI t)), (3, .int x), (4, .int y)]) hx hb dX0_readsPair_50 hl (k := 7) rfl (by decide) rfl (fun ls hl => ?_)
          refine lv_goto (tgt := 6) hx hb dX0_readsPair_53 (by decide) ?_
          have hl : lv_has ls 8 [(6, .int (nI (i + 1))), (5, .int (lastv (rd R su t) (i + 1))), (7, .int (rd R su t i)), (0, .ref a), (1, .int (nI su)), (2, .int (nI t)), (3, .int x), (4, .int y)] := x_hl hl (by rw [← lastv_y (f := rd R su t) (n := i) c_2])
          exact ih (i + 1) ⟨by omega, pr_no hu.2 (Or.inr c_4)⟩ (by omega) ls (lv_sub hl [3, 4, 5, 6, 7, 1, 0] rfl)
        · skip
          refine lv_iconst (v := nI 1) hx hb dX0_readsPair_44 (by decide +kernel) ?_
          refine x_e (show nI 1 = nI (b01 (pr (rd R su t) x y P)) by rw [pr_yes (by omega) c_2 c_3 c_4]; rfl) ?_
          exact ro_zret (b01_le _) hx hb hr hlk dX0_readsPair_45
theorem in_X0_fitsAheadOf_X0 : ∀ w ∈ wsX00, w ∈ wsX0_fitsAheadOf := by decide +kernel
set_option maxHeartbeats 4000000 in
set_option maxRecDepth 100000 in
theorem c_X0_fitsAheadOf (l : Launch) (Γ : GG) (a P U : Nat) (B E : Int32) (G : Nat) (R Bs Gl : Nat → Int32) (hP0 : 1 ≤ P) (hP : P ≤ 12) (a2 P2 U2 : Nat) (B2 E2 : Int32) (G2 r2 s2 t2 : Nat)  : Ro l yX0_fitsAheadOf wsX0_fitsAheadOf ({ frames := 0, cells := 0, slots := 0, locals := 0 }) Γ [.ref a, .ref a2] (fun H => SW Γ a P U B E G R Bs Gl H ∧ Ob Γ 0 a2 [.int (nI P2), .int (nI U2), .int B2, .int E2, .int (nI G2), .ref r2, .ref s2, .ref t2] H) (some (.int (nI (bP (¬ a = a2 ∧ ¬ E = -1 ∧ E = B2))))) := by
  refine Ro.of (cc := cX0_fitsAheadOf) (maxL := 2) (ret := some .boolean) (by decide) rfl (Nat.le_of_ble_eq_true rfl) ?_
  intro p e s m below meth c S hr hlk hK hW ls hl
  obtain ⟨hx, hb, hml, hown, hts⟩ := id S
  have hl : lv_has ls 2 [(0, .ref a), (1, .ref a2)] := hl
  obtain ⟨hW1, hW2⟩ := hW
  refine lv_aload_n hx hb dX0_fitsAheadOf_0 rfl (lv_at hl 0 rfl) ?_
  refine lv_aload_n hx hb dX0_fitsAheadOf_1 rfl (lv_at hl 1 rfl) ?_
  refine lv_acmp_eq (rx := some a) (ry := some a2) (tgt := 28) hx hb dX0_fitsAheadOf_2 (by decide) (fun c_1 => ?_) (fun c_1 => ?_)
  · skip
    refine lv_iconst (v := nI 0) hx hb dX0_fitsAheadOf_28 (by decide +kernel) ?_
    refine x_e (show nI 0 = nI (bP (¬ a = a2 ∧ ¬ E = -1 ∧ E = B2)) by rw [bP_f (fun q => q.1 (Option.some.inj c_1))]) ?_
    exact ro_zret (bP_le _) hx hb hr hlk dX0_fitsAheadOf_29
  · skip
    refine lv_aload_n hx hb dX0_fitsAheadOf_5 rfl (lv_at hl 0 rfl) ?_
    refine x_get S in_X0_fitsAheadOf_X0 hK hW1.1 rfl 3 (by decide) (by decide +kernel) rfl rfl dX0_fitsAheadOf_6 ?_
    refine lv_iconst (v := (-1)) hx hb dX0_fitsAheadOf_9 (by decide +kernel) ?_
    refine lv_icmp_eq (tgt := 28) hx hb dX0_fitsAheadOf_10 (by decide) (fun c_2 => ?_) (fun c_2 => ?_)
    · skip
      refine lv_iconst (v := nI 0) hx hb dX0_fitsAheadOf_28 (by decide +kernel) ?_
      refine x_e (show nI 0 = nI (bP (¬ a = a2 ∧ ¬ E = -1 ∧ E = B2)) by rw [bP_f (fun q => q.2.1 c_2)]) ?_
      exact ro_zret (bP_le _) hx hb hr hlk dX0_fitsAheadOf_29
    · skip
      refine lv_aload_n hx hb dX0_fitsAheadOf_13 rfl (lv_at hl 0 rfl) ?_
      refine x_get S in_X0_fitsAheadOf_X0 hK hW1.1 rfl 3 (by decide) (by decide +kernel) rfl rfl dX0_fitsAheadOf_14 ?_
      refine lv_aload_n hx hb dX0_fitsAheadOf_17 rfl (lv_at hl 1 rfl) ?_
      refine x_get S in_X0_fitsAheadOf_X0 hK hW2 rfl 2 (by decide) (by decide +kernel) rfl rfl dX0_fitsAheadOf_18 ?_
      refine lv_icmp_ne (tgt := 28) hx hb dX0_fitsAheadOf_21 (by decide) (fun c_3 => ?_) (fun c_3 => ?_)
      · skip
        refine lv_iconst (v := nI 0) hx hb dX0_fitsAheadOf_28 (by decide +kernel) ?_
        refine x_e (show nI 0 = nI (bP (¬ a = a2 ∧ ¬ E = -1 ∧ E = B2)) by rw [bP_f (fun q => c_3 q.2.2)]) ?_
        exact ro_zret (bP_le _) hx hb hr hlk dX0_fitsAheadOf_29
      · skip
        refine lv_iconst (v := nI 1) hx hb dX0_fitsAheadOf_24 (by decide +kernel) ?_
        refine lv_goto (tgt := 29) hx hb dX0_fitsAheadOf_25 (by decide) ?_
        refine x_e (show nI 1 = nI (bP (¬ a = a2 ∧ ¬ E = -1 ∧ E = B2)) by rw [bP_t ⟨fun q => c_1 (by rw [q]), c_2, c_3⟩]) ?_
        exact ro_zret (bP_le _) hx hb hr hlk dX0_fitsAheadOf_29
theorem in_X0_factAt_X0 : ∀ w ∈ wsX00, w ∈ wsX0_factAt := by decide +kernel
set_option maxHeartbeats 4000000 in
set_option maxRecDepth 100000 in
theorem c_X0_factAt (l : Launch) (Γ : GG) (a P U : Nat) (B E : Int32) (G : Nat) (R Bs Gl : Nat → Int32) (hP0 : 1 ≤ P) (hP : P ≤ 12) (v : Nat) (h1 : v < 7) (hG : G ≤ 1) : Ro l yX0_factAt wsX0_factAt ({ frames := 4, cells := 0, slots := 0, locals := 89 }) Γ [.ref a, .int (nI v)] (SW Γ a P U B E G R Bs Gl) (some (.int (fct P U B E G R Gl v))) := by
  refine Ro.of (cc := cX0_factAt) (maxL := 2) (ret := some .int) (by decide) rfl (Nat.le_of_ble_eq_true rfl) ?_
  intro p e s m below meth c S hr hlk hK hW ls hl
  obtain ⟨hx, hb, hml, hown, hts⟩ := id S
  have hl : lv_has ls 2 [(0, .ref a), (1, .int (nI v))] := hl
  have h9 : v = 0 ∨ v = 1 ∨ v = 2 ∨ v = 3 ∨ v = 4 ∨ v = 5 ∨ v = 6 := by omega
  rcases h9 with rfl | rfl | rfl | rfl | rfl | rfl | rfl
  · skip
    refine lv_iload_n hx hb dX0_factAt_0 rfl (lv_at hl 1 rfl) ?_
    refine lv_tableIn (off := 39) (tgt := 40) hx hb dX0_factAt_1 (by decide +kernel) (by decide +kernel) rfl (by decide) ?_
    refine lv_aload_n hx hb dX0_factAt_40 rfl (lv_at hl 0 rfl) ?_
    refine x_get S in_X0_factAt_X0 hK hW.1 rfl 0 (by decide) (by decide +kernel) rfl rfl dX0_factAt_41 ?_
    exact ro_iret hx hb hr hlk dX0_factAt_44
  · skip
    refine lv_iload_n hx hb dX0_factAt_0 rfl (lv_at hl 1 rfl) ?_
    refine lv_tableIn (off := 44) (tgt := 45) hx hb dX0_factAt_1 (by decide +kernel) (by decide +kernel) rfl (by decide) ?_
    refine lv_aload_n hx hb dX0_factAt_45 rfl (lv_at hl 0 rfl) ?_
    refine x_get S in_X0_factAt_X0 hK hW.1 rfl 1 (by decide) (by decide +kernel) rfl rfl dX0_factAt_46 ?_
    exact ro_iret hx hb hr hlk dX0_factAt_49
  · skip
    refine lv_iload_n hx hb dX0_factAt_0 rfl (lv_at hl 1 rfl) ?_
    refine lv_tableIn (off := 49) (tgt := 50) hx hb dX0_factAt_1 (by decide +kernel) (by decide +kernel) rfl (by decide) ?_
    refine lv_aload_n hx hb dX0_factAt_50 rfl (lv_at hl 0 rfl) ?_
    refine ro_V (rest := []) S hK (c_X0_runesInAll l Γ a P U B E G R Bs Gl hP0 hP) (cwV 0 hts gX0_factAt_X0_runesInAll rfl rfl rfl (by decide +kernel) ⟨Nat.le_of_ble_eq_true rfl, Nat.le_of_ble_eq_true rfl⟩) (Ob.recv hK hW.1 rfl) hW rfl hl.1 rfl (Nat.le_of_ble_eq_true rfl) dX0_factAt_51 ⟨Nat.zero_le _, Nat.zero_le _⟩ ?_
    refine W.eq (g2 := F0 m 54 ls [.int (nI (rT R P))]) rfl ?_
    exact ro_iret hx hb hr hlk dX0_factAt_54
  · skip
    refine lv_iload_n hx hb dX0_factAt_0 rfl (lv_at hl 1 rfl) ?_
    refine lv_tableIn (off := 54) (tgt := 55) hx hb dX0_factAt_1 (by decide +kernel) (by decide +kernel) rfl (by decide) ?_
    refine lv_aload_n hx hb dX0_factAt_55 rfl (lv_at hl 0 rfl) ?_
    refine ro_V (rest := []) S hK (c_X0_gluedJoints l Γ a P U B E G R Bs Gl hP0 hP) (cwV 0 hts gX0_factAt_X0_gluedJoints rfl rfl rfl (by decide +kernel) ⟨Nat.le_of_ble_eq_true rfl, Nat.le_of_ble_eq_true rfl⟩) (Ob.recv hK hW.1 rfl) hW rfl hl.1 rfl (Nat.le_of_ble_eq_true rfl) dX0_factAt_56 ⟨Nat.zero_le _, Nat.zero_le _⟩ ?_
    refine W.eq (g2 := F0 m 59 ls [.int (nI (gT Gl (P - 1)))]) rfl ?_
    exact ro_iret hx hb hr hlk dX0_factAt_59
  · skip
    refine lv_iload_n hx hb dX0_factAt_0 rfl (lv_at hl 1 rfl) ?_
    refine lv_tableIn (off := 59) (tgt := 60) hx hb dX0_factAt_1 (by decide +kernel) (by decide +kernel) rfl (by decide) ?_
    refine lv_aload_n hx hb dX0_factAt_60 rfl (lv_at hl 0 rfl) ?_
    refine x_get S in_X0_factAt_X0 hK hW.1 rfl 2 (by decide) (by decide +kernel) rfl rfl dX0_factAt_61 ?_
    exact ro_iret hx hb hr hlk dX0_factAt_64
  · skip
    refine lv_iload_n hx hb dX0_factAt_0 rfl (lv_at hl 1 rfl) ?_
    refine lv_tableIn (off := 64) (tgt := 65) hx hb dX0_factAt_1 (by decide +kernel) (by decide +kernel) rfl (by decide) ?_
    refine lv_aload_n hx hb dX0_factAt_65 rfl (lv_at hl 0 rfl) ?_
    refine x_get S in_X0_factAt_X0 hK hW.1 rfl 3 (by decide) (by decide +kernel) rfl rfl dX0_factAt_66 ?_
    exact ro_iret hx hb hr hlk dX0_factAt_69
  · skip
    refine lv_iload_n hx hb dX0_factAt_0 rfl (lv_at hl 1 rfl) ?_
    refine lv_tableOut (tgt := 70) hx hb dX0_factAt_1 (by decide +kernel) (by decide) ?_
    refine lv_aload_n hx hb dX0_factAt_70 rfl (lv_at hl 0 rfl) ?_
    refine x_get S in_X0_factAt_X0 hK hW.1 rfl 4 (by decide) (by decide +kernel) rfl rfl dX0_factAt_71 ?_
    refine x_ifeq hx hb (by omega) (tgt := 81) dX0_factAt_74 (by decide) (fun c_1 => ?_) (fun c_1 => ?_)
    · skip
      refine lv_iconst (v := nI 0) hx hb dX0_factAt_81 (by decide +kernel) ?_
      refine x_e (show nI 0 = nI G by rw [show G = 0 by omega]) ?_
      exact ro_iret hx hb hr hlk dX0_factAt_82
    · skip
      refine lv_iconst (v := nI 1) hx hb dX0_factAt_77 (by decide +kernel) ?_
      refine lv_goto (tgt := 82) hx hb dX0_factAt_78 (by decide) ?_
      refine x_e (show nI 1 = nI G by rw [show G = 1 by omega]) ?_
      exact ro_iret hx hb hr hlk dX0_factAt_82
theorem in_X0_addedTo_X0 : ∀ w ∈ wsX00, w ∈ wsX0_addedTo := by decide +kernel
set_option maxHeartbeats 4000000 in
set_option maxRecDepth 100000 in
theorem c_X0_addedTo (l : Launch) (Γ : GG) (a P U : Nat) (B E : Int32) (G : Nat) (R Bs Gl : Nat → Int32) (hP0 : 1 ≤ P) (hP : P ≤ 12) (d : Int64) (hG : G ≤ 1) : Ro l yX0_addedTo wsX0_addedTo ({ frames := 5, cells := 0, slots := 0, locals := 110 }) Γ [.ref a, .long d] (SW Γ a P U B E G R Bs Gl) (some (.long (addTo P U B E G R Bs Gl d))) := by
  refine Ro.of (cc := cX0_addedTo) (maxL := 7) (ret := some .long) (by decide) rfl (Nat.le_of_ble_eq_true rfl) ?_
  intro p e s m below meth c S hr hlk hK hW ls hl
  obtain ⟨hx, hb, hml, hown, hts⟩ := id S
  have hl : lv_has ls 7 [(0, .ref a), (1, .long d)] := hl
  refine lv_lload_n hx hb dX0_addedTo_0 rfl (lv_at hl 1 rfl) ?_
  refine lv_lstore_n (lv' := [(3, .long d), (0, .ref a), (1, .long d)]) hx hb dX0_addedTo_1 rfl hl (by decide) rfl (fun ls hl => ?_)
  refine lv_iconst (v := nI 0) hx hb dX0_addedTo_2 (by decide +kernel) ?_
  refine lv_istore (lv' := [(5, .int (nI 0)), (3, .long d), (0, .ref a), (1, .long d)]) hx hb dX0_addedTo_3 hl (by decide) rfl (fun ls hl => ?_)
  have hl : lv_has ls 7 [(5, .int (nI 0)), (3, .long (dF (fct P U B E G R Gl) d 0)), (0, .ref a), (1, .long d)] := x_hl hl rfl
  refine x_loop (σ := Nat) (fun u => [(0, .ref a), (3, .long (dF (fct P U B E G R Gl) d u)), (5, .int (nI u))]) (fun u => u ≤ 7) (fun u => 7 - u) (fun u hu ih ls hl => ?_) 0 (by omega) ls (x_hl (lv_sub (l' := [(0, .ref a), (3, .long (dF (fct P U B E G R Gl) d 0)), (5, .int (nI 0))]) hl [2, 1, 0] rfl) rfl)
  obtain ⟨i, rfl⟩ : ∃ z, z = u := ⟨_, rfl⟩
  have hu : i ≤ 7 := hu
  have hl : lv_has ls 7 [(0, .ref a), (3, .long (dF (fct P U B E G R Gl) d i)), (5, .int (nI i))] := hl
  refine lv_iload hx hb dX0_addedTo_5 (lv_at hl 2 rfl) ?_
  refine lv_bipush (v := nI 7) hx hb dX0_addedTo_7 (by decide +kernel) ?_
  refine x_icge hx hb (by omega) (by omega) (tgt := 32) dX0_addedTo_9 (by decide) (fun c_1 => ?_) (fun c_1 => ?_)
  · skip
    refine lv_iconst (v := nI 0) hx hb dX0_addedTo_32 (by decide +kernel) ?_
    refine lv_istore (lv' := [(5, .int (nI 0)), (0, .ref a), (3, .long (dF (fct P U B E G R Gl) d i))]) hx hb dX0_addedTo_33 hl (by decide) rfl (fun ls hl => ?_)
    have hl : lv_has ls 7 [(5, .int (nI 0)), (0, .ref a), (3, .long (dF R (dF (fct P U B E G R Gl) d 7) (3 * 0)))] := x_hl hl (by rw [show dF (fct P U B E G R Gl) d i = dF R (dF (fct P U B E G R Gl) d 7) (3 * 0) by rw [show i = 7 by omega]; rfl])
    refine x_loop (σ := Nat) (fun u => [(0, .ref a), (3, .long (dF R (dF (fct P U B E G R Gl) d 7) (3 * u))), (5, .int (nI u))]) (fun u => u ≤ P) (fun u => P - u) (fun u hu ih ls hl => ?_) 0 (by omega) ls (x_hl (lv_sub (l' := [(0, .ref a), (3, .long (dF R (dF (fct P U B E G R Gl) d 7) (3 * 0))), (5, .int (nI 0))]) hl [1, 2, 0] rfl) rfl)
    obtain ⟨p, rfl⟩ : ∃ z, z = u := ⟨_, rfl⟩
    have hu : p ≤ P := hu
    have hl : lv_has ls 7 [(0, .ref a), (3, .long (dF R (dF (fct P U B E G R Gl) d 7) (3 * p))), (5, .int (nI p))] := hl
    refine lv_iload hx hb dX0_addedTo_35 (lv_at hl 2 rfl) ?_
    refine lv_aload_n hx hb dX0_addedTo_37 rfl (lv_at hl 0 rfl) ?_
    refine x_get S in_X0_addedTo_X0 hK hW.1 rfl 0 (by decide) (by decide +kernel) rfl rfl dX0_addedTo_38 ?_
    refine x_icge hx hb (by omega) (by omega) (tgt := 81) dX0_addedTo_41 (by decide) (fun c_2 => ?_) (fun c_2 => ?_)
    · skip
      refine lv_iconst (v := nI 0) hx hb dX0_addedTo_81 (by decide +kernel) ?_
      refine lv_istore (lv' := [(5, .int (nI 0)), (0, .ref a), (3, .long (dF R (dF (fct P U B E G R Gl) d 7) (3 * p)))]) hx hb dX0_addedTo_82 hl (by decide) rfl (fun ls hl => ?_)
      have hl : lv_has ls 7 [(5, .int (nI 0)), (0, .ref a), (3, .long (dF Bs (dF R (dF (fct P U B E G R Gl) d 7) (3 * P)) 0))] := x_hl hl (by rw [show dF R (dF (fct P U B E G R Gl) d 7) (3 * p) = dF Bs (dF R (dF (fct P U B E G R Gl) d 7) (3 * P)) 0 by rw [show p = P by omega]; rfl])
      refine x_loop (σ := Nat) (fun u => [(0, .ref a), (3, .long (dF Bs (dF R (dF (fct P U B E G R Gl) d 7) (3 * P)) u)), (5, .int (nI u))]) (fun u => u ≤ P - 1) (fun u => P - u) (fun u hu ih ls hl => ?_) 0 (by omega) ls (x_hl (lv_sub (l' := [(0, .ref a), (3, .long (dF Bs (dF R (dF (fct P U B E G R Gl) d 7) (3 * P)) 0)), (5, .int (nI 0))]) hl [1, 2, 0] rfl) rfl)
      obtain ⟨j, rfl⟩ : ∃ z, z = u := ⟨_, rfl⟩
      have hu : j ≤ P - 1 := hu
      have hl : lv_has ls 7 [(0, .ref a), (3, .long (dF Bs (dF R (dF (fct P U B E G R Gl) d 7) (3 * P)) j)), (5, .int (nI j))] := hl
      refine lv_iload hx hb dX0_addedTo_84 (lv_at hl 2 rfl) ?_
      refine lv_aload_n hx hb dX0_addedTo_86 rfl (lv_at hl 0 rfl) ?_
      refine x_get S in_X0_addedTo_X0 hK hW.1 rfl 0 (by decide) (by decide +kernel) rfl rfl dX0_addedTo_87 ?_
      refine lv_iconst (v := nI 1) hx hb dX0_addedTo_90 (by decide +kernel) ?_
      refine x_sub hx hb (by omega) dX0_addedTo_91 ?_
      refine x_icge hx hb (by omega) (by omega) (tgt := 115) dX0_addedTo_92 (by decide) (fun c_3 => ?_) (fun c_3 => ?_)
      · skip
        refine lv_lload_n hx hb dX0_addedTo_115 rfl (lv_at hl 1 rfl) ?_
        refine x_eL (show dF Bs (dF R (dF (fct P U B E G R Gl) d 7) (3 * P)) j = addTo P U B E G R Bs Gl d by rw [show j = P - 1 by omega]; rfl) ?_
        exact ro_lret hx hb hr hlk dX0_addedTo_116
      · skip
        refine lv_lload_n hx hb dX0_addedTo_95 rfl (lv_at hl 1 rfl) ?_
        refine lv_ldc2 hx hb hown (v := 31) (hts _ (by decide +kernel)) dX0_addedTo_96 ?_
        refine lv_lmul hx hb dX0_addedTo_99 ?_
        refine lv_aload_n hx hb dX0_addedTo_100 rfl (lv_at hl 0 rfl) ?_
        refine lv_iload hx hb dX0_addedTo_101 (lv_at hl 2 rfl) ?_
        refine ro_V (rest := [.long ((dF Bs (dF R (dF (fct P U B E G R Gl) d 7) (3 * P)) j) * 31)]) S hK (c_X0_baseAt l Γ a P U B E G R Bs Gl hP0 hP (j) (by omega)) (cwV 1 hts gX0_addedTo_X0_baseAt rfl rfl rfl (by decide +kernel) ⟨Nat.le_of_ble_eq_true rfl, Nat.le_of_ble_eq_true rfl⟩) (Ob.recv hK hW.1 rfl) hW rfl hl.1 rfl (Nat.le_of_ble_eq_true rfl) dX0_addedTo_103 ⟨Nat.zero_le _, Nat.zero_le _⟩ ?_
        refine W.eq (g2 := F0 m 106 ls [.int (Bs j), .long ((dF Bs (dF R (dF (fct P U B E G R Gl) d 7) (3 * P)) j) * 31)]) rfl ?_
        refine lv_i2l hx hb dX0_addedTo_106 rfl ?_
        refine lv_ladd hx hb dX0_addedTo_107 ?_
        refine lv_lstore_n (lv' := [(3, .long (((dF Bs (dF R (dF (fct P U B E G R Gl) d 7) (3 * P)) j) * 31) + ((Bs j).toInt64))), (0, .ref a), (5, .int (nI j))]) hx hb dX0_addedTo_108 rfl hl (by decide) rfl (fun ls hl => ?_)
        refine x_iinc (n := 1) (lv' := [(5, .int (nI (j + 1))), (3, .long (((dF Bs (dF R (dF (fct P U B E G R Gl) d 7) (3 * P)) j) * 31) + ((Bs j).toInt64))), (0, .ref a)]) hx hb dX0_addedTo_109 hl (k := 2) rfl (by decide) rfl (fun ls hl => ?_)
        refine lv_goto (tgt := 84) hx hb dX0_addedTo_112 (by decide) ?_
        have hl : lv_has ls 7 [(5, .int (nI (j + 1))), (3, .long (dF Bs (dF R (dF (fct P U B E G R Gl) d 7) (3 * P)) (j + 1))), (0, .ref a)] := x_hl hl (by rw [← dF_s])
        exact ih (j + 1) (by omega) (by omega) ls (lv_sub hl [2, 1, 0] rfl)
    · skip
      refine lv_iconst (v := nI 0) hx hb dX0_addedTo_44 (by decide +kernel) ?_
      refine lv_istore (lv' := [(6, .int (nI 0)), (0, .ref a), (3, .long (dF R (dF (fct P U B E G R Gl) d 7) (3 * p))), (5, .int (nI p))]) hx hb dX0_addedTo_45 hl (by decide) rfl (fun ls hl => ?_)
      refine x_loop (σ := Nat) (fun u => [(0, .ref a), (3, .long (dF R (dF (fct P U B E G R Gl) d 7) (3 * p + u))), (5, .int (nI p)), (6, .int (nI u))]) (fun u => u ≤ 3) (fun u => 3 - u) (fun u hu3 ih3 ls hl => ?_) 0 (by omega) ls (x_hl (lv_sub (l' := [(0, .ref a), (3, .long (dF R (dF (fct P U B E G R Gl) d 7) (3 * p))), (5, .int (nI p)), (6, .int (nI 0))]) hl [1, 2, 3, 0] rfl) rfl)
      obtain ⟨s, rfl⟩ : ∃ z, z = u := ⟨_, rfl⟩
      have hu3 : s ≤ 3 := hu3
      have hl : lv_has ls 7 [(0, .ref a), (3, .long (dF R (dF (fct P U B E G R Gl) d 7) (3 * p + s))), (5, .int (nI p)), (6, .int (nI s))] := hl
      refine lv_iload hx hb dX0_addedTo_47 (lv_at hl 3 rfl) ?_
      refine lv_iconst (v := nI 3) hx hb dX0_addedTo_49 (by decide +kernel) ?_
      refine x_icge hx hb (by omega) (by omega) (tgt := 75) dX0_addedTo_50 (by decide) (fun c_4 => ?_) (fun c_4 => ?_)
      · skip
        refine x_iinc (n := 1) (lv' := [(5, .int (nI (p + 1))), (0, .ref a), (3, .long (dF R (dF (fct P U B E G R Gl) d 7) (3 * p + s))), (6, .int (nI s))]) hx hb dX0_addedTo_75 hl (k := 2) rfl (by decide) rfl (fun ls hl => ?_)
        refine lv_goto (tgt := 35) hx hb dX0_addedTo_78 (by decide) ?_
        have hl : lv_has ls 7 [(5, .int (nI (p + 1))), (0, .ref a), (3, .long (dF R (dF (fct P U B E G R Gl) d 7) (3 * (p + 1)))), (6, .int (nI s))] := x_hl hl (by rw [show 3 * p + s = 3 * (p + 1) by omega])
        exact ih (p + 1) (by omega) (by omega) ls (lv_sub hl [1, 2, 0] rfl)
      · skip
        refine lv_lload_n hx hb dX0_addedTo_53 rfl (lv_at hl 1 rfl) ?_
        refine lv_ldc2 hx hb hown (v := 31) (hts _ (by decide +kernel)) dX0_addedTo_54 ?_
        refine lv_lmul hx hb dX0_addedTo_57 ?_
        refine lv_aload_n hx hb dX0_addedTo_58 rfl (lv_at hl 0 rfl) ?_
        refine lv_iload hx hb dX0_addedTo_59 (lv_at hl 3 rfl) ?_
        refine lv_iload hx hb dX0_addedTo_61 (lv_at hl 2 rfl) ?_
        refine ro_V (rest := [.long ((dF R (dF (fct P U B E G R Gl) d 7) (3 * p + s)) * 31)]) S hK (c_X0_runeAt l Γ a P U B E G R Bs Gl hP0 hP (s) (p) (by omega) (by omega)) (cwV 2 hts gX0_addedTo_X0_runeAt rfl rfl rfl (by decide +kernel) ⟨Nat.le_of_ble_eq_true rfl, Nat.le_of_ble_eq_true rfl⟩) (Ob.recv hK hW.1 rfl) hW rfl hl.1 rfl (Nat.le_of_ble_eq_true rfl) dX0_addedTo_63 ⟨Nat.zero_le _, Nat.zero_le _⟩ ?_
        refine W.eq (g2 := F0 m 66 ls [.int (R (3 * p + s)), .long ((dF R (dF (fct P U B E G R Gl) d 7) (3 * p + s)) * 31)]) rfl ?_
        refine lv_i2l hx hb dX0_addedTo_66 rfl ?_
        refine lv_ladd hx hb dX0_addedTo_67 ?_
        refine lv_lstore_n (lv' := [(3, .long (((dF R (dF (fct P U B E G R Gl) d 7) (3 * p + s)) * 31) + ((R (3 * p + s)).toInt64))), (0, .ref a), (5, .int (nI p)), (6, .int (nI s))]) hx hb dX0_addedTo_68 rfl hl (by decide) rfl (fun ls hl => ?_)
        refine x_iinc (n := 1) (lv' := [(6, .int (nI (s + 1))), (3, .long (((dF R (dF (fct P U B E G R Gl) d 7) (3 * p + s)) * 31) + ((R (3 * p + s)).toInt64))), (0, .ref a), (5, .int (nI p))]) hx hb dX0_addedTo_69 hl (k := 3) rfl (by decide) rfl (fun ls hl => ?_)
        refine lv_goto (tgt := 47) hx hb dX0_addedTo_72 (by decide) ?_
        have hl : lv_has ls 7 [(6, .int (nI (s + 1))), (3, .long (dF R (dF (fct P U B E G R Gl) d 7) (3 * p + (s + 1)))), (0, .ref a), (5, .int (nI p))] := x_hl hl (by rw [← Nat.add_assoc, ← dF_s])
        exact ih3 (s + 1) (by omega) (by omega) ls (lv_sub hl [2, 1, 3, 0] rfl)
  · skip
    refine lv_lload_n hx hb dX0_addedTo_12 rfl (lv_at hl 1 rfl) ?_
    refine lv_ldc2 hx hb hown (v := 31) (hts _ (by decide +kernel)) dX0_addedTo_13 ?_
    refine lv_lmul hx hb dX0_addedTo_16 ?_
    refine lv_aload_n hx hb dX0_addedTo_17 rfl (lv_at hl 0 rfl) ?_
    refine lv_iload hx hb dX0_addedTo_18 (lv_at hl 2 rfl) ?_
    refine ro_V (rest := [.long ((dF (fct P U B E G R Gl) d i) * 31)]) S hK (c_X0_factAt l Γ a P U B E G R Bs Gl hP0 hP (i) (by omega) hG) (cwV 1 hts gX0_addedTo_X0_factAt rfl rfl rfl (by decide +kernel) ⟨Nat.le_of_ble_eq_true rfl, Nat.le_of_ble_eq_true rfl⟩) (Ob.recv hK hW.1 rfl) hW rfl hl.1 rfl (Nat.le_of_ble_eq_true rfl) dX0_addedTo_20 ⟨Nat.zero_le _, Nat.zero_le _⟩ ?_
    refine W.eq (g2 := F0 m 23 ls [.int (fct P U B E G R Gl i), .long ((dF (fct P U B E G R Gl) d i) * 31)]) rfl ?_
    refine lv_i2l hx hb dX0_addedTo_23 rfl ?_
    refine lv_ladd hx hb dX0_addedTo_24 ?_
    refine lv_lstore_n (lv' := [(3, .long (((dF (fct P U B E G R Gl) d i) * 31) + ((fct P U B E G R Gl i).toInt64))), (0, .ref a), (5, .int (nI i))]) hx hb dX0_addedTo_25 rfl hl (by decide) rfl (fun ls hl => ?_)
    refine x_iinc (n := 1) (lv' := [(5, .int (nI (i + 1))), (3, .long (((dF (fct P U B E G R Gl) d i) * 31) + ((fct P U B E G R Gl i).toInt64))), (0, .ref a)]) hx hb dX0_addedTo_26 hl (k := 2) rfl (by decide) rfl (fun ls hl => ?_)
    refine lv_goto (tgt := 5) hx hb dX0_addedTo_29 (by decide) ?_
    have hl : lv_has ls 7 [(5, .int (nI (i + 1))), (3, .long (dF (fct P U B E G R Gl) d (i + 1))), (0, .ref a)] := x_hl hl (by rw [← dF_s])
    exact ih (i + 1) (by omega) (by omega) ls (lv_sub hl [2, 1, 0] rfl)
end
section
/-! the state of the system: sticks made, breaks; of each stick its places, side up, whether gone, the breaks of its ends; all runes (36 a stick), all bases and glued joints (12 a stick) -/
abbrev St : Type := Nat × Int32 × (Nat → Nat) × (Nat → Nat) × (Nat → Nat) × (Nat → Int32) × (Nat → Int32) × (Nat → Int32) × (Nat → Int32) × (Nat → Int32)
def qn (σ : St) : Nat := σ.1
def qb (σ : St) : Int32 := σ.2.1
def qp (σ : St) : Nat → Nat := σ.2.2.1
def qu (σ : St) : Nat → Nat := σ.2.2.2.1
def qg (σ : St) : Nat → Nat := σ.2.2.2.2.1
def qB (σ : St) : Nat → Int32 := σ.2.2.2.2.2.1
def qE (σ : St) : Nat → Int32 := σ.2.2.2.2.2.2.1
def qr (σ : St) : Nat → Int32 := σ.2.2.2.2.2.2.2.1
def qa (σ : St) : Nat → Int32 := σ.2.2.2.2.2.2.2.2.1
def ql (σ : St) : Nat → Int32 := σ.2.2.2.2.2.2.2.2.2
def rk (σ : St) (k : Nat) : Nat → Int32 := fun i => qr σ (36 * k + i)
def ak (σ : St) (k : Nat) : Nat → Int32 := fun j => qa σ (12 * k + j)
def lk (σ : St) (k : Nat) : Nat → Int32 := fun j => ql σ (12 * k + j)
def okR (x : Int32) : Prop := x = -1 ∨ ∃ r, r < 24 ∧ x = nI r
def thr (σ : St) (n : Nat) : Nat := sN (fun k => if qg σ k = 0 then 1 else 0) n
def Iv (σ : St) : Prop := qn σ ≤ 40 ∧ (∀ k, k < qn σ → 1 ≤ qp σ k ∧ qp σ k ≤ 12 ∧ qu σ k < 3 ∧ qg σ k ≤ 1) ∧ (∀ k, qn σ ≤ k → qg σ k = 0) ∧ (∀ i, okR (qr σ i)) ∧ (∀ i, 36 * qn σ ≤ i → qr σ i = -1) ∧ (∀ i, ql σ i = 0 ∨ ql σ i = 1) ∧ thr σ (qn σ) ≤ 12
/-- one stick of the class -/
def SK (Γ : GG) (σ : St) (k a : Nat) (H : Heap) : Prop := SW Γ a (qp σ k) (qu σ k) (qB σ k) (qE σ k) (qg σ k) (rk σ k) (ak σ k) (lk σ k) H
/-- the class's world -/
def CW (Γ : GG) (x : Nat) (σ : St) (ad : Nat → Nat) (H : Heap) : Prop :=
  Ob Γ 1 x [.ref (x + 1), .int (nI (qn σ)), .int (qb σ)] H ∧ Aq Γ (x + 1) 40 (fun k => if k < qn σ then some (ad k) else none) H ∧ ∀ k, k < qn σ → SK Γ σ k (ad k) H
/-- where the sticks lie -/
def Ly (b0 : Nat) (σ : St) (ad : Nat → Nat) : Prop := (∀ k, k < qn σ → b0 ≤ ad k) ∧ ∀ i j, i < j → j < qn σ → ad i + 4 ≤ ad j
theorem Ly.ne {b0 : Nat} {σ : St} {ad : Nat → Nat} (h : Ly b0 σ ad) {i j : Nat} (hi : i < qn σ) (hj : j < qn σ) (e : ad i = ad j) : i = j := by
  rcases Nat.lt_trichotomy i j with q | q | q
  · have := h.2 i j q hj
    omega
  · exact q
  · have := h.2 j i q hi
    omega
theorem thr_le (σ : St) (n : Nat) : thr σ n ≤ n := by
  have h := sN_le (f := fun k => if qg σ k = 0 then 1 else 0) (c := 1) (n := n) (fun k _ => by split <;> omega)
  unfold thr
  omega
theorem thr_y {σ : St} {n : Nat} (h : qg σ n = 0) : thr σ (n + 1) = thr σ n + 1 := by
  show thr σ n + (if qg σ n = 0 then 1 else 0) = _
  rw [if_pos h]
theorem thr_n {σ : St} {n : Nat} (h : 0 < qg σ n) : thr σ (n + 1) = thr σ n := by
  show thr σ n + (if qg σ n = 0 then 1 else 0) = _
  rw [if_neg (by omega), Nat.add_zero]
/-- the stick by its number, if there is one -/
def sr (σ : St) (ad : Nat → Nat) (x : Int32) : Option Nat := if 0 ≤ x.toInt ∧ x.toInt < (qn σ : Int) then some (ad x.toInt.toNat) else none
theorem sr_nI {σ : St} {ad : Nat → Nat} {k : Nat} (hk : k < 2 ^ 31) : sr σ ad (nI k) = if k < qn σ then some (ad k) else none := by
  unfold sr
  rw [nI_toInt hk, Int.toNat_natCast]
  by_cases h : k < qn σ
  · rw [if_pos h, if_pos (by omega)]
  · rw [if_neg h, if_neg (by omega)]
theorem sr_none {σ : St} {ad : Nat → Nat} {x : Int32} (h : ¬ inb x (qn σ)) : sr σ ad x = none := if_neg h
theorem sr_some {σ : St} {ad : Nat → Nat} {x : Int32} (h : inb x (qn σ)) : sr σ ad x = some (ad x.toInt.toNat) := if_pos h
def tr (σ : St) (ad : Nat → Nat) (k : Nat) : Option Nat := if qg σ k = 0 then some (ad k) else none
/-- sums over the sticks that are there -/
def tS (σ : St) (g : Nat → Int32) : Nat → Int32
  | 0 => nI 0
  | n + 1 => if qg σ n = 0 then tS σ g n + g n else tS σ g n
theorem tS_y {σ : St} {g : Nat → Int32} {n : Nat} (h : qg σ n = 0) : tS σ g (n + 1) = tS σ g n + g n := if_pos h
theorem tS_n {σ : St} {g : Nat → Int32} {n : Nat} (h : 0 < qg σ n) : tS σ g (n + 1) = tS σ g n := if_neg (by omega)
def fk (σ : St) (k : Nat) : Nat → Int32 := fct (qp σ k) (qu σ k) (qB σ k) (qE σ k) (qg σ k) (rk σ k) (lk σ k)
/-- a fits ahead of b, and both are there -/
def fitP (σ : St) (a b : Nat) : Prop := ¬ a = b ∧ qg σ a = 0 ∧ qg σ b = 0 ∧ ¬ qE σ a = -1 ∧ qE σ a = qB σ b
noncomputable def fB (σ : St) (a n : Nat) : Nat := sN (fun k => bP (fitP σ a k)) n
noncomputable def fA (σ : St) (n : Nat) : Nat := sN (fun a => fB σ a (qn σ)) n
theorem fB_le (σ : St) (a n : Nat) : fB σ a n ≤ n := by
  have h := sN_le (f := fun k => bP (fitP σ a k)) (c := 1) (n := n) (fun k _ => bP_le _)
  unfold fB
  omega
theorem fB_s (σ : St) (a n : Nat) : fB σ a (n + 1) = fB σ a n + bP (fitP σ a n) := rfl
theorem fA_s (σ : St) (n : Nat) : fA σ (n + 1) = fA σ n + fB σ n (qn σ) := rfl
theorem fB_gone {σ : St} {a : Nat} (h : 0 < qg σ a) : ∀ n, fB σ a n = 0
  | 0 => rfl
  | n + 1 => by rw [fB_s, fB_gone h n, bP_f (fun q => by have := q.2.1; omega)]
theorem fA_le (σ : St) (n : Nat) : fA σ n ≤ n * qn σ := sN_le fun k _ => fB_le σ k (qn σ)
noncomputable def tot (σ : St) (w : Nat) : Int32 :=
  if w = 0 then nI (thr σ (qn σ)) else if w = 1 then nI (qn σ) else if w = 2 then tS σ (fun k => fk σ k 2) (qn σ) else if w = 3 then qb σ else if w = 4 then tS σ (fun k => fk σ k 3) (qn σ) else if w = 5 then tS σ (fun k => fk σ k 0) (qn σ) else nI (fA σ (qn σ))
def kd (σ : St) (k : Nat) (d : Int64) : Int64 := addTo (qp σ k) (qu σ k) (qB σ k) (qE σ k) (qg σ k) (rk σ k) (ak σ k) (lk σ k) d
def dS (σ : St) (d : Int64) : Nat → Int64
  | 0 => d
  | n + 1 => kd σ n (dS σ d n)
noncomputable def dig (σ : St) : Int64 := dS σ (dF (tot σ) 1019 7) (qn σ)
/-- rhymes -/
def pw (x y : Int32) : Nat := if x = y then 2 else if x / nI 8 = y / nI 8 then 1 else 0
theorem pw_le (x y : Int32) : pw x y ≤ 2 := by
  unfold pw
  split
  · exact Nat.le_refl 2
  · split <;> omega
def rhR : List Int32 → List Int32 → Nat
  | [], _ => 0
  | _ :: _, [] => 0
  | x :: xs, y :: ys => if pw x y = 0 then 0 else pw x y + rhR xs ys
theorem rhR_nil (l : List Int32) : rhR l [] = 0 := by cases l <;> rfl
def lr (f : Nat → Int32) (n : Nat) : List Int32 := (rl f n).reverse
theorem lr_none {f : Nat → Int32} : ∀ {n : Nat}, lst f n = none → lr f n = []
  | 0, _ => rfl
  | n + 1, h => by
    unfold lst at h
    split at h
    · rename_i hf
      have ih := lr_none (n := n) h
      unfold lr at ih ⊢
      rw [rl, if_pos hf, List.append_nil]
      exact ih
    · cases h
theorem lr_some {f : Nat → Int32} : ∀ {n q : Nat}, lst f n = some q → lr f n = f q :: lr f q
  | 0, q, h => by cases h
  | n + 1, q, h => by
    unfold lst at h
    split at h
    · rename_i hf
      have ih := lr_some (n := n) h
      unfold lr at ih ⊢
      rw [rl, if_pos hf, List.append_nil]
      exact ih
    · rename_i hf
      cases h
      unfold lr
      rw [rl, if_neg hf, List.reverse_append]
      rfl
theorem lr_len (f : Nat → Int32) (n : Nat) : (lr f n).length = cU f n := by
  unfold lr
  rw [List.length_reverse, rl_len]
theorem rhR_le : ∀ (a b : List Int32), rhR a b ≤ 2 * a.length
  | [], _ => Nat.zero_le _
  | _ :: _, [] => Nat.zero_le _
  | x :: xs, y :: ys => by
    have h := rhR_le xs ys
    have h2 := pw_le x y
    show (if pw x y = 0 then 0 else pw x y + rhR xs ys) ≤ 2 * (xs.length + 1)
    split <;> omega
/-- the rhyme of stick a with the side su up and stick b as it lies -/
def rhy (σ : St) (a su b t : Nat) : Nat := rhR (lr (rd (rk σ a) su t) (qp σ a)) (lr (rd (rk σ b) (qu σ b) t) (qp σ b))
theorem cU_lst {f : Nat → Int32} : ∀ {n q : Nat}, lst f n = some q → cU f n = cU f q + 1
  | n, q, h => by rw [← lr_len, ← lr_len, lr_some h]; rfl
theorem pn_pred {P : Nat} (h : 1 ≤ P) : nI (P - 1) = pn P := by
  rw [show P = P - 1 + 1 by omega, pn_s, Nat.add_sub_cancel]
section XV
variable {p : Program} {l : Launch} {e : Env} {R : Room} {s : State} {m : MethodId} {args : Array Value} {below : List Frame} {meth : Method} {c : Code} {H : Heap} {locs : List Loc} {cells slots : Nat} {Q : State → Prop}
variable {cc : ByteArray} {pc : Nat} {ls : Array Slot} {rest st0 : List Value} {Γ : GG}
theorem x_v {v w : Value} (h : v = w) (k : W p l e R s m args below meth c H locs cells slots Q (F0 m pc ls (w :: rest))) : W p l e R s m args below meth c H locs cells slots Q (F0 m pc ls (v :: rest)) := by rw [h]; exact k
theorem x_qlen (hx : p.tables.exec = Jvm.exec) (hb : c.code = cc) (hK : xK Γ s) {a n : Nat} {f : Nat → Option Nat} (hA : Aq Γ a n f H) (hdg : decode cc pc = .ok (.arraylength, 1)) (k : W p l e R s m args below meth c H locs cells slots Q (F0 m (pc + 1) ls (.int (nI n) :: rest))) : W p l e R s m args below meth c H locs cells slots Q (F0 m pc ls (.ref a :: rest)) :=
  va_alen (ws := [(a, .inl (Γ.2.2.2, n, .inr (.inr (.inr (.inr f)))))]) hx hb hK (x_P1 hA) 0 2 rfl rfl rfl hdg k
theorem ro_aret {r : Option Nat} {free : Addr → Prop} {nm : String} (hx : p.tables.exec = Jvm.exec) (hb : c.code = cc) (hr : meth.sig.returnType = some (.object nm)) (hlk : meth.locks = false) (hdg : decode cc pc = .ok (.areturn, 1)) : W p l e R s m args below meth c s.heap [] cells slots (MQ below (fun _ st o t => o = .returned (some (va_rf r)) ∧ t.heap = st.heap) args s cells slots free) (F0 m pc ls [va_rf r]) :=
  W.aret hx hb hr (Or.inl ⟨nm, rfl⟩) (va_rf_or r) (fun t ht _ => ⟨rfl, ht⟩) (fun _ h => by cases h) hdg hlk
end XV
end
section
theorem inb_of2 {x : Int32} {n : Nat} (h1 : ¬ x < 0) (h2 : x < nI n) (hn : n < 2 ^ 31) : inb x n :=
  inb_of hn h1 (Int32.not_le.mpr h2)
theorem inb_lt {x : Int32} {n k : Nat} (h : inb x n) (hk : n ≤ k) (hk2 : k < 2 ^ 31) : x < nI k := by
  apply Int32.lt_iff_toInt_lt.mpr
  rw [nI_toInt hk2]
  have := h.2
  omega
theorem lr_zero {f : Nat → Int32} {n : Nat} (h : cU f n = 0) : lr f n = [] := List.eq_nil_of_length_eq_zero (by rw [lr_len, h])
theorem in_X1_stickOrNull_X1 : ∀ w ∈ wsX10, w ∈ wsX1_stickOrNull := by decide +kernel
set_option maxHeartbeats 4000000 in
set_option maxRecDepth 100000 in
theorem c_X1_stickOrNull (l : Launch) (Γ : GG) (x : Nat) (σ : St) (ad : Nat → Nat) (hI : Iv σ) (y : Int32)  : Ro l yX1_stickOrNull wsX1_stickOrNull ({ frames := 0, cells := 0, slots := 0, locals := 0 }) Γ [.ref x, .int y] (CW Γ x σ ad) (some (va_rf (sr σ ad y))) := by
  refine Ro.of (cc := cX1_stickOrNull) (maxL := 2) (ret := some (.object "RuneSticks$Stick")) (by decide) rfl (Nat.le_of_ble_eq_true rfl) ?_
  intro p e s m below meth c S hr hlk hK hW ls hl
  obtain ⟨hx, hb, hml, hown, hts⟩ := id S
  have hl : lv_has ls 2 [(0, .ref x), (1, .int y)] := hl
  have hn40 := hI.1
  refine lv_iload_n hx hb dX1_stickOrNull_0 rfl (lv_at hl 1 rfl) ?_
  refine lv_if_lt (tgt := 13) hx hb dX1_stickOrNull_1 (by decide) (fun c_1 => ?_) (fun c_1 => ?_)
  · skip
    refine lv_null hx hb dX1_stickOrNull_13 ?_
    refine lv_goto (tgt := 23) hx hb dX1_stickOrNull_14 (by decide) ?_
    refine x_v (show Value.null = va_rf (sr σ ad y) by rw [sr_none (fun q => inb_lt0 c_1 q)]; rfl) ?_
    exact ro_aret hx hb hr hlk dX1_stickOrNull_23
  · skip
    refine lv_iload_n hx hb dX1_stickOrNull_4 rfl (lv_at hl 1 rfl) ?_
    refine lv_aload_n hx hb dX1_stickOrNull_5 rfl (lv_at hl 0 rfl) ?_
    refine x_get S in_X1_stickOrNull_X1 hK hW.1 rfl 0 (by decide) (by decide +kernel) rfl rfl dX1_stickOrNull_6 ?_
    refine x_qlen hx hb hK hW.2.1 dX1_stickOrNull_9 ?_
    refine lv_icmp_lt (tgt := 17) hx hb dX1_stickOrNull_10 (by decide) (fun c_2 => ?_) (fun c_2 => ?_)
    · skip
      obtain ⟨k, hk, rfl⟩ := inb_ex (inb_of2 c_1 c_2 (by decide))
      refine lv_aload_n hx hb dX1_stickOrNull_17 rfl (lv_at hl 0 rfl) ?_
      refine x_get S in_X1_stickOrNull_X1 hK hW.1 rfl 0 (by decide) (by decide +kernel) rfl rfl dX1_stickOrNull_18 ?_
      refine lv_iload_n hx hb dX1_stickOrNull_21 rfl (lv_at hl 1 rfl) ?_
      refine x_aald hx hb hK hW.2.1 (by omega) (by omega) dX1_stickOrNull_22 ?_
      refine x_v (show va_rf (if k < qn σ then some (ad k) else none) = va_rf (sr σ ad (nI k)) by rw [sr_nI (by omega)]) ?_
      exact ro_aret hx hb hr hlk dX1_stickOrNull_23
    · skip
      refine lv_null hx hb dX1_stickOrNull_13 ?_
      refine lv_goto (tgt := 23) hx hb dX1_stickOrNull_14 (by decide) ?_
      refine x_v (show Value.null = va_rf (sr σ ad y) by rw [sr_none (fun q => c_2 (inb_lt q (by omega) (by omega)))]; rfl) ?_
      exact ro_aret hx hb hr hlk dX1_stickOrNull_23
theorem in_X1_thereOrNull_X0 : ∀ w ∈ wsX00, w ∈ wsX1_thereOrNull := by decide +kernel
set_option maxHeartbeats 4000000 in
set_option maxRecDepth 100000 in
theorem c_X1_thereOrNull (l : Launch) (Γ : GG) (x : Nat) (σ : St) (ad : Nat → Nat) (hI : Iv σ) (k : Nat) (hk : k < qn σ) : Ro l yX1_thereOrNull wsX1_thereOrNull ({ frames := 1, cells := 0, slots := 0, locals := 21 }) Γ [.ref x, .int (nI k)] (CW Γ x σ ad) (some (va_rf (tr σ ad k))) := by
  refine Ro.of (cc := cX1_thereOrNull) (maxL := 3) (ret := some (.object "RuneSticks$Stick")) (by decide) rfl (Nat.le_of_ble_eq_true rfl) ?_
  intro p e s m below meth c S hr hlk hK hW ls hl
  obtain ⟨hx, hb, hml, hown, hts⟩ := id S
  have hl : lv_has ls 3 [(0, .ref x), (1, .int (nI k))] := hl
  have hn40 := hI.1
  refine lv_aload_n hx hb dX1_thereOrNull_0 rfl (lv_at hl 0 rfl) ?_
  refine lv_iload_n hx hb dX1_thereOrNull_1 rfl (lv_at hl 1 rfl) ?_
  refine ro_V (rest := []) S hK (c_X1_stickOrNull l Γ x σ ad hI (nI k)) (cwV 1 hts gX1_thereOrNull_X1_stickOrNull rfl rfl rfl (by decide +kernel) ⟨Nat.le_of_ble_eq_true rfl, Nat.le_of_ble_eq_true rfl⟩) (Ob.recv hK hW.1 rfl) hW rfl hl.1 rfl (Nat.le_of_ble_eq_true rfl) dX1_thereOrNull_2 ⟨Nat.zero_le _, Nat.zero_le _⟩ ?_
  refine W.eq (g2 := F0 m 5 ls [va_rf (sr σ ad (nI k))]) rfl ?_
  refine x_v (show va_rf (sr σ ad (nI k)) = .ref (ad k) by rw [sr_nI (by omega), if_pos (by omega)]; rfl) ?_
  refine lv_astore_n (lv' := [(2, .ref (ad k)), (0, .ref x), (1, .int (nI k))]) hx hb dX1_thereOrNull_5 rfl hl (by decide) rfl (fun ls hl => ?_)
  refine lv_aload_n hx hb dX1_thereOrNull_6 rfl (lv_at hl 0 rfl) ?_
  refine lv_ifnull hx hb dX1_thereOrNull_7 ?_
  refine lv_aload_n hx hb dX1_thereOrNull_10 rfl (lv_at hl 0 rfl) ?_
  refine x_get S in_X1_thereOrNull_X0 hK (hW.2.2 k (by omega)).1 rfl 4 (by decide) (by decide +kernel) rfl rfl dX1_thereOrNull_11 ?_
  have hgk := (hI.2.1 k (by omega)).2.2.2
  refine x_ifeq hx hb (by omega) (tgt := 21) dX1_thereOrNull_14 (by decide) (fun c_1 => ?_) (fun c_1 => ?_)
  · skip
    refine lv_aload_n hx hb dX1_thereOrNull_21 rfl (lv_at hl 0 rfl) ?_
    refine x_v (show Value.ref (ad k) = va_rf (tr σ ad k) by unfold tr; rw [if_pos c_1]; rfl) ?_
    exact ro_aret hx hb hr hlk dX1_thereOrNull_22
  · skip
    refine lv_null hx hb dX1_thereOrNull_17 ?_
    refine lv_goto (tgt := 22) hx hb dX1_thereOrNull_18 (by decide) ?_
    refine x_v (show Value.null = va_rf (tr σ ad k) by unfold tr; rw [if_neg (by omega)]; rfl) ?_
    exact ro_aret hx hb hr hlk dX1_thereOrNull_22
theorem in_X1_howManyThere_X1 : ∀ w ∈ wsX10, w ∈ wsX1_howManyThere := by decide +kernel
set_option maxHeartbeats 4000000 in
set_option maxRecDepth 100000 in
theorem c_X1_howManyThere (l : Launch) (Γ : GG) (x : Nat) (σ : St) (ad : Nat → Nat) (hI : Iv σ)   : Ro l yX1_howManyThere wsX1_howManyThere ({ frames := 2, cells := 0, slots := 0, locals := 43 }) Γ [.ref x] (CW Γ x σ ad) (some (.int (nI (thr σ (qn σ))))) := by
  refine Ro.of (cc := cX1_howManyThere) (maxL := 3) (ret := some .int) (by decide) rfl (Nat.le_of_ble_eq_true rfl) ?_
  intro p e s m below meth c S hr hlk hK hW ls hl
  obtain ⟨hx, hb, hml, hown, hts⟩ := id S
  have hl : lv_has ls 3 [(0, .ref x)] := hl
  have hn40 := hI.1
  refine lv_iconst (v := nI 0) hx hb dX1_howManyThere_0 (by decide +kernel) ?_
  refine lv_istore_n (lv' := [(1, .int (nI 0)), (0, .ref x)]) hx hb dX1_howManyThere_1 rfl hl (by decide) rfl (fun ls hl => ?_)
  refine lv_iconst (v := nI 0) hx hb dX1_howManyThere_2 (by decide +kernel) ?_
  refine lv_istore_n (lv' := [(2, .int (nI 0)), (1, .int (nI 0)), (0, .ref x)]) hx hb dX1_howManyThere_3 rfl hl (by decide) rfl (fun ls hl => ?_)
  refine x_loop (σ := Nat) (fun u => [(0, .ref x), (1, .int (nI (thr σ u))), (2, .int (nI u))]) (fun u => u ≤ qn σ) (fun u => qn σ - u) (fun u hu ih ls hl => ?_) 0 (by omega) ls (x_hl (lv_sub (l' := [(0, .ref x), (1, .int (nI 0)), (2, .int (nI 0))]) hl [2, 1, 0] rfl) rfl)
  obtain ⟨i, rfl⟩ : ∃ z, z = u := ⟨_, rfl⟩
  have hu : i ≤ qn σ := hu
  have hl : lv_has ls 3 [(0, .ref x), (1, .int (nI (thr σ i))), (2, .int (nI i))] := hl
  refine lv_iload_n hx hb dX1_howManyThere_4 rfl (lv_at hl 2 rfl) ?_
  refine lv_aload_n hx hb dX1_howManyThere_5 rfl (lv_at hl 0 rfl) ?_
  refine x_get S in_X1_howManyThere_X1 hK hW.1 rfl 1 (by decide) (by decide +kernel) rfl rfl dX1_howManyThere_6 ?_
  refine x_icge hx hb (by omega) (by omega) (tgt := 29) dX1_howManyThere_9 (by decide) (fun c_1 => ?_) (fun c_1 => ?_)
  · skip
    refine lv_iload_n hx hb dX1_howManyThere_29 rfl (lv_at hl 1 rfl) ?_
    refine x_e (show nI (thr σ i) = nI (thr σ (qn σ)) by rw [show i = qn σ by omega]) ?_
    exact ro_iret hx hb hr hlk dX1_howManyThere_30
  · skip
    refine lv_aload_n hx hb dX1_howManyThere_12 rfl (lv_at hl 0 rfl) ?_
    refine lv_iload_n hx hb dX1_howManyThere_13 rfl (lv_at hl 2 rfl) ?_
    refine ro_V (rest := []) S hK (c_X1_thereOrNull l Γ x σ ad hI i (by omega)) (cwV 1 hts gX1_howManyThere_X1_thereOrNull rfl rfl rfl (by decide +kernel) ⟨Nat.le_of_ble_eq_true rfl, Nat.le_of_ble_eq_true rfl⟩) (Ob.recv hK hW.1 rfl) hW rfl hl.1 rfl (Nat.le_of_ble_eq_true rfl) dX1_howManyThere_14 ⟨Nat.zero_le _, Nat.zero_le _⟩ ?_
    refine W.eq (g2 := F0 m 17 ls [va_rf (tr σ ad i)]) rfl ?_
    rcases Nat.eq_zero_or_pos (qg σ i) with hg | hg
    · skip
      refine x_v (show va_rf (tr σ ad i) = .ref (ad i) by unfold tr; rw [if_pos hg]; rfl) ?_
      refine lv_ifnull hx hb dX1_howManyThere_17 ?_
      refine x_iinc (n := 1) (lv' := [(1, .int (nI (thr σ i + 1))), (0, .ref x), (2, .int (nI i))]) hx hb dX1_howManyThere_20 hl (k := 1) rfl (by decide) rfl (fun ls hl => ?_)
      refine x_iinc (n := 1) (lv' := [(2, .int (nI (i + 1))), (1, .int (nI (thr σ i + 1))), (0, .ref x)]) hx hb dX1_howManyThere_23 hl (k := 2) rfl (by decide) rfl (fun ls hl => ?_)
      refine lv_goto (tgt := 4) hx hb dX1_howManyThere_26 (by decide) ?_
      have hl : lv_has ls 3 [(2, .int (nI (i + 1))), (1, .int (nI (thr σ (i + 1)))), (0, .ref x)] := x_hl hl (by rw [← thr_y hg])
      exact ih (i + 1) (by omega) (by omega) ls (lv_sub hl [2, 1, 0] rfl)
    · skip
      refine x_v (show va_rf (tr σ ad i) = .null by unfold tr; rw [if_neg (by omega)]; rfl) ?_
      refine lv_ifnullN (tgt := 23) hx hb dX1_howManyThere_17 (by decide) ?_
      refine x_iinc (n := 1) (lv' := [(2, .int (nI (i + 1))), (0, .ref x), (1, .int (nI (thr σ i)))]) hx hb dX1_howManyThere_23 hl (k := 2) rfl (by decide) rfl (fun ls hl => ?_)
      refine lv_goto (tgt := 4) hx hb dX1_howManyThere_26 (by decide) ?_
      have hl : lv_has ls 3 [(2, .int (nI (i + 1))), (0, .ref x), (1, .int (nI (thr σ (i + 1))))] := x_hl hl (by rw [← thr_n hg])
      exact ih (i + 1) (by omega) (by omega) ls (lv_sub hl [1, 2, 0] rfl)
theorem in_X1_sumThere_X1 : ∀ w ∈ wsX10, w ∈ wsX1_sumThere := by decide +kernel
set_option maxHeartbeats 4000000 in
set_option maxRecDepth 100000 in
theorem c_X1_sumThere (l : Launch) (Γ : GG) (x : Nat) (σ : St) (ad : Nat → Nat) (hI : Iv σ) (v : Nat) (hv : v < 7) : Ro l yX1_sumThere wsX1_sumThere ({ frames := 5, cells := 0, slots := 0, locals := 110 }) Γ [.ref x, .int (nI v)] (CW Γ x σ ad) (some (.int (tS σ (fun k => fk σ k v) (qn σ)))) := by
  refine Ro.of (cc := cX1_sumThere) (maxL := 5) (ret := some .int) (by decide) rfl (Nat.le_of_ble_eq_true rfl) ?_
  intro p e s m below meth c S hr hlk hK hW ls hl
  obtain ⟨hx, hb, hml, hown, hts⟩ := id S
  have hl : lv_has ls 5 [(0, .ref x), (1, .int (nI v))] := hl
  have hn40 := hI.1
  refine lv_iconst (v := nI 0) hx hb dX1_sumThere_0 (by decide +kernel) ?_
  refine lv_istore_n (lv' := [(2, .int (nI 0)), (0, .ref x), (1, .int (nI v))]) hx hb dX1_sumThere_1 rfl hl (by decide) rfl (fun ls hl => ?_)
  refine lv_iconst (v := nI 0) hx hb dX1_sumThere_2 (by decide +kernel) ?_
  refine lv_istore_n (lv' := [(3, .int (nI 0)), (2, .int (nI 0)), (0, .ref x), (1, .int (nI v))]) hx hb dX1_sumThere_3 rfl hl (by decide) rfl (fun ls hl => ?_)
  refine x_loop (σ := Nat) (fun u => [(0, .ref x), (1, .int (nI v)), (2, .int (tS σ (fun k => fk σ k v) u)), (3, .int (nI u))]) (fun u => u ≤ qn σ) (fun u => qn σ - u) (fun u hu ih ls hl => ?_) 0 (by omega) ls (x_hl (lv_sub (l' := [(0, .ref x), (1, .int (nI v)), (2, .int (nI 0)), (3, .int (nI 0))]) hl [2, 3, 1, 0] rfl) rfl)
  obtain ⟨i, rfl⟩ : ∃ z, z = u := ⟨_, rfl⟩
  have hu : i ≤ qn σ := hu
  have hl : lv_has ls 5 [(0, .ref x), (1, .int (nI v)), (2, .int (tS σ (fun k => fk σ k v) i)), (3, .int (nI i))] := hl
  refine lv_iload_n hx hb dX1_sumThere_4 rfl (lv_at hl 3 rfl) ?_
  refine lv_aload_n hx hb dX1_sumThere_5 rfl (lv_at hl 0 rfl) ?_
  refine x_get S in_X1_sumThere_X1 hK hW.1 rfl 1 (by decide) (by decide +kernel) rfl rfl dX1_sumThere_6 ?_
  refine x_icge hx hb (by omega) (by omega) (tgt := 39) dX1_sumThere_9 (by decide) (fun c_1 => ?_) (fun c_1 => ?_)
  · skip
    refine lv_iload_n hx hb dX1_sumThere_39 rfl (lv_at hl 2 rfl) ?_
    refine x_e (show tS σ (fun k => fk σ k v) i = tS σ (fun k => fk σ k v) (qn σ) by rw [show i = qn σ by omega]) ?_
    exact ro_iret hx hb hr hlk dX1_sumThere_40
  · skip
    refine lv_aload_n hx hb dX1_sumThere_12 rfl (lv_at hl 0 rfl) ?_
    refine lv_iload_n hx hb dX1_sumThere_13 rfl (lv_at hl 3 rfl) ?_
    refine ro_V (rest := []) S hK (c_X1_thereOrNull l Γ x σ ad hI i (by omega)) (cwV 1 hts gX1_sumThere_X1_thereOrNull rfl rfl rfl (by decide +kernel) ⟨Nat.le_of_ble_eq_true rfl, Nat.le_of_ble_eq_true rfl⟩) (Ob.recv hK hW.1 rfl) hW rfl hl.1 rfl (Nat.le_of_ble_eq_true rfl) dX1_sumThere_14 ⟨Nat.zero_le _, Nat.zero_le _⟩ ?_
    refine W.eq (g2 := F0 m 17 ls [va_rf (tr σ ad i)]) rfl ?_
    rcases Nat.eq_zero_or_pos (qg σ i) with hg | hg
    · skip
      refine x_v (show va_rf (tr σ ad i) = .ref (ad i) by unfold tr; rw [if_pos hg]; rfl) ?_
      refine lv_astore (lv' := [(4, .ref (ad i)), (0, .ref x), (1, .int (nI v)), (2, .int (tS σ (fun k => fk σ k v) i)), (3, .int (nI i))]) hx hb dX1_sumThere_17 hl (by decide) rfl (fun ls hl => ?_)
      refine lv_aload hx hb dX1_sumThere_19 (lv_at hl 0 rfl) ?_
      refine lv_ifnull hx hb dX1_sumThere_21 ?_
      refine lv_iload_n hx hb dX1_sumThere_24 rfl (lv_at hl 3 rfl) ?_
      refine lv_aload hx hb dX1_sumThere_25 (lv_at hl 0 rfl) ?_
      refine lv_iload_n hx hb dX1_sumThere_27 rfl (lv_at hl 2 rfl) ?_
      refine ro_V (rest := [.int (tS σ (fun k => fk σ k v) i)]) S hK (c_X0_factAt l Γ (ad i) (qp σ i) (qu σ i) (qB σ i) (qE σ i) (qg σ i) (rk σ i) (ak σ i) (lk σ i) (hI.2.1 i (by omega)).1 (hI.2.1 i (by omega)).2.1 v (by omega) (hI.2.1 i (by omega)).2.2.2) (cwV 1 hts gX1_sumThere_X0_factAt rfl rfl rfl (by decide +kernel) ⟨Nat.le_of_ble_eq_true rfl, Nat.le_of_ble_eq_true rfl⟩) (Ob.recv hK (hW.2.2 i (by omega)).1 rfl) (hW.2.2 i (by omega)) rfl hl.1 rfl (Nat.le_of_ble_eq_true rfl) dX1_sumThere_28 ⟨Nat.zero_le _, Nat.zero_le _⟩ ?_
      refine W.eq (g2 := F0 m 31 ls [.int (fk σ i v), .int (tS σ (fun k => fk σ k v) i)]) rfl ?_
      refine lv_iadd hx hb dX1_sumThere_31 ?_
      refine lv_istore_n (lv' := [(2, .int ((tS σ (fun k => fk σ k v) i) + (fk σ i v))), (4, .ref (ad i)), (0, .ref x), (1, .int (nI v)), (3, .int (nI i))]) hx hb dX1_sumThere_32 rfl hl (by decide) rfl (fun ls hl => ?_)
      refine x_iinc (n := 1) (lv' := [(3, .int (nI (i + 1))), (2, .int ((tS σ (fun k => fk σ k v) i) + (fk σ i v))), (4, .ref (ad i)), (0, .ref x), (1, .int (nI v))]) hx hb dX1_sumThere_33 hl (k := 4) rfl (by decide) rfl (fun ls hl => ?_)
      refine lv_goto (tgt := 4) hx hb dX1_sumThere_36 (by decide) ?_
      have hl : lv_has ls 5 [(3, .int (nI (i + 1))), (2, .int (tS σ (fun k => fk σ k v) (i + 1))), (4, .ref (ad i)), (0, .ref x), (1, .int (nI v))] := x_hl hl (by rw [show tS σ (fun k => fk σ k v) i + fk σ i v = tS σ (fun k => fk σ k v) (i + 1) from (tS_y (g := (fun k => fk σ k v)) hg).symm])
      exact ih (i + 1) (by omega) (by omega) ls (lv_sub hl [3, 4, 1, 0] rfl)
    · skip
      refine x_v (show va_rf (tr σ ad i) = .null by unfold tr; rw [if_neg (by omega)]; rfl) ?_
      refine lv_astoreN (lv' := [(4, .null), (0, .ref x), (1, .int (nI v)), (2, .int (tS σ (fun k => fk σ k v) i)), (3, .int (nI i))]) hx hb dX1_sumThere_17 hl (by decide) rfl (fun ls hl => ?_)
      refine lv_aloadN hx hb dX1_sumThere_19 (lv_at hl 0 rfl) ?_
      refine lv_ifnullN (tgt := 33) hx hb dX1_sumThere_21 (by decide) ?_
      refine x_iinc (n := 1) (lv' := [(3, .int (nI (i + 1))), (4, .null), (0, .ref x), (1, .int (nI v)), (2, .int (tS σ (fun k => fk σ k v) i))]) hx hb dX1_sumThere_33 hl (k := 4) rfl (by decide) rfl (fun ls hl => ?_)
      refine lv_goto (tgt := 4) hx hb dX1_sumThere_36 (by decide) ?_
      have hl : lv_has ls 5 [(3, .int (nI (i + 1))), (4, .null), (0, .ref x), (1, .int (nI v)), (2, .int (tS σ (fun k => fk σ k v) (i + 1)))] := x_hl hl (by rw [← tS_n (g := (fun k => fk σ k v)) hg])
      exact ih (i + 1) (by omega) (by omega) ls (lv_sub hl [2, 3, 4, 0] rfl)
theorem in_X1_fittingBehind_X1 : ∀ w ∈ wsX10, w ∈ wsX1_fittingBehind := by decide +kernel
set_option maxHeartbeats 4000000 in
set_option maxRecDepth 100000 in
theorem c_X1_fittingBehind (l : Launch) (Γ : GG) (x : Nat) (σ : St) (ad : Nat → Nat) (hI : Iv σ) (b0 : Nat) (a : Nat) (hy : Ly b0 σ ad) (ha : a < qn σ) (ha0 : qg σ a = 0) : Ro l yX1_fittingBehind wsX1_fittingBehind ({ frames := 2, cells := 0, slots := 0, locals := 43 }) Γ [.ref x, .ref (ad a)] (CW Γ x σ ad) (some (.int (nI (fB σ a (qn σ))))) := by
  refine Ro.of (cc := cX1_fittingBehind) (maxL := 5) (ret := some .int) (by decide) rfl (Nat.le_of_ble_eq_true rfl) ?_
  intro p e s m below meth c S hr hlk hK hW ls hl
  obtain ⟨hx, hb, hml, hown, hts⟩ := id S
  have hl : lv_has ls 5 [(0, .ref x), (1, .ref (ad a))] := hl
  have hn40 := hI.1
  refine lv_iconst (v := nI 0) hx hb dX1_fittingBehind_0 (by decide +kernel) ?_
  refine lv_istore_n (lv' := [(2, .int (nI 0)), (0, .ref x), (1, .ref (ad a))]) hx hb dX1_fittingBehind_1 rfl hl (by decide) rfl (fun ls hl => ?_)
  refine lv_iconst (v := nI 0) hx hb dX1_fittingBehind_2 (by decide +kernel) ?_
  refine lv_istore_n (lv' := [(3, .int (nI 0)), (2, .int (nI 0)), (0, .ref x), (1, .ref (ad a))]) hx hb dX1_fittingBehind_3 rfl hl (by decide) rfl (fun ls hl => ?_)
  refine x_loop (σ := Nat) (fun u => [(0, .ref x), (1, .ref (ad a)), (2, .int (nI (fB σ a u))), (3, .int (nI u))]) (fun u => u ≤ qn σ) (fun u => qn σ - u) (fun u hu ih ls hl => ?_) 0 (by omega) ls (x_hl (lv_sub (l' := [(0, .ref x), (1, .ref (ad a)), (2, .int (nI 0)), (3, .int (nI 0))]) hl [2, 3, 1, 0] rfl) rfl)
  obtain ⟨i, rfl⟩ : ∃ z, z = u := ⟨_, rfl⟩
  have hu : i ≤ qn σ := hu
  have hl : lv_has ls 5 [(0, .ref x), (1, .ref (ad a)), (2, .int (nI (fB σ a i))), (3, .int (nI i))] := hl
  refine lv_iload_n hx hb dX1_fittingBehind_4 rfl (lv_at hl 3 rfl) ?_
  refine lv_aload_n hx hb dX1_fittingBehind_5 rfl (lv_at hl 0 rfl) ?_
  refine x_get S in_X1_fittingBehind_X1 hK hW.1 rfl 1 (by decide) (by decide +kernel) rfl rfl dX1_fittingBehind_6 ?_
  refine x_icge hx hb (by omega) (by omega) (tgt := 42) dX1_fittingBehind_9 (by decide) (fun c_1 => ?_) (fun c_1 => ?_)
  · skip
    refine lv_iload_n hx hb dX1_fittingBehind_42 rfl (lv_at hl 2 rfl) ?_
    refine x_e (show nI (fB σ a i) = nI (fB σ a (qn σ)) by rw [show i = qn σ by omega]) ?_
    exact ro_iret hx hb hr hlk dX1_fittingBehind_43
  · skip
    refine lv_aload_n hx hb dX1_fittingBehind_12 rfl (lv_at hl 0 rfl) ?_
    refine lv_iload_n hx hb dX1_fittingBehind_13 rfl (lv_at hl 3 rfl) ?_
    refine ro_V (rest := []) S hK (c_X1_thereOrNull l Γ x σ ad hI i (by omega)) (cwV 1 hts gX1_fittingBehind_X1_thereOrNull rfl rfl rfl (by decide +kernel) ⟨Nat.le_of_ble_eq_true rfl, Nat.le_of_ble_eq_true rfl⟩) (Ob.recv hK hW.1 rfl) hW rfl hl.1 rfl (Nat.le_of_ble_eq_true rfl) dX1_fittingBehind_14 ⟨Nat.zero_le _, Nat.zero_le _⟩ ?_
    refine W.eq (g2 := F0 m 17 ls [va_rf (tr σ ad i)]) rfl ?_
    rcases Nat.eq_zero_or_pos (qg σ i) with hg | hg
    · skip
      refine x_v (show va_rf (tr σ ad i) = .ref (ad i) by unfold tr; rw [if_pos hg]; rfl) ?_
      refine lv_astore (lv' := [(4, .ref (ad i)), (0, .ref x), (1, .ref (ad a)), (2, .int (nI (fB σ a i))), (3, .int (nI i))]) hx hb dX1_fittingBehind_17 hl (by decide) rfl (fun ls hl => ?_)
      refine lv_aload hx hb dX1_fittingBehind_19 (lv_at hl 0 rfl) ?_
      refine lv_ifnull hx hb dX1_fittingBehind_21 ?_
      refine lv_aload_n hx hb dX1_fittingBehind_24 rfl (lv_at hl 2 rfl) ?_
      refine lv_aload hx hb dX1_fittingBehind_25 (lv_at hl 0 rfl) ?_
      refine ro_V (rest := []) S hK (c_X0_fitsAheadOf l Γ (ad a) (qp σ a) (qu σ a) (qB σ a) (qE σ a) (qg σ a) (rk σ a) (ak σ a) (lk σ a) (hI.2.1 a (by omega)).1 (hI.2.1 a (by omega)).2.1 (ad i) (qp σ i) (qu σ i) (qB σ i) (qE σ i) (qg σ i) (ad i + 1) (ad i + 2) (ad i + 3)) (cwV 1 hts gX1_fittingBehind_X0_fitsAheadOf rfl rfl rfl (by decide +kernel) ⟨Nat.le_of_ble_eq_true rfl, Nat.le_of_ble_eq_true rfl⟩) (Ob.recv hK (hW.2.2 a (by omega)).1 rfl) ⟨hW.2.2 a (by omega), (hW.2.2 i (by omega)).1⟩ rfl hl.1 rfl (Nat.le_of_ble_eq_true rfl) dX1_fittingBehind_27 ⟨Nat.zero_le _, Nat.zero_le _⟩ ?_
      refine W.eq (g2 := F0 m 30 ls [.int (nI (bP (¬ ad a = ad i ∧ ¬ qE σ a = -1 ∧ qE σ a = qB σ i)))]) rfl ?_
      have hbb := bP_le (¬ ad a = ad i ∧ ¬ qE σ a = -1 ∧ qE σ a = qB σ i)
      refine x_ifeq hx hb (by omega) (tgt := 36) dX1_fittingBehind_30 (by decide) (fun c_2 => ?_) (fun c_2 => ?_)
      · skip
        refine x_iinc (n := 1) (lv' := [(3, .int (nI (i + 1))), (4, .ref (ad i)), (0, .ref x), (1, .ref (ad a)), (2, .int (nI (fB σ a i)))]) hx hb dX1_fittingBehind_36 hl (k := 4) rfl (by decide) rfl (fun ls hl => ?_)
        refine lv_goto (tgt := 4) hx hb dX1_fittingBehind_39 (by decide) ?_
        have hl : lv_has ls 5 [(3, .int (nI (i + 1))), (4, .ref (ad i)), (0, .ref x), (1, .ref (ad a)), (2, .int (nI (fB σ a (i + 1))))] := x_hl hl (by rw [show fB σ a i = fB σ a (i + 1) by rw [fB_s, bP_f (fun q => bP_0 c_2 ⟨fun z => q.1 (hy.ne (by omega) (by omega) z), q.2.2.2⟩), Nat.add_zero]])
        exact ih (i + 1) (by omega) (by omega) ls (lv_sub hl [2, 3, 4, 0] rfl)
      · skip
        refine x_iinc (n := 1) (lv' := [(2, .int (nI (fB σ a i + 1))), (4, .ref (ad i)), (0, .ref x), (1, .ref (ad a)), (3, .int (nI i))]) hx hb dX1_fittingBehind_33 hl (k := 3) rfl (by decide) rfl (fun ls hl => ?_)
        refine x_iinc (n := 1) (lv' := [(3, .int (nI (i + 1))), (2, .int (nI (fB σ a i + 1))), (4, .ref (ad i)), (0, .ref x), (1, .ref (ad a))]) hx hb dX1_fittingBehind_36 hl (k := 4) rfl (by decide) rfl (fun ls hl => ?_)
        refine lv_goto (tgt := 4) hx hb dX1_fittingBehind_39 (by decide) ?_
        have hl : lv_has ls 5 [(3, .int (nI (i + 1))), (2, .int (nI (fB σ a (i + 1)))), (4, .ref (ad i)), (0, .ref x), (1, .ref (ad a))] := x_hl hl (by rw [show fB σ a i + 1 = fB σ a (i + 1) by rw [fB_s, bP_t ⟨fun z => (bP_1 c_2).1 (by rw [z]), ha0, hg, (bP_1 c_2).2⟩]])
        exact ih (i + 1) (by omega) (by omega) ls (lv_sub hl [3, 4, 1, 0] rfl)
    · skip
      refine x_v (show va_rf (tr σ ad i) = .null by unfold tr; rw [if_neg (by omega)]; rfl) ?_
      refine lv_astoreN (lv' := [(4, .null), (0, .ref x), (1, .ref (ad a)), (2, .int (nI (fB σ a i))), (3, .int (nI i))]) hx hb dX1_fittingBehind_17 hl (by decide) rfl (fun ls hl => ?_)
      refine lv_aloadN hx hb dX1_fittingBehind_19 (lv_at hl 0 rfl) ?_
      refine lv_ifnullN (tgt := 36) hx hb dX1_fittingBehind_21 (by decide) ?_
      refine x_iinc (n := 1) (lv' := [(3, .int (nI (i + 1))), (4, .null), (0, .ref x), (1, .ref (ad a)), (2, .int (nI (fB σ a i)))]) hx hb dX1_fittingBehind_36 hl (k := 4) rfl (by decide) rfl (fun ls hl => ?_)
      refine lv_goto (tgt := 4) hx hb dX1_fittingBehind_39 (by decide) ?_
      have hl : lv_has ls 5 [(3, .int (nI (i + 1))), (4, .null), (0, .ref x), (1, .ref (ad a)), (2, .int (nI (fB σ a (i + 1))))] := x_hl hl (by rw [show fB σ a i = fB σ a (i + 1) by rw [fB_s, bP_f (fun q => by have := q.2.2.1; omega), Nat.add_zero]])
      exact ih (i + 1) (by omega) (by omega) ls (lv_sub hl [2, 3, 4, 0] rfl)
theorem in_X1_fittingPairs_X1 : ∀ w ∈ wsX10, w ∈ wsX1_fittingPairs := by decide +kernel
set_option maxHeartbeats 4000000 in
set_option maxRecDepth 100000 in
theorem c_X1_fittingPairs (l : Launch) (Γ : GG) (x : Nat) (σ : St) (ad : Nat → Nat) (hI : Iv σ) (b0 : Nat) (hy : Ly b0 σ ad) : Ro l yX1_fittingPairs wsX1_fittingPairs ({ frames := 3, cells := 0, slots := 0, locals := 67 }) Γ [.ref x] (CW Γ x σ ad) (some (.int (nI (fA σ (qn σ))))) := by
  refine Ro.of (cc := cX1_fittingPairs) (maxL := 4) (ret := some .int) (by decide) rfl (Nat.le_of_ble_eq_true rfl) ?_
  intro p e s m below meth c S hr hlk hK hW ls hl
  obtain ⟨hx, hb, hml, hown, hts⟩ := id S
  have hl : lv_has ls 4 [(0, .ref x)] := hl
  have hn40 := hI.1
  refine lv_iconst (v := nI 0) hx hb dX1_fittingPairs_0 (by decide +kernel) ?_
  refine lv_istore_n (lv' := [(1, .int (nI 0)), (0, .ref x)]) hx hb dX1_fittingPairs_1 rfl hl (by decide) rfl (fun ls hl => ?_)
  refine lv_iconst (v := nI 0) hx hb dX1_fittingPairs_2 (by decide +kernel) ?_
  refine lv_istore_n (lv' := [(2, .int (nI 0)), (1, .int (nI 0)), (0, .ref x)]) hx hb dX1_fittingPairs_3 rfl hl (by decide) rfl (fun ls hl => ?_)
  refine x_loop (σ := Nat) (fun u => [(0, .ref x), (1, .int (nI (fA σ u))), (2, .int (nI u))]) (fun u => u ≤ qn σ) (fun u => qn σ - u) (fun u hu ih ls hl => ?_) 0 (by omega) ls (x_hl (lv_sub (l' := [(0, .ref x), (1, .int (nI 0)), (2, .int (nI 0))]) hl [2, 1, 0] rfl) rfl)
  obtain ⟨i, rfl⟩ : ∃ z, z = u := ⟨_, rfl⟩
  have hu : i ≤ qn σ := hu
  have hl : lv_has ls 4 [(0, .ref x), (1, .int (nI (fA σ i))), (2, .int (nI i))] := hl
  refine lv_iload_n hx hb dX1_fittingPairs_4 rfl (lv_at hl 2 rfl) ?_
  refine lv_aload_n hx hb dX1_fittingPairs_5 rfl (lv_at hl 0 rfl) ?_
  refine x_get S in_X1_fittingPairs_X1 hK hW.1 rfl 1 (by decide) (by decide +kernel) rfl rfl dX1_fittingPairs_6 ?_
  refine x_icge hx hb (by omega) (by omega) (tgt := 36) dX1_fittingPairs_9 (by decide) (fun c_1 => ?_) (fun c_1 => ?_)
  · skip
    refine lv_iload_n hx hb dX1_fittingPairs_36 rfl (lv_at hl 1 rfl) ?_
    refine x_e (show nI (fA σ i) = nI (fA σ (qn σ)) by rw [show i = qn σ by omega]) ?_
    exact ro_iret hx hb hr hlk dX1_fittingPairs_37
  · skip
    refine lv_aload_n hx hb dX1_fittingPairs_12 rfl (lv_at hl 0 rfl) ?_
    refine lv_iload_n hx hb dX1_fittingPairs_13 rfl (lv_at hl 2 rfl) ?_
    refine ro_V (rest := []) S hK (c_X1_thereOrNull l Γ x σ ad hI i (by omega)) (cwV 1 hts gX1_fittingPairs_X1_thereOrNull rfl rfl rfl (by decide +kernel) ⟨Nat.le_of_ble_eq_true rfl, Nat.le_of_ble_eq_true rfl⟩) (Ob.recv hK hW.1 rfl) hW rfl hl.1 rfl (Nat.le_of_ble_eq_true rfl) dX1_fittingPairs_14 ⟨Nat.zero_le _, Nat.zero_le _⟩ ?_
    refine W.eq (g2 := F0 m 17 ls [va_rf (tr σ ad i)]) rfl ?_
    rcases Nat.eq_zero_or_pos (qg σ i) with hg | hg
    · skip
      refine x_v (show va_rf (tr σ ad i) = .ref (ad i) by unfold tr; rw [if_pos hg]; rfl) ?_
      refine lv_astore_n (lv' := [(3, .ref (ad i)), (0, .ref x), (1, .int (nI (fA σ i))), (2, .int (nI i))]) hx hb dX1_fittingPairs_17 rfl hl (by decide) rfl (fun ls hl => ?_)
      refine lv_aload_n hx hb dX1_fittingPairs_18 rfl (lv_at hl 0 rfl) ?_
      refine lv_ifnull hx hb dX1_fittingPairs_19 ?_
      refine lv_iload_n hx hb dX1_fittingPairs_22 rfl (lv_at hl 2 rfl) ?_
      refine lv_aload_n hx hb dX1_fittingPairs_23 rfl (lv_at hl 1 rfl) ?_
      refine lv_aload_n hx hb dX1_fittingPairs_24 rfl (lv_at hl 0 rfl) ?_
      refine ro_V (rest := [.int (nI (fA σ i))]) S hK (c_X1_fittingBehind l Γ x σ ad hI b0 i hy (by omega) hg) (cwV 1 hts gX1_fittingPairs_X1_fittingBehind rfl rfl rfl (by decide +kernel) ⟨Nat.le_of_ble_eq_true rfl, Nat.le_of_ble_eq_true rfl⟩) (Ob.recv hK hW.1 rfl) hW rfl hl.1 rfl (Nat.le_of_ble_eq_true rfl) dX1_fittingPairs_25 ⟨Nat.zero_le _, Nat.zero_le _⟩ ?_
      refine W.eq (g2 := F0 m 28 ls [.int (nI (fB σ i (qn σ))), .int (nI (fA σ i))]) rfl ?_
      refine x_add hx hb dX1_fittingPairs_28 ?_
      refine lv_istore_n (lv' := [(1, .int (nI ((fA σ i) + (fB σ i (qn σ))))), (3, .ref (ad i)), (0, .ref x), (2, .int (nI i))]) hx hb dX1_fittingPairs_29 rfl hl (by decide) rfl (fun ls hl => ?_)
      refine x_iinc (n := 1) (lv' := [(2, .int (nI (i + 1))), (1, .int (nI ((fA σ i) + (fB σ i (qn σ))))), (3, .ref (ad i)), (0, .ref x)]) hx hb dX1_fittingPairs_30 hl (k := 3) rfl (by decide) rfl (fun ls hl => ?_)
      refine lv_goto (tgt := 4) hx hb dX1_fittingPairs_33 (by decide) ?_
      have hl : lv_has ls 4 [(2, .int (nI (i + 1))), (1, .int (nI (fA σ (i + 1)))), (3, .ref (ad i)), (0, .ref x)] := x_hl hl (by rw [← fA_s])
      exact ih (i + 1) (by omega) (by omega) ls (lv_sub hl [3, 1, 0] rfl)
    · skip
      refine x_v (show va_rf (tr σ ad i) = .null by unfold tr; rw [if_neg (by omega)]; rfl) ?_
      refine lv_astore_nN (lv' := [(3, .null), (0, .ref x), (1, .int (nI (fA σ i))), (2, .int (nI i))]) hx hb dX1_fittingPairs_17 rfl hl (by decide) rfl (fun ls hl => ?_)
      refine lv_aload_nN hx hb dX1_fittingPairs_18 rfl (lv_at hl 0 rfl) ?_
      refine lv_ifnullN (tgt := 30) hx hb dX1_fittingPairs_19 (by decide) ?_
      refine x_iinc (n := 1) (lv' := [(2, .int (nI (i + 1))), (3, .null), (0, .ref x), (1, .int (nI (fA σ i)))]) hx hb dX1_fittingPairs_30 hl (k := 3) rfl (by decide) rfl (fun ls hl => ?_)
      refine lv_goto (tgt := 4) hx hb dX1_fittingPairs_33 (by decide) ?_
      have hl : lv_has ls 4 [(2, .int (nI (i + 1))), (3, .null), (0, .ref x), (1, .int (nI (fA σ (i + 1))))] := x_hl hl (by rw [show fA σ i = fA σ (i + 1) by rw [fA_s, fB_gone hg, Nat.add_zero]])
      exact ih (i + 1) (by omega) (by omega) ls (lv_sub hl [2, 3, 0] rfl)
theorem in_X1_total_X1 : ∀ w ∈ wsX10, w ∈ wsX1_total := by decide +kernel
set_option maxHeartbeats 4000000 in
set_option maxRecDepth 100000 in
theorem c_X1_total (l : Launch) (Γ : GG) (x : Nat) (σ : St) (ad : Nat → Nat) (hI : Iv σ) (b0 : Nat) (v : Nat) (hy : Ly b0 σ ad) (hv : v < 7) : Ro l yX1_total wsX1_total ({ frames := 6, cells := 0, slots := 0, locals := 134 }) Γ [.ref x, .int (nI v)] (CW Γ x σ ad) (some (.int (tot σ v))) := by
  refine Ro.of (cc := cX1_total) (maxL := 2) (ret := some .int) (by decide) rfl (Nat.le_of_ble_eq_true rfl) ?_
  intro p e s m below meth c S hr hlk hK hW ls hl
  obtain ⟨hx, hb, hml, hown, hts⟩ := id S
  have hl : lv_has ls 2 [(0, .ref x), (1, .int (nI v))] := hl
  have h9 : v = 0 ∨ v = 1 ∨ v = 2 ∨ v = 3 ∨ v = 4 ∨ v = 5 ∨ v = 6 := by omega
  rcases h9 with rfl | rfl | rfl | rfl | rfl | rfl | rfl
  · skip
    refine lv_iload_n hx hb dX1_total_0 rfl (lv_at hl 1 rfl) ?_
    refine lv_tableIn (off := 39) (tgt := 40) hx hb dX1_total_1 (by decide +kernel) (by decide +kernel) rfl (by decide) ?_
    refine lv_aload_n hx hb dX1_total_40 rfl (lv_at hl 0 rfl) ?_
    refine ro_V (rest := []) S hK (c_X1_howManyThere l Γ x σ ad hI ) (cwV 0 hts gX1_total_X1_howManyThere rfl rfl rfl (by decide +kernel) ⟨Nat.le_of_ble_eq_true rfl, Nat.le_of_ble_eq_true rfl⟩) (Ob.recv hK hW.1 rfl) hW rfl hl.1 rfl (Nat.le_of_ble_eq_true rfl) dX1_total_41 ⟨Nat.zero_le _, Nat.zero_le _⟩ ?_
    refine W.eq (g2 := F0 m 44 ls [.int (nI (thr σ (qn σ)))]) rfl ?_
    exact ro_iret hx hb hr hlk dX1_total_44
  · skip
    refine lv_iload_n hx hb dX1_total_0 rfl (lv_at hl 1 rfl) ?_
    refine lv_tableIn (off := 44) (tgt := 45) hx hb dX1_total_1 (by decide +kernel) (by decide +kernel) rfl (by decide) ?_
    refine lv_aload_n hx hb dX1_total_45 rfl (lv_at hl 0 rfl) ?_
    refine x_get S in_X1_total_X1 hK hW.1 rfl 1 (by decide) (by decide +kernel) rfl rfl dX1_total_46 ?_
    exact ro_iret hx hb hr hlk dX1_total_49
  · skip
    refine lv_iload_n hx hb dX1_total_0 rfl (lv_at hl 1 rfl) ?_
    refine lv_tableIn (off := 49) (tgt := 50) hx hb dX1_total_1 (by decide +kernel) (by decide +kernel) rfl (by decide) ?_
    refine lv_aload_n hx hb dX1_total_50 rfl (lv_at hl 0 rfl) ?_
    refine lv_iconst (v := nI 2) hx hb dX1_total_51 (by decide +kernel) ?_
    refine ro_V (rest := []) S hK (c_X1_sumThere l Γ x σ ad hI 2 (by omega)) (cwV 1 hts gX1_total_X1_sumThere rfl rfl rfl (by decide +kernel) ⟨Nat.le_of_ble_eq_true rfl, Nat.le_of_ble_eq_true rfl⟩) (Ob.recv hK hW.1 rfl) hW rfl hl.1 rfl (Nat.le_of_ble_eq_true rfl) dX1_total_52 ⟨Nat.zero_le _, Nat.zero_le _⟩ ?_
    refine W.eq (g2 := F0 m 55 ls [.int (tS σ (fun k => fk σ k 2) (qn σ))]) rfl ?_
    exact ro_iret hx hb hr hlk dX1_total_55
  · skip
    refine lv_iload_n hx hb dX1_total_0 rfl (lv_at hl 1 rfl) ?_
    refine lv_tableIn (off := 55) (tgt := 56) hx hb dX1_total_1 (by decide +kernel) (by decide +kernel) rfl (by decide) ?_
    refine lv_aload_n hx hb dX1_total_56 rfl (lv_at hl 0 rfl) ?_
    refine x_get S in_X1_total_X1 hK hW.1 rfl 2 (by decide) (by decide +kernel) rfl rfl dX1_total_57 ?_
    exact ro_iret hx hb hr hlk dX1_total_60
  · skip
    refine lv_iload_n hx hb dX1_total_0 rfl (lv_at hl 1 rfl) ?_
    refine lv_tableIn (off := 60) (tgt := 61) hx hb dX1_total_1 (by decide +kernel) (by decide +kernel) rfl (by decide) ?_
    refine lv_aload_n hx hb dX1_total_61 rfl (lv_at hl 0 rfl) ?_
    refine lv_iconst (v := nI 3) hx hb dX1_total_62 (by decide +kernel) ?_
    refine ro_V (rest := []) S hK (c_X1_sumThere l Γ x σ ad hI 3 (by omega)) (cwV 1 hts gX1_total_X1_sumThere rfl rfl rfl (by decide +kernel) ⟨Nat.le_of_ble_eq_true rfl, Nat.le_of_ble_eq_true rfl⟩) (Ob.recv hK hW.1 rfl) hW rfl hl.1 rfl (Nat.le_of_ble_eq_true rfl) dX1_total_63 ⟨Nat.zero_le _, Nat.zero_le _⟩ ?_
    refine W.eq (g2 := F0 m 66 ls [.int (tS σ (fun k => fk σ k 3) (qn σ))]) rfl ?_
    exact ro_iret hx hb hr hlk dX1_total_66
  · skip
    refine lv_iload_n hx hb dX1_total_0 rfl (lv_at hl 1 rfl) ?_
    refine lv_tableIn (off := 66) (tgt := 67) hx hb dX1_total_1 (by decide +kernel) (by decide +kernel) rfl (by decide) ?_
    refine lv_aload_n hx hb dX1_total_67 rfl (lv_at hl 0 rfl) ?_
    refine lv_iconst (v := nI 0) hx hb dX1_total_68 (by decide +kernel) ?_
    refine ro_V (rest := []) S hK (c_X1_sumThere l Γ x σ ad hI 0 (by omega)) (cwV 1 hts gX1_total_X1_sumThere rfl rfl rfl (by decide +kernel) ⟨Nat.le_of_ble_eq_true rfl, Nat.le_of_ble_eq_true rfl⟩) (Ob.recv hK hW.1 rfl) hW rfl hl.1 rfl (Nat.le_of_ble_eq_true rfl) dX1_total_69 ⟨Nat.zero_le _, Nat.zero_le _⟩ ?_
    refine W.eq (g2 := F0 m 72 ls [.int (tS σ (fun k => fk σ k 0) (qn σ))]) rfl ?_
    exact ro_iret hx hb hr hlk dX1_total_72
  · skip
    refine lv_iload_n hx hb dX1_total_0 rfl (lv_at hl 1 rfl) ?_
    refine lv_tableOut (tgt := 73) hx hb dX1_total_1 (by decide +kernel) (by decide) ?_
    refine lv_aload_n hx hb dX1_total_73 rfl (lv_at hl 0 rfl) ?_
    refine ro_V (rest := []) S hK (c_X1_fittingPairs l Γ x σ ad hI b0 hy) (cwV 0 hts gX1_total_X1_fittingPairs rfl rfl rfl (by decide +kernel) ⟨Nat.le_of_ble_eq_true rfl, Nat.le_of_ble_eq_true rfl⟩) (Ob.recv hK hW.1 rfl) hW rfl hl.1 rfl (Nat.le_of_ble_eq_true rfl) dX1_total_74 ⟨Nat.zero_le _, Nat.zero_le _⟩ ?_
    refine W.eq (g2 := F0 m 77 ls [.int (nI (fA σ (qn σ)))]) rfl ?_
    exact ro_iret hx hb hr hlk dX1_total_77
set_option maxHeartbeats 4000000 in
set_option maxRecDepth 100000 in
theorem c_X1_pairWorth (l : Launch) (Γ : GG)   (y z : Int32)  : Ro l yX1_pairWorth wsX1_pairWorth ({ frames := 0, cells := 0, slots := 0, locals := 0 }) Γ [.int y, .int z] (fun _ => True) (some (.int (nI (pw y z)))) := by
  refine Ro.of (cc := cX1_pairWorth) (maxL := 2) (ret := some .int) (by decide) rfl (Nat.le_of_ble_eq_true rfl) ?_
  intro p e s m below meth c S hr hlk hK hW ls hl
  obtain ⟨hx, hb, hml, hown, hts⟩ := id S
  have hl : lv_has ls 2 [(0, .int y), (1, .int z)] := hl
  refine lv_iload_n hx hb dX1_pairWorth_0 rfl (lv_at hl 0 rfl) ?_
  refine lv_iload_n hx hb dX1_pairWorth_1 rfl (lv_at hl 1 rfl) ?_
  refine lv_icmp_ne (tgt := 7) hx hb dX1_pairWorth_2 (by decide) (fun c_1 => ?_) (fun c_1 => ?_)
  · skip
    refine lv_iload_n hx hb dX1_pairWorth_7 rfl (lv_at hl 0 rfl) ?_
    refine lv_bipush (v := nI 8) hx hb dX1_pairWorth_8 (by decide +kernel) ?_
    refine lv_idiv hx hb dX1_pairWorth_10 (by decide +kernel) ?_
    refine lv_iload_n hx hb dX1_pairWorth_11 rfl (lv_at hl 1 rfl) ?_
    refine lv_bipush (v := nI 8) hx hb dX1_pairWorth_12 (by decide +kernel) ?_
    refine lv_idiv hx hb dX1_pairWorth_14 (by decide +kernel) ?_
    refine lv_icmp_ne (tgt := 22) hx hb dX1_pairWorth_15 (by decide) (fun c_2 => ?_) (fun c_2 => ?_)
    · skip
      refine lv_iconst (v := nI 0) hx hb dX1_pairWorth_22 (by decide +kernel) ?_
      refine x_e (show nI 0 = nI (pw y z) by unfold pw; rw [if_neg c_1, if_neg c_2]) ?_
      exact ro_iret hx hb hr hlk dX1_pairWorth_23
    · skip
      refine lv_iconst (v := nI 1) hx hb dX1_pairWorth_18 (by decide +kernel) ?_
      refine lv_goto (tgt := 23) hx hb dX1_pairWorth_19 (by decide) ?_
      refine x_e (show nI 1 = nI (pw y z) by unfold pw; rw [if_neg c_1, if_pos c_2]) ?_
      exact ro_iret hx hb hr hlk dX1_pairWorth_23
  · skip
    refine lv_iconst (v := nI 2) hx hb dX1_pairWorth_5 (by decide +kernel) ?_
    refine x_e (show nI 2 = nI (pw y z) by unfold pw; rw [if_pos c_1]) ?_
    exact ro_iret hx hb hr hlk dX1_pairWorth_6
theorem in_X1_rhymeOf_X0 : ∀ w ∈ wsX00, w ∈ wsX1_rhymeOf := by decide +kernel
set_option maxHeartbeats 4000000 in
set_option maxRecDepth 100000 in
theorem c_X1_rhymeOf (l : Launch) (Γ : GG) (x : Nat) (σ : St) (ad : Nat → Nat) (hI : Iv σ) (a su b t : Nat) (ha : a < qn σ) (hb9 : b < qn σ) (hsu : su < 3) (ht : t < 3) : Ro l yX1_rhymeOf wsX1_rhymeOf ({ frames := 4, cells := 0, slots := 0, locals := 91 }) Γ [.ref (ad a), .int (nI su), .ref (ad b), .int (nI t)] (CW Γ x σ ad) (some (.int (nI (rhy σ a su b t)))) := by
  refine Ro.of (cc := cX1_rhymeOf) (maxL := 9) (ret := some .int) (by decide) rfl (Nat.le_of_ble_eq_true rfl) ?_
  intro p e s m below meth c S hr hlk hK hW ls hl
  obtain ⟨hx, hb, hml, hown, hts⟩ := id S
  have hl : lv_has ls 9 [(0, .ref (ad a)), (1, .int (nI su)), (2, .ref (ad b)), (3, .int (nI t))] := hl
  obtain ⟨hPa0, hPa, hUa, hGa⟩ := hI.2.1 a (by omega)
  obtain ⟨hPb0, hPb, hUb, hGb⟩ := hI.2.1 b (by omega)
  refine lv_iconst (v := nI 0) hx hb dX1_rhymeOf_0 (by decide +kernel) ?_
  refine lv_istore (lv' := [(4, .int (nI 0)), (0, .ref (ad a)), (1, .int (nI su)), (2, .ref (ad b)), (3, .int (nI t))]) hx hb dX1_rhymeOf_1 hl (by decide) rfl (fun ls hl => ?_)
  refine lv_aload_n hx hb dX1_rhymeOf_3 rfl (lv_at hl 1 rfl) ?_
  refine lv_iload_n hx hb dX1_rhymeOf_4 rfl (lv_at hl 2 rfl) ?_
  refine lv_iload_n hx hb dX1_rhymeOf_5 rfl (lv_at hl 4 rfl) ?_
  refine lv_aload_n hx hb dX1_rhymeOf_6 rfl (lv_at hl 1 rfl) ?_
  refine x_get S in_X1_rhymeOf_X0 hK (hW.2.2 a (by omega)).1 rfl 0 (by decide) (by decide +kernel) rfl rfl dX1_rhymeOf_7 ?_
  refine lv_iconst (v := nI 1) hx hb dX1_rhymeOf_10 (by decide +kernel) ?_
  refine x_sub hx hb (by omega) dX1_rhymeOf_11 ?_
  refine x_e (pn_pred (hI.2.1 a (by omega)).1) ?_
  refine ro_V (rest := []) S hK (c_X0_placeReadUpTo l Γ (ad a) (qp σ a) (qu σ a) (qB σ a) (qE σ a) (qg σ a) (rk σ a) (ak σ a) (lk σ a) (hI.2.1 a (by omega)).1 (hI.2.1 a (by omega)).2.1 su t ((qp σ a)) (by first | omega | exact (hI.2.1 a (by omega)).2.2.1) (by omega) (by first | exact Nat.le_refl _ | omega)) (cwV 3 hts gX1_rhymeOf_X0_placeReadUpTo rfl rfl rfl (by decide +kernel) ⟨Nat.le_of_ble_eq_true rfl, Nat.le_of_ble_eq_true rfl⟩) (Ob.recv hK (hW.2.2 a (by omega)).1 rfl) (hW.2.2 a (by omega)) rfl hl.1 rfl (Nat.le_of_ble_eq_true rfl) dX1_rhymeOf_12 ⟨Nat.zero_le _, Nat.zero_le _⟩ ?_
  refine W.eq (g2 := F0 m 15 ls [.int (oI (lst (rd (rk σ a) su t) ((qp σ a))))]) rfl ?_
  refine lv_istore (lv' := [(5, .int (oI (lst (rd (rk σ a) su t) ((qp σ a))))), (4, .int (nI 0)), (0, .ref (ad a)), (1, .int (nI su)), (2, .ref (ad b)), (3, .int (nI t))]) hx hb dX1_rhymeOf_15 hl (by decide) rfl (fun ls hl => ?_)
  refine lv_aload_n hx hb dX1_rhymeOf_17 rfl (lv_at hl 4 rfl) ?_
  refine lv_aload_n hx hb dX1_rhymeOf_18 rfl (lv_at hl 4 rfl) ?_
  refine x_get S in_X1_rhymeOf_X0 hK (hW.2.2 b (by omega)).1 rfl 1 (by decide) (by decide +kernel) rfl rfl dX1_rhymeOf_19 ?_
  refine lv_iload_n hx hb dX1_rhymeOf_22 rfl (lv_at hl 5 rfl) ?_
  refine lv_aload_n hx hb dX1_rhymeOf_23 rfl (lv_at hl 4 rfl) ?_
  refine x_get S in_X1_rhymeOf_X0 hK (hW.2.2 b (by omega)).1 rfl 0 (by decide) (by decide +kernel) rfl rfl dX1_rhymeOf_24 ?_
  refine lv_iconst (v := nI 1) hx hb dX1_rhymeOf_27 (by decide +kernel) ?_
  refine x_sub hx hb (by omega) dX1_rhymeOf_28 ?_
  refine x_e (pn_pred (hI.2.1 b (by omega)).1) ?_
  refine ro_V (rest := []) S hK (c_X0_placeReadUpTo l Γ (ad b) (qp σ b) (qu σ b) (qB σ b) (qE σ b) (qg σ b) (rk σ b) (ak σ b) (lk σ b) (hI.2.1 b (by omega)).1 (hI.2.1 b (by omega)).2.1 (qu σ b) t ((qp σ b)) (by first | omega | exact (hI.2.1 b (by omega)).2.2.1) (by omega) (by first | exact Nat.le_refl _ | omega)) (cwV 3 hts gX1_rhymeOf_X0_placeReadUpTo rfl rfl rfl (by decide +kernel) ⟨Nat.le_of_ble_eq_true rfl, Nat.le_of_ble_eq_true rfl⟩) (Ob.recv hK (hW.2.2 b (by omega)).1 rfl) (hW.2.2 b (by omega)) rfl hl.1 rfl (Nat.le_of_ble_eq_true rfl) dX1_rhymeOf_29 ⟨Nat.zero_le _, Nat.zero_le _⟩ ?_
  refine W.eq (g2 := F0 m 32 ls [.int (oI (lst (rd (rk σ b) (qu σ b) t) ((qp σ b))))]) rfl ?_
  refine lv_istore (lv' := [(6, .int (oI (lst (rd (rk σ b) (qu σ b) t) ((qp σ b))))), (5, .int (oI (lst (rd (rk σ a) su t) ((qp σ a))))), (4, .int (nI 0)), (0, .ref (ad a)), (1, .int (nI su)), (2, .ref (ad b)), (3, .int (nI t))]) hx hb dX1_rhymeOf_32 hl (by decide) rfl (fun ls hl => ?_)
  refine lv_iconst (v := nI 0) hx hb dX1_rhymeOf_34 (by decide +kernel) ?_
  refine lv_istore (lv' := [(7, .int (nI 0)), (6, .int (oI (lst (rd (rk σ b) (qu σ b) t) ((qp σ b))))), (5, .int (oI (lst (rd (rk σ a) su t) ((qp σ a))))), (4, .int (nI 0)), (0, .ref (ad a)), (1, .int (nI su)), (2, .ref (ad b)), (3, .int (nI t))]) hx hb dX1_rhymeOf_35 hl (by decide) rfl (fun ls hl => ?_)
  refine x_loop (σ := Nat × Nat × Nat × Nat) (fun u => [(0, .ref (ad a)), (1, .int (nI su)), (2, .ref (ad b)), (3, .int (nI t)), (4, .int (nI ((u.2.1)))), (5, .int (oI (lst (rd (rk σ a) su t) (u.2.2.1)))), (6, .int (oI (lst (rd (rk σ b) (qu σ b) t) (u.2.2.2)))), (7, .int (nI ((u.1))))]) (fun u => (u.2.2.1) ≤ qp σ a ∧ (u.2.2.2) ≤ qp σ b ∧ (u.1) + cU (rd (rk σ a) su t) (u.2.2.1) ≤ 12 ∧ (u.2.1) + rhR (lr (rd (rk σ a) su t) (u.2.2.1)) (lr (rd (rk σ b) (qu σ b) t) (u.2.2.2)) = rhy σ a su b t) (fun u => 12 - (u.1)) (fun u hu ih ls hl => ?_) (0, 0, qp σ a, qp σ b) ⟨Nat.le_refl _, Nat.le_refl _, by have := cU_le (rd (rk σ a) su t) (qp σ a); have := (hI.2.1 a (by omega)).2.1; dsimp only; omega, by dsimp only; rw [Nat.zero_add]; rfl⟩ ls (x_hl (lv_sub (l' := [(0, .ref (ad a)), (1, .int (nI su)), (2, .ref (ad b)), (3, .int (nI t)), (4, .int (nI 0)), (5, .int (oI (lst (rd (rk σ a) su t) ((qp σ a))))), (6, .int (oI (lst (rd (rk σ b) (qu σ b) t) ((qp σ b))))), (7, .int (nI 0))]) hl [4, 5, 6, 7, 3, 2, 1, 0] rfl) rfl)
  obtain ⟨i, r, u, v⟩ := u
  have hu : u ≤ qp σ a ∧ v ≤ qp σ b ∧ i + cU (rd (rk σ a) su t) u ≤ 12 ∧ r + rhR (lr (rd (rk σ a) su t) u) (lr (rd (rk σ b) (qu σ b) t) v) = rhy σ a su b t := hu
  have hl : lv_has ls 9 [(0, .ref (ad a)), (1, .int (nI su)), (2, .ref (ad b)), (3, .int (nI t)), (4, .int (nI r)), (5, .int (oI (lst (rd (rk σ a) su t) u))), (6, .int (oI (lst (rd (rk σ b) (qu σ b) t) v))), (7, .int (nI i))] := hl
  refine lv_iload hx hb dX1_rhymeOf_37 (lv_at hl 7 rfl) ?_
  refine lv_bipush (v := nI 12) hx hb dX1_rhymeOf_39 (by decide +kernel) ?_
  refine x_icge hx hb (by omega) (by omega) (tgt := 128) dX1_rhymeOf_41 (by decide) (fun c_1 => ?_) (fun c_1 => ?_)
  · skip
    refine lv_iload hx hb dX1_rhymeOf_128 (lv_at hl 4 rfl) ?_
    refine x_e (show nI r = nI (rhy σ a su b t) by rw [← hu.2.2.2, lr_zero (by omega)]; rfl) ?_
    exact ro_iret hx hb hr hlk dX1_rhymeOf_130
  · skip
    refine lv_iload hx hb dX1_rhymeOf_44 (lv_at hl 5 rfl) ?_
    refine lv_iconst (v := (-1)) hx hb dX1_rhymeOf_46 (by decide +kernel) ?_
    refine lv_icmp_eq (tgt := 128) hx hb dX1_rhymeOf_47 (by decide) (fun c_2 => ?_) (fun c_2 => ?_)
    · skip
      refine lv_iload hx hb dX1_rhymeOf_128 (lv_at hl 4 rfl) ?_
      refine x_e (show nI r = nI (rhy σ a su b t) by rw [← hu.2.2.2, lr_none (oI_n c_2 (fun w h => by have := lst_lt _ _ _ h; omega))]; rfl) ?_
      exact ro_iret hx hb hr hlk dX1_rhymeOf_130
    · skip
      obtain ⟨q1, eq1⟩ := oI_s c_2
      have hq1 := lst_lt _ _ _ eq1
      have hc1 := cU_lst eq1
      have hl : lv_has ls 9 [(0, .ref (ad a)), (1, .int (nI su)), (2, .ref (ad b)), (3, .int (nI t)), (4, .int (nI r)), (5, .int (nI q1)), (6, .int (oI (lst (rd (rk σ b) (qu σ b) t) v))), (7, .int (nI i))] := x_hl hl (by rw [show oI (lst (rd (rk σ a) su t) u) = nI q1 by rw [eq1]; rfl])
      refine lv_iload hx hb dX1_rhymeOf_50 (lv_at hl 6 rfl) ?_
      refine lv_iconst (v := (-1)) hx hb dX1_rhymeOf_52 (by decide +kernel) ?_
      refine lv_icmp_eq (tgt := 128) hx hb dX1_rhymeOf_53 (by decide) (fun c_3 => ?_) (fun c_3 => ?_)
      · skip
        refine lv_iload hx hb dX1_rhymeOf_128 (lv_at hl 4 rfl) ?_
        refine x_e (show nI r = nI (rhy σ a su b t) by rw [← hu.2.2.2, lr_none (f := rd (rk σ b) (qu σ b) t) (oI_n c_3 (fun w h => by have := lst_lt _ _ _ h; omega)), rhR_nil]; rfl) ?_
        exact ro_iret hx hb hr hlk dX1_rhymeOf_130
      · skip
        obtain ⟨q2, eq2⟩ := oI_s c_3
        have hq2 := lst_lt _ _ _ eq2
        have e3 : rhR (lr (rd (rk σ a) su t) u) (lr (rd (rk σ b) (qu σ b) t) v) = if pw ((rd (rk σ a) su t) q1) ((rd (rk σ b) (qu σ b) t) q2) = 0 then 0 else pw ((rd (rk σ a) su t) q1) ((rd (rk σ b) (qu σ b) t) q2) + rhR (lr (rd (rk σ a) su t) q1) (lr (rd (rk σ b) (qu σ b) t) q2) := by rw [lr_some eq1, lr_some eq2]; rfl
        have hl : lv_has ls 9 [(0, .ref (ad a)), (1, .int (nI su)), (2, .ref (ad b)), (3, .int (nI t)), (4, .int (nI r)), (5, .int (nI q1)), (6, .int (nI q2)), (7, .int (nI i))] := x_hl hl (by rw [show oI (lst (rd (rk σ b) (qu σ b) t) v) = nI q2 by rw [eq2]; rfl])
        refine lv_aload_n hx hb dX1_rhymeOf_56 rfl (lv_at hl 0 rfl) ?_
        refine lv_iload_n hx hb dX1_rhymeOf_57 rfl (lv_at hl 1 rfl) ?_
        refine lv_iload_n hx hb dX1_rhymeOf_58 rfl (lv_at hl 3 rfl) ?_
        refine lv_iload hx hb dX1_rhymeOf_59 (lv_at hl 5 rfl) ?_
        refine ro_V (rest := []) S hK (c_X0_runeRead l Γ (ad a) (qp σ a) (qu σ a) (qB σ a) (qE σ a) (qg σ a) (rk σ a) (ak σ a) (lk σ a) (hI.2.1 a (by omega)).1 (hI.2.1 a (by omega)).2.1 su t q1 (by first | omega | exact (hI.2.1 a (by omega)).2.2.1) (by omega) (by omega)) (cwV 3 hts gX1_rhymeOf_X0_runeRead rfl rfl rfl (by decide +kernel) ⟨Nat.le_of_ble_eq_true rfl, Nat.le_of_ble_eq_true rfl⟩) (Ob.recv hK (hW.2.2 a (by omega)).1 rfl) (hW.2.2 a (by omega)) rfl hl.1 rfl (Nat.le_of_ble_eq_true rfl) dX1_rhymeOf_61 ⟨Nat.zero_le _, Nat.zero_le _⟩ ?_
        refine W.eq (g2 := F0 m 64 ls [.int (rd (rk σ a) su t q1)]) rfl ?_
        refine lv_aload_n hx hb dX1_rhymeOf_64 rfl (lv_at hl 2 rfl) ?_
        refine lv_aload_n hx hb dX1_rhymeOf_65 rfl (lv_at hl 2 rfl) ?_
        refine x_get S in_X1_rhymeOf_X0 hK (hW.2.2 b (by omega)).1 rfl 1 (by decide) (by decide +kernel) rfl rfl dX1_rhymeOf_66 ?_
        refine lv_iload_n hx hb dX1_rhymeOf_69 rfl (lv_at hl 3 rfl) ?_
        refine lv_iload hx hb dX1_rhymeOf_70 (lv_at hl 6 rfl) ?_
        refine ro_V (rest := [.int (rd (rk σ a) su t q1)]) S hK (c_X0_runeRead l Γ (ad b) (qp σ b) (qu σ b) (qB σ b) (qE σ b) (qg σ b) (rk σ b) (ak σ b) (lk σ b) (hI.2.1 b (by omega)).1 (hI.2.1 b (by omega)).2.1 (qu σ b) t q2 (by first | omega | exact (hI.2.1 b (by omega)).2.2.1) (by omega) (by omega)) (cwV 3 hts gX1_rhymeOf_X0_runeRead rfl rfl rfl (by decide +kernel) ⟨Nat.le_of_ble_eq_true rfl, Nat.le_of_ble_eq_true rfl⟩) (Ob.recv hK (hW.2.2 b (by omega)).1 rfl) (hW.2.2 b (by omega)) rfl hl.1 rfl (Nat.le_of_ble_eq_true rfl) dX1_rhymeOf_72 ⟨Nat.zero_le _, Nat.zero_le _⟩ ?_
        refine W.eq (g2 := F0 m 75 ls [.int (rd (rk σ b) (qu σ b) t q2), .int (rd (rk σ a) su t q1)]) rfl ?_
        refine ro_S (rest := []) S hK (c_X1_pairWorth l Γ (rd (rk σ a) su t q1) (rd (rk σ b) (qu σ b) t q2)) (cwS 2 hts gX1_rhymeOf_X1_pairWorth rfl rfl rfl (by decide +kernel) ⟨Nat.le_of_ble_eq_true rfl, Nat.le_of_ble_eq_true rfl⟩) trivial rfl hl.1 rfl (Nat.le_of_ble_eq_true rfl) dX1_rhymeOf_75 ⟨Nat.zero_le _, Nat.zero_le _⟩ ?_
        refine W.eq (g2 := F0 m 78 ls [.int (nI (pw (rd (rk σ a) su t q1) (rd (rk σ b) (qu σ b) t q2)))]) rfl ?_
        refine lv_istore (lv' := [(8, .int (nI (pw (rd (rk σ a) su t q1) (rd (rk σ b) (qu σ b) t q2)))), (0, .ref (ad a)), (1, .int (nI su)), (2, .ref (ad b)), (3, .int (nI t)), (4, .int (nI r)), (5, .int (nI q1)), (6, .int (nI q2)), (7, .int (nI i))]) hx hb dX1_rhymeOf_78 hl (by decide) rfl (fun ls hl => ?_)
        refine lv_iload hx hb dX1_rhymeOf_80 (lv_at hl 0 rfl) ?_
        have hpw := pw_le ((rd (rk σ a) su t) q1) ((rd (rk σ b) (qu σ b) t) q2)
        refine x_ifne hx hb (by omega) (tgt := 88) dX1_rhymeOf_82 (by decide) (fun c_4 => ?_) (fun c_4 => ?_)
        · skip
          refine lv_iload hx hb dX1_rhymeOf_88 (lv_at hl 5 rfl) ?_
          refine lv_iload hx hb dX1_rhymeOf_90 (lv_at hl 0 rfl) ?_
          refine x_add hx hb dX1_rhymeOf_92 ?_
          refine lv_istore (lv' := [(4, .int (nI (r + (pw (rd (rk σ a) su t q1) (rd (rk σ b) (qu σ b) t q2))))), (8, .int (nI (pw (rd (rk σ a) su t q1) (rd (rk σ b) (qu σ b) t q2)))), (0, .ref (ad a)), (1, .int (nI su)), (2, .ref (ad b)), (3, .int (nI t)), (5, .int (nI q1)), (6, .int (nI q2)), (7, .int (nI i))]) hx hb dX1_rhymeOf_93 hl (by decide) rfl (fun ls hl => ?_)
          refine lv_aload_n hx hb dX1_rhymeOf_95 rfl (lv_at hl 2 rfl) ?_
          refine lv_iload_n hx hb dX1_rhymeOf_96 rfl (lv_at hl 3 rfl) ?_
          refine lv_iload_n hx hb dX1_rhymeOf_97 rfl (lv_at hl 5 rfl) ?_
          refine lv_iload hx hb dX1_rhymeOf_98 (lv_at hl 6 rfl) ?_
          refine lv_iconst (v := nI 1) hx hb dX1_rhymeOf_100 (by decide +kernel) ?_
          refine lv_isub hx hb dX1_rhymeOf_101 ?_
          refine x_e (pn_sub q1) ?_
          refine ro_V (rest := []) S hK (c_X0_placeReadUpTo l Γ (ad a) (qp σ a) (qu σ a) (qB σ a) (qE σ a) (qg σ a) (rk σ a) (ak σ a) (lk σ a) (hI.2.1 a (by omega)).1 (hI.2.1 a (by omega)).2.1 su t q1 (by first | omega | exact (hI.2.1 a (by omega)).2.2.1) (by omega) (by first | exact Nat.le_refl _ | omega)) (cwV 3 hts gX1_rhymeOf_X0_placeReadUpTo rfl rfl rfl (by decide +kernel) ⟨Nat.le_of_ble_eq_true rfl, Nat.le_of_ble_eq_true rfl⟩) (Ob.recv hK (hW.2.2 a (by omega)).1 rfl) (hW.2.2 a (by omega)) rfl hl.1 rfl (Nat.le_of_ble_eq_true rfl) dX1_rhymeOf_102 ⟨Nat.zero_le _, Nat.zero_le _⟩ ?_
          refine W.eq (g2 := F0 m 105 ls [.int (oI (lst (rd (rk σ a) su t) q1))]) rfl ?_
          refine lv_istore (lv' := [(5, .int (oI (lst (rd (rk σ a) su t) q1))), (4, .int (nI (r + (pw (rd (rk σ a) su t q1) (rd (rk σ b) (qu σ b) t q2))))), (8, .int (nI (pw (rd (rk σ a) su t q1) (rd (rk σ b) (qu σ b) t q2)))), (0, .ref (ad a)), (1, .int (nI su)), (2, .ref (ad b)), (3, .int (nI t)), (6, .int (nI q2)), (7, .int (nI i))]) hx hb dX1_rhymeOf_105 hl (by decide) rfl (fun ls hl => ?_)
          refine lv_aload_n hx hb dX1_rhymeOf_107 rfl (lv_at hl 5 rfl) ?_
          refine lv_aload_n hx hb dX1_rhymeOf_108 rfl (lv_at hl 5 rfl) ?_
          refine x_get S in_X1_rhymeOf_X0 hK (hW.2.2 b (by omega)).1 rfl 1 (by decide) (by decide +kernel) rfl rfl dX1_rhymeOf_109 ?_
          refine lv_iload_n hx hb dX1_rhymeOf_112 rfl (lv_at hl 6 rfl) ?_
          refine lv_iload hx hb dX1_rhymeOf_113 (lv_at hl 7 rfl) ?_
          refine lv_iconst (v := nI 1) hx hb dX1_rhymeOf_115 (by decide +kernel) ?_
          refine lv_isub hx hb dX1_rhymeOf_116 ?_
          refine x_e (pn_sub q2) ?_
          refine ro_V (rest := []) S hK (c_X0_placeReadUpTo l Γ (ad b) (qp σ b) (qu σ b) (qB σ b) (qE σ b) (qg σ b) (rk σ b) (ak σ b) (lk σ b) (hI.2.1 b (by omega)).1 (hI.2.1 b (by omega)).2.1 (qu σ b) t q2 (by first | omega | exact (hI.2.1 b (by omega)).2.2.1) (by omega) (by first | exact Nat.le_refl _ | omega)) (cwV 3 hts gX1_rhymeOf_X0_placeReadUpTo rfl rfl rfl (by decide +kernel) ⟨Nat.le_of_ble_eq_true rfl, Nat.le_of_ble_eq_true rfl⟩) (Ob.recv hK (hW.2.2 b (by omega)).1 rfl) (hW.2.2 b (by omega)) rfl hl.1 rfl (Nat.le_of_ble_eq_true rfl) dX1_rhymeOf_117 ⟨Nat.zero_le _, Nat.zero_le _⟩ ?_
          refine W.eq (g2 := F0 m 120 ls [.int (oI (lst (rd (rk σ b) (qu σ b) t) q2))]) rfl ?_
          refine lv_istore (lv' := [(6, .int (oI (lst (rd (rk σ b) (qu σ b) t) q2))), (5, .int (oI (lst (rd (rk σ a) su t) q1))), (4, .int (nI (r + (pw (rd (rk σ a) su t q1) (rd (rk σ b) (qu σ b) t q2))))), (8, .int (nI (pw (rd (rk σ a) su t q1) (rd (rk σ b) (qu σ b) t q2)))), (0, .ref (ad a)), (1, .int (nI su)), (2, .ref (ad b)), (3, .int (nI t)), (7, .int (nI i))]) hx hb dX1_rhymeOf_120 hl (by decide) rfl (fun ls hl => ?_)
          refine x_iinc (n := 1) (lv' := [(7, .int (nI (i + 1))), (6, .int (oI (lst (rd (rk σ b) (qu σ b) t) q2))), (5, .int (oI (lst (rd (rk σ a) su t) q1))), (4, .int (nI (r + (pw (rd (rk σ a) su t q1) (rd (rk σ b) (qu σ b) t q2))))), (8, .int (nI (pw (rd (rk σ a) su t q1) (rd (rk σ b) (qu σ b) t q2)))), (0, .ref (ad a)), (1, .int (nI su)), (2, .ref (ad b)), (3, .int (nI t))]) hx hb dX1_rhymeOf_122 hl (k := 8) rfl (by decide) rfl (fun ls hl => ?_)
          refine lv_goto (tgt := 37) hx hb dX1_rhymeOf_125 (by decide) ?_
          exact ih ⟨i + 1, r + pw ((rd (rk σ a) su t) q1) ((rd (rk σ b) (qu σ b) t) q2), q1, q2⟩ ⟨by dsimp only; omega, by dsimp only; omega, by dsimp only; omega, by rw [← hu.2.2.2, e3, if_neg (by omega)]; dsimp only; omega⟩ (by dsimp only; omega) ls (lv_sub hl [5, 6, 7, 8, 3, 2, 1, 0] rfl)
        · skip
          refine lv_iload hx hb dX1_rhymeOf_85 (lv_at hl 5 rfl) ?_
          refine x_e (show nI r = nI (rhy σ a su b t) by rw [← hu.2.2.2, e3, if_pos c_4, Nat.add_zero]) ?_
          exact ro_iret hx hb hr hlk dX1_rhymeOf_87
theorem in_X1_digest_X1 : ∀ w ∈ wsX10, w ∈ wsX1_digest := by decide +kernel
set_option maxHeartbeats 4000000 in
set_option maxRecDepth 100000 in
theorem c_X1_digest (l : Launch) (Γ : GG) (x : Nat) (σ : St) (ad : Nat → Nat) (hI : Iv σ) (b0 : Nat) (hy : Ly b0 σ ad) : Ro l yX1_digest wsX1_digest ({ frames := 7, cells := 0, slots := 0, locals := 155 }) Γ [.ref x] (CW Γ x σ ad) (some (.long (dig σ))) := by
  refine Ro.of (cc := cX1_digest) (maxL := 5) (ret := some .long) (by decide) rfl (Nat.le_of_ble_eq_true rfl) ?_
  intro p e s m below meth c S hr hlk hK hW ls hl
  obtain ⟨hx, hb, hml, hown, hts⟩ := id S
  have hl : lv_has ls 5 [(0, .ref x)] := hl
  have hn40 := hI.1
  refine lv_ldc2 hx hb hown (v := 1019) (hts _ (by decide +kernel)) dX1_digest_0 ?_
  refine lv_lstore_n (lv' := [(1, .long 1019), (0, .ref x)]) hx hb dX1_digest_3 rfl hl (by decide) rfl (fun ls hl => ?_)
  refine lv_iconst (v := nI 0) hx hb dX1_digest_4 (by decide +kernel) ?_
  refine lv_istore_n (lv' := [(3, .int (nI 0)), (1, .long 1019), (0, .ref x)]) hx hb dX1_digest_5 rfl hl (by decide) rfl (fun ls hl => ?_)
  have hl : lv_has ls 5 [(3, .int (nI 0)), (1, .long (dF (tot σ) 1019 0)), (0, .ref x)] := x_hl hl rfl
  refine x_loop (σ := Nat) (fun u => [(0, .ref x), (1, .long (dF (tot σ) 1019 u)), (3, .int (nI u))]) (fun u => u ≤ 7) (fun u => 7 - u) (fun u hu ih ls hl => ?_) 0 (by omega) ls (x_hl (lv_sub (l' := [(0, .ref x), (1, .long (dF (tot σ) 1019 0)), (3, .int (nI 0))]) hl [2, 1, 0] rfl) rfl)
  obtain ⟨i, rfl⟩ : ∃ z, z = u := ⟨_, rfl⟩
  have hu : i ≤ 7 := hu
  have hl : lv_has ls 5 [(0, .ref x), (1, .long (dF (tot σ) 1019 i)), (3, .int (nI i))] := hl
  refine lv_iload_n hx hb dX1_digest_6 rfl (lv_at hl 2 rfl) ?_
  refine lv_bipush (v := nI 7) hx hb dX1_digest_7 (by decide +kernel) ?_
  refine x_icge hx hb (by omega) (by omega) (tgt := 31) dX1_digest_9 (by decide) (fun c_1 => ?_) (fun c_1 => ?_)
  · skip
    refine lv_iconst (v := nI 0) hx hb dX1_digest_31 (by decide +kernel) ?_
    refine lv_istore_n (lv' := [(3, .int (nI 0)), (0, .ref x), (1, .long (dF (tot σ) 1019 i))]) hx hb dX1_digest_32 rfl hl (by decide) rfl (fun ls hl => ?_)
    have hl : lv_has ls 5 [(3, .int (nI 0)), (0, .ref x), (1, .long (dS σ (dF (tot σ) 1019 7) 0))] := x_hl hl (by rw [show dF (tot σ) 1019 i = dS σ (dF (tot σ) 1019 7) 0 by rw [show i = 7 by omega]; rfl])
    refine x_loop (σ := Nat) (fun u => [(0, .ref x), (1, .long (dS σ (dF (tot σ) 1019 7) u)), (3, .int (nI u))]) (fun u => u ≤ qn σ) (fun u => qn σ - u) (fun u hu ih ls hl => ?_) 0 (by omega) ls (x_hl (lv_sub (l' := [(0, .ref x), (1, .long (dS σ (dF (tot σ) 1019 7) 0)), (3, .int (nI 0))]) hl [1, 2, 0] rfl) rfl)
    obtain ⟨j, rfl⟩ : ∃ z, z = u := ⟨_, rfl⟩
    have hu : j ≤ qn σ := hu
    have hl : lv_has ls 5 [(0, .ref x), (1, .long (dS σ (dF (tot σ) 1019 7) j)), (3, .int (nI j))] := hl
    refine lv_iload_n hx hb dX1_digest_33 rfl (lv_at hl 2 rfl) ?_
    refine lv_aload_n hx hb dX1_digest_34 rfl (lv_at hl 0 rfl) ?_
    refine x_get S in_X1_digest_X1 hK hW.1 rfl 1 (by decide) (by decide +kernel) rfl rfl dX1_digest_35 ?_
    refine x_icge hx hb (by omega) (by omega) (tgt := 66) dX1_digest_38 (by decide) (fun c_2 => ?_) (fun c_2 => ?_)
    · skip
      refine lv_lload_n hx hb dX1_digest_66 rfl (lv_at hl 1 rfl) ?_
      refine x_eL (show dS σ (dF (tot σ) 1019 7) j = dig σ by rw [show j = qn σ by omega]; rfl) ?_
      exact ro_lret hx hb hr hlk dX1_digest_67
    · skip
      refine lv_aload_n hx hb dX1_digest_41 rfl (lv_at hl 0 rfl) ?_
      refine lv_iload_n hx hb dX1_digest_42 rfl (lv_at hl 2 rfl) ?_
      refine ro_V (rest := []) S hK (c_X1_stickOrNull l Γ x σ ad hI (nI j)) (cwV 1 hts gX1_digest_X1_stickOrNull rfl rfl rfl (by decide +kernel) ⟨Nat.le_of_ble_eq_true rfl, Nat.le_of_ble_eq_true rfl⟩) (Ob.recv hK hW.1 rfl) hW rfl hl.1 rfl (Nat.le_of_ble_eq_true rfl) dX1_digest_43 ⟨Nat.zero_le _, Nat.zero_le _⟩ ?_
      refine W.eq (g2 := F0 m 46 ls [va_rf (sr σ ad (nI j))]) rfl ?_
      refine x_v (show va_rf (sr σ ad (nI j)) = .ref (ad j) by rw [sr_nI (by omega), if_pos (by omega)]; rfl) ?_
      refine lv_astore (lv' := [(4, .ref (ad j)), (0, .ref x), (1, .long (dS σ (dF (tot σ) 1019 7) j)), (3, .int (nI j))]) hx hb dX1_digest_46 hl (by decide) rfl (fun ls hl => ?_)
      refine lv_aload hx hb dX1_digest_48 (lv_at hl 0 rfl) ?_
      refine lv_ifnull hx hb dX1_digest_50 ?_
      refine lv_aload hx hb dX1_digest_53 (lv_at hl 0 rfl) ?_
      refine lv_lload_n hx hb dX1_digest_55 rfl (lv_at hl 2 rfl) ?_
      refine ro_V (rest := []) S hK (c_X0_addedTo l Γ (ad j) (qp σ j) (qu σ j) (qB σ j) (qE σ j) (qg σ j) (rk σ j) (ak σ j) (lk σ j) (hI.2.1 j (by omega)).1 (hI.2.1 j (by omega)).2.1 (dS σ (dF (tot σ) 1019 7) j) (hI.2.1 j (by omega)).2.2.2) (cwV 1 hts gX1_digest_X0_addedTo rfl rfl rfl (by decide +kernel) ⟨Nat.le_of_ble_eq_true rfl, Nat.le_of_ble_eq_true rfl⟩) (Ob.recv hK (hW.2.2 j (by omega)).1 rfl) (hW.2.2 j (by omega)) rfl hl.1 rfl (Nat.le_of_ble_eq_true rfl) dX1_digest_56 ⟨Nat.zero_le _, Nat.zero_le _⟩ ?_
      refine W.eq (g2 := F0 m 59 ls [.long (kd σ j (dS σ (dF (tot σ) 1019 7) j))]) rfl ?_
      refine lv_lstore_n (lv' := [(1, .long (kd σ j (dS σ (dF (tot σ) 1019 7) j))), (4, .ref (ad j)), (0, .ref x), (3, .int (nI j))]) hx hb dX1_digest_59 rfl hl (by decide) rfl (fun ls hl => ?_)
      refine x_iinc (n := 1) (lv' := [(3, .int (nI (j + 1))), (1, .long (kd σ j (dS σ (dF (tot σ) 1019 7) j))), (4, .ref (ad j)), (0, .ref x)]) hx hb dX1_digest_60 hl (k := 3) rfl (by decide) rfl (fun ls hl => ?_)
      refine lv_goto (tgt := 33) hx hb dX1_digest_63 (by decide) ?_
      have hl : lv_has ls 5 [(3, .int (nI (j + 1))), (1, .long (dS σ (dF (tot σ) 1019 7) (j + 1))), (4, .ref (ad j)), (0, .ref x)] := x_hl hl (by rw [show kd σ j (dS σ (dF (tot σ) 1019 7) j) = dS σ (dF (tot σ) 1019 7) (j + 1) from rfl])
      exact ih (j + 1) (by omega) (by omega) ls (lv_sub hl [3, 1, 0] rfl)
  · skip
    refine lv_lload_n hx hb dX1_digest_12 rfl (lv_at hl 1 rfl) ?_
    refine lv_ldc2 hx hb hown (v := 31) (hts _ (by decide +kernel)) dX1_digest_13 ?_
    refine lv_lmul hx hb dX1_digest_16 ?_
    refine lv_aload_n hx hb dX1_digest_17 rfl (lv_at hl 0 rfl) ?_
    refine lv_iload_n hx hb dX1_digest_18 rfl (lv_at hl 2 rfl) ?_
    refine ro_V (rest := [.long ((dF (tot σ) 1019 i) * 31)]) S hK (c_X1_total l Γ x σ ad hI b0 i hy (by omega)) (cwV 1 hts gX1_digest_X1_total rfl rfl rfl (by decide +kernel) ⟨Nat.le_of_ble_eq_true rfl, Nat.le_of_ble_eq_true rfl⟩) (Ob.recv hK hW.1 rfl) hW rfl hl.1 rfl (Nat.le_of_ble_eq_true rfl) dX1_digest_19 ⟨Nat.zero_le _, Nat.zero_le _⟩ ?_
    refine W.eq (g2 := F0 m 22 ls [.int (tot σ i), .long ((dF (tot σ) 1019 i) * 31)]) rfl ?_
    refine lv_i2l hx hb dX1_digest_22 rfl ?_
    refine lv_ladd hx hb dX1_digest_23 ?_
    refine lv_lstore_n (lv' := [(1, .long (((dF (tot σ) 1019 i) * 31) + ((tot σ i).toInt64))), (0, .ref x), (3, .int (nI i))]) hx hb dX1_digest_24 rfl hl (by decide) rfl (fun ls hl => ?_)
    refine x_iinc (n := 1) (lv' := [(3, .int (nI (i + 1))), (1, .long (((dF (tot σ) 1019 i) * 31) + ((tot σ i).toInt64))), (0, .ref x)]) hx hb dX1_digest_25 hl (k := 2) rfl (by decide) rfl (fun ls hl => ?_)
    refine lv_goto (tgt := 6) hx hb dX1_digest_28 (by decide) ?_
    have hl : lv_has ls 5 [(3, .int (nI (i + 1))), (1, .long (dF (tot σ) 1019 (i + 1))), (0, .ref x)] := x_hl hl (by rw [← dF_s])
    exact ih (i + 1) (by omega) (by omega) ls (lv_sub hl [2, 1, 0] rfl)
end
section
/-- the reference's world: the object, its rows behind it -/
def MW (Γ : GG) (mo : Nat) (th : Int32) (σ : St) (g1 g2 : Nat → Int32) (H : Heap) : Prop :=
  Ob Γ 2 mo [.int th, .int (nI (qn σ)), .int (qb σ), .ref (mo + 1), .ref (mo + 2), .ref (mo + 3), .ref (mo + 4), .ref (mo + 5), .ref (mo + 6), .ref (mo + 7), .ref (mo + 8), .ref (mo + 9), .ref (mo + 10)] H ∧
  Ai Γ (mo + 1) 40 (fun k => nI (qp σ k)) H ∧ Ai Γ (mo + 2) 40 (fun k => nI (qu σ k)) H ∧ Ai Γ (mo + 3) 40 (fun k => nI (qg σ k)) H ∧ Ai Γ (mo + 4) 40 (qB σ) H ∧ Ai Γ (mo + 5) 40 (qE σ) H ∧
  Ai Γ (mo + 6) 1440 (fun i => qr σ i + 1) H ∧ Ai Γ (mo + 7) 480 (qa σ) H ∧ Ai Γ (mo + 8) 480 (ql σ) H ∧ Ai Γ (mo + 9) 12 g1 H ∧ Ai Γ (mo + 10) 12 g2 H
theorem bP_iff {P Q : Prop} (h : P ↔ Q) : bP P = bP Q := by
  by_cases q : Q
  · rw [bP_t q, bP_t (h.mpr q)]
  · rw [bP_f q, bP_f (fun z => q (h.mp z))]
theorem pn_toInt {n : Nat} (hn : n < 2 ^ 31) : (pn n).toInt = (n : Int) - 1 := by
  cases n with
  | zero => decide +kernel
  | succ k =>
    rw [pn_s, nI_toInt (by omega)]
    omega
theorem isin_iff {x a b : Int32} {n : Nat} (ha : a.toInt = 0) (hb : b.toInt = (n : Int) - 1) : (a ≤ x ∧ x ≤ b) ↔ inb x n := by
  unfold inb
  rw [Int32.le_iff_toInt_le, Int32.le_iff_toInt_le, ha, hb]
  omega
theorem nI0_toInt : (nI 0).toInt = 0 := by decide +kernel
theorem isin_pn {x : Int32} {n : Nat} (hn : n < 2 ^ 31) : (nI 0 ≤ x ∧ x ≤ pn n) ↔ inb x n := isin_iff nI0_toInt (pn_toInt hn)
theorem isin_3 {x : Int32} : (nI 0 ≤ x ∧ x ≤ nI 2) ↔ inb x 3 := isin_iff nI0_toInt (by decide +kernel)
theorem isin_24 {x : Int32} : (nI 0 ≤ x ∧ x ≤ nI 23) ↔ inb x 24 := isin_iff nI0_toInt (by decide +kernel)
theorem isin_7 {x : Int32} : (nI 0 ≤ x ∧ x ≤ nI 6) ↔ inb x 7 := isin_iff nI0_toInt (by decide +kernel)
theorem isin_N {x : Int32} {k : Nat} (hk : k < 2 ^ 31) (h0 : 1 ≤ k) : (nI 0 ≤ x ∧ x ≤ nI (k - 1)) ↔ inb x k := isin_iff nI0_toInt (by rw [nI_toInt (by omega)]; omega)
def spotP (σ : St) (x s p : Int32) : Prop := inb x (qn σ) ∧ inb s 3 ∧ inb p (qp σ x.toInt.toNat)
theorem toN {k : Nat} (hk : k < 2 ^ 31) : (nI k).toInt.toNat = k := by
  rw [nI_toInt hk, Int.toNat_natCast]
theorem thr_m {σ : St} {i : Nat} (h : qg σ i ≤ 1) : thr σ (i + 1) = thr σ i + (1 - qg σ i) := by
  rcases Nat.eq_zero_or_pos (qg σ i) with q | q
  · rw [thr_y q]; omega
  · rw [thr_n q]; omega
theorem okR_t {x : Int32} (h : okR x) (h2 : x + 1 ≤ 0) : x = -1 := by
  rcases h with h | ⟨r, hr, rfl⟩
  · exact h
  · rw [nI_1] at h2
    exact absurd h2 (nI_nle (by omega) (by omega))
theorem okR_f {x : Int32} (h2 : ¬ x + 1 ≤ 0) : ¬ x = -1 := by
  intro q
  rw [q] at h2
  exact h2 (by decide +kernel)
theorem okR_z {x : Int32} (h2 : x + 1 = 0) : x = -1 := by
  have h3 : x + 1 + -1 = 0 + -1 := by rw [h2]
  rw [Int32.add_assoc] at h3
  have h4 : (1 : Int32) + -1 = 0 := by decide +kernel
  rw [h4, Int32.add_zero, Int32.zero_add] at h3
  exact h3
theorem okR_nz {x : Int32} (h2 : ¬ x + 1 = 0) : ¬ x = -1 := by
  intro q
  rw [q] at h2
  exact h2 (by decide +kernel)
theorem add1_sub1 (x : Int32) : x + 1 - nI 1 = x := by
  rw [Int32.sub_eq_add_neg, Int32.add_assoc]
  have h4 : (1 : Int32) + -nI 1 = 0 := by decide +kernel
  rw [h4, Int32.add_zero]
theorem gT_add {Gl : Nat → Int32} {i : Nat} (h : Gl i = 0 ∨ Gl i = 1) : nI (gT Gl i) + Gl i = nI (gT Gl (i + 1)) := by
  rcases h with h | h
  · rw [gT_n (fun q => q h), h, Int32.add_zero]
  · rw [gT_y (by rw [h]; decide +kernel), h, nI_1]
theorem rk_at (σ : St) (k pl s : Nat) : qr σ (3 * (12 * k + pl) + s) = rk σ k (3 * pl + s) := congrArg (qr σ) (by omega)
end
section
theorem in_X2_thrown_X2 : ∀ w ∈ wsX20, w ∈ wsX2_thrown := by decide +kernel
set_option maxHeartbeats 4000000 in
set_option maxRecDepth 100000 in
theorem c_X2_thrown (l : Launch) (Γ : GG) (mo : Nat) (th : Int32) (σ : St) (g1 g2 : Nat → Int32) (hI : Iv σ)   : Ro l yX2_thrown wsX2_thrown ({ frames := 0, cells := 0, slots := 0, locals := 0 }) Γ [.ref mo] (MW Γ mo th σ g1 g2) (some (.int th)) := by
  refine Ro.of (cc := cX2_thrown) (maxL := 1) (ret := some .int) (by decide) rfl (Nat.le_of_ble_eq_true rfl) ?_
  intro p e s m below meth c S hr hlk hK hW ls hl
  obtain ⟨hx, hb, hml, hown, hts⟩ := id S
  have hl : lv_has ls 1 [(0, .ref mo)] := hl
  refine lv_aload_n hx hb dX2_thrown_0 rfl (lv_at hl 0 rfl) ?_
  refine x_get S in_X2_thrown_X2 hK hW.1 rfl 0 (by decide) (by decide +kernel) rfl rfl dX2_thrown_1 ?_
  exact ro_iret hx hb hr hlk dX2_thrown_4
set_option maxHeartbeats 4000000 in
set_option maxRecDepth 100000 in
theorem c_X2_isIn (l : Launch) (Γ : GG)   (y a b : Int32)  : Ro l yX2_isIn wsX2_isIn ({ frames := 0, cells := 0, slots := 0, locals := 0 }) Γ [.int y, .int a, .int b] (fun _ => True) (some (.int (nI (bP (a ≤ y ∧ y ≤ b))))) := by
  refine Ro.of (cc := cX2_isIn) (maxL := 3) (ret := some .boolean) (by decide) rfl (Nat.le_of_ble_eq_true rfl) ?_
  intro p e s m below meth c S hr hlk hK hW ls hl
  obtain ⟨hx, hb, hml, hown, hts⟩ := id S
  have hl : lv_has ls 3 [(0, .int y), (1, .int a), (2, .int b)] := hl
  refine lv_iload_n hx hb dX2_isIn_0 rfl (lv_at hl 0 rfl) ?_
  refine lv_iload_n hx hb dX2_isIn_1 rfl (lv_at hl 1 rfl) ?_
  refine lv_icmp_lt (tgt := 14) hx hb dX2_isIn_2 (by decide) (fun c_1 => ?_) (fun c_1 => ?_)
  · skip
    refine lv_iconst (v := nI 0) hx hb dX2_isIn_14 (by decide +kernel) ?_
    refine x_e (show nI 0 = nI (bP (a ≤ y ∧ y ≤ b)) by rw [bP_f (fun q => absurd c_1 (Int32.not_lt.mpr q.1))]) ?_
    exact ro_zret (bP_le _) hx hb hr hlk dX2_isIn_15
  · skip
    refine lv_iload_n hx hb dX2_isIn_5 rfl (lv_at hl 0 rfl) ?_
    refine lv_iload_n hx hb dX2_isIn_6 rfl (lv_at hl 2 rfl) ?_
    refine lv_icmp_gt (tgt := 14) hx hb dX2_isIn_7 (by decide) (fun c_2 => ?_) (fun c_2 => ?_)
    · skip
      refine lv_iconst (v := nI 0) hx hb dX2_isIn_14 (by decide +kernel) ?_
      refine x_e (show nI 0 = nI (bP (a ≤ y ∧ y ≤ b)) by rw [bP_f (fun q => absurd c_2 (Int32.not_lt.mpr q.2))]) ?_
      exact ro_zret (bP_le _) hx hb hr hlk dX2_isIn_15
    · skip
      refine lv_iconst (v := nI 1) hx hb dX2_isIn_10 (by decide +kernel) ?_
      refine lv_goto (tgt := 15) hx hb dX2_isIn_11 (by decide) ?_
      refine x_e (show nI 1 = nI (bP (a ≤ y ∧ y ≤ b)) by rw [bP_t ⟨Int32.not_lt.mp c_1, Int32.not_lt.mp c_2⟩]) ?_
      exact ro_zret (bP_le _) hx hb hr hlk dX2_isIn_15
theorem in_X2_isStick_X2 : ∀ w ∈ wsX20, w ∈ wsX2_isStick := by decide +kernel
set_option maxHeartbeats 4000000 in
set_option maxRecDepth 100000 in
theorem c_X2_isStick (l : Launch) (Γ : GG) (mo : Nat) (th : Int32) (σ : St) (g1 g2 : Nat → Int32) (hI : Iv σ) (y : Int32)  : Ro l yX2_isStick wsX2_isStick ({ frames := 1, cells := 0, slots := 0, locals := 22 }) Γ [.ref mo, .int y] (MW Γ mo th σ g1 g2) (some (.int (nI (bP (inb y (qn σ)))))) := by
  refine Ro.of (cc := cX2_isStick) (maxL := 2) (ret := some .boolean) (by decide) rfl (Nat.le_of_ble_eq_true rfl) ?_
  intro p e s m below meth c S hr hlk hK hW ls hl
  obtain ⟨hx, hb, hml, hown, hts⟩ := id S
  have hl : lv_has ls 2 [(0, .ref mo), (1, .int y)] := hl
  have hn40 := hI.1
  refine lv_iload_n hx hb dX2_isStick_0 rfl (lv_at hl 1 rfl) ?_
  refine lv_iconst (v := nI 0) hx hb dX2_isStick_1 (by decide +kernel) ?_
  refine lv_aload_n hx hb dX2_isStick_2 rfl (lv_at hl 0 rfl) ?_
  refine x_get S in_X2_isStick_X2 hK hW.1 rfl 1 (by decide) (by decide +kernel) rfl rfl dX2_isStick_3 ?_
  refine lv_iconst (v := nI 1) hx hb dX2_isStick_6 (by decide +kernel) ?_
  refine lv_isub hx hb dX2_isStick_7 ?_
  refine x_e (pn_sub (qn σ)) ?_
  refine ro_S (rest := []) S hK (c_X2_isIn l Γ y (nI 0) (pn (qn σ))) (cwS 3 hts gX2_isStick_X2_isIn rfl rfl rfl (by decide +kernel) ⟨Nat.le_of_ble_eq_true rfl, Nat.le_of_ble_eq_true rfl⟩) trivial rfl hl.1 rfl (Nat.le_of_ble_eq_true rfl) dX2_isStick_8 ⟨Nat.zero_le _, Nat.zero_le _⟩ ?_
  refine W.eq (g2 := F0 m 11 ls [.int (nI (bP (nI 0 ≤ y ∧ y ≤ pn (qn σ))))]) rfl ?_
  refine x_e (show nI (bP (nI 0 ≤ y ∧ y ≤ pn (qn σ))) = nI (bP (inb y (qn σ))) by rw [bP_iff (isin_pn (by omega))]) ?_
  exact ro_zret (bP_le _) hx hb hr hlk dX2_isStick_11
set_option maxHeartbeats 4000000 in
set_option maxRecDepth 100000 in
theorem c_X2_isSide (l : Launch) (Γ : GG)   (y : Int32)  : Ro l yX2_isSide wsX2_isSide ({ frames := 1, cells := 0, slots := 0, locals := 22 }) Γ [.int y] (fun _ => True) (some (.int (nI (bP (inb y 3))))) := by
  refine Ro.of (cc := cX2_isSide) (maxL := 1) (ret := some .boolean) (by decide) rfl (Nat.le_of_ble_eq_true rfl) ?_
  intro p e s m below meth c S hr hlk hK hW ls hl
  obtain ⟨hx, hb, hml, hown, hts⟩ := id S
  have hl : lv_has ls 1 [(0, .int y)] := hl
  refine lv_iload_n hx hb dX2_isSide_0 rfl (lv_at hl 0 rfl) ?_
  refine lv_iconst (v := nI 0) hx hb dX2_isSide_1 (by decide +kernel) ?_
  refine lv_iconst (v := nI 2) hx hb dX2_isSide_2 (by decide +kernel) ?_
  refine ro_S (rest := []) S hK (c_X2_isIn l Γ y (nI 0) (nI 2)) (cwS 3 hts gX2_isSide_X2_isIn rfl rfl rfl (by decide +kernel) ⟨Nat.le_of_ble_eq_true rfl, Nat.le_of_ble_eq_true rfl⟩) trivial rfl hl.1 rfl (Nat.le_of_ble_eq_true rfl) dX2_isSide_3 ⟨Nat.zero_le _, Nat.zero_le _⟩ ?_
  refine W.eq (g2 := F0 m 6 ls [.int (nI (bP (nI 0 ≤ y ∧ y ≤ nI 2)))]) rfl ?_
  refine x_e (show nI (bP (nI 0 ≤ y ∧ y ≤ nI 2)) = nI (bP (inb y 3)) by rw [bP_iff isin_3]) ?_
  exact ro_zret (bP_le _) hx hb hr hlk dX2_isSide_6
set_option maxHeartbeats 4000000 in
set_option maxRecDepth 100000 in
theorem c_X2_isRune (l : Launch) (Γ : GG)   (y : Int32)  : Ro l yX2_isRune wsX2_isRune ({ frames := 1, cells := 0, slots := 0, locals := 22 }) Γ [.int y] (fun _ => True) (some (.int (nI (bP (inb y 24))))) := by
  refine Ro.of (cc := cX2_isRune) (maxL := 1) (ret := some .boolean) (by decide) rfl (Nat.le_of_ble_eq_true rfl) ?_
  intro p e s m below meth c S hr hlk hK hW ls hl
  obtain ⟨hx, hb, hml, hown, hts⟩ := id S
  have hl : lv_has ls 1 [(0, .int y)] := hl
  refine lv_iload_n hx hb dX2_isRune_0 rfl (lv_at hl 0 rfl) ?_
  refine lv_iconst (v := nI 0) hx hb dX2_isRune_1 (by decide +kernel) ?_
  refine lv_bipush (v := nI 23) hx hb dX2_isRune_2 (by decide +kernel) ?_
  refine ro_S (rest := []) S hK (c_X2_isIn l Γ y (nI 0) (nI 23)) (cwS 3 hts gX2_isRune_X2_isIn rfl rfl rfl (by decide +kernel) ⟨Nat.le_of_ble_eq_true rfl, Nat.le_of_ble_eq_true rfl⟩) trivial rfl hl.1 rfl (Nat.le_of_ble_eq_true rfl) dX2_isRune_4 ⟨Nat.zero_le _, Nat.zero_le _⟩ ?_
  refine W.eq (g2 := F0 m 7 ls [.int (nI (bP (nI 0 ≤ y ∧ y ≤ nI 23)))]) rfl ?_
  refine x_e (show nI (bP (nI 0 ≤ y ∧ y ≤ nI 23)) = nI (bP (inb y 24)) by rw [bP_iff isin_24]) ?_
  exact ro_zret (bP_le _) hx hb hr hlk dX2_isRune_7
set_option maxHeartbeats 4000000 in
set_option maxRecDepth 100000 in
theorem c_X2_spot (l : Launch) (Γ : GG)   (k pl sd : Nat)  : Ro l yX2_spot wsX2_spot ({ frames := 0, cells := 0, slots := 0, locals := 0 }) Γ [.int (nI k), .int (nI pl), .int (nI sd)] (fun _ => True) (some (.int (nI (3 * (12 * k + pl) + sd)))) := by
  refine Ro.of (cc := cX2_spot) (maxL := 3) (ret := some .int) (by decide) rfl (Nat.le_of_ble_eq_true rfl) ?_
  intro p e s m below meth c S hr hlk hK hW ls hl
  obtain ⟨hx, hb, hml, hown, hts⟩ := id S
  have hl : lv_has ls 3 [(0, .int (nI k)), (1, .int (nI pl)), (2, .int (nI sd))] := hl
  refine lv_iconst (v := nI 3) hx hb dX2_spot_0 (by decide +kernel) ?_
  refine lv_bipush (v := nI 12) hx hb dX2_spot_1 (by decide +kernel) ?_
  refine lv_iload_n hx hb dX2_spot_3 rfl (lv_at hl 0 rfl) ?_
  refine x_mul hx hb dX2_spot_4 ?_
  refine lv_iload_n hx hb dX2_spot_5 rfl (lv_at hl 1 rfl) ?_
  refine x_add hx hb dX2_spot_6 ?_
  refine x_mul hx hb dX2_spot_7 ?_
  refine lv_iload_n hx hb dX2_spot_8 rfl (lv_at hl 2 rfl) ?_
  refine x_add hx hb dX2_spot_9 ?_
  exact ro_iret hx hb hr hlk dX2_spot_10
theorem in_X2_isSpot_X2 : ∀ w ∈ wsX20, w ∈ wsX2_isSpot := by decide +kernel
set_option maxHeartbeats 4000000 in
set_option maxRecDepth 100000 in
theorem c_X2_isSpot (l : Launch) (Γ : GG) (mo : Nat) (th : Int32) (σ : St) (g1 g2 : Nat → Int32) (hI : Iv σ) (y z v : Int32)  : Ro l yX2_isSpot wsX2_isSpot ({ frames := 2, cells := 0, slots := 0, locals := 43 }) Γ [.ref mo, .int y, .int z, .int v] (MW Γ mo th σ g1 g2) (some (.int (nI (bP (spotP σ y z v))))) := by
  refine Ro.of (cc := cX2_isSpot) (maxL := 4) (ret := some .boolean) (by decide) rfl (Nat.le_of_ble_eq_true rfl) ?_
  intro p e s m below meth c S hr hlk hK hW ls hl
  obtain ⟨hx, hb, hml, hown, hts⟩ := id S
  have hl : lv_has ls 4 [(0, .ref mo), (1, .int y), (2, .int z), (3, .int v)] := hl
  have hn40 := hI.1
  refine lv_aload_n hx hb dX2_isSpot_0 rfl (lv_at hl 0 rfl) ?_
  refine lv_iload_n hx hb dX2_isSpot_1 rfl (lv_at hl 1 rfl) ?_
  refine ro_V (rest := []) S hK (c_X2_isStick l Γ mo th σ g1 g2 hI y) (cwV 1 hts gX2_isSpot_X2_isStick rfl rfl rfl (by decide +kernel) ⟨Nat.le_of_ble_eq_true rfl, Nat.le_of_ble_eq_true rfl⟩) (Ob.recv hK hW.1 rfl) hW rfl hl.1 rfl (Nat.le_of_ble_eq_true rfl) dX2_isSpot_2 ⟨Nat.zero_le _, Nat.zero_le _⟩ ?_
  refine W.eq (g2 := F0 m 5 ls [.int (nI (bP (inb y (qn σ))))]) rfl ?_
  have hbb5 := bP_le ((inb y (qn σ)))
  refine x_ifeq hx hb (by omega) (tgt := 35) dX2_isSpot_5 (by decide) (fun c_1 => ?_) (fun c_1 => ?_)
  · skip
    refine lv_iconst (v := nI 0) hx hb dX2_isSpot_35 (by decide +kernel) ?_
    refine x_e (show nI 0 = nI (bP (spotP σ y z v)) by rw [bP_f (fun q => bP_0 c_1 q.1)]) ?_
    exact ro_zret (bP_le _) hx hb hr hlk dX2_isSpot_36
  · skip
    obtain ⟨k, hk, rfl⟩ := inb_ex (bP_1 c_1)
    obtain ⟨hp0, hp12, hu3, hg1⟩ := hI.2.1 k hk
    refine lv_iload_n hx hb dX2_isSpot_8 rfl (lv_at hl 2 rfl) ?_
    refine ro_S (rest := []) S hK (c_X2_isSide l Γ z) (cwS 1 hts gX2_isSpot_X2_isSide rfl rfl rfl (by decide +kernel) ⟨Nat.le_of_ble_eq_true rfl, Nat.le_of_ble_eq_true rfl⟩) trivial rfl hl.1 rfl (Nat.le_of_ble_eq_true rfl) dX2_isSpot_9 ⟨Nat.zero_le _, Nat.zero_le _⟩ ?_
    refine W.eq (g2 := F0 m 12 ls [.int (nI (bP (inb z 3)))]) rfl ?_
    have hbb12 := bP_le ((inb z 3))
    refine x_ifeq hx hb (by omega) (tgt := 35) dX2_isSpot_12 (by decide) (fun c_2 => ?_) (fun c_2 => ?_)
    · skip
      refine lv_iconst (v := nI 0) hx hb dX2_isSpot_35 (by decide +kernel) ?_
      refine x_e (show nI 0 = nI (bP (spotP σ (nI k) z v)) by rw [bP_f (fun q => bP_0 c_2 q.2.1)]) ?_
      exact ro_zret (bP_le _) hx hb hr hlk dX2_isSpot_36
    · skip
      refine lv_iload_n hx hb dX2_isSpot_15 rfl (lv_at hl 3 rfl) ?_
      refine lv_iconst (v := nI 0) hx hb dX2_isSpot_16 (by decide +kernel) ?_
      refine lv_aload_n hx hb dX2_isSpot_17 rfl (lv_at hl 0 rfl) ?_
      refine x_get S in_X2_isSpot_X2 hK hW.1 rfl 3 (by decide) (by decide +kernel) rfl rfl dX2_isSpot_18 ?_
      refine lv_iload_n hx hb dX2_isSpot_21 rfl (lv_at hl 1 rfl) ?_
      refine x_iald hx hb hK hW.2.1 (by omega) (by omega) dX2_isSpot_22 ?_
      refine lv_iconst (v := nI 1) hx hb dX2_isSpot_23 (by decide +kernel) ?_
      refine x_sub hx hb (by omega) dX2_isSpot_24 ?_
      refine ro_S (rest := []) S hK (c_X2_isIn l Γ v (nI 0) (nI ((qp σ k) - 1))) (cwS 3 hts gX2_isSpot_X2_isIn rfl rfl rfl (by decide +kernel) ⟨Nat.le_of_ble_eq_true rfl, Nat.le_of_ble_eq_true rfl⟩) trivial rfl hl.1 rfl (Nat.le_of_ble_eq_true rfl) dX2_isSpot_25 ⟨Nat.zero_le _, Nat.zero_le _⟩ ?_
      refine W.eq (g2 := F0 m 28 ls [.int (nI (bP (nI 0 ≤ v ∧ v ≤ nI ((qp σ k) - 1))))]) rfl ?_
      have hbb28 := bP_le ((nI 0 ≤ v ∧ v ≤ nI ((qp σ k) - 1)))
      refine x_ifeq hx hb (by omega) (tgt := 35) dX2_isSpot_28 (by decide) (fun c_3 => ?_) (fun c_3 => ?_)
      · skip
        refine lv_iconst (v := nI 0) hx hb dX2_isSpot_35 (by decide +kernel) ?_
        refine x_e (show nI 0 = nI (bP (spotP σ (nI k) z v)) by rw [bP_f (fun q => bP_0 c_3 ((isin_N (by omega) hp0).mpr (by have := q.2.2; rw [toN (by omega)] at this; exact this)))]) ?_
        exact ro_zret (bP_le _) hx hb hr hlk dX2_isSpot_36
      · skip
        refine lv_iconst (v := nI 1) hx hb dX2_isSpot_31 (by decide +kernel) ?_
        refine lv_goto (tgt := 36) hx hb dX2_isSpot_32 (by decide) ?_
        refine x_e (show nI 1 = nI (bP (spotP σ (nI k) z v)) by rw [bP_t ⟨(inb_nI (by omega)).mpr hk, bP_1 c_2, by rw [toN (by omega)]; exact (isin_N (by omega) hp0).mp (bP_1 c_3)⟩]) ?_
        exact ro_zret (bP_le _) hx hb hr hlk dX2_isSpot_36
theorem in_X2_there_X2 : ∀ w ∈ wsX20, w ∈ wsX2_there := by decide +kernel
set_option maxHeartbeats 4000000 in
set_option maxRecDepth 100000 in
theorem c_X2_there (l : Launch) (Γ : GG) (mo : Nat) (th : Int32) (σ : St) (g1 g2 : Nat → Int32) (hI : Iv σ)   : Ro l yX2_there wsX2_there ({ frames := 0, cells := 0, slots := 0, locals := 0 }) Γ [.ref mo] (MW Γ mo th σ g1 g2) (some (.int (nI (thr σ (qn σ))))) := by
  refine Ro.of (cc := cX2_there) (maxL := 3) (ret := some .int) (by decide) rfl (Nat.le_of_ble_eq_true rfl) ?_
  intro p e s m below meth c S hr hlk hK hW ls hl
  obtain ⟨hx, hb, hml, hown, hts⟩ := id S
  have hl : lv_has ls 3 [(0, .ref mo)] := hl
  have hn40 := hI.1
  refine lv_iconst (v := nI 0) hx hb dX2_there_0 (by decide +kernel) ?_
  refine lv_istore_n (lv' := [(1, .int (nI 0)), (0, .ref mo)]) hx hb dX2_there_1 rfl hl (by decide) rfl (fun ls hl => ?_)
  refine lv_iconst (v := nI 0) hx hb dX2_there_2 (by decide +kernel) ?_
  refine lv_istore_n (lv' := [(2, .int (nI 0)), (1, .int (nI 0)), (0, .ref mo)]) hx hb dX2_there_3 rfl hl (by decide) rfl (fun ls hl => ?_)
  refine x_loop (σ := Nat) (fun u => [(0, .ref mo), (1, .int (nI (thr σ u))), (2, .int (nI u))]) (fun u => u ≤ qn σ) (fun u => qn σ - u) (fun u hu ih ls hl => ?_) 0 (by omega) ls (x_hl (lv_sub (l' := [(0, .ref mo), (1, .int (nI 0)), (2, .int (nI 0))]) hl [2, 1, 0] rfl) rfl)
  obtain ⟨i, rfl⟩ : ∃ z, z = u := ⟨_, rfl⟩
  have hu : i ≤ qn σ := hu
  have hl : lv_has ls 3 [(0, .ref mo), (1, .int (nI (thr σ i))), (2, .int (nI i))] := hl
  refine lv_iload_n hx hb dX2_there_4 rfl (lv_at hl 2 rfl) ?_
  refine lv_aload_n hx hb dX2_there_5 rfl (lv_at hl 0 rfl) ?_
  refine x_get S in_X2_there_X2 hK hW.1 rfl 1 (by decide) (by decide +kernel) rfl rfl dX2_there_6 ?_
  refine x_icge hx hb (by omega) (by omega) (tgt := 29) dX2_there_9 (by decide) (fun c_1 => ?_) (fun c_1 => ?_)
  · skip
    refine lv_iload_n hx hb dX2_there_29 rfl (lv_at hl 1 rfl) ?_
    refine x_e (show nI (thr σ i) = nI (thr σ (qn σ)) by rw [show i = qn σ by omega]) ?_
    exact ro_iret hx hb hr hlk dX2_there_30
  · skip
    have hg1 := (hI.2.1 i (by omega)).2.2.2
    refine lv_iload_n hx hb dX2_there_12 rfl (lv_at hl 1 rfl) ?_
    refine lv_iconst (v := nI 1) hx hb dX2_there_13 (by decide +kernel) ?_
    refine lv_aload_n hx hb dX2_there_14 rfl (lv_at hl 0 rfl) ?_
    refine x_get S in_X2_there_X2 hK hW.1 rfl 5 (by decide) (by decide +kernel) rfl rfl dX2_there_15 ?_
    refine lv_iload_n hx hb dX2_there_18 rfl (lv_at hl 2 rfl) ?_
    refine x_iald hx hb hK hW.2.2.2.1 (by omega) (by omega) dX2_there_19 ?_
    refine x_sub hx hb (by omega) dX2_there_20 ?_
    refine x_add hx hb dX2_there_21 ?_
    refine lv_istore_n (lv' := [(1, .int (nI ((thr σ i) + (1 - (qg σ i))))), (0, .ref mo), (2, .int (nI i))]) hx hb dX2_there_22 rfl hl (by decide) rfl (fun ls hl => ?_)
    refine x_iinc (n := 1) (lv' := [(2, .int (nI (i + 1))), (1, .int (nI ((thr σ i) + (1 - (qg σ i))))), (0, .ref mo)]) hx hb dX2_there_23 hl (k := 2) rfl (by decide) rfl (fun ls hl => ?_)
    refine lv_goto (tgt := 4) hx hb dX2_there_26 (by decide) ?_
    have hl : lv_has ls 3 [(2, .int (nI (i + 1))), (1, .int (nI (thr σ (i + 1)))), (0, .ref mo)] := x_hl hl (by rw [← thr_m hg1])
    exact ih (i + 1) (by omega) (by omega) ls (lv_sub hl [2, 1, 0] rfl)
theorem in_X2_runesAt_X2 : ∀ w ∈ wsX20, w ∈ wsX2_runesAt := by decide +kernel
set_option maxHeartbeats 4000000 in
set_option maxRecDepth 100000 in
theorem c_X2_runesAt (l : Launch) (Γ : GG) (mo : Nat) (th : Int32) (σ : St) (g1 g2 : Nat → Int32) (hI : Iv σ) (k pl : Nat) (hk : k < qn σ) (h1 : pl < 12) : Ro l yX2_runesAt wsX2_runesAt ({ frames := 1, cells := 0, slots := 0, locals := 22 }) Γ [.ref mo, .int (nI k), .int (nI pl)] (MW Γ mo th σ g1 g2) (some (.int (nI (rc (rk σ k) pl)))) := by
  refine Ro.of (cc := cX2_runesAt) (maxL := 5) (ret := some .int) (by decide) rfl (Nat.le_of_ble_eq_true rfl) ?_
  intro p e s m below meth c S hr hlk hK hW ls hl
  obtain ⟨hx, hb, hml, hown, hts⟩ := id S
  have hl : lv_has ls 5 [(0, .ref mo), (1, .int (nI k)), (2, .int (nI pl))] := hl
  have hn40 := hI.1
  refine lv_iconst (v := nI 0) hx hb dX2_runesAt_0 (by decide +kernel) ?_
  refine lv_istore_n (lv' := [(3, .int (nI 0)), (0, .ref mo), (1, .int (nI k)), (2, .int (nI pl))]) hx hb dX2_runesAt_1 rfl hl (by decide) rfl (fun ls hl => ?_)
  refine lv_iconst (v := nI 0) hx hb dX2_runesAt_2 (by decide +kernel) ?_
  refine lv_istore (lv' := [(4, .int (nI 0)), (3, .int (nI 0)), (0, .ref mo), (1, .int (nI k)), (2, .int (nI pl))]) hx hb dX2_runesAt_3 hl (by decide) rfl (fun ls hl => ?_)
  refine x_loop (σ := Nat) (fun u => [(0, .ref mo), (1, .int (nI k)), (2, .int (nI pl)), (3, .int (nI (cU (fun s => rk σ k (3 * pl + s)) u))), (4, .int (nI u))]) (fun u => u ≤ 3) (fun u => 3 - u) (fun u hu ih ls hl => ?_) 0 (by omega) ls (x_hl (lv_sub (l' := [(0, .ref mo), (1, .int (nI k)), (2, .int (nI pl)), (3, .int (nI 0)), (4, .int (nI 0))]) hl [2, 3, 4, 1, 0] rfl) rfl)
  obtain ⟨i, rfl⟩ : ∃ z, z = u := ⟨_, rfl⟩
  have hu : i ≤ 3 := hu
  have hl : lv_has ls 5 [(0, .ref mo), (1, .int (nI k)), (2, .int (nI pl)), (3, .int (nI (cU (fun s => rk σ k (3 * pl + s)) i))), (4, .int (nI i))] := hl
  refine lv_iload hx hb dX2_runesAt_5 (lv_at hl 4 rfl) ?_
  refine lv_iconst (v := nI 3) hx hb dX2_runesAt_7 (by decide +kernel) ?_
  refine x_icge hx hb (by omega) (by omega) (tgt := 40) dX2_runesAt_8 (by decide) (fun c_1 => ?_) (fun c_1 => ?_)
  · skip
    refine lv_iload_n hx hb dX2_runesAt_40 rfl (lv_at hl 3 rfl) ?_
    refine x_e (show nI (cU (fun s => rk σ k (3 * pl + s)) i) = nI (rc (rk σ k) pl) by rw [show i = 3 by omega]; rfl) ?_
    exact ro_iret hx hb hr hlk dX2_runesAt_41
  · skip
    refine lv_iload_n hx hb dX2_runesAt_11 rfl (lv_at hl 3 rfl) ?_
    refine lv_aload_n hx hb dX2_runesAt_12 rfl (lv_at hl 0 rfl) ?_
    refine x_get S in_X2_runesAt_X2 hK hW.1 rfl 8 (by decide) (by decide +kernel) rfl rfl dX2_runesAt_13 ?_
    refine lv_iload_n hx hb dX2_runesAt_16 rfl (lv_at hl 1 rfl) ?_
    refine lv_iload_n hx hb dX2_runesAt_17 rfl (lv_at hl 2 rfl) ?_
    refine lv_iload hx hb dX2_runesAt_18 (lv_at hl 4 rfl) ?_
    refine ro_S (rest := [.ref (mo + 6), .int (nI (cU (fun s => rk σ k (3 * pl + s)) i))]) S hK (c_X2_spot l Γ k pl i) (cwS 3 hts gX2_runesAt_X2_spot rfl rfl rfl (by decide +kernel) ⟨Nat.le_of_ble_eq_true rfl, Nat.le_of_ble_eq_true rfl⟩) trivial rfl hl.1 rfl (Nat.le_of_ble_eq_true rfl) dX2_runesAt_20 ⟨Nat.zero_le _, Nat.zero_le _⟩ ?_
    refine W.eq (g2 := F0 m 23 ls [.int (nI (3 * (12 * k + pl) + i)), .ref (mo + 6), .int (nI (cU (fun s => rk σ k (3 * pl + s)) i))]) rfl ?_
    refine x_iald hx hb hK hW.2.2.2.2.2.2.1 (by omega) (by omega) dX2_runesAt_23 ?_
    refine lv_if_le (tgt := 31) hx hb dX2_runesAt_24 (by decide) (fun c_2 => ?_) (fun c_2 => ?_)
    · skip
      refine lv_iconst (v := nI 0) hx hb dX2_runesAt_31 (by decide +kernel) ?_
      refine x_add hx hb dX2_runesAt_32 ?_
      refine lv_istore_n (lv' := [(3, .int (nI ((cU (fun s => rk σ k (3 * pl + s)) i) + 0))), (0, .ref mo), (1, .int (nI k)), (2, .int (nI pl)), (4, .int (nI i))]) hx hb dX2_runesAt_33 rfl hl (by decide) rfl (fun ls hl => ?_)
      refine x_iinc (n := 1) (lv' := [(4, .int (nI (i + 1))), (3, .int (nI ((cU (fun s => rk σ k (3 * pl + s)) i) + 0))), (0, .ref mo), (1, .int (nI k)), (2, .int (nI pl))]) hx hb dX2_runesAt_34 hl (k := 4) rfl (by decide) rfl (fun ls hl => ?_)
      refine lv_goto (tgt := 5) hx hb dX2_runesAt_37 (by decide) ?_
      have hl : lv_has ls 5 [(4, .int (nI (i + 1))), (3, .int (nI (cU (fun s => rk σ k (3 * pl + s)) (i + 1)))), (0, .ref mo), (1, .int (nI k)), (2, .int (nI pl))] := x_hl hl (by rw [show cU (fun s => rk σ k (3 * pl + s)) i + 0 = cU (fun s => rk σ k (3 * pl + s)) (i + 1) by rw [cU_n (f := fun s => rk σ k (3 * pl + s)) (n := i) (by rw [← rk_at]; exact okR_t (hI.2.2.2.1 _) c_2), Nat.add_zero]])
      exact ih (i + 1) (by omega) (by omega) ls (lv_sub hl [2, 3, 4, 1, 0] rfl)
    · skip
      refine lv_iconst (v := nI 1) hx hb dX2_runesAt_27 (by decide +kernel) ?_
      refine lv_goto (tgt := 32) hx hb dX2_runesAt_28 (by decide) ?_
      refine x_add hx hb dX2_runesAt_32 ?_
      refine lv_istore_n (lv' := [(3, .int (nI ((cU (fun s => rk σ k (3 * pl + s)) i) + 1))), (0, .ref mo), (1, .int (nI k)), (2, .int (nI pl)), (4, .int (nI i))]) hx hb dX2_runesAt_33 rfl hl (by decide) rfl (fun ls hl => ?_)
      refine x_iinc (n := 1) (lv' := [(4, .int (nI (i + 1))), (3, .int (nI ((cU (fun s => rk σ k (3 * pl + s)) i) + 1))), (0, .ref mo), (1, .int (nI k)), (2, .int (nI pl))]) hx hb dX2_runesAt_34 hl (k := 4) rfl (by decide) rfl (fun ls hl => ?_)
      refine lv_goto (tgt := 5) hx hb dX2_runesAt_37 (by decide) ?_
      have hl : lv_has ls 5 [(4, .int (nI (i + 1))), (3, .int (nI (cU (fun s => rk σ k (3 * pl + s)) (i + 1)))), (0, .ref mo), (1, .int (nI k)), (2, .int (nI pl))] := x_hl hl (by rw [show cU (fun s => rk σ k (3 * pl + s)) i + 1 = cU (fun s => rk σ k (3 * pl + s)) (i + 1) by rw [cU_y (f := fun s => rk σ k (3 * pl + s)) (n := i) (by rw [← rk_at]; exact okR_f c_2)]])
      exact ih (i + 1) (by omega) (by omega) ls (lv_sub hl [2, 3, 4, 1, 0] rfl)
theorem in_X2_strong_X2 : ∀ w ∈ wsX20, w ∈ wsX2_strong := by decide +kernel
set_option maxHeartbeats 4000000 in
set_option maxRecDepth 100000 in
theorem c_X2_strong (l : Launch) (Γ : GG) (mo : Nat) (th : Int32) (σ : St) (g1 g2 : Nat → Int32) (hI : Iv σ) (k j : Nat) (hk : k < qn σ) (h1 : j < 11) : Ro l yX2_strong wsX2_strong ({ frames := 2, cells := 0, slots := 0, locals := 46 }) Γ [.ref mo, .int (nI k), .int (nI j)] (MW Γ mo th σ g1 g2) (some (.int (stn (rk σ k) (ak σ k) j))) := by
  refine Ro.of (cc := cX2_strong) (maxL := 3) (ret := some .int) (by decide) rfl (Nat.le_of_ble_eq_true rfl) ?_
  intro p e s m below meth c S hr hlk hK hW ls hl
  obtain ⟨hx, hb, hml, hown, hts⟩ := id S
  have hl : lv_has ls 3 [(0, .ref mo), (1, .int (nI k)), (2, .int (nI j))] := hl
  have hn40 := hI.1
  refine lv_iconst (v := nI 0) hx hb dX2_strong_0 (by decide +kernel) ?_
  refine lv_aload_n hx hb dX2_strong_1 rfl (lv_at hl 0 rfl) ?_
  refine x_get S in_X2_strong_X2 hK hW.1 rfl 9 (by decide) (by decide +kernel) rfl rfl dX2_strong_2 ?_
  refine lv_bipush (v := nI 12) hx hb dX2_strong_5 (by decide +kernel) ?_
  refine lv_iload_n hx hb dX2_strong_7 rfl (lv_at hl 1 rfl) ?_
  refine x_mul hx hb dX2_strong_8 ?_
  refine lv_iload_n hx hb dX2_strong_9 rfl (lv_at hl 2 rfl) ?_
  refine x_add hx hb dX2_strong_10 ?_
  refine x_iald hx hb hK hW.2.2.2.2.2.2.2.1 (by omega) (by omega) dX2_strong_11 ?_
  refine lv_aload_n hx hb dX2_strong_12 rfl (lv_at hl 0 rfl) ?_
  refine lv_iload_n hx hb dX2_strong_13 rfl (lv_at hl 1 rfl) ?_
  refine lv_iload_n hx hb dX2_strong_14 rfl (lv_at hl 2 rfl) ?_
  refine ro_V (rest := [.int (qa σ ((12 * k) + j)), .int (nI 0)]) S hK (c_X2_runesAt l Γ mo th σ g1 g2 hI k j (by omega) (by omega)) (cwV 2 hts gX2_strong_X2_runesAt rfl rfl rfl (by decide +kernel) ⟨Nat.le_of_ble_eq_true rfl, Nat.le_of_ble_eq_true rfl⟩) (Ob.recv hK hW.1 rfl) hW rfl hl.1 rfl (Nat.le_of_ble_eq_true rfl) dX2_strong_15 ⟨Nat.zero_le _, Nat.zero_le _⟩ ?_
  refine W.eq (g2 := F0 m 18 ls [.int (nI (rc (rk σ k) j)), .int (qa σ ((12 * k) + j)), .int (nI 0)]) rfl ?_
  refine lv_isub hx hb dX2_strong_18 ?_
  refine lv_aload_n hx hb dX2_strong_19 rfl (lv_at hl 0 rfl) ?_
  refine lv_iload_n hx hb dX2_strong_20 rfl (lv_at hl 1 rfl) ?_
  refine lv_iload_n hx hb dX2_strong_21 rfl (lv_at hl 2 rfl) ?_
  refine lv_iconst (v := nI 1) hx hb dX2_strong_22 (by decide +kernel) ?_
  refine x_add hx hb dX2_strong_23 ?_
  refine ro_V (rest := [.int ((qa σ ((12 * k) + j)) - (nI (rc (rk σ k) j))), .int (nI 0)]) S hK (c_X2_runesAt l Γ mo th σ g1 g2 hI k (j + 1) (by omega) (by omega)) (cwV 2 hts gX2_strong_X2_runesAt rfl rfl rfl (by decide +kernel) ⟨Nat.le_of_ble_eq_true rfl, Nat.le_of_ble_eq_true rfl⟩) (Ob.recv hK hW.1 rfl) hW rfl hl.1 rfl (Nat.le_of_ble_eq_true rfl) dX2_strong_24 ⟨Nat.zero_le _, Nat.zero_le _⟩ ?_
  refine W.eq (g2 := F0 m 27 ls [.int (nI (rc (rk σ k) (j + 1))), .int ((qa σ ((12 * k) + j)) - (nI (rc (rk σ k) j))), .int (nI 0)]) rfl ?_
  refine lv_isub hx hb dX2_strong_27 ?_
  refine va_mmax hx hb (hml.trans hl.1.symm) hown (hts _ (by decide +kernel)) (hts _ (by decide +kernel)) (hts _ (by decide +kernel)) (hts _ (by decide +kernel)) (Nat.le_of_ble_eq_true rfl) (Nat.le_of_ble_eq_true rfl) (Nat.zero_le _) (Nat.zero_le _) dX2_strong_28 ?_
  refine W.eq (g2 := F0 m 31 ls [.int (if nI 0 < ((qa σ ((12 * k) + j)) - (nI (rc (rk σ k) j))) - (nI (rc (rk σ k) (j + 1))) then ((qa σ ((12 * k) + j)) - (nI (rc (rk σ k) j))) - (nI (rc (rk σ k) (j + 1))) else nI 0)]) rfl ?_
  refine x_e rfl ?_
  exact ro_iret hx hb hr hlk dX2_strong_31
theorem in_X2_weakest_X2 : ∀ w ∈ wsX20, w ∈ wsX2_weakest := by decide +kernel
set_option maxHeartbeats 4000000 in
set_option maxRecDepth 100000 in
theorem c_X2_weakest (l : Launch) (Γ : GG) (mo : Nat) (th : Int32) (σ : St) (g1 g2 : Nat → Int32) (hI : Iv σ) (k : Nat) (hk : k < qn σ) : Ro l yX2_weakest wsX2_weakest ({ frames := 3, cells := 0, slots := 0, locals := 68 }) Γ [.ref mo, .int (nI k)] (MW Γ mo th σ g1 g2) (some (.int (oI (wk (stn (rk σ k) (ak σ k)) (qp σ k - 1))))) := by
  refine Ro.of (cc := cX2_weakest) (maxL := 4) (ret := some .int) (by decide) rfl (Nat.le_of_ble_eq_true rfl) ?_
  intro p e s m below meth c S hr hlk hK hW ls hl
  obtain ⟨hx, hb, hml, hown, hts⟩ := id S
  have hl : lv_has ls 4 [(0, .ref mo), (1, .int (nI k))] := hl
  have hn40 := hI.1
  obtain ⟨hp0, hp12, hu3, hg1⟩ := hI.2.1 k hk
  refine lv_iconst (v := (-1)) hx hb dX2_weakest_0 (by decide +kernel) ?_
  refine lv_istore_n (lv' := [(2, .int ((-1))), (0, .ref mo), (1, .int (nI k))]) hx hb dX2_weakest_1 rfl hl (by decide) rfl (fun ls hl => ?_)
  refine lv_iconst (v := nI 0) hx hb dX2_weakest_2 (by decide +kernel) ?_
  refine lv_istore_n (lv' := [(3, .int (nI 0)), (2, .int ((-1))), (0, .ref mo), (1, .int (nI k))]) hx hb dX2_weakest_3 rfl hl (by decide) rfl (fun ls hl => ?_)
  refine x_loop (σ := Nat) (fun u => [(0, .ref mo), (1, .int (nI k)), (2, .int (oI (wk (stn (rk σ k) (ak σ k)) u))), (3, .int (nI u))]) (fun u => u ≤ qp σ k - 1) (fun u => qp σ k - u) (fun u hu ih ls hl => ?_) 0 (by omega) ls (x_hl (lv_sub (l' := [(0, .ref mo), (1, .int (nI k)), (2, .int ((-1))), (3, .int (nI 0))]) hl [2, 3, 1, 0] rfl) rfl)
  obtain ⟨i, rfl⟩ : ∃ z, z = u := ⟨_, rfl⟩
  have hu : i ≤ qp σ k - 1 := hu
  have hl : lv_has ls 4 [(0, .ref mo), (1, .int (nI k)), (2, .int (oI (wk (stn (rk σ k) (ak σ k)) i))), (3, .int (nI i))] := hl
  refine lv_iload_n hx hb dX2_weakest_4 rfl (lv_at hl 3 rfl) ?_
  refine lv_aload_n hx hb dX2_weakest_5 rfl (lv_at hl 0 rfl) ?_
  refine x_get S in_X2_weakest_X2 hK hW.1 rfl 3 (by decide) (by decide +kernel) rfl rfl dX2_weakest_6 ?_
  refine lv_iload_n hx hb dX2_weakest_9 rfl (lv_at hl 1 rfl) ?_
  refine x_iald hx hb hK hW.2.1 (by omega) (by omega) dX2_weakest_10 ?_
  refine lv_iconst (v := nI 1) hx hb dX2_weakest_11 (by decide +kernel) ?_
  refine x_sub hx hb (by omega) dX2_weakest_12 ?_
  refine x_icge hx hb (by omega) (by omega) (tgt := 44) dX2_weakest_13 (by decide) (fun c_1 => ?_) (fun c_1 => ?_)
  · skip
    refine lv_iload_n hx hb dX2_weakest_44 rfl (lv_at hl 2 rfl) ?_
    refine x_e (show oI (wk (stn (rk σ k) (ak σ k)) i) = oI (wk (stn (rk σ k) (ak σ k)) (qp σ k - 1)) by rw [show i = qp σ k - 1 by omega]) ?_
    exact ro_iret hx hb hr hlk dX2_weakest_45
  · skip
    refine lv_iload_n hx hb dX2_weakest_16 rfl (lv_at hl 2 rfl) ?_
    refine lv_iconst (v := (-1)) hx hb dX2_weakest_17 (by decide +kernel) ?_
    refine lv_icmp_eq (tgt := 36) hx hb dX2_weakest_18 (by decide) (fun c_2 => ?_) (fun c_2 => ?_)
    · skip
      have e1 : wk (stn (rk σ k) (ak σ k)) i = none := oI_n c_2 (fun w h => by have := wk_lt _ _ _ h; omega)
      refine lv_iload_n hx hb dX2_weakest_36 rfl (lv_at hl 3 rfl) ?_
      refine lv_istore_n (lv' := [(2, .int (nI i)), (0, .ref mo), (1, .int (nI k)), (3, .int (nI i))]) hx hb dX2_weakest_37 rfl hl (by decide) rfl (fun ls hl => ?_)
      refine x_iinc (n := 1) (lv' := [(3, .int (nI (i + 1))), (2, .int (nI i)), (0, .ref mo), (1, .int (nI k))]) hx hb dX2_weakest_38 hl (k := 3) rfl (by decide) rfl (fun ls hl => ?_)
      refine lv_goto (tgt := 4) hx hb dX2_weakest_41 (by decide) ?_
      have hl : lv_has ls 4 [(3, .int (nI (i + 1))), (2, .int (oI (wk (stn (rk σ k) (ak σ k)) (i + 1)))), (0, .ref mo), (1, .int (nI k))] := x_hl hl (by rw [show nI i = oI (wk (stn (rk σ k) (ak σ k)) (i + 1)) by rw [wk_0 e1]; rfl])
      exact ih (i + 1) (by omega) (by omega) ls (lv_sub hl [2, 3, 1, 0] rfl)
    · skip
      obtain ⟨v, ev⟩ := oI_s c_2
      have hv := wk_lt _ _ _ ev
      have hl : lv_has ls 4 [(0, .ref mo), (1, .int (nI k)), (2, .int (nI v)), (3, .int (nI i))] := x_hl hl (by rw [ev]; rfl)
      refine lv_aload_n hx hb dX2_weakest_21 rfl (lv_at hl 0 rfl) ?_
      refine lv_iload_n hx hb dX2_weakest_22 rfl (lv_at hl 1 rfl) ?_
      refine lv_iload_n hx hb dX2_weakest_23 rfl (lv_at hl 3 rfl) ?_
      refine ro_V (rest := []) S hK (c_X2_strong l Γ mo th σ g1 g2 hI k i (by omega) (by omega)) (cwV 2 hts gX2_weakest_X2_strong rfl rfl rfl (by decide +kernel) ⟨Nat.le_of_ble_eq_true rfl, Nat.le_of_ble_eq_true rfl⟩) (Ob.recv hK hW.1 rfl) hW rfl hl.1 rfl (Nat.le_of_ble_eq_true rfl) dX2_weakest_24 ⟨Nat.zero_le _, Nat.zero_le _⟩ ?_
      refine W.eq (g2 := F0 m 27 ls [.int (stn (rk σ k) (ak σ k) i)]) rfl ?_
      refine lv_aload_n hx hb dX2_weakest_27 rfl (lv_at hl 0 rfl) ?_
      refine lv_iload_n hx hb dX2_weakest_28 rfl (lv_at hl 1 rfl) ?_
      refine lv_iload_n hx hb dX2_weakest_29 rfl (lv_at hl 2 rfl) ?_
      refine ro_V (rest := [.int (stn (rk σ k) (ak σ k) i)]) S hK (c_X2_strong l Γ mo th σ g1 g2 hI k v (by omega) (by omega)) (cwV 2 hts gX2_weakest_X2_strong rfl rfl rfl (by decide +kernel) ⟨Nat.le_of_ble_eq_true rfl, Nat.le_of_ble_eq_true rfl⟩) (Ob.recv hK hW.1 rfl) hW rfl hl.1 rfl (Nat.le_of_ble_eq_true rfl) dX2_weakest_30 ⟨Nat.zero_le _, Nat.zero_le _⟩ ?_
      refine W.eq (g2 := F0 m 33 ls [.int (stn (rk σ k) (ak σ k) v), .int (stn (rk σ k) (ak σ k) i)]) rfl ?_
      refine lv_icmp_ge (tgt := 38) hx hb dX2_weakest_33 (by decide) (fun c_3 => ?_) (fun c_3 => ?_)
      · skip
        refine x_iinc (n := 1) (lv' := [(3, .int (nI (i + 1))), (0, .ref mo), (1, .int (nI k)), (2, .int (nI v))]) hx hb dX2_weakest_38 hl (k := 3) rfl (by decide) rfl (fun ls hl => ?_)
        refine lv_goto (tgt := 4) hx hb dX2_weakest_41 (by decide) ?_
        have hl : lv_has ls 4 [(3, .int (nI (i + 1))), (0, .ref mo), (1, .int (nI k)), (2, .int (oI (wk (stn (rk σ k) (ak σ k)) (i + 1))))] := x_hl hl (by rw [show nI v = oI (wk (stn (rk σ k) (ak σ k)) (i + 1)) by rw [wk_n ev (Int32.not_lt.mpr c_3)]; rfl])
        exact ih (i + 1) (by omega) (by omega) ls (lv_sub hl [1, 2, 3, 0] rfl)
      · skip
        refine lv_iload_n hx hb dX2_weakest_36 rfl (lv_at hl 3 rfl) ?_
        refine lv_istore_n (lv' := [(2, .int (nI i)), (0, .ref mo), (1, .int (nI k)), (3, .int (nI i))]) hx hb dX2_weakest_37 rfl hl (by decide) rfl (fun ls hl => ?_)
        refine x_iinc (n := 1) (lv' := [(3, .int (nI (i + 1))), (2, .int (nI i)), (0, .ref mo), (1, .int (nI k))]) hx hb dX2_weakest_38 hl (k := 3) rfl (by decide) rfl (fun ls hl => ?_)
        refine lv_goto (tgt := 4) hx hb dX2_weakest_41 (by decide) ?_
        have hl : lv_has ls 4 [(3, .int (nI (i + 1))), (2, .int (oI (wk (stn (rk σ k) (ak σ k)) (i + 1)))), (0, .ref mo), (1, .int (nI k))] := x_hl hl (by rw [show nI i = oI (wk (stn (rk σ k) (ak σ k)) (i + 1)) by rw [wk_y ev (Int32.not_le.mp c_3)]; rfl])
        exact ih (i + 1) (by omega) (by omega) ls (lv_sub hl [2, 3, 1, 0] rfl)
theorem in_X2_fit_X2 : ∀ w ∈ wsX20, w ∈ wsX2_fit := by decide +kernel
set_option maxHeartbeats 4000000 in
set_option maxRecDepth 100000 in
theorem c_X2_fit (l : Launch) (Γ : GG) (mo : Nat) (th : Int32) (σ : St) (g1 g2 : Nat → Int32) (hI : Iv σ) (a b : Nat) (ha : a < qn σ) (hb9 : b < qn σ) : Ro l yX2_fit wsX2_fit ({ frames := 0, cells := 0, slots := 0, locals := 0 }) Γ [.ref mo, .int (nI a), .int (nI b)] (MW Γ mo th σ g1 g2) (some (.int (nI (bP (fitP σ a b))))) := by
  refine Ro.of (cc := cX2_fit) (maxL := 3) (ret := some .boolean) (by decide) rfl (Nat.le_of_ble_eq_true rfl) ?_
  intro p e s m below meth c S hr hlk hK hW ls hl
  obtain ⟨hx, hb, hml, hown, hts⟩ := id S
  have hl : lv_has ls 3 [(0, .ref mo), (1, .int (nI a)), (2, .int (nI b))] := hl
  have hn40 := hI.1
  have hga1 := (hI.2.1 a ha).2.2.2
  have hgb1 := (hI.2.1 b hb9).2.2.2
  refine lv_iload_n hx hb dX2_fit_0 rfl (lv_at hl 1 rfl) ?_
  refine lv_iload_n hx hb dX2_fit_1 rfl (lv_at hl 2 rfl) ?_
  refine x_iceq hx hb (by omega) (by omega) (tgt := 50) dX2_fit_2 (by decide) (fun c_1 => ?_) (fun c_1 => ?_)
  · skip
    refine lv_iconst (v := nI 0) hx hb dX2_fit_50 (by decide +kernel) ?_
    refine x_e (show nI 0 = nI (bP (fitP σ a b)) by rw [bP_f (fun q => q.1 c_1)]) ?_
    exact ro_zret (bP_le _) hx hb hr hlk dX2_fit_51
  · skip
    refine lv_aload_n hx hb dX2_fit_5 rfl (lv_at hl 0 rfl) ?_
    refine x_get S in_X2_fit_X2 hK hW.1 rfl 5 (by decide) (by decide +kernel) rfl rfl dX2_fit_6 ?_
    refine lv_iload_n hx hb dX2_fit_9 rfl (lv_at hl 1 rfl) ?_
    refine x_iald hx hb hK hW.2.2.2.1 (by omega) (by omega) dX2_fit_10 ?_
    refine lv_aload_n hx hb dX2_fit_11 rfl (lv_at hl 0 rfl) ?_
    refine x_get S in_X2_fit_X2 hK hW.1 rfl 5 (by decide) (by decide +kernel) rfl rfl dX2_fit_12 ?_
    refine lv_iload_n hx hb dX2_fit_15 rfl (lv_at hl 2 rfl) ?_
    refine x_iald hx hb hK hW.2.2.2.1 (by omega) (by omega) dX2_fit_16 ?_
    refine x_add hx hb dX2_fit_17 ?_
    refine x_ifne hx hb (by omega) (tgt := 50) dX2_fit_18 (by decide) (fun c_2 => ?_) (fun c_2 => ?_)
    · skip
      refine lv_iconst (v := nI 0) hx hb dX2_fit_50 (by decide +kernel) ?_
      refine x_e (show nI 0 = nI (bP (fitP σ a b)) by rw [bP_f (fun q => by have := q.2.1; have := q.2.2.1; have := c_2; omega)]) ?_
      exact ro_zret (bP_le _) hx hb hr hlk dX2_fit_51
    · skip
      refine lv_aload_n hx hb dX2_fit_21 rfl (lv_at hl 0 rfl) ?_
      refine x_get S in_X2_fit_X2 hK hW.1 rfl 7 (by decide) (by decide +kernel) rfl rfl dX2_fit_22 ?_
      refine lv_iload_n hx hb dX2_fit_25 rfl (lv_at hl 1 rfl) ?_
      refine x_iald hx hb hK hW.2.2.2.2.2.1 (by omega) (by omega) dX2_fit_26 ?_
      refine lv_iconst (v := (-1)) hx hb dX2_fit_27 (by decide +kernel) ?_
      refine lv_icmp_eq (tgt := 50) hx hb dX2_fit_28 (by decide) (fun c_3 => ?_) (fun c_3 => ?_)
      · skip
        refine lv_iconst (v := nI 0) hx hb dX2_fit_50 (by decide +kernel) ?_
        refine x_e (show nI 0 = nI (bP (fitP σ a b)) by rw [bP_f (fun q => q.2.2.2.1 c_3)]) ?_
        exact ro_zret (bP_le _) hx hb hr hlk dX2_fit_51
      · skip
        refine lv_aload_n hx hb dX2_fit_31 rfl (lv_at hl 0 rfl) ?_
        refine x_get S in_X2_fit_X2 hK hW.1 rfl 7 (by decide) (by decide +kernel) rfl rfl dX2_fit_32 ?_
        refine lv_iload_n hx hb dX2_fit_35 rfl (lv_at hl 1 rfl) ?_
        refine x_iald hx hb hK hW.2.2.2.2.2.1 (by omega) (by omega) dX2_fit_36 ?_
        refine lv_aload_n hx hb dX2_fit_37 rfl (lv_at hl 0 rfl) ?_
        refine x_get S in_X2_fit_X2 hK hW.1 rfl 6 (by decide) (by decide +kernel) rfl rfl dX2_fit_38 ?_
        refine lv_iload_n hx hb dX2_fit_41 rfl (lv_at hl 2 rfl) ?_
        refine x_iald hx hb hK hW.2.2.2.2.1 (by omega) (by omega) dX2_fit_42 ?_
        refine lv_icmp_ne (tgt := 50) hx hb dX2_fit_43 (by decide) (fun c_4 => ?_) (fun c_4 => ?_)
        · skip
          refine lv_iconst (v := nI 0) hx hb dX2_fit_50 (by decide +kernel) ?_
          refine x_e (show nI 0 = nI (bP (fitP σ a b)) by rw [bP_f (fun q => c_4 q.2.2.2.2)]) ?_
          exact ro_zret (bP_le _) hx hb hr hlk dX2_fit_51
        · skip
          refine lv_iconst (v := nI 1) hx hb dX2_fit_46 (by decide +kernel) ?_
          refine lv_goto (tgt := 51) hx hb dX2_fit_47 (by decide) ?_
          refine x_e (show nI 1 = nI (bP (fitP σ a b)) by rw [bP_t ⟨c_1, by omega, by omega, c_3, c_4⟩]) ?_
          exact ro_zret (bP_le _) hx hb hr hlk dX2_fit_51
theorem in_X2_runesOn_X2 : ∀ w ∈ wsX20, w ∈ wsX2_runesOn := by decide +kernel
set_option maxHeartbeats 4000000 in
set_option maxRecDepth 100000 in
theorem c_X2_runesOn (l : Launch) (Γ : GG) (mo : Nat) (th : Int32) (σ : St) (g1 g2 : Nat → Int32) (hI : Iv σ) (k : Nat) (hk : k < qn σ) : Ro l yX2_runesOn wsX2_runesOn ({ frames := 2, cells := 0, slots := 0, locals := 46 }) Γ [.ref mo, .int (nI k)] (MW Γ mo th σ g1 g2) (some (.int (nI (rT (rk σ k) (qp σ k))))) := by
  refine Ro.of (cc := cX2_runesOn) (maxL := 4) (ret := some .int) (by decide) rfl (Nat.le_of_ble_eq_true rfl) ?_
  intro p e s m below meth c S hr hlk hK hW ls hl
  obtain ⟨hx, hb, hml, hown, hts⟩ := id S
  have hl : lv_has ls 4 [(0, .ref mo), (1, .int (nI k))] := hl
  have hn40 := hI.1
  obtain ⟨hp0, hp12, hu3, hg1⟩ := hI.2.1 k hk
  refine lv_iconst (v := nI 0) hx hb dX2_runesOn_0 (by decide +kernel) ?_
  refine lv_istore_n (lv' := [(2, .int (nI 0)), (0, .ref mo), (1, .int (nI k))]) hx hb dX2_runesOn_1 rfl hl (by decide) rfl (fun ls hl => ?_)
  refine lv_iconst (v := nI 0) hx hb dX2_runesOn_2 (by decide +kernel) ?_
  refine lv_istore_n (lv' := [(3, .int (nI 0)), (2, .int (nI 0)), (0, .ref mo), (1, .int (nI k))]) hx hb dX2_runesOn_3 rfl hl (by decide) rfl (fun ls hl => ?_)
  refine x_loop (σ := Nat) (fun u => [(0, .ref mo), (1, .int (nI k)), (2, .int (nI (sN (rc (rk σ k)) u))), (3, .int (nI u))]) (fun u => u ≤ qp σ k) (fun u => qp σ k - u) (fun u hu ih ls hl => ?_) 0 (by omega) ls (x_hl (lv_sub (l' := [(0, .ref mo), (1, .int (nI k)), (2, .int (nI 0)), (3, .int (nI 0))]) hl [2, 3, 1, 0] rfl) rfl)
  obtain ⟨i, rfl⟩ : ∃ z, z = u := ⟨_, rfl⟩
  have hu : i ≤ qp σ k := hu
  have hl : lv_has ls 4 [(0, .ref mo), (1, .int (nI k)), (2, .int (nI (sN (rc (rk σ k)) i))), (3, .int (nI i))] := hl
  refine lv_iload_n hx hb dX2_runesOn_4 rfl (lv_at hl 3 rfl) ?_
  refine lv_aload_n hx hb dX2_runesOn_5 rfl (lv_at hl 0 rfl) ?_
  refine x_get S in_X2_runesOn_X2 hK hW.1 rfl 3 (by decide) (by decide +kernel) rfl rfl dX2_runesOn_6 ?_
  refine lv_iload_n hx hb dX2_runesOn_9 rfl (lv_at hl 1 rfl) ?_
  refine x_iald hx hb hK hW.2.1 (by omega) (by omega) dX2_runesOn_10 ?_
  refine x_icge hx hb (by omega) (by omega) (tgt := 29) dX2_runesOn_11 (by decide) (fun c_1 => ?_) (fun c_1 => ?_)
  · skip
    refine lv_iload_n hx hb dX2_runesOn_29 rfl (lv_at hl 2 rfl) ?_
    refine x_e (show nI (sN (rc (rk σ k)) i) = nI (rT (rk σ k) (qp σ k)) by rw [show i = qp σ k by omega]; rfl) ?_
    exact ro_iret hx hb hr hlk dX2_runesOn_30
  · skip
    refine lv_iload_n hx hb dX2_runesOn_14 rfl (lv_at hl 2 rfl) ?_
    refine lv_aload_n hx hb dX2_runesOn_15 rfl (lv_at hl 0 rfl) ?_
    refine lv_iload_n hx hb dX2_runesOn_16 rfl (lv_at hl 1 rfl) ?_
    refine lv_iload_n hx hb dX2_runesOn_17 rfl (lv_at hl 3 rfl) ?_
    refine ro_V (rest := [.int (nI (sN (rc (rk σ k)) i))]) S hK (c_X2_runesAt l Γ mo th σ g1 g2 hI k i (by omega) (by omega)) (cwV 2 hts gX2_runesOn_X2_runesAt rfl rfl rfl (by decide +kernel) ⟨Nat.le_of_ble_eq_true rfl, Nat.le_of_ble_eq_true rfl⟩) (Ob.recv hK hW.1 rfl) hW rfl hl.1 rfl (Nat.le_of_ble_eq_true rfl) dX2_runesOn_18 ⟨Nat.zero_le _, Nat.zero_le _⟩ ?_
    refine W.eq (g2 := F0 m 21 ls [.int (nI (rc (rk σ k) i)), .int (nI (sN (rc (rk σ k)) i))]) rfl ?_
    refine x_add hx hb dX2_runesOn_21 ?_
    refine lv_istore_n (lv' := [(2, .int (nI ((sN (rc (rk σ k)) i) + (rc (rk σ k) i)))), (0, .ref mo), (1, .int (nI k)), (3, .int (nI i))]) hx hb dX2_runesOn_22 rfl hl (by decide) rfl (fun ls hl => ?_)
    refine x_iinc (n := 1) (lv' := [(3, .int (nI (i + 1))), (2, .int (nI ((sN (rc (rk σ k)) i) + (rc (rk σ k) i)))), (0, .ref mo), (1, .int (nI k))]) hx hb dX2_runesOn_23 hl (k := 3) rfl (by decide) rfl (fun ls hl => ?_)
    refine lv_goto (tgt := 4) hx hb dX2_runesOn_26 (by decide) ?_
    have hl : lv_has ls 4 [(3, .int (nI (i + 1))), (2, .int (nI (sN (rc (rk σ k)) (i + 1)))), (0, .ref mo), (1, .int (nI k))] := x_hl hl (by rw [← sN_s (rc (rk σ k)) i])
    exact ih (i + 1) (by omega) (by omega) ls (lv_sub hl [2, 3, 1, 0] rfl)
theorem in_X2_glued_X2 : ∀ w ∈ wsX20, w ∈ wsX2_glued := by decide +kernel
set_option maxHeartbeats 4000000 in
set_option maxRecDepth 100000 in
theorem c_X2_glued (l : Launch) (Γ : GG) (mo : Nat) (th : Int32) (σ : St) (g1 g2 : Nat → Int32) (hI : Iv σ) (k : Nat) (hk : k < qn σ) : Ro l yX2_glued wsX2_glued ({ frames := 0, cells := 0, slots := 0, locals := 0 }) Γ [.ref mo, .int (nI k)] (MW Γ mo th σ g1 g2) (some (.int (nI (gT (lk σ k) (qp σ k - 1))))) := by
  refine Ro.of (cc := cX2_glued) (maxL := 4) (ret := some .int) (by decide) rfl (Nat.le_of_ble_eq_true rfl) ?_
  intro p e s m below meth c S hr hlk hK hW ls hl
  obtain ⟨hx, hb, hml, hown, hts⟩ := id S
  have hl : lv_has ls 4 [(0, .ref mo), (1, .int (nI k))] := hl
  have hn40 := hI.1
  obtain ⟨hp0, hp12, hu3, hg1⟩ := hI.2.1 k hk
  refine lv_iconst (v := nI 0) hx hb dX2_glued_0 (by decide +kernel) ?_
  refine lv_istore_n (lv' := [(2, .int (nI 0)), (0, .ref mo), (1, .int (nI k))]) hx hb dX2_glued_1 rfl hl (by decide) rfl (fun ls hl => ?_)
  refine lv_iconst (v := nI 0) hx hb dX2_glued_2 (by decide +kernel) ?_
  refine lv_istore_n (lv' := [(3, .int (nI 0)), (2, .int (nI 0)), (0, .ref mo), (1, .int (nI k))]) hx hb dX2_glued_3 rfl hl (by decide) rfl (fun ls hl => ?_)
  refine x_loop (σ := Nat) (fun u => [(0, .ref mo), (1, .int (nI k)), (2, .int (nI (gT (lk σ k) u))), (3, .int (nI u))]) (fun u => u ≤ qp σ k - 1) (fun u => qp σ k - u) (fun u hu ih ls hl => ?_) 0 (by omega) ls (x_hl (lv_sub (l' := [(0, .ref mo), (1, .int (nI k)), (2, .int (nI 0)), (3, .int (nI 0))]) hl [2, 3, 1, 0] rfl) rfl)
  obtain ⟨i, rfl⟩ : ∃ z, z = u := ⟨_, rfl⟩
  have hu : i ≤ qp σ k - 1 := hu
  have hl : lv_has ls 4 [(0, .ref mo), (1, .int (nI k)), (2, .int (nI (gT (lk σ k) i))), (3, .int (nI i))] := hl
  refine lv_iload_n hx hb dX2_glued_4 rfl (lv_at hl 3 rfl) ?_
  refine lv_aload_n hx hb dX2_glued_5 rfl (lv_at hl 0 rfl) ?_
  refine x_get S in_X2_glued_X2 hK hW.1 rfl 3 (by decide) (by decide +kernel) rfl rfl dX2_glued_6 ?_
  refine lv_iload_n hx hb dX2_glued_9 rfl (lv_at hl 1 rfl) ?_
  refine x_iald hx hb hK hW.2.1 (by omega) (by omega) dX2_glued_10 ?_
  refine lv_iconst (v := nI 1) hx hb dX2_glued_11 (by decide +kernel) ?_
  refine x_sub hx hb (by omega) dX2_glued_12 ?_
  refine x_icge hx hb (by omega) (by omega) (tgt := 36) dX2_glued_13 (by decide) (fun c_1 => ?_) (fun c_1 => ?_)
  · skip
    refine lv_iload_n hx hb dX2_glued_36 rfl (lv_at hl 2 rfl) ?_
    refine x_e (show nI (gT (lk σ k) i) = nI (gT (lk σ k) (qp σ k - 1)) by rw [show i = qp σ k - 1 by omega]) ?_
    exact ro_iret hx hb hr hlk dX2_glued_37
  · skip
    refine lv_iload_n hx hb dX2_glued_16 rfl (lv_at hl 2 rfl) ?_
    refine lv_aload_n hx hb dX2_glued_17 rfl (lv_at hl 0 rfl) ?_
    refine x_get S in_X2_glued_X2 hK hW.1 rfl 10 (by decide) (by decide +kernel) rfl rfl dX2_glued_18 ?_
    refine lv_bipush (v := nI 12) hx hb dX2_glued_21 (by decide +kernel) ?_
    refine lv_iload_n hx hb dX2_glued_23 rfl (lv_at hl 1 rfl) ?_
    refine x_mul hx hb dX2_glued_24 ?_
    refine lv_iload_n hx hb dX2_glued_25 rfl (lv_at hl 3 rfl) ?_
    refine x_add hx hb dX2_glued_26 ?_
    refine x_iald hx hb hK hW.2.2.2.2.2.2.2.2.1 (by omega) (by omega) dX2_glued_27 ?_
    refine lv_iadd hx hb dX2_glued_28 ?_
    refine lv_istore_n (lv' := [(2, .int ((nI (gT (lk σ k) i)) + (ql σ ((12 * k) + i)))), (0, .ref mo), (1, .int (nI k)), (3, .int (nI i))]) hx hb dX2_glued_29 rfl hl (by decide) rfl (fun ls hl => ?_)
    refine x_iinc (n := 1) (lv' := [(3, .int (nI (i + 1))), (2, .int ((nI (gT (lk σ k) i)) + (ql σ ((12 * k) + i)))), (0, .ref mo), (1, .int (nI k))]) hx hb dX2_glued_30 hl (k := 3) rfl (by decide) rfl (fun ls hl => ?_)
    refine lv_goto (tgt := 4) hx hb dX2_glued_33 (by decide) ?_
    have hl : lv_has ls 4 [(3, .int (nI (i + 1))), (2, .int (nI (gT (lk σ k) (i + 1)))), (0, .ref mo), (1, .int (nI k))] := x_hl hl (by rw [show nI (gT (lk σ k) i) + ql σ (12 * k + i) = nI (gT (lk σ k) (i + 1)) from gT_add (Gl := lk σ k) (hI.2.2.2.2.2.1 _)])
    exact ih (i + 1) (by omega) (by omega) ls (lv_sub hl [2, 3, 1, 0] rfl)
end
