/-! the native read of eight bytes, at a row of ints -/
def gB (x : Int32) (k : Nat) : Nat := x.toUInt32.toNat % 2 ^ 32 / 2 ^ (8 * k) % 256
def gL (x y : Int32) : Int64 := ((([gB x 0, gB x 1, gB x 2, gB x 3, gB y 0, gB y 1, gB y 2, gB y 3] : List Nat).zipIdx.map fun (b, k) => b * 2 ^ (8 * k)).sum).toUInt64.toInt64
section NAT
variable {E : CtlPost} {e : Env} {d : Bool} {acts : List Action} {s : State}
theorem n_locate {a : Addr} {A : Cell} {k : Class} {comp : ClassId} {p : Nat} {off : Int64} {Q : UnsafeMem.Target → Pre}
    (hA : s.heap[a]? = some A) (hvm : A.vm = .none) (hk : s.vm.classes[A.cls]? = some k) (hkind : k.kind = .array comp .int) (hneg : ¬ off < 0) (hoff : off.toNatClampNeg = 16 + p) :
    wp (UnsafeMem.locate (.ref a) off .long) Q E e d acts s ↔ Q (UnsafeMem.Target.bytes a .int p) d acts s := by
  simp [UnsafeMem.locate, hneg, hoff, hA, Cell.info, hvm, hk, hkind, UnsafeMem.arrayBase, UnsafeMem.scaleOf, UnsafeMem.isRefType]
theorem n_read {a : Addr} {A : Cell} {i p : Nat} {x : Int32} {Q : Nat → Pre} (hA : s.heap[a]? = some A) (hvm : A.vm = .none) (h : A.slots[i]? = some (.int x)) (hp : p / 4 = i) :
    wp (UnsafeMem.readByte a .int p .plain) Q E e d acts s ↔ Q (gB x (p % 4)) d (readActs ⟨a, i⟩ .plain (.int x) acts) s := by
  subst hp
  simp [UnsafeMem.readByte, UnsafeMem.scaleOf, UnsafeMem.bitsOf, hA, hvm, h, gB]
theorem n_get {a : Addr} {A : Cell} {k : Class} {comp : ClassId} {i : Nat} {off : Int64} {x y : Int32} {Q : Value → Pre}
    (hA : s.heap[a]? = some A) (hvm : A.vm = .none) (hk : s.vm.classes[A.cls]? = some k) (hkind : k.kind = .array comp .int) (hneg : ¬ off < 0) (hoff : off.toNatClampNeg = 16 + 8 * i)
    (h0 : A.slots[2 * i]? = some (.int x)) (h1 : A.slots[2 * i + 1]? = some (.int y)) (hQ : ∀ d' acts', Q (.long (gL x y)) d' acts' s) : wp (UnsafeMem.get .long (.ref a) off .plain) Q E e d acts s := by
  have hr : List.range (UnsafeMem.scaleOf .long) = [0, 1, 2, 3, 4, 5, 6, 7] := rfl
  simp only [UnsafeMem.get, wp_bind', n_locate hA hvm hk hkind hneg hoff, hr, List.mapM, List.mapM.loop,
    n_read (p := 8 * i + 0) hA hvm h0 (by omega), n_read (p := 8 * i + 1) hA hvm h0 (by omega), n_read (p := 8 * i + 2) hA hvm h0 (by omega), n_read (p := 8 * i + 3) hA hvm h0 (by omega),
    n_read (p := 8 * i + 4) hA hvm h1 (by omega), n_read (p := 8 * i + 5) hA hvm h1 (by omega), n_read (p := 8 * i + 6) hA hvm h1 (by omega), n_read (p := 8 * i + 7) hA hvm h1 (by omega), wp_pure']
  rw [show (8 * i + 0) % 4 = 0 by omega, show (8 * i + 1) % 4 = 1 by omega, show (8 * i + 2) % 4 = 2 by omega, show (8 * i + 3) % 4 = 3 by omega, show (8 * i + 4) % 4 = 0 by omega, show (8 * i + 5) % 4 = 1 by omega, show (8 * i + 6) % 4 = 2 by omega, show (8 * i + 7) % 4 = 3 by omega]
  exact hQ _ _
end NAT
set_option maxRecDepth 1000000 in
theorem n_row (p : Program) : NativeRow.find? p.tables.natives "jdk/internal/misc/Unsafe" "getLong" "(Ljava/lang/Object;J)J" = some (Native.jdk_internal_misc_Unsafe.memory.getRow "Long" "J" .long "" .plain) := by
  cases p <;> rfl
