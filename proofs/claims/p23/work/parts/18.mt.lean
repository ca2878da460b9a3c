theorem Ai.ext {Γ : GG} {a n : Nat} {f g : Nat → Int32} {H : Heap} (h : Ai Γ a n f H) (e : ∀ j, j < n → f j = g j) : Ai Γ a n g H := by
  show H[a]? = some (arrV _ n (fun j => .int (g j)))
  have h1 : H[a]? = some (arrV _ n (fun j => .int (f j))) := h
  rw [h1]
  unfold arrV
  congr 2
  apply Array.ext
  · simp
  · intro i h2 h3
    simp at h2
    simp [e i h2]
theorem Az.ext {Γ : GG} {a n : Nat} {f g : Nat → Int32} {H : Heap} (h : Az Γ a n f H) (e : ∀ j, j < n → f j = g j) : Az Γ a n g H := by
  show H[a]? = some (arrV _ n (fun j => .int (g j)))
  have h1 : H[a]? = some (arrV _ n (fun j => .int (f j))) := h
  rw [h1]
  unfold arrV
  congr 2
  apply Array.ext
  · simp
  · intro i h2 h3
    simp at h2
    simp [e i h2]
theorem fill_ext (f : Nat → Int32) (x : Int32) (i : Nat) {n : Nat} : ∀ j, j < n → upd (fun j => if j < i then x else f j) i x j = (fun j => if j < i + 1 then x else f j) j := by
  intro j _
  by_cases h : j = i
  · subst h
    simp [upd]
  · simp only [upd, if_neg h]
    by_cases h2 : j < i
    · rw [if_pos h2, if_pos (by omega)]
    · rw [if_neg h2, if_neg (by omega)]
section XL
variable {p : Program} {l : Launch} {e : Env} {R : Room} {s : State} {m : MethodId} {args : Array Value} {below : List Frame} {meth : Method} {c : Code} {H : Heap} {locs : List Loc} {cells slots : Nat} {Q : State → Prop}
variable {cc : ByteArray} {pc : Nat} {ls : Array Slot} {rest st0 : List Value} {Γ : GG}
theorem x_ilen (hx : p.tables.exec = Jvm.exec) (hb : c.code = cc) (hK : xK Γ s) {a n : Nat} {f : Nat → Int32} (hA : Ai Γ a n f H) (hdg : decode cc pc = .ok (.arraylength, 1)) (k : W p l e R s m args below meth c H locs cells slots Q (F0 m (pc + 1) ls (.int (nI n) :: rest))) : W p l e R s m args below meth c H locs cells slots Q (F0 m pc ls (.ref a :: rest)) :=
  va_alen (ws := [(a, .inl (Γ.2.1, n, .inl f))]) hx hb hK (x_P1 hA) 0 0 rfl rfl rfl hdg k
end XL
set_option maxHeartbeats 4000000 in
set_option maxRecDepth 100000 in
theorem c_J7_fill_53178 (l : Launch) (Γ : GG) (bs : Nat) (a n : Nat) (f : Nat → Int32) (x : Int32) (hn : n < 1048576) (hab : bs ≤ a) : Mt l yJ7_fill_53178 wsJ7_fill_53178 ({ frames := 0, cells := 0, slots := 0, locals := 0 }) Γ bs [.ref a, .int x] (Ai Γ a n f) (fun H v H2 => v = none ∧ Ai Γ a n (fun _ => x) H2 ∧ H2.size = H.size ∧ ∀ q : Nat, q ≠ a → H2[q]? = H[q]?) 0 0 := by
  refine Mt.of (cc := cJ7_fill_53178) (maxL := 4) (ret := none) (by decide) rfl (Nat.le_of_ble_eq_true rfl) ?_
  intro p e s m below meth c S hr hlk hin hK hW ls hl
  obtain ⟨hx, hb, hml, hown, hts⟩ := id S
  obtain ⟨lc, elc⟩ : ∃ z : List Loc, z = [] := ⟨_, rfl⟩
  rw [← elc]
  have hlo : lo bs lc := by rw [elc]; exact lo.nil
  clear elc
  have hl : lv_has ls 4 [(0, .ref a), (1, .int x)] := hl
  refine lv_iconst (v := nI 0) hx hb dJ7_fill_53178_0 (by decide +kernel) ?_
  refine lv_istore_n (lv' := [(2, .int (nI 0)), (0, .ref a), (1, .int x)]) hx hb dJ7_fill_53178_1 rfl hl (by decide) rfl (fun ls hl => ?_)
  refine lv_aload_n hx hb dJ7_fill_53178_2 rfl (lv_at hl 1 rfl) ?_
  refine x_ilen hx hb hK hW dJ7_fill_53178_3 ?_
  refine lv_istore_n (lv' := [(3, .int (nI n)), (2, .int (nI 0)), (0, .ref a), (1, .int x)]) hx hb dJ7_fill_53178_4 rfl hl (by decide) rfl (fun ls hl => ?_)
  refine x_loopH (σ := Nat) (fun u => [(0, .ref a), (1, .int x), (2, .int (nI u)), (3, .int (nI n))]) (fun u H locs => u ≤ n ∧ Ai Γ a n (fun j => if j < u then x else f j) H ∧ H.size = s.heap.size ∧ (∀ q : Nat, q ≠ a → H[q]? = s.heap[q]?) ∧ lo bs locs) (fun u => n - u) (fun u H locs hu ih ls hl => ?_) 0 ⟨Nat.zero_le _, hW.ext (fun j hj => (if_neg (Nat.not_lt_zero j)).symm), rfl, fun _ _ => rfl, hlo⟩ ls (x_hl (lv_sub (l' := [(0, .ref a), (1, .int x), (2, .int (nI 0)), (3, .int (nI n))]) hl [2, 3, 1, 0] rfl) rfl)
  obtain ⟨i, rfl⟩ : ∃ z, z = u := ⟨_, rfl⟩
  have hl : lv_has ls 4 [(0, .ref a), (1, .int x), (2, .int (nI i)), (3, .int (nI n))] := hl
  obtain ⟨hin9, hA, hz, ho, hlo⟩ := hu
  refine lv_iload_n hx hb dJ7_fill_53178_5 rfl (lv_at hl 2 rfl) ?_
  refine lv_iload_n hx hb dJ7_fill_53178_6 rfl (lv_at hl 3 rfl) ?_
  refine x_icge hx hb (by omega) (by omega) (tgt := 20) dJ7_fill_53178_7 (by decide) (fun c_1 => ?_) (fun c_1 => ?_)
  · skip
    refine W.widen (k := 0) (n := 0) (Nat.le_of_ble_eq_true rfl) (Nat.le_of_ble_eq_true rfl) ?_
    exact m_vret (Post := fun H v H2 => v = none ∧ Ai Γ a n (fun _ => x) H2 ∧ H2.size = H.size ∧ ∀ q : Nat, q ≠ a → H2[q]? = H[q]?) hx hb hr hlk hlo dJ7_fill_53178_20 ⟨rfl, hA.ext (fun j hj => if_pos (by omega)), hz, ho⟩
  · skip
    refine lv_aload_n hx hb dJ7_fill_53178_10 rfl (lv_at hl 0 rfl) ?_
    refine lv_iload_n hx hb dJ7_fill_53178_11 rfl (lv_at hl 2 rfl) ?_
    refine lv_iload_n hx hb dJ7_fill_53178_12 rfl (lv_at hl 1 rfl) ?_
    refine x_iast hx hb hK hA (by omega) (by omega) hlo hab dJ7_fill_53178_13 (fun H1 lc1 hA1 hz1 ho1 hlo => ?_)
    refine x_iinc (n := 1) (lv' := [(2, .int (nI (i + 1))), (0, .ref a), (1, .int x), (3, .int (nI n))]) hx hb dJ7_fill_53178_14 hl (k := 2) rfl (by decide) rfl (fun ls hl => ?_)
    refine lv_goto (tgt := 5) hx hb dJ7_fill_53178_17 (by decide) ?_
    exact ih (i + 1) _ _ ⟨by omega, hA1.ext (fill_ext f x i), hz1.trans hz, fun q hq => (ho1 q hq).trans (ho q hq), hlo⟩ (by omega) ls (lv_sub hl [1, 2, 0, 3] rfl)
theorem in_X0_putRune_X0 : ∀ w ∈ wsX00, w ∈ wsX0_putRune := by decide +kernel
set_option maxHeartbeats 4000000 in
set_option maxRecDepth 100000 in
theorem c_X0_putRune (l : Launch) (Γ : GG) (bs : Nat) (a P U : Nat) (B E : Int32) (G : Nat) (R Bs Gl : Nat → Int32) (hP0 : 1 ≤ P) (hP : P ≤ 12) (sd pl : Nat) (x : Int32) (h1 : sd < 3) (h2 : pl < P) (hab : bs ≤ a) : Mt l yX0_putRune wsX0_putRune ({ frames := 1, cells := 0, slots := 0, locals := 22 }) Γ bs [.ref a, .int (nI sd), .int (nI pl), .int x] (SW Γ a P U B E G R Bs Gl) (fun H v H2 => v = none ∧ SW Γ a P U B E G (upd R (3 * pl + sd) x) Bs Gl H2 ∧ H2.size = H.size ∧ ∀ q : Nat, q ≠ a + 1 → H2[q]? = H[q]?) 0 0 := by
  refine Mt.of (cc := cX0_putRune) (maxL := 4) (ret := none) (by decide) rfl (Nat.le_of_ble_eq_true rfl) ?_
  intro p e s m below meth c S hr hlk hin hK hW ls hl
  obtain ⟨hx, hb, hml, hown, hts⟩ := id S
  obtain ⟨lc, elc⟩ : ∃ z : List Loc, z = [] := ⟨_, rfl⟩
  rw [← elc]
  have hlo : lo bs lc := by rw [elc]; exact lo.nil
  clear elc
  have hl : lv_has ls 4 [(0, .ref a), (1, .int (nI sd)), (2, .int (nI pl)), (3, .int x)] := hl
  refine lv_aload_n hx hb dX0_putRune_0 rfl (lv_at hl 0 rfl) ?_
  refine lv_iload_n hx hb dX0_putRune_1 rfl (lv_at hl 1 rfl) ?_
  refine lv_iload_n hx hb dX0_putRune_2 rfl (lv_at hl 2 rfl) ?_
  refine ro_V (rest := []) S hK (c_X0_hasPlace l Γ a P U B E G R Bs Gl hP0 hP (nI sd) (nI pl)) (cwV 2 hts gX0_putRune_X0_hasPlace rfl rfl rfl (by decide +kernel) ⟨Nat.le_of_ble_eq_true rfl, Nat.le_of_ble_eq_true rfl⟩) (Ob.recv hK hW.1 rfl) hW rfl hl.1 rfl (Nat.le_of_ble_eq_true rfl) dX0_putRune_3 ⟨Nat.le_of_ble_eq_true rfl, Nat.le_of_ble_eq_true rfl⟩ ?_
  refine W.eq (g2 := F0 m 6 ls [.int (nI (bP (inb (nI sd) 3 ∧ inb (nI pl) P)))]) rfl ?_
  refine x_e (y := nI 1) (by rw [bP_t ⟨(inb_nI (by omega)).mpr (by omega), (inb_nI (by omega)).mpr (by omega)⟩]) ?_
  refine x_ifeq hx hb (by omega) (tgt := 20) dX0_putRune_6 (by decide) (fun c_1 => absurd c_1 (by decide)) (fun c_1 => ?_)
  refine lv_aload_n hx hb dX0_putRune_9 rfl (lv_at hl 0 rfl) ?_
  refine x_get S in_X0_putRune_X0 hK hW.1 rfl 5 (by decide) (by decide +kernel) rfl rfl dX0_putRune_10 ?_
  refine lv_iload_n hx hb dX0_putRune_13 rfl (lv_at hl 2 rfl) ?_
  refine lv_iconst (v := nI 3) hx hb dX0_putRune_14 (by decide +kernel) ?_
  refine x_mul hx hb dX0_putRune_15 ?_
  refine lv_iload_n hx hb dX0_putRune_16 rfl (lv_at hl 1 rfl) ?_
  refine x_add hx hb dX0_putRune_17 ?_
  refine lv_iload_n hx hb dX0_putRune_18 rfl (lv_at hl 3 rfl) ?_
  refine x_iast hx hb hK hW.2.1 (by omega) (by omega) hlo (by omega) dX0_putRune_19 (fun H1 lc1 hA1 hz1 ho1 hlo => ?_)
  refine W.widen (k := 0) (n := 0) (Nat.le_of_ble_eq_true rfl) (Nat.le_of_ble_eq_true rfl) ?_
  exact m_vret (Post := fun H v H2 => v = none ∧ SW Γ a P U B E G (upd R (3 * pl + sd) x) Bs Gl H2 ∧ H2.size = H.size ∧ ∀ q : Nat, q ≠ a + 1 → H2[q]? = H[q]?) hx hb hr hlk hlo dX0_putRune_20 ⟨rfl, ⟨hW.1.kept (ho1 _ (by omega)), by rw [Nat.mul_comm 3 pl]; exact hA1, hW.2.2.1.kept (ho1 _ (by omega)), hW.2.2.2.kept (ho1 _ (by omega))⟩, hz1, ho1⟩
theorem in_X0_putJoint_X0 : ∀ w ∈ wsX00, w ∈ wsX0_putJoint := by decide +kernel
set_option maxHeartbeats 4000000 in
set_option maxRecDepth 100000 in
theorem c_X0_putJoint (l : Launch) (Γ : GG) (bs : Nat) (a P U : Nat) (B E : Int32) (G : Nat) (R Bs Gl : Nat → Int32) (hP0 : 1 ≤ P) (hP : P ≤ 12) (j : Nat) (x g : Int32) (h1 : j < P - 1) (hg : narrow .boolean (.int g) = .int g) (hab : bs ≤ a) : Mt l yX0_putJoint wsX0_putJoint ({ frames := 1, cells := 0, slots := 0, locals := 21 }) Γ bs [.ref a, .int (nI j), .int x, .int g] (SW Γ a P U B E G R Bs Gl) (fun H v H2 => v = none ∧ SW Γ a P U B E G R (upd Bs j x) (upd Gl j g) H2 ∧ H2.size = H.size ∧ ∀ q : Nat, q ≠ a + 2 → q ≠ a + 3 → H2[q]? = H[q]?) 0 0 := by
  refine Mt.of (cc := cX0_putJoint) (maxL := 4) (ret := none) (by decide) rfl (Nat.le_of_ble_eq_true rfl) ?_
  intro p e s m below meth c S hr hlk hin hK hW ls hl
  obtain ⟨hx, hb, hml, hown, hts⟩ := id S
  obtain ⟨lc, elc⟩ : ∃ z : List Loc, z = [] := ⟨_, rfl⟩
  rw [← elc]
  have hlo : lo bs lc := by rw [elc]; exact lo.nil
  clear elc
  have hl : lv_has ls 4 [(0, .ref a), (1, .int (nI j)), (2, .int x), (3, .int g)] := hl
  refine lv_aload_n hx hb dX0_putJoint_0 rfl (lv_at hl 0 rfl) ?_
  refine lv_iload_n hx hb dX0_putJoint_1 rfl (lv_at hl 1 rfl) ?_
  refine ro_V (rest := []) S hK (c_X0_hasJoint l Γ a P U B E G R Bs Gl hP0 hP (nI j)) (cwV 1 hts gX0_putJoint_X0_hasJoint rfl rfl rfl (by decide +kernel) ⟨Nat.le_of_ble_eq_true rfl, Nat.le_of_ble_eq_true rfl⟩) (Ob.recv hK hW.1 rfl) hW rfl hl.1 rfl (Nat.le_of_ble_eq_true rfl) dX0_putJoint_2 ⟨Nat.le_of_ble_eq_true rfl, Nat.le_of_ble_eq_true rfl⟩ ?_
  refine W.eq (g2 := F0 m 5 ls [.int (nI (bP (inb (nI j) (P - 1))))]) rfl ?_
  refine x_e (y := nI 1) (by rw [bP_t ((inb_nI (by omega)).mpr (by omega))]) ?_
  refine x_ifeq hx hb (by omega) (tgt := 22) dX0_putJoint_5 (by decide) (fun c_1 => absurd c_1 (by decide)) (fun c_1 => ?_)
  refine lv_aload_n hx hb dX0_putJoint_8 rfl (lv_at hl 0 rfl) ?_
  refine x_get S in_X0_putJoint_X0 hK hW.1 rfl 6 (by decide) (by decide +kernel) rfl rfl dX0_putJoint_9 ?_
  refine lv_iload_n hx hb dX0_putJoint_12 rfl (lv_at hl 1 rfl) ?_
  refine lv_iload_n hx hb dX0_putJoint_13 rfl (lv_at hl 2 rfl) ?_
  refine x_iast hx hb hK hW.2.2.1 (by omega) (by omega) hlo (by omega) dX0_putJoint_14 (fun H1 lc1 hA1 hz1 ho1 hlo => ?_)
  have hW : SW Γ a P U B E G R (upd Bs j x) Gl H1 := ⟨hW.1.kept (ho1 _ (by omega)), hW.2.1.kept (ho1 _ (by omega)), hA1, hW.2.2.2.kept (ho1 _ (by omega))⟩
  have hz0 := hz1
  have ho0 := ho1
  refine lv_aload_n hx hb dX0_putJoint_15 rfl (lv_at hl 0 rfl) ?_
  refine x_get S in_X0_putJoint_X0 hK hW.1 rfl 7 (by decide) (by decide +kernel) rfl rfl dX0_putJoint_16 ?_
  refine lv_iload_n hx hb dX0_putJoint_19 rfl (lv_at hl 1 rfl) ?_
  refine lv_iload_n hx hb dX0_putJoint_20 rfl (lv_at hl 3 rfl) ?_
  refine x_zast hx hb hK hW.2.2.2 (by omega) (by omega) hg hlo (by omega) dX0_putJoint_21 (fun H1 lc1 hA1 hz1 ho1 hlo => ?_)
  refine W.widen (k := 0) (n := 0) (Nat.le_of_ble_eq_true rfl) (Nat.le_of_ble_eq_true rfl) ?_
  exact m_vret (Post := fun H v H2 => v = none ∧ SW Γ a P U B E G R (upd Bs j x) (upd Gl j g) H2 ∧ H2.size = H.size ∧ ∀ q : Nat, q ≠ a + 2 → q ≠ a + 3 → H2[q]? = H[q]?) hx hb hr hlk hlo dX0_putJoint_22 ⟨rfl, ⟨hW.1.kept (ho1 _ (by omega)), hW.2.1.kept (ho1 _ (by omega)), hW.2.2.1.kept (ho1 _ (by omega)), hA1⟩, hz1.trans hz0, fun q q1 q2 => (ho1 q q2).trans (ho0 q q1)⟩
