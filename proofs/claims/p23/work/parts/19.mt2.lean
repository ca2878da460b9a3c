theorem bP_gl {g : Int32} (h : g = 0 ∨ g = 1) : nI (bP (¬ g = 0)) = g := by
  rcases h with h | h
  · rw [bP_f (fun q => q h), h]; rfl
  · rw [bP_t (by rw [h]; decide +kernel), h]; rfl
theorem nr_gl {g : Int32} (h : g = 0 ∨ g = 1) : narrow .boolean (.int g) = .int g := by
  rcases h with rfl | rfl <;> decide +kernel
/-- places taken over -/
def tpR (R R2 : Nat → Int32) (fr to tw c : Nat) : Nat → Int32 := fun q => if 3 * to ≤ q ∧ q < 3 * to + c then R2 (3 * (fr + (q - 3 * to) / 3) + ((q - 3 * to) % 3 + tw) % 3) else R q
def tpB (B B2 : Nat → Int32) (fr to c : Nat) : Nat → Int32 := fun q => if to ≤ q ∧ q < to + c then B2 (fr + (q - to)) else B q
theorem tpR_0 (R R2 : Nat → Int32) (fr to tw : Nat) : tpR R R2 fr to tw (3 * 0) = R := by
  funext q
  unfold tpR
  rw [if_neg (by omega)]
theorem tpB_0 (B B2 : Nat → Int32) (fr to : Nat) : tpB B B2 fr to 0 = B := by
  funext q
  unfold tpB
  rw [if_neg (by omega)]
theorem tpR_s {R R2 : Nat → Int32} {fr to tw i sd : Nat} (h : sd < 3) : upd (tpR R R2 fr to tw (3 * i + sd)) (3 * (to + i) + sd) (R2 (3 * (fr + i) + (sd + tw) % 3)) = tpR R R2 fr to tw (3 * i + sd + 1) := by
  funext q
  by_cases hq : q = 3 * (to + i) + sd
  · subst hq
    simp only [upd, if_true, tpR]
    rw [if_pos (by omega)]
    have h1 : (3 * (to + i) + sd - 3 * to) / 3 = i := by omega
    have h2 : (3 * (to + i) + sd - 3 * to) % 3 = sd := by omega
    rw [h1, h2]
  · simp only [upd, if_neg hq, tpR]
    by_cases h2 : 3 * to ≤ q ∧ q < 3 * to + (3 * i + sd)
    · rw [if_pos h2, if_pos (by omega)]
    · rw [if_neg h2, if_neg (by omega)]
theorem tpB_s {B B2 : Nat → Int32} {fr to i : Nat} : upd (tpB B B2 fr to i) (to + i) (B2 (fr + i)) = tpB B B2 fr to (i + 1) := by
  funext q
  by_cases hq : q = to + i
  · subst hq
    simp only [upd, if_true, tpB]
    rw [if_pos (by omega), Nat.add_sub_cancel_left]
  · simp only [upd, if_neg hq, tpB]
    by_cases h2 : to ≤ q ∧ q < to + i
    · rw [if_pos h2, if_pos (by omega)]
    · rw [if_neg h2, if_neg (by omega)]
theorem in_X0_init_X0 : ∀ w ∈ wsX00, w ∈ wsX0_init := by decide +kernel
set_option maxHeartbeats 4000000 in
set_option maxRecDepth 100000 in
theorem c_X0_init (l : Launch) (Γ : GG) (bs : Nat) (a P : Nat) (hab : bs ≤ a) : Mt l yX0_init wsX0_init ({ frames := 1, cells := 3, slots := 58, locals := 23 }) Γ bs [.ref a, .int (nI P)] (fun H => Ob Γ 0 a [.int (nI 0), .int (nI 0), .int (nI 0), .int (nI 0), .int (nI 0), .null, .null, .null] H ∧ H.size = a + 1) (fun H v H2 => v = none ∧ SW Γ a P 0 (-1) (-1) 0 (fun _ => -1) (fun _ => nI 12) (fun _ => nI 0) H2 ∧ H2.size = a + 4 ∧ ∀ q : Nat, q < a → H2[q]? = H[q]?) 3 58 := by
  refine Mt.of (cc := cX0_init) (maxL := 2) (ret := none) (by decide) rfl (Nat.le_of_ble_eq_true rfl) ?_
  intro p e s m below meth c S hr hlk hin hK hW ls hl
  obtain ⟨hx, hb, hml, hown, hts⟩ := id S
  obtain ⟨lc, elc⟩ : ∃ z : List Loc, z = [] := ⟨_, rfl⟩
  rw [← elc]
  have hlo : lo bs lc := by rw [elc]; exact lo.nil
  clear elc
  have hl : lv_has ls 2 [(0, .ref a), (1, .int (nI P))] := hl
  obtain ⟨hO, hsz⟩ := hW
  have hlow : ∀ q : Nat, q < a → s.heap[q]? = s.heap[q]? := fun _ _ => rfl
  refine lv_aload_n hx hb dX0_init_0 rfl (lv_at hl 0 rfl) ?_
  refine W.objInit hx hb hown (hts (.methodLink RX0 3 objectInit) (by decide +kernel)) (hts (.instanceMethod objectInit) (by decide +kernel)) (hts (.code objectInit ⟨#[0xb1]⟩ 1 none) (by decide +kernel)) rfl (by rw [hml]; exact hl.1) rfl dX0_init_1 (Nat.le_of_ble_eq_true rfl) (Nat.le_of_ble_eq_true rfl) ?_
  refine W.eq (g2 := F0 m 4 ls []) rfl ?_
  refine lv_aload_n hx hb dX0_init_4 rfl (lv_at hl 0 rfl) ?_
  refine lv_iload_n hx hb dX0_init_5 rfl (lv_at hl 1 rfl) ?_
  refine x_putX S in_X0_init_X0 tyX0 tyX0_ok nmX0 hK hO rfl 0 (by decide) (by decide +kernel) rfl (Or.inr ⟨rfl, hin, rfl⟩) (tyX0_ok 0 (by decide)) rfl rfl (Nat.le_of_ble_eq_true rfl) hlo hab dX0_init_6 (fun H1 lc1 hO1 hz1 ho1 hlo => ?_)
  have hO1 : Ob Γ 0 a [.int (nI P), .int (nI 0), .int (nI 0), .int (nI 0), .int (nI 0), .null, .null, .null] H1 := hO1
  have hO := hO1
  have hsz := hz1.trans hsz
  have hlow : ∀ q : Nat, q < a → H1[q]? = s.heap[q]? := fun q hq => (ho1 q (by omega)).trans (hlow q hq)
  refine lv_aload_n hx hb dX0_init_9 rfl (lv_at hl 0 rfl) ?_
  refine lv_iconst (v := nI 0) hx hb dX0_init_10 (by decide +kernel) ?_
  refine x_putX S in_X0_init_X0 tyX0 tyX0_ok nmX0 hK hO rfl 1 (by decide) (by decide +kernel) rfl (Or.inl rfl) (tyX0_ok 1 (by decide)) rfl rfl (Nat.le_of_ble_eq_true rfl) hlo hab dX0_init_11 (fun H1 lc1 hO1 hz1 ho1 hlo => ?_)
  have hO1 : Ob Γ 0 a [.int (nI P), .int (nI 0), .int (nI 0), .int (nI 0), .int (nI 0), .null, .null, .null] H1 := hO1
  have hO := hO1
  have hsz := hz1.trans hsz
  have hlow : ∀ q : Nat, q < a → H1[q]? = s.heap[q]? := fun q hq => (ho1 q (by omega)).trans (hlow q hq)
  refine lv_aload_n hx hb dX0_init_14 rfl (lv_at hl 0 rfl) ?_
  refine lv_iconst (v := (-1)) hx hb dX0_init_15 (by decide +kernel) ?_
  refine x_putX S in_X0_init_X0 tyX0 tyX0_ok nmX0 hK hO rfl 2 (by decide) (by decide +kernel) rfl (Or.inl rfl) (tyX0_ok 2 (by decide)) rfl rfl (Nat.le_of_ble_eq_true rfl) hlo hab dX0_init_16 (fun H1 lc1 hO1 hz1 ho1 hlo => ?_)
  have hO1 : Ob Γ 0 a [.int (nI P), .int (nI 0), .int ((-1)), .int (nI 0), .int (nI 0), .null, .null, .null] H1 := hO1
  have hO := hO1
  have hsz := hz1.trans hsz
  have hlow : ∀ q : Nat, q < a → H1[q]? = s.heap[q]? := fun q hq => (ho1 q (by omega)).trans (hlow q hq)
  refine lv_aload_n hx hb dX0_init_19 rfl (lv_at hl 0 rfl) ?_
  refine lv_iconst (v := (-1)) hx hb dX0_init_20 (by decide +kernel) ?_
  refine x_putX S in_X0_init_X0 tyX0 tyX0_ok nmX0 hK hO rfl 3 (by decide) (by decide +kernel) rfl (Or.inl rfl) (tyX0_ok 3 (by decide)) rfl rfl (Nat.le_of_ble_eq_true rfl) hlo hab dX0_init_21 (fun H1 lc1 hO1 hz1 ho1 hlo => ?_)
  have hO1 : Ob Γ 0 a [.int (nI P), .int (nI 0), .int ((-1)), .int ((-1)), .int (nI 0), .null, .null, .null] H1 := hO1
  have hO := hO1
  have hsz := hz1.trans hsz
  have hlow : ∀ q : Nat, q < a → H1[q]? = s.heap[q]? := fun q hq => (ho1 q (by omega)).trans (hlow q hq)
  refine lv_aload_n hx hb dX0_init_24 rfl (lv_at hl 0 rfl) ?_
  refine lv_iconst (v := nI 0) hx hb dX0_init_25 (by decide +kernel) ?_
  refine x_putX S in_X0_init_X0 tyX0 tyX0_ok nmX0 hK hO rfl 4 (by decide) (by decide +kernel) rfl (Or.inl rfl) (tyX0_ok 4 (by decide)) (by decide +kernel) (by decide +kernel) (Nat.le_of_ble_eq_true rfl) hlo hab dX0_init_26 (fun H1 lc1 hO1 hz1 ho1 hlo => ?_)
  have hO1 : Ob Γ 0 a [.int (nI P), .int (nI 0), .int ((-1)), .int ((-1)), .int (nI 0), .null, .null, .null] H1 := hO1
  have hO := hO1
  have hsz := hz1.trans hsz
  have hlow : ∀ q : Nat, q < a → H1[q]? = s.heap[q]? := fun q hq => (ho1 q (by omega)).trans (hlow q hq)
  refine lv_aload_n hx hb dX0_init_29 rfl (lv_at hl 0 rfl) ?_
  refine lv_bipush (v := nI 36) hx hb dX0_init_30 (by decide +kernel) ?_
  refine x_newI hx hb hK (hts _ (by decide +kernel)) (by decide) (Nat.le_of_ble_eq_true rfl) (Nat.le_of_ble_eq_true rfl) dX0_init_32 (fun H1 hA1 hz1 ho1 => ?_)
  rw [hsz] at hA1 hz1 ho1
  refine x_v (congrArg Value.ref hsz) ?_
  have hO := hO.kept (ho1 _ (by omega))
  have hR := hA1
  have hsz := hz1
  have hlow : ∀ q : Nat, q < a → H1[q]? = s.heap[q]? := fun q hq => (ho1 q (by omega)).trans (hlow q hq)
  refine x_putX S in_X0_init_X0 tyX0 tyX0_ok nmX0 hK hO rfl 5 (by decide) (by decide +kernel) rfl (Or.inr ⟨rfl, hin, rfl⟩) (tyX0_ok 5 (by decide)) rfl rfl (Nat.le_of_ble_eq_true rfl) hlo hab dX0_init_34 (fun H1 lc1 hO1 hz1 ho1 hlo => ?_)
  have hO1 : Ob Γ 0 a [.int (nI P), .int (nI 0), .int ((-1)), .int ((-1)), .int (nI 0), .ref (a + 1), .null, .null] H1 := hO1
  have hO := hO1
  have hR := hR.kept (ho1 _ (by omega))
  have hsz := hz1.trans hsz
  have hlow : ∀ q : Nat, q < a → H1[q]? = s.heap[q]? := fun q hq => (ho1 q (by omega)).trans (hlow q hq)
  refine lv_aload_n hx hb dX0_init_37 rfl (lv_at hl 0 rfl) ?_
  refine lv_bipush (v := nI 11) hx hb dX0_init_38 (by decide +kernel) ?_
  refine x_newI hx hb hK (hts _ (by decide +kernel)) (by decide) (Nat.le_of_ble_eq_true rfl) (Nat.le_of_ble_eq_true rfl) dX0_init_40 (fun H1 hA1 hz1 ho1 => ?_)
  rw [hsz] at hA1 hz1 ho1
  refine x_v (congrArg Value.ref hsz) ?_
  have hO := hO.kept (ho1 _ (by omega))
  have hR := hR.kept (ho1 _ (by omega))
  have hB := hA1
  have hsz := hz1
  have hlow : ∀ q : Nat, q < a → H1[q]? = s.heap[q]? := fun q hq => (ho1 q (by omega)).trans (hlow q hq)
  refine x_putX S in_X0_init_X0 tyX0 tyX0_ok nmX0 hK hO rfl 6 (by decide) (by decide +kernel) rfl (Or.inr ⟨rfl, hin, rfl⟩) (tyX0_ok 6 (by decide)) rfl rfl (Nat.le_of_ble_eq_true rfl) hlo hab dX0_init_42 (fun H1 lc1 hO1 hz1 ho1 hlo => ?_)
  have hO1 : Ob Γ 0 a [.int (nI P), .int (nI 0), .int ((-1)), .int ((-1)), .int (nI 0), .ref (a + 1), .ref (a + 2), .null] H1 := hO1
  have hO := hO1
  have hR := hR.kept (ho1 _ (by omega))
  have hB := hB.kept (ho1 _ (by omega))
  have hsz := hz1.trans hsz
  have hlow : ∀ q : Nat, q < a → H1[q]? = s.heap[q]? := fun q hq => (ho1 q (by omega)).trans (hlow q hq)
  refine lv_aload_n hx hb dX0_init_45 rfl (lv_at hl 0 rfl) ?_
  refine lv_bipush (v := nI 11) hx hb dX0_init_46 (by decide +kernel) ?_
  refine x_newZ hx hb hK (hts _ (by decide +kernel)) (by decide) (Nat.le_of_ble_eq_true rfl) (Nat.le_of_ble_eq_true rfl) dX0_init_48 (fun H1 hA1 hz1 ho1 => ?_)
  rw [hsz] at hA1 hz1 ho1
  refine x_v (congrArg Value.ref hsz) ?_
  have hO := hO.kept (ho1 _ (by omega))
  have hR := hR.kept (ho1 _ (by omega))
  have hB := hB.kept (ho1 _ (by omega))
  have hG := hA1
  have hsz := hz1
  have hlow : ∀ q : Nat, q < a → H1[q]? = s.heap[q]? := fun q hq => (ho1 q (by omega)).trans (hlow q hq)
  refine x_putX S in_X0_init_X0 tyX0 tyX0_ok nmX0 hK hO rfl 7 (by decide) (by decide +kernel) rfl (Or.inr ⟨rfl, hin, rfl⟩) (tyX0_ok 7 (by decide)) rfl rfl (Nat.le_of_ble_eq_true rfl) hlo hab dX0_init_50 (fun H1 lc1 hO1 hz1 ho1 hlo => ?_)
  have hO1 : Ob Γ 0 a [.int (nI P), .int (nI 0), .int ((-1)), .int ((-1)), .int (nI 0), .ref (a + 1), .ref (a + 2), .ref (a + 3)] H1 := hO1
  have hO := hO1
  have hR := hR.kept (ho1 _ (by omega))
  have hB := hB.kept (ho1 _ (by omega))
  have hG := hG.kept (ho1 _ (by omega))
  have hsz := hz1.trans hsz
  have hlow : ∀ q : Nat, q < a → H1[q]? = s.heap[q]? := fun q hq => (ho1 q (by omega)).trans (hlow q hq)
  refine lv_aload_n hx hb dX0_init_53 rfl (lv_at hl 0 rfl) ?_
  refine x_get S in_X0_init_X0 hK hO rfl 5 (by decide) (by decide +kernel) rfl rfl dX0_init_54 ?_
  refine lv_iconst (v := (-1)) hx hb dX0_init_57 (by decide +kernel) ?_
  refine m_S (rest := []) S hK (c_J7_fill_53178 l Γ bs (a + 1) 36 (fun _ => nI 0) ((-1)) (by decide) (by omega)) (va_cwS 2 hts gX0_init_J7_fill_53178 rfl rfl rfl (by decide +kernel) ⟨Nat.le_of_ble_eq_true rfl, Nat.le_of_ble_eq_true rfl⟩) hR rfl hl.1 rfl (Nat.le_of_ble_eq_true rfl) dX0_init_58 ⟨Nat.le_of_ble_eq_true rfl, Nat.le_of_ble_eq_true rfl⟩ hlo (fun v H1 lc1 hp hlo => ?_)
  obtain ⟨rfl, hA1, hz1, ho1⟩ := hp
  refine W.eq (g2 := F0 m 61 ls []) rfl ?_
  have hO := hO.kept (ho1 _ (by omega))
  have hB := hB.kept (ho1 _ (by omega))
  have hG := hG.kept (ho1 _ (by omega))
  have hR := hA1
  have hsz := hz1.trans hsz
  have hlow : ∀ q : Nat, q < a → H1[q]? = s.heap[q]? := fun q hq => (ho1 q (by omega)).trans (hlow q hq)
  refine lv_aload_n hx hb dX0_init_61 rfl (lv_at hl 0 rfl) ?_
  refine x_get S in_X0_init_X0 hK hO rfl 6 (by decide) (by decide +kernel) rfl rfl dX0_init_62 ?_
  refine lv_bipush (v := nI 12) hx hb dX0_init_65 (by decide +kernel) ?_
  refine m_S (rest := []) S hK (c_J7_fill_53178 l Γ bs (a + 2) 11 (fun _ => nI 0) (nI 12) (by decide) (by omega)) (va_cwS 2 hts gX0_init_J7_fill_53178 rfl rfl rfl (by decide +kernel) ⟨Nat.le_of_ble_eq_true rfl, Nat.le_of_ble_eq_true rfl⟩) hB rfl hl.1 rfl (Nat.le_of_ble_eq_true rfl) dX0_init_67 ⟨Nat.le_of_ble_eq_true rfl, Nat.le_of_ble_eq_true rfl⟩ hlo (fun v H1 lc1 hp hlo => ?_)
  obtain ⟨rfl, hA1, hz1, ho1⟩ := hp
  refine W.eq (g2 := F0 m 70 ls []) rfl ?_
  have hO := hO.kept (ho1 _ (by omega))
  have hR := hR.kept (ho1 _ (by omega))
  have hG := hG.kept (ho1 _ (by omega))
  have hB := hA1
  have hsz := hz1.trans hsz
  have hlow : ∀ q : Nat, q < a → H1[q]? = s.heap[q]? := fun q hq => (ho1 q (by omega)).trans (hlow q hq)
  refine W.widen (k := 3) (n := 58) (Nat.le_of_ble_eq_true rfl) (Nat.le_of_ble_eq_true rfl) ?_
  exact m_vret (Post := fun H v H2 => v = none ∧ SW Γ a P 0 (-1) (-1) 0 (fun _ => -1) (fun _ => nI 12) (fun _ => nI 0) H2 ∧ H2.size = a + 4 ∧ ∀ q : Nat, q < a → H2[q]? = H[q]?) hx hb hr hlk hlo dX0_init_70 ⟨rfl, ⟨hO, hR, hB, hG⟩, hsz, hlow⟩
set_option maxHeartbeats 4000000 in
set_option maxRecDepth 100000 in
theorem c_X0_takePlaces (l : Launch) (Γ : GG) (bs : Nat) (a P U : Nat) (B E : Int32) (G : Nat) (R Bs Gl : Nat → Int32) (hP0 : 1 ≤ P) (hP : P ≤ 12) (a2 P2 U2 : Nat) (B2 E2 : Int32) (G2 : Nat) (R2 Bs2 Gl2 : Nat → Int32) (hQ0 : 1 ≤ P2) (hQ : P2 ≤ 12) (hG2 : ∀ j, Gl2 j = 0 ∨ Gl2 j = 1) (fr many to tw : Nat) (h0 : 1 ≤ many) (h1 : fr + many ≤ P2) (h2 : to + many ≤ P) (h3 : tw < 3) (hd : a + 4 ≤ a2 ∨ a2 + 4 ≤ a) (hab : bs ≤ a) : Mt l yX0_takePlaces wsX0_takePlaces ({ frames := 2, cells := 0, slots := 0, locals := 45 }) Γ bs [.ref a, .ref a2, .int (nI fr), .int (nI many), .int (nI to), .int (nI tw)] (fun H => SW Γ a P U B E G R Bs Gl H ∧ SW Γ a2 P2 U2 B2 E2 G2 R2 Bs2 Gl2 H) (fun H v H2 => v = none ∧ SW Γ a P U B E G (tpR R R2 fr to tw (3 * many)) (tpB Bs Bs2 fr to (many - 1)) (tpB Gl Gl2 fr to (many - 1)) H2 ∧ Fr a (a + 4) H H2 ∧ H2.size = H.size) 0 0 := by
  refine Mt.of (cc := cX0_takePlaces) (maxL := 8) (ret := none) (by decide) rfl (Nat.le_of_ble_eq_true rfl) ?_
  intro p e s m below meth c S hr hlk hin hK hW ls hl
  obtain ⟨hx, hb, hml, hown, hts⟩ := id S
  obtain ⟨lc, elc⟩ : ∃ z : List Loc, z = [] := ⟨_, rfl⟩
  rw [← elc]
  have hlo : lo bs lc := by rw [elc]; exact lo.nil
  clear elc
  have hl : lv_has ls 8 [(0, .ref a), (1, .ref a2), (2, .int (nI fr)), (3, .int (nI many)), (4, .int (nI to)), (5, .int (nI tw))] := hl
  obtain ⟨hWt, hW2⟩ := hW
  have hFr : Fr a (a + 4) s.heap s.heap := Fr.rf
  have hsz : s.heap.size = s.heap.size := rfl
  refine lv_iconst (v := nI 0) hx hb dX0_takePlaces_0 (by decide +kernel) ?_
  refine lv_istore (lv' := [(6, .int (nI 0)), (0, .ref a), (1, .ref a2), (2, .int (nI fr)), (3, .int (nI many)), (4, .int (nI to)), (5, .int (nI tw))]) hx hb dX0_takePlaces_1 hl (by decide) rfl (fun ls hl => ?_)
  refine x_loopH (σ := Nat) (fun u => [(0, .ref a), (1, .ref a2), (2, .int (nI fr)), (3, .int (nI many)), (4, .int (nI to)), (5, .int (nI tw)), (6, .int (nI u))]) (fun u H locs => u ≤ many ∧ SW Γ a P U B E G (tpR R R2 fr to tw (3 * u)) (Bs) (Gl) H ∧ SW Γ a2 P2 U2 B2 E2 G2 R2 Bs2 Gl2 H ∧ Fr a (a + 4) s.heap H ∧ lo bs locs ∧ H.size = s.heap.size) (fun u => many - u) (fun u H locs hu ih ls hl => ?_) 0 ⟨Nat.zero_le _, by rw [tpR_0]; exact hWt, hW2, hFr, hlo, hsz⟩ ls (x_hl (lv_sub (l' := [(0, .ref a), (1, .ref a2), (2, .int (nI fr)), (3, .int (nI many)), (4, .int (nI to)), (5, .int (nI tw)), (6, .int (nI 0))]) hl [1, 2, 3, 4, 5, 6, 0] rfl) rfl)
  obtain ⟨i, rfl⟩ : ∃ z, z = u := ⟨_, rfl⟩
  have hl : lv_has ls 8 [(0, .ref a), (1, .ref a2), (2, .int (nI fr)), (3, .int (nI many)), (4, .int (nI to)), (5, .int (nI tw)), (6, .int (nI i))] := hl
  obtain ⟨hi1, hWt, hW2, hFr, hlo, hsz⟩ := hu
  refine lv_iload hx hb dX0_takePlaces_3 (lv_at hl 6 rfl) ?_
  refine lv_iload_n hx hb dX0_takePlaces_5 rfl (lv_at hl 3 rfl) ?_
  refine x_icge hx hb (by omega) (by omega) (tgt := 56) dX0_takePlaces_6 (by decide) (fun c_1 => ?_) (fun c_1 => ?_)
  · skip
    refine lv_iconst (v := nI 0) hx hb dX0_takePlaces_56 (by decide +kernel) ?_
    refine lv_istore (lv' := [(6, .int (nI 0)), (0, .ref a), (1, .ref a2), (2, .int (nI fr)), (3, .int (nI many)), (4, .int (nI to)), (5, .int (nI tw))]) hx hb dX0_takePlaces_57 hl (by decide) rfl (fun ls hl => ?_)
    refine x_loopH (σ := Nat) (fun u => [(0, .ref a), (1, .ref a2), (2, .int (nI fr)), (3, .int (nI many)), (4, .int (nI to)), (5, .int (nI tw)), (6, .int (nI u))]) (fun u H locs => u ≤ many - 1 ∧ SW Γ a P U B E G (tpR R R2 fr to tw (3 * many)) (tpB Bs Bs2 fr to (u)) (tpB Gl Gl2 fr to (u)) H ∧ SW Γ a2 P2 U2 B2 E2 G2 R2 Bs2 Gl2 H ∧ Fr a (a + 4) s.heap H ∧ lo bs locs ∧ H.size = s.heap.size) (fun u => many - u) (fun u H locs hu ih ls hl => ?_) 0 ⟨Nat.zero_le _, by rw [tpB_0, tpB_0, show many = i by omega]; exact hWt, hW2, hFr, hlo, hsz⟩ ls (x_hl (lv_sub (l' := [(0, .ref a), (1, .ref a2), (2, .int (nI fr)), (3, .int (nI many)), (4, .int (nI to)), (5, .int (nI tw)), (6, .int (nI 0))]) hl [1, 2, 3, 4, 5, 6, 0] rfl) rfl)
    obtain ⟨i, rfl⟩ : ∃ z, z = u := ⟨_, rfl⟩
    have hl : lv_has ls 8 [(0, .ref a), (1, .ref a2), (2, .int (nI fr)), (3, .int (nI many)), (4, .int (nI to)), (5, .int (nI tw)), (6, .int (nI i))] := hl
    obtain ⟨hi1, hWt, hW2, hFr, hlo, hsz⟩ := hu
    refine lv_iload hx hb dX0_takePlaces_59 (lv_at hl 6 rfl) ?_
    refine lv_iload_n hx hb dX0_takePlaces_61 rfl (lv_at hl 3 rfl) ?_
    refine lv_iconst (v := nI 1) hx hb dX0_takePlaces_62 (by decide +kernel) ?_
    refine x_sub hx hb (by omega) dX0_takePlaces_63 ?_
    refine x_icge hx hb (by omega) (by omega) (tgt := 98) dX0_takePlaces_64 (by decide) (fun c_2 => ?_) (fun c_2 => ?_)
    · skip
      refine W.widen (k := 0) (n := 0) (Nat.le_of_ble_eq_true rfl) (Nat.le_of_ble_eq_true rfl) ?_
      exact m_vret (Post := fun H v H2 => v = none ∧ SW Γ a P U B E G (tpR R R2 fr to tw (3 * many)) (tpB Bs Bs2 fr to (many - 1)) (tpB Gl Gl2 fr to (many - 1)) H2 ∧ Fr a (a + 4) H H2 ∧ H2.size = H.size) hx hb hr hlk hlo dX0_takePlaces_98 ⟨rfl, by rw [show many - 1 = i by omega]; exact hWt, hFr, hsz⟩
    · skip
      refine lv_aload_n hx hb dX0_takePlaces_67 rfl (lv_at hl 0 rfl) ?_
      refine lv_iload hx hb dX0_takePlaces_68 (lv_at hl 4 rfl) ?_
      refine lv_iload hx hb dX0_takePlaces_70 (lv_at hl 6 rfl) ?_
      refine x_add hx hb dX0_takePlaces_72 ?_
      refine lv_aload_n hx hb dX0_takePlaces_73 rfl (lv_at hl 1 rfl) ?_
      refine lv_iload_n hx hb dX0_takePlaces_74 rfl (lv_at hl 2 rfl) ?_
      refine lv_iload hx hb dX0_takePlaces_75 (lv_at hl 6 rfl) ?_
      refine x_add hx hb dX0_takePlaces_77 ?_
      refine ro_V (rest := [.int (nI (to + i)), .ref a]) S hK (c_X0_baseAt l Γ a2 P2 U2 B2 E2 G2 R2 Bs2 Gl2 hQ0 hQ (fr + i) (by omega)) (cwV 1 hts gX0_takePlaces_X0_baseAt rfl rfl rfl (by decide +kernel) ⟨Nat.le_of_ble_eq_true rfl, Nat.le_of_ble_eq_true rfl⟩) (Ob.recv hK hW2.1 rfl) hW2 rfl hl.1 rfl (Nat.le_of_ble_eq_true rfl) dX0_takePlaces_78 ⟨Nat.le_of_ble_eq_true rfl, Nat.le_of_ble_eq_true rfl⟩ ?_
      refine W.eq (g2 := F0 m 81 ls [.int (Bs2 (fr + i)), .int (nI (to + i)), .ref a]) rfl ?_
      refine lv_aload_n hx hb dX0_takePlaces_81 rfl (lv_at hl 1 rfl) ?_
      refine lv_iload_n hx hb dX0_takePlaces_82 rfl (lv_at hl 2 rfl) ?_
      refine lv_iload hx hb dX0_takePlaces_83 (lv_at hl 6 rfl) ?_
      refine x_add hx hb dX0_takePlaces_85 ?_
      refine ro_V (rest := [.int (Bs2 (fr + i)), .int (nI (to + i)), .ref a]) S hK (c_X0_gluedAt l Γ a2 P2 U2 B2 E2 G2 R2 Bs2 Gl2 hQ0 hQ (fr + i) (by omega)) (cwV 1 hts gX0_takePlaces_X0_gluedAt rfl rfl rfl (by decide +kernel) ⟨Nat.le_of_ble_eq_true rfl, Nat.le_of_ble_eq_true rfl⟩) (Ob.recv hK hW2.1 rfl) hW2 rfl hl.1 rfl (Nat.le_of_ble_eq_true rfl) dX0_takePlaces_86 ⟨Nat.le_of_ble_eq_true rfl, Nat.le_of_ble_eq_true rfl⟩ ?_
      refine W.eq (g2 := F0 m 89 ls [.int (nI (bP (¬ Gl2 (fr + i) = 0))), .int (Bs2 (fr + i)), .int (nI (to + i)), .ref a]) rfl ?_
      refine x_e (bP_gl (hG2 (fr + i))) ?_
      refine m_V (rest := []) S hK (c_X0_putJoint l Γ bs a P U B E G (tpR R R2 fr to tw (3 * many)) (tpB Bs Bs2 fr to (i)) (tpB Gl Gl2 fr to (i)) hP0 hP (to + i) (Bs2 (fr + i)) (Gl2 (fr + i)) (by omega) (nr_gl (hG2 _)) hab) (cwV 3 hts gX0_takePlaces_X0_putJoint rfl rfl rfl (by decide +kernel) ⟨Nat.le_of_ble_eq_true rfl, Nat.le_of_ble_eq_true rfl⟩) (Ob.recv hK hWt.1 rfl) hWt rfl hl.1 rfl (Nat.le_of_ble_eq_true rfl) dX0_takePlaces_89 ⟨Nat.le_of_ble_eq_true rfl, Nat.le_of_ble_eq_true rfl⟩ hlo (fun v H1 lc1 hp hlo => ?_)
      obtain ⟨rfl, hWn, hz1, ho1⟩ := hp
      refine W.eq (g2 := F0 m 92 ls []) rfl ?_
      have hsz := hz1.trans hsz
      have hFr : Fr a (a + 4) s.heap H1 := hFr.trans ⟨by rw [hz1]; exact Nat.le_refl _, fun q _ h2 => ho1 q (by omega) (by omega)⟩
      have hW2 := hW2.kept (fun q h1 h2 => ho1 q (by omega) (by omega))
      refine x_iinc (n := 1) (lv' := [(6, .int (nI (i + 1))), (0, .ref a), (1, .ref a2), (2, .int (nI fr)), (3, .int (nI many)), (4, .int (nI to)), (5, .int (nI tw))]) hx hb dX0_takePlaces_92 hl (k := 6) rfl (by decide) rfl (fun ls hl => ?_)
      refine lv_goto (tgt := 59) hx hb dX0_takePlaces_95 (by decide) ?_
      exact ih (i + 1) _ _ ⟨by omega, by rw [← tpB_s, ← tpB_s]; exact hWn, hW2, hFr, hlo, hsz⟩ (by omega) ls (lv_sub hl [1, 2, 3, 4, 5, 6, 0] rfl)
  · skip
    refine lv_iconst (v := nI 0) hx hb dX0_takePlaces_9 (by decide +kernel) ?_
    refine lv_istore (lv' := [(7, .int (nI 0)), (0, .ref a), (1, .ref a2), (2, .int (nI fr)), (3, .int (nI many)), (4, .int (nI to)), (5, .int (nI tw)), (6, .int (nI i))]) hx hb dX0_takePlaces_10 hl (by decide) rfl (fun ls hl => ?_)
    refine x_loopH (σ := Nat) (fun u => [(0, .ref a), (1, .ref a2), (2, .int (nI fr)), (3, .int (nI many)), (4, .int (nI to)), (5, .int (nI tw)), (6, .int (nI i)), (7, .int (nI u))]) (fun u H locs => u ≤ 3 ∧ SW Γ a P U B E G (tpR R R2 fr to tw (3 * i + u)) (Bs) (Gl) H ∧ SW Γ a2 P2 U2 B2 E2 G2 R2 Bs2 Gl2 H ∧ Fr a (a + 4) s.heap H ∧ lo bs locs ∧ H.size = s.heap.size) (fun u => 3 - u) (fun u H locs hu3 ih3 ls hl => ?_) 0 ⟨Nat.zero_le _, hWt, hW2, hFr, hlo, hsz⟩ ls (x_hl (lv_sub (l' := [(0, .ref a), (1, .ref a2), (2, .int (nI fr)), (3, .int (nI many)), (4, .int (nI to)), (5, .int (nI tw)), (6, .int (nI i)), (7, .int (nI 0))]) hl [1, 2, 3, 4, 5, 6, 7, 0] rfl) rfl)
    obtain ⟨sd, rfl⟩ : ∃ z, z = u := ⟨_, rfl⟩
    have hl : lv_has ls 8 [(0, .ref a), (1, .ref a2), (2, .int (nI fr)), (3, .int (nI many)), (4, .int (nI to)), (5, .int (nI tw)), (6, .int (nI i)), (7, .int (nI sd))] := hl
    obtain ⟨hi2, hWt, hW2, hFr, hlo, hsz⟩ := hu3
    refine lv_iload hx hb dX0_takePlaces_12 (lv_at hl 7 rfl) ?_
    refine lv_iconst (v := nI 3) hx hb dX0_takePlaces_14 (by decide +kernel) ?_
    refine x_icge hx hb (by omega) (by omega) (tgt := 50) dX0_takePlaces_15 (by decide) (fun c_3 => ?_) (fun c_3 => ?_)
    · skip
      refine x_iinc (n := 1) (lv' := [(6, .int (nI (i + 1))), (0, .ref a), (1, .ref a2), (2, .int (nI fr)), (3, .int (nI many)), (4, .int (nI to)), (5, .int (nI tw)), (7, .int (nI sd))]) hx hb dX0_takePlaces_50 hl (k := 6) rfl (by decide) rfl (fun ls hl => ?_)
      refine lv_goto (tgt := 3) hx hb dX0_takePlaces_53 (by decide) ?_
      exact ih (i + 1) _ _ ⟨by omega, by rw [show 3 * (i + 1) = 3 * i + sd by omega]; exact hWt, hW2, hFr, hlo, hsz⟩ (by omega) ls (lv_sub hl [1, 2, 3, 4, 5, 6, 0] rfl)
    · skip
      refine lv_aload_n hx hb dX0_takePlaces_18 rfl (lv_at hl 0 rfl) ?_
      refine lv_iload hx hb dX0_takePlaces_19 (lv_at hl 7 rfl) ?_
      refine lv_iload hx hb dX0_takePlaces_21 (lv_at hl 4 rfl) ?_
      refine lv_iload hx hb dX0_takePlaces_23 (lv_at hl 6 rfl) ?_
      refine x_add hx hb dX0_takePlaces_25 ?_
      refine lv_aload_n hx hb dX0_takePlaces_26 rfl (lv_at hl 1 rfl) ?_
      refine lv_iload hx hb dX0_takePlaces_27 (lv_at hl 7 rfl) ?_
      refine lv_iload hx hb dX0_takePlaces_29 (lv_at hl 5 rfl) ?_
      refine x_add hx hb dX0_takePlaces_31 ?_
      refine lv_iconst (v := nI 3) hx hb dX0_takePlaces_32 (by decide +kernel) ?_
      refine x_rem hx hb (by omega) (by omega) (by omega) dX0_takePlaces_33 ?_
      refine lv_iload_n hx hb dX0_takePlaces_34 rfl (lv_at hl 2 rfl) ?_
      refine lv_iload hx hb dX0_takePlaces_35 (lv_at hl 6 rfl) ?_
      refine x_add hx hb dX0_takePlaces_37 ?_
      refine ro_V (rest := [.int (nI (to + i)), .int (nI sd), .ref a]) S hK (c_X0_runeAt l Γ a2 P2 U2 B2 E2 G2 R2 Bs2 Gl2 hQ0 hQ ((sd + tw) % 3) (fr + i) (by omega) (by omega)) (cwV 2 hts gX0_takePlaces_X0_runeAt rfl rfl rfl (by decide +kernel) ⟨Nat.le_of_ble_eq_true rfl, Nat.le_of_ble_eq_true rfl⟩) (Ob.recv hK hW2.1 rfl) hW2 rfl hl.1 rfl (Nat.le_of_ble_eq_true rfl) dX0_takePlaces_38 ⟨Nat.le_of_ble_eq_true rfl, Nat.le_of_ble_eq_true rfl⟩ ?_
      refine W.eq (g2 := F0 m 41 ls [.int (R2 (3 * (fr + i) + ((sd + tw) % 3))), .int (nI (to + i)), .int (nI sd), .ref a]) rfl ?_
      refine m_V (rest := []) S hK (c_X0_putRune l Γ bs a P U B E G (tpR R R2 fr to tw (3 * i + sd)) Bs Gl hP0 hP sd (to + i) (R2 (3 * (fr + i) + ((sd + tw) % 3))) (by omega) (by omega) hab) (cwV 3 hts gX0_takePlaces_X0_putRune rfl rfl rfl (by decide +kernel) ⟨Nat.le_of_ble_eq_true rfl, Nat.le_of_ble_eq_true rfl⟩) (Ob.recv hK hWt.1 rfl) hWt rfl hl.1 rfl (Nat.le_of_ble_eq_true rfl) dX0_takePlaces_41 ⟨Nat.le_of_ble_eq_true rfl, Nat.le_of_ble_eq_true rfl⟩ hlo (fun v H1 lc1 hp hlo => ?_)
      obtain ⟨rfl, hWn, hz1, ho1⟩ := hp
      refine W.eq (g2 := F0 m 44 ls []) rfl ?_
      have hFr := hFr.put hz1 ho1 (by omega) (by omega)
      have hsz := hz1.trans hsz
      have hW2 := hW2.kept (fun q h1 h2 => ho1 q (by omega))
      refine x_iinc (n := 1) (lv' := [(7, .int (nI (sd + 1))), (0, .ref a), (1, .ref a2), (2, .int (nI fr)), (3, .int (nI many)), (4, .int (nI to)), (5, .int (nI tw)), (6, .int (nI i))]) hx hb dX0_takePlaces_44 hl (k := 7) rfl (by decide) rfl (fun ls hl => ?_)
      refine lv_goto (tgt := 12) hx hb dX0_takePlaces_47 (by decide) ?_
      exact ih3 (sd + 1) _ _ ⟨by omega, by rw [← Nat.add_assoc, ← tpR_s (by omega)]; exact hWn, hW2, hFr, hlo, hsz⟩ (by omega) ls (lv_sub hl [1, 2, 3, 4, 5, 6, 7, 0] rfl)
theorem in_X1_put_X1 : ∀ w ∈ wsX10, w ∈ wsX1_put := by decide +kernel
set_option maxHeartbeats 4000000 in
set_option maxRecDepth 100000 in
theorem c_X1_put (l : Launch) (Γ : GG) (bs : Nat) (x n : Nat) (br : Int32) (f : Nat → Option Nat) (a : Nat) (fs : List Value) (hn : n < 40) (hab : bs ≤ x) (ha2 : ¬ a = x + 1) : Mt l yX1_put wsX1_put ({ frames := 0, cells := 0, slots := 0, locals := 0 }) Γ bs [.ref x, .ref a] (fun H => Ob Γ 1 x [.ref (x + 1), .int (nI n), .int br] H ∧ Aq Γ (x + 1) 40 f H ∧ Ob Γ 0 a fs H) (fun H v H2 => v = some (.int (nI n)) ∧ Ob Γ 1 x [.ref (x + 1), .int (nI (n + 1)), .int br] H2 ∧ Aq Γ (x + 1) 40 (va_up f n (some a)) H2 ∧ H2.size = H.size ∧ ∀ q : Nat, q ≠ x → q ≠ x + 1 → H2[q]? = H[q]?) 0 0 := by
  refine Mt.of (cc := cX1_put) (maxL := 3) (ret := (some .int)) (by decide) rfl (Nat.le_of_ble_eq_true rfl) ?_
  intro p e s m below meth c S hr hlk hin hK hW ls hl
  obtain ⟨hx, hb, hml, hown, hts⟩ := id S
  obtain ⟨lc, elc⟩ : ∃ z : List Loc, z = [] := ⟨_, rfl⟩
  rw [← elc]
  have hlo : lo bs lc := by rw [elc]; exact lo.nil
  clear elc
  have hl : lv_has ls 3 [(0, .ref x), (1, .ref a)] := hl
  refine lv_aload_n hx hb dX1_put_0 rfl (lv_at hl 0 rfl) ?_
  refine x_get S in_X1_put_X1 hK hW.1 rfl 1 (by decide) (by decide +kernel) rfl rfl dX1_put_1 ?_
  refine lv_istore_n (lv' := [(2, .int (nI n)), (0, .ref x), (1, .ref a)]) hx hb dX1_put_4 rfl hl (by decide) rfl (fun ls hl => ?_)
  refine lv_iload_n hx hb dX1_put_5 rfl (lv_at hl 0 rfl) ?_
  refine lv_if_lt (tgt := 32) hx hb dX1_put_6 (by decide) (fun c_1 => ?_) (fun c_1 => ?_)
  · skip
    exact absurd c_1 (nI_pos (by omega))
  · skip
    refine lv_iload_n hx hb dX1_put_9 rfl (lv_at hl 0 rfl) ?_
    refine lv_aload_n hx hb dX1_put_10 rfl (lv_at hl 1 rfl) ?_
    refine x_get S in_X1_put_X1 hK hW.1 rfl 0 (by decide) (by decide +kernel) rfl rfl dX1_put_11 ?_
    refine x_qlen hx hb hK hW.2.1 dX1_put_14 ?_
    refine x_icge hx hb (by omega) (by omega) (tgt := 32) dX1_put_15 (by decide) (fun c_2 => ?_) (fun c_2 => ?_)
    · skip
      exact absurd c_2 (by omega)
    · skip
      refine lv_aload_n hx hb dX1_put_18 rfl (lv_at hl 1 rfl) ?_
      refine x_get S in_X1_put_X1 hK hW.1 rfl 0 (by decide) (by decide +kernel) rfl rfl dX1_put_19 ?_
      refine lv_iload_n hx hb dX1_put_22 rfl (lv_at hl 0 rfl) ?_
      refine lv_aload_n hx hb dX1_put_23 rfl (lv_at hl 2 rfl) ?_
      refine x_aast hx hb hK hW.2.1 hW.2.2 (by omega) (by omega) hlo (by omega) dX1_put_24 (fun H1 lc1 hA1 hz1 ho1 hlo => ?_)
      have hO0 := hW.1.kept (ho1 _ (by omega))
      have hz0 := hz1
      have ho0 := ho1
      refine lv_aload_n hx hb dX1_put_25 rfl (lv_at hl 1 rfl) ?_
      refine lv_iload_n hx hb dX1_put_26 rfl (lv_at hl 0 rfl) ?_
      refine lv_iconst (v := nI 1) hx hb dX1_put_27 (by decide +kernel) ?_
      refine x_add hx hb dX1_put_28 ?_
      refine x_putX S in_X1_put_X1 tyX1 tyX1_ok nmX1 hK hO0 rfl 1 (by decide) (by decide +kernel) rfl (Or.inl rfl) (tyX1_ok 1 (by decide)) rfl rfl (Nat.le_of_ble_eq_true rfl) hlo hab dX1_put_29 (fun H1 lc1 hO1 hz1 ho1 hlo => ?_)
      have hO1 : Ob Γ 1 x [.ref (x + 1), .int (nI (n + 1)), .int br] H1 := hO1
      refine lv_iload_n hx hb dX1_put_32 rfl (lv_at hl 0 rfl) ?_
      refine W.widen (k := 0) (n := 0) (Nat.le_of_ble_eq_true rfl) (Nat.le_of_ble_eq_true rfl) ?_
      exact m_iret (Post := fun H v H2 => v = some (.int (nI n)) ∧ Ob Γ 1 x [.ref (x + 1), .int (nI (n + 1)), .int br] H2 ∧ Aq Γ (x + 1) 40 (va_up f n (some a)) H2 ∧ H2.size = H.size ∧ ∀ q : Nat, q ≠ x → q ≠ x + 1 → H2[q]? = H[q]?) hx hb hr hlk hlo dX1_put_33 ⟨rfl, hO1, hA1.kept (ho1 _ (by omega)), hz1.trans hz0, fun q q1 q2 => (ho1 q q1).trans (ho0 q q2)⟩
