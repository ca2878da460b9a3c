theorem in_X0_hasPlace_X0 : ∀ w ∈ wsX00, w ∈ wsX0_hasPlace := by decide +kernel
set_option maxHeartbeats 4000000 in
set_option maxRecDepth 100000 in
theorem c_X0_hasPlace (l : Launch) (Γ : GG) (a P U : Nat) (B E : Int32) (G : Nat) (R Bs Gl : Nat → Int32) (hP0 : 1 ≤ P) (hP : P ≤ 12) (x y : Int32)  : Ro l yX0_hasPlace wsX0_hasPlace ({ frames := 0, cells := 0, slots := 0, locals := 0 }) Γ [.ref a, .int x, .int y] (SW Γ a P U B E G R Bs Gl) (some (.int (nI (bP (inb x 3 ∧ inb y P))))) := by
  refine Ro.of (cc := cX0_hasPlace) (maxL := 3) (ret := some .boolean) (by decide) rfl (Nat.le_of_ble_eq_true rfl) ?_
  intro p e s m below meth c S hr hlk hK hW ls hl
  obtain ⟨hx, hb, hml, hown, hts⟩ := id S
  have hl : lv_has ls 3 [(0, .ref a), (1, .int x), (2, .int y)] := hl
  refine lv_iload_n hx hb dX0_hasPlace_0 rfl (lv_at hl 1 rfl) ?_
  refine lv_if_lt (tgt := 31) hx hb dX0_hasPlace_1 (by decide) (fun c_1 => ?_) (fun c_1 => ?_)
  · skip
    refine lv_iconst (v := nI 0) hx hb dX0_hasPlace_31 (by decide +kernel) ?_
    refine x_e (show nI 0 = nI (bP (inb x 3 ∧ inb y P)) by rw [bP_f (fun q => inb_lt0 c_1 q.1)]) ?_
    exact ro_zret (bP_le _) hx hb hr hlk dX0_hasPlace_32
  · skip
    refine lv_iload_n hx hb dX0_hasPlace_4 rfl (lv_at hl 1 rfl) ?_
    refine lv_iconst (v := nI 3) hx hb dX0_hasPlace_5 (by decide +kernel) ?_
    refine lv_icmp_ge (tgt := 31) hx hb dX0_hasPlace_6 (by decide) (fun c_2 => ?_) (fun c_2 => ?_)
    · skip
      refine lv_iconst (v := nI 0) hx hb dX0_hasPlace_31 (by decide +kernel) ?_
      refine x_e (show nI 0 = nI (bP (inb x 3 ∧ inb y P)) by rw [bP_f (fun q => inb_ge (Nat.le_refl 3) (by decide) c_2 q.1)]) ?_
      exact ro_zret (bP_le _) hx hb hr hlk dX0_hasPlace_32
    · skip
      refine lv_iload_n hx hb dX0_hasPlace_9 rfl (lv_at hl 2 rfl) ?_
      refine lv_if_lt (tgt := 31) hx hb dX0_hasPlace_10 (by decide) (fun c_3 => ?_) (fun c_3 => ?_)
      · skip
        refine lv_iconst (v := nI 0) hx hb dX0_hasPlace_31 (by decide +kernel) ?_
        refine x_e (show nI 0 = nI (bP (inb x 3 ∧ inb y P)) by rw [bP_f (fun q => inb_lt0 c_3 q.2)]) ?_
        exact ro_zret (bP_le _) hx hb hr hlk dX0_hasPlace_32
      · skip
        refine lv_iload_n hx hb dX0_hasPlace_13 rfl (lv_at hl 2 rfl) ?_
        refine lv_aload_n hx hb dX0_hasPlace_14 rfl (lv_at hl 0 rfl) ?_
        refine x_get S in_X0_hasPlace_X0 hK hW.1 rfl 0 (by decide) (by decide +kernel) rfl rfl dX0_hasPlace_15 ?_
        refine lv_icmp_ge (tgt := 31) hx hb dX0_hasPlace_18 (by decide) (fun c_4 => ?_) (fun c_4 => ?_)
        · skip
          refine lv_iconst (v := nI 0) hx hb dX0_hasPlace_31 (by decide +kernel) ?_
          refine x_e (show nI 0 = nI (bP (inb x 3 ∧ inb y P)) by rw [bP_f (fun q => inb_ge (Nat.le_refl P) (by omega) c_4 q.2)]) ?_
          exact ro_zret (bP_le _) hx hb hr hlk dX0_hasPlace_32
        · skip
          refine lv_iload_n hx hb dX0_hasPlace_21 rfl (lv_at hl 2 rfl) ?_
          refine lv_bipush (v := nI 12) hx hb dX0_hasPlace_22 (by decide +kernel) ?_
          refine lv_icmp_ge (tgt := 31) hx hb dX0_hasPlace_24 (by decide) (fun c_5 => ?_) (fun c_5 => ?_)
          · skip
            refine lv_iconst (v := nI 0) hx hb dX0_hasPlace_31 (by decide +kernel) ?_
            refine x_e (show nI 0 = nI (bP (inb x 3 ∧ inb y P)) by rw [bP_f (fun q => inb_ge hP (by decide) c_5 q.2)]) ?_
            exact ro_zret (bP_le _) hx hb hr hlk dX0_hasPlace_32
          · skip
            refine lv_iconst (v := nI 1) hx hb dX0_hasPlace_27 (by decide +kernel) ?_
            refine lv_goto (tgt := 32) hx hb dX0_hasPlace_28 (by decide) ?_
            refine x_e (show nI 1 = nI (bP (inb x 3 ∧ inb y P)) by rw [bP_t ⟨inb_of (by decide) c_1 c_2, inb_of (by omega) c_3 c_4⟩]) ?_
            exact ro_zret (bP_le _) hx hb hr hlk dX0_hasPlace_32
theorem in_X0_hasJoint_X0 : ∀ w ∈ wsX00, w ∈ wsX0_hasJoint := by decide +kernel
set_option maxHeartbeats 4000000 in
set_option maxRecDepth 100000 in
theorem c_X0_hasJoint (l : Launch) (Γ : GG) (a P U : Nat) (B E : Int32) (G : Nat) (R Bs Gl : Nat → Int32) (hP0 : 1 ≤ P) (hP : P ≤ 12) (x : Int32)  : Ro l yX0_hasJoint wsX0_hasJoint ({ frames := 0, cells := 0, slots := 0, locals := 0 }) Γ [.ref a, .int x] (SW Γ a P U B E G R Bs Gl) (some (.int (nI (bP (inb x (P - 1)))))) := by
  refine Ro.of (cc := cX0_hasJoint) (maxL := 2) (ret := some .boolean) (by decide) rfl (Nat.le_of_ble_eq_true rfl) ?_
  intro p e s m below meth c S hr hlk hK hW ls hl
  obtain ⟨hx, hb, hml, hown, hts⟩ := id S
  have hl : lv_has ls 2 [(0, .ref a), (1, .int x)] := hl
  refine lv_iload_n hx hb dX0_hasJoint_0 rfl (lv_at hl 1 rfl) ?_
  refine lv_if_lt (tgt := 24) hx hb dX0_hasJoint_1 (by decide) (fun c_1 => ?_) (fun c_1 => ?_)
  · skip
    refine lv_iconst (v := nI 0) hx hb dX0_hasJoint_24 (by decide +kernel) ?_
    refine x_e (show nI 0 = nI (bP (inb x (P - 1))) by rw [bP_f (fun q => inb_lt0 c_1 q)]) ?_
    exact ro_zret (bP_le _) hx hb hr hlk dX0_hasJoint_25
  · skip
    refine lv_iload_n hx hb dX0_hasJoint_4 rfl (lv_at hl 1 rfl) ?_
    refine lv_aload_n hx hb dX0_hasJoint_5 rfl (lv_at hl 0 rfl) ?_
    refine x_get S in_X0_hasJoint_X0 hK hW.1 rfl 0 (by decide) (by decide +kernel) rfl rfl dX0_hasJoint_6 ?_
    refine lv_iconst (v := nI 1) hx hb dX0_hasJoint_9 (by decide +kernel) ?_
    refine x_sub hx hb (by omega) dX0_hasJoint_10 ?_
    refine lv_icmp_ge (tgt := 24) hx hb dX0_hasJoint_11 (by decide) (fun c_2 => ?_) (fun c_2 => ?_)
    · skip
      refine lv_iconst (v := nI 0) hx hb dX0_hasJoint_24 (by decide +kernel) ?_
      refine x_e (show nI 0 = nI (bP (inb x (P - 1))) by rw [bP_f (fun q => inb_ge (Nat.le_refl _) (by omega) c_2 q)]) ?_
      exact ro_zret (bP_le _) hx hb hr hlk dX0_hasJoint_25
    · skip
      refine lv_iload_n hx hb dX0_hasJoint_14 rfl (lv_at hl 1 rfl) ?_
      refine lv_bipush (v := nI 11) hx hb dX0_hasJoint_15 (by decide +kernel) ?_
      refine lv_icmp_ge (tgt := 24) hx hb dX0_hasJoint_17 (by decide) (fun c_3 => ?_) (fun c_3 => ?_)
      · skip
        refine lv_iconst (v := nI 0) hx hb dX0_hasJoint_24 (by decide +kernel) ?_
        refine x_e (show nI 0 = nI (bP (inb x (P - 1))) by rw [bP_f (fun q => inb_ge (by omega) (by decide) c_3 q)]) ?_
        exact ro_zret (bP_le _) hx hb hr hlk dX0_hasJoint_25
      · skip
        refine lv_iconst (v := nI 1) hx hb dX0_hasJoint_20 (by decide +kernel) ?_
        refine lv_goto (tgt := 25) hx hb dX0_hasJoint_21 (by decide) ?_
        refine x_e (show nI 1 = nI (bP (inb x (P - 1))) by rw [bP_t (inb_of (by omega) c_1 c_2)]) ?_
        exact ro_zret (bP_le _) hx hb hr hlk dX0_hasJoint_25
theorem in_X0_runeAt_X0 : ∀ w ∈ wsX00, w ∈ wsX0_runeAt := by decide +kernel
set_option maxHeartbeats 4000000 in
set_option maxRecDepth 100000 in
theorem c_X0_runeAt (l : Launch) (Γ : GG) (a P U : Nat) (B E : Int32) (G : Nat) (R Bs Gl : Nat → Int32) (hP0 : 1 ≤ P) (hP : P ≤ 12) (sd pl : Nat) (h1 : sd < 3) (h2 : pl < P) : Ro l yX0_runeAt wsX0_runeAt ({ frames := 1, cells := 0, slots := 0, locals := 22 }) Γ [.ref a, .int (nI sd), .int (nI pl)] (SW Γ a P U B E G R Bs Gl) (some (.int (R (3 * pl + sd)))) := by
  refine Ro.of (cc := cX0_runeAt) (maxL := 3) (ret := some .int) (by decide) rfl (Nat.le_of_ble_eq_true rfl) ?_
  intro p e s m below meth c S hr hlk hK hW ls hl
  obtain ⟨hx, hb, hml, hown, hts⟩ := id S
  have hl : lv_has ls 3 [(0, .ref a), (1, .int (nI sd)), (2, .int (nI pl))] := hl
  refine lv_aload_n hx hb dX0_runeAt_0 rfl (lv_at hl 0 rfl) ?_
  refine lv_iload_n hx hb dX0_runeAt_1 rfl (lv_at hl 1 rfl) ?_
  refine lv_iload_n hx hb dX0_runeAt_2 rfl (lv_at hl 2 rfl) ?_
  refine ro_V (rest := []) S hK (c_X0_hasPlace l Γ a P U B E G R Bs Gl hP0 hP (nI sd) (nI pl)) (cwV 2 hts gX0_runeAt_X0_hasPlace rfl rfl rfl (by decide +kernel) ⟨Nat.le_of_ble_eq_true rfl, Nat.le_of_ble_eq_true rfl⟩) (Ob.recv hK hW.1 rfl) hW rfl hl.1 rfl (Nat.le_of_ble_eq_true rfl) dX0_runeAt_3 ⟨Nat.zero_le _, Nat.zero_le _⟩ ?_
  refine W.eq (g2 := F0 m 6 ls [.int (nI (bP (inb (nI sd) 3 ∧ inb (nI pl) P)))]) rfl ?_
  refine x_e (y := nI 1) (by rw [bP_t ⟨(inb_nI (by omega)).mpr (by omega), (inb_nI (by omega)).mpr (by omega)⟩]) ?_
  refine x_ifeq hx hb (by omega) (tgt := 22) dX0_runeAt_6 (by decide) (fun c_1 => absurd c_1 (by decide)) (fun c_1 => ?_)
  refine lv_aload_n hx hb dX0_runeAt_9 rfl (lv_at hl 0 rfl) ?_
  refine x_get S in_X0_runeAt_X0 hK hW.1 rfl 5 (by decide) (by decide +kernel) rfl rfl dX0_runeAt_10 ?_
  refine lv_iload_n hx hb dX0_runeAt_13 rfl (lv_at hl 2 rfl) ?_
  refine lv_iconst (v := nI 3) hx hb dX0_runeAt_14 (by decide +kernel) ?_
  refine x_mul hx hb dX0_runeAt_15 ?_
  refine lv_iload_n hx hb dX0_runeAt_16 rfl (lv_at hl 1 rfl) ?_
  refine x_add hx hb dX0_runeAt_17 ?_
  refine x_iald hx hb hK hW.2.1 (by omega) (by omega) dX0_runeAt_18 ?_
  refine lv_goto (tgt := 23) hx hb dX0_runeAt_19 (by decide) ?_
  refine x_e (show R (pl * 3 + sd) = R (3 * pl + sd) by rw [Nat.mul_comm pl 3]) ?_
  exact ro_iret hx hb hr hlk dX0_runeAt_23
theorem in_X0_baseAt_X0 : ∀ w ∈ wsX00, w ∈ wsX0_baseAt := by decide +kernel
set_option maxHeartbeats 4000000 in
set_option maxRecDepth 100000 in
theorem c_X0_baseAt (l : Launch) (Γ : GG) (a P U : Nat) (B E : Int32) (G : Nat) (R Bs Gl : Nat → Int32) (hP0 : 1 ≤ P) (hP : P ≤ 12) (j : Nat) (h1 : j < P - 1) : Ro l yX0_baseAt wsX0_baseAt ({ frames := 1, cells := 0, slots := 0, locals := 21 }) Γ [.ref a, .int (nI j)] (SW Γ a P U B E G R Bs Gl) (some (.int (Bs j))) := by
  refine Ro.of (cc := cX0_baseAt) (maxL := 2) (ret := some .int) (by decide) rfl (Nat.le_of_ble_eq_true rfl) ?_
  intro p e s m below meth c S hr hlk hK hW ls hl
  obtain ⟨hx, hb, hml, hown, hts⟩ := id S
  have hl : lv_has ls 2 [(0, .ref a), (1, .int (nI j))] := hl
  refine lv_aload_n hx hb dX0_baseAt_0 rfl (lv_at hl 0 rfl) ?_
  refine lv_iload_n hx hb dX0_baseAt_1 rfl (lv_at hl 1 rfl) ?_
  refine ro_V (rest := []) S hK (c_X0_hasJoint l Γ a P U B E G R Bs Gl hP0 hP (nI j)) (cwV 1 hts gX0_baseAt_X0_hasJoint rfl rfl rfl (by decide +kernel) ⟨Nat.le_of_ble_eq_true rfl, Nat.le_of_ble_eq_true rfl⟩) (Ob.recv hK hW.1 rfl) hW rfl hl.1 rfl (Nat.le_of_ble_eq_true rfl) dX0_baseAt_2 ⟨Nat.zero_le _, Nat.zero_le _⟩ ?_
  refine W.eq (g2 := F0 m 5 ls [.int (nI (bP (inb (nI j) (P - 1))))]) rfl ?_
  refine x_e (y := nI 1) (by rw [bP_t ((inb_nI (by omega)).mpr (by omega))]) ?_
  refine x_ifeq hx hb (by omega) (tgt := 17) dX0_baseAt_5 (by decide) (fun c_1 => absurd c_1 (by decide)) (fun c_1 => ?_)
  refine lv_aload_n hx hb dX0_baseAt_8 rfl (lv_at hl 0 rfl) ?_
  refine x_get S in_X0_baseAt_X0 hK hW.1 rfl 6 (by decide) (by decide +kernel) rfl rfl dX0_baseAt_9 ?_
  refine lv_iload_n hx hb dX0_baseAt_12 rfl (lv_at hl 1 rfl) ?_
  refine x_iald hx hb hK hW.2.2.1 (by omega) (by omega) dX0_baseAt_13 ?_
  refine lv_goto (tgt := 18) hx hb dX0_baseAt_14 (by decide) ?_
  exact ro_iret hx hb hr hlk dX0_baseAt_18
theorem in_X0_gluedAt_X0 : ∀ w ∈ wsX00, w ∈ wsX0_gluedAt := by decide +kernel
set_option maxHeartbeats 4000000 in
set_option maxRecDepth 100000 in
theorem c_X0_gluedAt (l : Launch) (Γ : GG) (a P U : Nat) (B E : Int32) (G : Nat) (R Bs Gl : Nat → Int32) (hP0 : 1 ≤ P) (hP : P ≤ 12) (j : Nat) (h1 : j < P - 1) : Ro l yX0_gluedAt wsX0_gluedAt ({ frames := 1, cells := 0, slots := 0, locals := 21 }) Γ [.ref a, .int (nI j)] (SW Γ a P U B E G R Bs Gl) (some (.int (nI (bP (¬ Gl j = 0))))) := by
  refine Ro.of (cc := cX0_gluedAt) (maxL := 2) (ret := some .boolean) (by decide) rfl (Nat.le_of_ble_eq_true rfl) ?_
  intro p e s m below meth c S hr hlk hK hW ls hl
  obtain ⟨hx, hb, hml, hown, hts⟩ := id S
  have hl : lv_has ls 2 [(0, .ref a), (1, .int (nI j))] := hl
  refine lv_aload_n hx hb dX0_gluedAt_0 rfl (lv_at hl 0 rfl) ?_
  refine lv_iload_n hx hb dX0_gluedAt_1 rfl (lv_at hl 1 rfl) ?_
  refine ro_V (rest := []) S hK (c_X0_hasJoint l Γ a P U B E G R Bs Gl hP0 hP (nI j)) (cwV 1 hts gX0_gluedAt_X0_hasJoint rfl rfl rfl (by decide +kernel) ⟨Nat.le_of_ble_eq_true rfl, Nat.le_of_ble_eq_true rfl⟩) (Ob.recv hK hW.1 rfl) hW rfl hl.1 rfl (Nat.le_of_ble_eq_true rfl) dX0_gluedAt_2 ⟨Nat.zero_le _, Nat.zero_le _⟩ ?_
  refine W.eq (g2 := F0 m 5 ls [.int (nI (bP (inb (nI j) (P - 1))))]) rfl ?_
  refine x_e (y := nI 1) (by rw [bP_t ((inb_nI (by omega)).mpr (by omega))]) ?_
  refine x_ifeq hx hb (by omega) (tgt := 21) dX0_gluedAt_5 (by decide) (fun c_1 => absurd c_1 (by decide)) (fun c_1 => ?_)
  refine lv_aload_n hx hb dX0_gluedAt_8 rfl (lv_at hl 0 rfl) ?_
  refine x_get S in_X0_gluedAt_X0 hK hW.1 rfl 7 (by decide) (by decide +kernel) rfl rfl dX0_gluedAt_9 ?_
  refine lv_iload_n hx hb dX0_gluedAt_12 rfl (lv_at hl 1 rfl) ?_
  refine x_zald hx hb hK hW.2.2.2 (by omega) (by omega) dX0_gluedAt_13 ?_
  refine lv_if_eq (tgt := 21) hx hb dX0_gluedAt_14 (by decide) (fun c_2 => ?_) (fun c_2 => ?_)
  · skip
    refine lv_iconst (v := nI 0) hx hb dX0_gluedAt_21 (by decide +kernel) ?_
    refine x_e (show nI 0 = nI (bP (¬ Gl j = 0)) by rw [bP_f (fun q => q c_2)]) ?_
    exact ro_zret (bP_le _) hx hb hr hlk dX0_gluedAt_22
  · skip
    refine lv_iconst (v := nI 1) hx hb dX0_gluedAt_17 (by decide +kernel) ?_
    refine lv_goto (tgt := 22) hx hb dX0_gluedAt_18 (by decide) ?_
    refine x_e (show nI 1 = nI (bP (¬ Gl j = 0)) by rw [bP_t c_2]) ?_
    exact ro_zret (bP_le _) hx hb hr hlk dX0_gluedAt_22
set_option maxHeartbeats 4000000 in
set_option maxRecDepth 100000 in
theorem c_X0_runesAtPlace (l : Launch) (Γ : GG) (a P U : Nat) (B E : Int32) (G : Nat) (R Bs Gl : Nat → Int32) (hP0 : 1 ≤ P) (hP : P ≤ 12) (pl : Nat) (h1 : pl < P) : Ro l yX0_runesAtPlace wsX0_runesAtPlace ({ frames := 2, cells := 0, slots := 0, locals := 44 }) Γ [.ref a, .int (nI pl)] (SW Γ a P U B E G R Bs Gl) (some (.int (nI (rc R pl)))) := by
  refine Ro.of (cc := cX0_runesAtPlace) (maxL := 4) (ret := some .int) (by decide) rfl (Nat.le_of_ble_eq_true rfl) ?_
  intro p e s m below meth c S hr hlk hK hW ls hl
  obtain ⟨hx, hb, hml, hown, hts⟩ := id S
  have hl : lv_has ls 4 [(0, .ref a), (1, .int (nI pl))] := hl
  refine lv_iconst (v := nI 0) hx hb dX0_runesAtPlace_0 (by decide +kernel) ?_
  refine lv_istore_n (lv' := [(2, .int (nI 0)), (0, .ref a), (1, .int (nI pl))]) hx hb dX0_runesAtPlace_1 rfl hl (by decide) rfl (fun ls hl => ?_)
  refine lv_iconst (v := nI 0) hx hb dX0_runesAtPlace_2 (by decide +kernel) ?_
  refine lv_istore_n (lv' := [(3, .int (nI 0)), (2, .int (nI 0)), (0, .ref a), (1, .int (nI pl))]) hx hb dX0_runesAtPlace_3 rfl hl (by decide) rfl (fun ls hl => ?_)
  refine x_loop (σ := Nat) (fun u => [(0, .ref a), (1, .int (nI pl)), (2, .int (nI (cU (fun s => R (3 * pl + s)) u))), (3, .int (nI u))]) (fun u => u ≤ 3) (fun u => 3 - u) (fun u hu ih ls hl => ?_) 0 (by omega) ls (x_hl (lv_sub (l' := [(0, .ref a), (1, .int (nI pl)), (2, .int (nI 0)), (3, .int (nI 0))]) hl [2, 3, 1, 0] rfl) rfl)
  obtain ⟨i, rfl⟩ : ∃ z, z = u := ⟨_, rfl⟩
  have hu : i ≤ 3 := hu
  have hl : lv_has ls 4 [(0, .ref a), (1, .int (nI pl)), (2, .int (nI (cU (fun s => R (3 * pl + s)) i))), (3, .int (nI i))] := hl
  refine lv_iload_n hx hb dX0_runesAtPlace_4 rfl (lv_at hl 3 rfl) ?_
  refine lv_iconst (v := nI 3) hx hb dX0_runesAtPlace_5 (by decide +kernel) ?_
  refine x_icge hx hb (by omega) (by omega) (tgt := 28) dX0_runesAtPlace_6 (by decide) (fun c_1 => ?_) (fun c_1 => ?_)
  · skip
    refine lv_iload_n hx hb dX0_runesAtPlace_28 rfl (lv_at hl 2 rfl) ?_
    refine x_e (show nI (cU (fun s => R (3 * pl + s)) i) = nI (rc R pl) by rw [show i = 3 by omega]; rfl) ?_
    exact ro_iret hx hb hr hlk dX0_runesAtPlace_29
  · skip
    refine lv_aload_n hx hb dX0_runesAtPlace_9 rfl (lv_at hl 0 rfl) ?_
    refine lv_iload_n hx hb dX0_runesAtPlace_10 rfl (lv_at hl 3 rfl) ?_
    refine lv_iload_n hx hb dX0_runesAtPlace_11 rfl (lv_at hl 1 rfl) ?_
    refine ro_V (rest := []) S hK (c_X0_runeAt l Γ a P U B E G R Bs Gl hP0 hP (i) (pl) (by omega) (by omega)) (cwV 2 hts gX0_runesAtPlace_X0_runeAt rfl rfl rfl (by decide +kernel) ⟨Nat.le_of_ble_eq_true rfl, Nat.le_of_ble_eq_true rfl⟩) (Ob.recv hK hW.1 rfl) hW rfl hl.1 rfl (Nat.le_of_ble_eq_true rfl) dX0_runesAtPlace_12 ⟨Nat.zero_le _, Nat.zero_le _⟩ ?_
    refine W.eq (g2 := F0 m 15 ls [.int (R (3 * pl + i))]) rfl ?_
    refine lv_iconst (v := (-1)) hx hb dX0_runesAtPlace_15 (by decide +kernel) ?_
    refine lv_icmp_eq (tgt := 22) hx hb dX0_runesAtPlace_16 (by decide) (fun c_2 => ?_) (fun c_2 => ?_)
    · skip
      refine x_iinc (n := 1) (lv' := [(3, .int (nI (i + 1))), (0, .ref a), (1, .int (nI pl)), (2, .int (nI (cU (fun s => R (3 * pl + s)) i)))]) hx hb dX0_runesAtPlace_22 hl (k := 3) rfl (by decide) rfl (fun ls hl => ?_)
      refine lv_goto (tgt := 4) hx hb dX0_runesAtPlace_25 (by decide) ?_
      have hl : lv_has ls 4 [(3, .int (nI (i + 1))), (0, .ref a), (1, .int (nI pl)), (2, .int (nI (cU (fun s => R (3 * pl + s)) (i + 1))))] := x_hl hl (by rw [← cU_n (f := fun s => R (3 * pl + s)) (n := i) c_2])
      exact ih (i + 1) (by omega) (by omega) ls (lv_sub hl [1, 2, 3, 0] rfl)
    · skip
      refine x_iinc (n := 1) (lv' := [(2, .int (nI (cU (fun s => R (3 * pl + s)) i + 1))), (0, .ref a), (1, .int (nI pl)), (3, .int (nI i))]) hx hb dX0_runesAtPlace_19 hl (k := 2) rfl (by decide) rfl (fun ls hl => ?_)
      refine x_iinc (n := 1) (lv' := [(3, .int (nI (i + 1))), (2, .int (nI (cU (fun s => R (3 * pl + s)) i + 1))), (0, .ref a), (1, .int (nI pl))]) hx hb dX0_runesAtPlace_22 hl (k := 3) rfl (by decide) rfl (fun ls hl => ?_)
      refine lv_goto (tgt := 4) hx hb dX0_runesAtPlace_25 (by decide) ?_
      have hl : lv_has ls 4 [(3, .int (nI (i + 1))), (2, .int (nI (cU (fun s => R (3 * pl + s)) (i + 1)))), (0, .ref a), (1, .int (nI pl))] := x_hl hl (by rw [← cU_y (f := fun s => R (3 * pl + s)) (n := i) c_2])
      exact ih (i + 1) (by omega) (by omega) ls (lv_sub hl [2, 3, 1, 0] rfl)
theorem in_X0_runesInAll_X0 : ∀ w ∈ wsX00, w ∈ wsX0_runesInAll := by decide +kernel
set_option maxHeartbeats 4000000 in
set_option maxRecDepth 100000 in
theorem c_X0_runesInAll (l : Launch) (Γ : GG) (a P U : Nat) (B E : Int32) (G : Nat) (R Bs Gl : Nat → Int32) (hP0 : 1 ≤ P) (hP : P ≤ 12)   : Ro l yX0_runesInAll wsX0_runesInAll ({ frames := 3, cells := 0, slots := 0, locals := 67 }) Γ [.ref a] (SW Γ a P U B E G R Bs Gl) (some (.int (nI (rT R P)))) := by
  refine Ro.of (cc := cX0_runesInAll) (maxL := 3) (ret := some .int) (by decide) rfl (Nat.le_of_ble_eq_true rfl) ?_
  intro p e s m below meth c S hr hlk hK hW ls hl
  obtain ⟨hx, hb, hml, hown, hts⟩ := id S
  have hl : lv_has ls 3 [(0, .ref a)] := hl
  refine lv_iconst (v := nI 0) hx hb dX0_runesInAll_0 (by decide +kernel) ?_
  refine lv_istore_n (lv' := [(1, .int (nI 0)), (0, .ref a)]) hx hb dX0_runesInAll_1 rfl hl (by decide) rfl (fun ls hl => ?_)
  refine lv_iconst (v := nI 0) hx hb dX0_runesInAll_2 (by decide +kernel) ?_
  refine lv_istore_n (lv' := [(2, .int (nI 0)), (1, .int (nI 0)), (0, .ref a)]) hx hb dX0_runesInAll_3 rfl hl (by decide) rfl (fun ls hl => ?_)
  refine x_loop (σ := Nat) (fun u => [(0, .ref a), (1, .int (nI (sN (rc R) u))), (2, .int (nI u))]) (fun u => u ≤ P) (fun u => P - u) (fun u hu ih ls hl => ?_) 0 (by omega) ls (x_hl (lv_sub (l' := [(0, .ref a), (1, .int (nI 0)), (2, .int (nI 0))]) hl [2, 1, 0] rfl) rfl)
  obtain ⟨i, rfl⟩ : ∃ z, z = u := ⟨_, rfl⟩
  have hu : i ≤ P := hu
  have hl : lv_has ls 3 [(0, .ref a), (1, .int (nI (sN (rc R) i))), (2, .int (nI i))] := hl
  refine lv_iload_n hx hb dX0_runesInAll_4 rfl (lv_at hl 2 rfl) ?_
  refine lv_aload_n hx hb dX0_runesInAll_5 rfl (lv_at hl 0 rfl) ?_
  refine x_get S in_X0_runesInAll_X0 hK hW.1 rfl 0 (by decide) (by decide +kernel) rfl rfl dX0_runesInAll_6 ?_
  refine x_icge hx hb (by omega) (by omega) (tgt := 26) dX0_runesInAll_9 (by decide) (fun c_1 => ?_) (fun c_1 => ?_)
  · skip
    refine lv_iload_n hx hb dX0_runesInAll_26 rfl (lv_at hl 1 rfl) ?_
    refine x_e (show nI (sN (rc R) i) = nI (rT R P) by rw [show i = P by omega]; rfl) ?_
    exact ro_iret hx hb hr hlk dX0_runesInAll_27
  · skip
    refine lv_iload_n hx hb dX0_runesInAll_12 rfl (lv_at hl 1 rfl) ?_
    refine lv_aload_n hx hb dX0_runesInAll_13 rfl (lv_at hl 0 rfl) ?_
    refine lv_iload_n hx hb dX0_runesInAll_14 rfl (lv_at hl 2 rfl) ?_
    refine ro_V (rest := [.int (nI (sN (rc R) i))]) S hK (c_X0_runesAtPlace l Γ a P U B E G R Bs Gl hP0 hP (i) (by omega)) (cwV 1 hts gX0_runesInAll_X0_runesAtPlace rfl rfl rfl (by decide +kernel) ⟨Nat.le_of_ble_eq_true rfl, Nat.le_of_ble_eq_true rfl⟩) (Ob.recv hK hW.1 rfl) hW rfl hl.1 rfl (Nat.le_of_ble_eq_true rfl) dX0_runesInAll_15 ⟨Nat.zero_le _, Nat.zero_le _⟩ ?_
    refine W.eq (g2 := F0 m 18 ls [.int (nI (rc R i)), .int (nI (sN (rc R) i))]) rfl ?_
    refine x_add hx hb dX0_runesInAll_18 ?_
    refine lv_istore_n (lv' := [(1, .int (nI ((sN (rc R) i) + (rc R i)))), (0, .ref a), (2, .int (nI i))]) hx hb dX0_runesInAll_19 rfl hl (by decide) rfl (fun ls hl => ?_)
    refine x_iinc (n := 1) (lv' := [(2, .int (nI (i + 1))), (1, .int (nI ((sN (rc R) i) + (rc R i)))), (0, .ref a)]) hx hb dX0_runesInAll_20 hl (k := 2) rfl (by decide) rfl (fun ls hl => ?_)
    refine lv_goto (tgt := 4) hx hb dX0_runesInAll_23 (by decide) ?_
    have hl : lv_has ls 3 [(2, .int (nI (i + 1))), (1, .int (nI (sN (rc R) (i + 1)))), (0, .ref a)] := x_hl hl (by rw [← sN_s (rc R) i])
    exact ih (i + 1) (by omega) (by omega) ls (lv_sub hl [2, 1, 0] rfl)
theorem in_X0_gluedJoints_X0 : ∀ w ∈ wsX00, w ∈ wsX0_gluedJoints := by decide +kernel
set_option maxHeartbeats 4000000 in
set_option maxRecDepth 100000 in
theorem c_X0_gluedJoints (l : Launch) (Γ : GG) (a P U : Nat) (B E : Int32) (G : Nat) (R Bs Gl : Nat → Int32) (hP0 : 1 ≤ P) (hP : P ≤ 12)   : Ro l yX0_gluedJoints wsX0_gluedJoints ({ frames := 2, cells := 0, slots := 0, locals := 42 }) Γ [.ref a] (SW Γ a P U B E G R Bs Gl) (some (.int (nI (gT Gl (P - 1))))) := by
  refine Ro.of (cc := cX0_gluedJoints) (maxL := 3) (ret := some .int) (by decide) rfl (Nat.le_of_ble_eq_true rfl) ?_
  intro p e s m below meth c S hr hlk hK hW ls hl
  obtain ⟨hx, hb, hml, hown, hts⟩ := id S
  have hl : lv_has ls 3 [(0, .ref a)] := hl
  refine lv_iconst (v := nI 0) hx hb dX0_gluedJoints_0 (by decide +kernel) ?_
  refine lv_istore_n (lv' := [(1, .int (nI 0)), (0, .ref a)]) hx hb dX0_gluedJoints_1 rfl hl (by decide) rfl (fun ls hl => ?_)
  refine lv_iconst (v := nI 0) hx hb dX0_gluedJoints_2 (by decide +kernel) ?_
  refine lv_istore_n (lv' := [(2, .int (nI 0)), (1, .int (nI 0)), (0, .ref a)]) hx hb dX0_gluedJoints_3 rfl hl (by decide) rfl (fun ls hl => ?_)
  refine x_loop (σ := Nat) (fun u => [(0, .ref a), (1, .int (nI (gT Gl u))), (2, .int (nI u))]) (fun u => u ≤ P - 1) (fun u => P - u) (fun u hu ih ls hl => ?_) 0 (by omega) ls (x_hl (lv_sub (l' := [(0, .ref a), (1, .int (nI 0)), (2, .int (nI 0))]) hl [2, 1, 0] rfl) rfl)
  obtain ⟨i, rfl⟩ : ∃ z, z = u := ⟨_, rfl⟩
  have hu : i ≤ P - 1 := hu
  have hl : lv_has ls 3 [(0, .ref a), (1, .int (nI (gT Gl i))), (2, .int (nI i))] := hl
  refine lv_iload_n hx hb dX0_gluedJoints_4 rfl (lv_at hl 2 rfl) ?_
  refine lv_aload_n hx hb dX0_gluedJoints_5 rfl (lv_at hl 0 rfl) ?_
  refine x_get S in_X0_gluedJoints_X0 hK hW.1 rfl 0 (by decide) (by decide +kernel) rfl rfl dX0_gluedJoints_6 ?_
  refine lv_iconst (v := nI 1) hx hb dX0_gluedJoints_9 (by decide +kernel) ?_
  refine x_sub hx hb (by omega) dX0_gluedJoints_10 ?_
  refine x_icge hx hb (by omega) (by omega) (tgt := 31) dX0_gluedJoints_11 (by decide) (fun c_1 => ?_) (fun c_1 => ?_)
  · skip
    refine lv_iload_n hx hb dX0_gluedJoints_31 rfl (lv_at hl 1 rfl) ?_
    refine x_e (show nI (gT Gl i) = nI (gT Gl (P - 1)) by rw [show i = P - 1 by omega]) ?_
    exact ro_iret hx hb hr hlk dX0_gluedJoints_32
  · skip
    refine lv_aload_n hx hb dX0_gluedJoints_14 rfl (lv_at hl 0 rfl) ?_
    refine lv_iload_n hx hb dX0_gluedJoints_15 rfl (lv_at hl 2 rfl) ?_
    refine ro_V (rest := []) S hK (c_X0_gluedAt l Γ a P U B E G R Bs Gl hP0 hP (i) (by omega)) (cwV 1 hts gX0_gluedJoints_X0_gluedAt rfl rfl rfl (by decide +kernel) ⟨Nat.le_of_ble_eq_true rfl, Nat.le_of_ble_eq_true rfl⟩) (Ob.recv hK hW.1 rfl) hW rfl hl.1 rfl (Nat.le_of_ble_eq_true rfl) dX0_gluedJoints_16 ⟨Nat.zero_le _, Nat.zero_le _⟩ ?_
    refine W.eq (g2 := F0 m 19 ls [.int (nI (bP (¬ Gl i = 0)))]) rfl ?_
    have hbb := bP_le (¬ Gl i = 0)
    refine x_ifeq hx hb (by omega) (tgt := 25) dX0_gluedJoints_19 (by decide) (fun c_2 => ?_) (fun c_2 => ?_)
    · skip
      refine x_iinc (n := 1) (lv' := [(2, .int (nI (i + 1))), (0, .ref a), (1, .int (nI (gT Gl i)))]) hx hb dX0_gluedJoints_25 hl (k := 2) rfl (by decide) rfl (fun ls hl => ?_)
      refine lv_goto (tgt := 4) hx hb dX0_gluedJoints_28 (by decide) ?_
      have hl : lv_has ls 3 [(2, .int (nI (i + 1))), (0, .ref a), (1, .int (nI (gT Gl (i + 1))))] := x_hl hl (by rw [← gT_n (Gl := Gl) (n := i) (bP_0 c_2)])
      exact ih (i + 1) (by omega) (by omega) ls (lv_sub hl [1, 2, 0] rfl)
    · skip
      refine x_iinc (n := 1) (lv' := [(1, .int (nI (gT Gl i + 1))), (0, .ref a), (2, .int (nI i))]) hx hb dX0_gluedJoints_22 hl (k := 1) rfl (by decide) rfl (fun ls hl => ?_)
      refine x_iinc (n := 1) (lv' := [(2, .int (nI (i + 1))), (1, .int (nI (gT Gl i + 1))), (0, .ref a)]) hx hb dX0_gluedJoints_25 hl (k := 2) rfl (by decide) rfl (fun ls hl => ?_)
      refine lv_goto (tgt := 4) hx hb dX0_gluedJoints_28 (by decide) ?_
      have hl : lv_has ls 3 [(2, .int (nI (i + 1))), (1, .int (nI (gT Gl (i + 1)))), (0, .ref a)] := x_hl hl (by rw [← gT_y (Gl := Gl) (n := i) (bP_1 c_2)])
      exact ih (i + 1) (by omega) (by omega) ls (lv_sub hl [2, 1, 0] rfl)
set_option maxHeartbeats 4000000 in
set_option maxRecDepth 100000 in
theorem c_X0_strengthAt (l : Launch) (Γ : GG) (a P U : Nat) (B E : Int32) (G : Nat) (R Bs Gl : Nat → Int32) (hP0 : 1 ≤ P) (hP : P ≤ 12) (j : Nat) (h1 : j < P - 1) : Ro l yX0_strengthAt wsX0_strengthAt ({ frames := 3, cells := 0, slots := 0, locals := 67 }) Γ [.ref a, .int (nI j)] (SW Γ a P U B E G R Bs Gl) (some (.int (stn R Bs j))) := by
  refine Ro.of (cc := cX0_strengthAt) (maxL := 2) (ret := some .int) (by decide) rfl (Nat.le_of_ble_eq_true rfl) ?_
  intro p e s m below meth c S hr hlk hK hW ls hl
  obtain ⟨hx, hb, hml, hown, hts⟩ := id S
  have hl : lv_has ls 2 [(0, .ref a), (1, .int (nI j))] := hl
  refine lv_iconst (v := nI 0) hx hb dX0_strengthAt_0 (by decide +kernel) ?_
  refine lv_aload_n hx hb dX0_strengthAt_1 rfl (lv_at hl 0 rfl) ?_
  refine lv_iload_n hx hb dX0_strengthAt_2 rfl (lv_at hl 1 rfl) ?_
  refine ro_V (rest := [.int (nI 0)]) S hK (c_X0_baseAt l Γ a P U B E G R Bs Gl hP0 hP (j) (by omega)) (cwV 1 hts gX0_strengthAt_X0_baseAt rfl rfl rfl (by decide +kernel) ⟨Nat.le_of_ble_eq_true rfl, Nat.le_of_ble_eq_true rfl⟩) (Ob.recv hK hW.1 rfl) hW rfl hl.1 rfl (Nat.le_of_ble_eq_true rfl) dX0_strengthAt_3 ⟨Nat.zero_le _, Nat.zero_le _⟩ ?_
  refine W.eq (g2 := F0 m 6 ls [.int (Bs j), .int (nI 0)]) rfl ?_
  refine lv_aload_n hx hb dX0_strengthAt_6 rfl (lv_at hl 0 rfl) ?_
  refine lv_iload_n hx hb dX0_strengthAt_7 rfl (lv_at hl 1 rfl) ?_
  refine ro_V (rest := [.int (Bs j), .int (nI 0)]) S hK (c_X0_runesAtPlace l Γ a P U B E G R Bs Gl hP0 hP (j) (by omega)) (cwV 1 hts gX0_strengthAt_X0_runesAtPlace rfl rfl rfl (by decide +kernel) ⟨Nat.le_of_ble_eq_true rfl, Nat.le_of_ble_eq_true rfl⟩) (Ob.recv hK hW.1 rfl) hW rfl hl.1 rfl (Nat.le_of_ble_eq_true rfl) dX0_strengthAt_8 ⟨Nat.zero_le _, Nat.zero_le _⟩ ?_
  refine W.eq (g2 := F0 m 11 ls [.int (nI (rc R j)), .int (Bs j), .int (nI 0)]) rfl ?_
  refine lv_isub hx hb dX0_strengthAt_11 ?_
  refine lv_aload_n hx hb dX0_strengthAt_12 rfl (lv_at hl 0 rfl) ?_
  refine lv_iload_n hx hb dX0_strengthAt_13 rfl (lv_at hl 1 rfl) ?_
  refine lv_iconst (v := nI 1) hx hb dX0_strengthAt_14 (by decide +kernel) ?_
  refine x_add hx hb dX0_strengthAt_15 ?_
  refine ro_V (rest := [.int ((Bs j) - (nI (rc R j))), .int (nI 0)]) S hK (c_X0_runesAtPlace l Γ a P U B E G R Bs Gl hP0 hP (j + 1) (by omega)) (cwV 1 hts gX0_strengthAt_X0_runesAtPlace rfl rfl rfl (by decide +kernel) ⟨Nat.le_of_ble_eq_true rfl, Nat.le_of_ble_eq_true rfl⟩) (Ob.recv hK hW.1 rfl) hW rfl hl.1 rfl (Nat.le_of_ble_eq_true rfl) dX0_strengthAt_16 ⟨Nat.zero_le _, Nat.zero_le _⟩ ?_
  refine W.eq (g2 := F0 m 19 ls [.int (nI (rc R (j + 1))), .int ((Bs j) - (nI (rc R j))), .int (nI 0)]) rfl ?_
  refine lv_isub hx hb dX0_strengthAt_19 ?_
  refine va_mmax hx hb (hml.trans hl.1.symm) hown (hts _ (by decide +kernel)) (hts _ (by decide +kernel)) (hts _ (by decide +kernel)) (hts _ (by decide +kernel)) (Nat.le_of_ble_eq_true rfl) (Nat.le_of_ble_eq_true rfl) (Nat.zero_le _) (Nat.zero_le _) dX0_strengthAt_20 ?_
  refine W.eq (g2 := F0 m 23 ls [.int (if nI 0 < ((Bs j) - (nI (rc R j))) - (nI (rc R (j + 1))) then ((Bs j) - (nI (rc R j))) - (nI (rc R (j + 1))) else nI 0)]) rfl ?_
  refine x_e rfl ?_
  exact ro_iret hx hb hr hlk dX0_strengthAt_23
theorem in_X0_firstWeakestJoint_X0 : ∀ w ∈ wsX00, w ∈ wsX0_firstWeakestJoint := by decide +kernel
set_option maxHeartbeats 4000000 in
set_option maxRecDepth 100000 in
theorem c_X0_firstWeakestJoint (l : Launch) (Γ : GG) (a P U : Nat) (B E : Int32) (G : Nat) (R Bs Gl : Nat → Int32) (hP0 : 1 ≤ P) (hP : P ≤ 12)   : Ro l yX0_firstWeakestJoint wsX0_firstWeakestJoint ({ frames := 4, cells := 0, slots := 0, locals := 88 }) Γ [.ref a] (SW Γ a P U B E G R Bs Gl) (some (.int (oI (wk (stn R Bs) (P - 1))))) := by
  refine Ro.of (cc := cX0_firstWeakestJoint) (maxL := 3) (ret := some .int) (by decide) rfl (Nat.le_of_ble_eq_true rfl) ?_
  intro p e s m below meth c S hr hlk hK hW ls hl
  obtain ⟨hx, hb, hml, hown, hts⟩ := id S
  have hl : lv_has ls 3 [(0, .ref a)] := hl
  refine lv_iconst (v := (-1)) hx hb dX0_firstWeakestJoint_0 (by decide +kernel) ?_
  refine lv_istore_n (lv' := [(1, .int ((-1))), (0, .ref a)]) hx hb dX0_firstWeakestJoint_1 rfl hl (by decide) rfl (fun ls hl => ?_)
  refine lv_iconst (v := nI 0) hx hb dX0_firstWeakestJoint_2 (by decide +kernel) ?_
  refine lv_istore_n (lv' := [(2, .int (nI 0)), (1, .int ((-1))), (0, .ref a)]) hx hb dX0_firstWeakestJoint_3 rfl hl (by decide) rfl (fun ls hl => ?_)
  refine x_loop (σ := Nat) (fun u => [(0, .ref a), (1, .int (oI (wk (stn R Bs) u))), (2, .int (nI u))]) (fun u => u ≤ P - 1) (fun u => P - u) (fun u hu ih ls hl => ?_) 0 (by omega) ls (x_hl (lv_sub (l' := [(0, .ref a), (1, .int ((-1))), (2, .int (nI 0))]) hl [2, 1, 0] rfl) rfl)
  obtain ⟨i, rfl⟩ : ∃ z, z = u := ⟨_, rfl⟩
  have hu : i ≤ P - 1 := hu
  have hl : lv_has ls 3 [(0, .ref a), (1, .int (oI (wk (stn R Bs) i))), (2, .int (nI i))] := hl
  refine lv_iload_n hx hb dX0_firstWeakestJoint_4 rfl (lv_at hl 2 rfl) ?_
  refine lv_aload_n hx hb dX0_firstWeakestJoint_5 rfl (lv_at hl 0 rfl) ?_
  refine x_get S in_X0_firstWeakestJoint_X0 hK hW.1 rfl 0 (by decide) (by decide +kernel) rfl rfl dX0_firstWeakestJoint_6 ?_
  refine lv_iconst (v := nI 1) hx hb dX0_firstWeakestJoint_9 (by decide +kernel) ?_
  refine x_sub hx hb (by omega) dX0_firstWeakestJoint_10 ?_
  refine x_icge hx hb (by omega) (by omega) (tgt := 40) dX0_firstWeakestJoint_11 (by decide) (fun c_1 => ?_) (fun c_1 => ?_)
  · skip
    refine lv_iload_n hx hb dX0_firstWeakestJoint_40 rfl (lv_at hl 1 rfl) ?_
    refine x_e (show oI (wk (stn R Bs) i) = oI (wk (stn R Bs) (P - 1)) by rw [show i = P - 1 by omega]) ?_
    exact ro_iret hx hb hr hlk dX0_firstWeakestJoint_41
  · skip
    refine lv_iload_n hx hb dX0_firstWeakestJoint_14 rfl (lv_at hl 1 rfl) ?_
    refine lv_iconst (v := (-1)) hx hb dX0_firstWeakestJoint_15 (by decide +kernel) ?_
    refine lv_icmp_eq (tgt := 32) hx hb dX0_firstWeakestJoint_16 (by decide) (fun c_2 => ?_) (fun c_2 => ?_)
    · skip
      have e1 : wk (stn R Bs) i = none := oI_n c_2 (fun w h => by have := wk_lt _ _ _ h; omega)
      refine lv_iload_n hx hb dX0_firstWeakestJoint_32 rfl (lv_at hl 2 rfl) ?_
      refine lv_istore_n (lv' := [(1, .int (nI i)), (0, .ref a), (2, .int (nI i))]) hx hb dX0_firstWeakestJoint_33 rfl hl (by decide) rfl (fun ls hl => ?_)
      refine x_iinc (n := 1) (lv' := [(2, .int (nI (i + 1))), (1, .int (nI i)), (0, .ref a)]) hx hb dX0_firstWeakestJoint_34 hl (k := 2) rfl (by decide) rfl (fun ls hl => ?_)
      refine lv_goto (tgt := 4) hx hb dX0_firstWeakestJoint_37 (by decide) ?_
      have hl : lv_has ls 3 [(2, .int (nI (i + 1))), (1, .int (oI (wk (stn R Bs) (i + 1)))), (0, .ref a)] := x_hl hl (by rw [show nI i = oI (wk (stn R Bs) (i + 1)) by rw [wk_0 e1]; rfl])
      exact ih (i + 1) (by omega) (by omega) ls (lv_sub hl [2, 1, 0] rfl)
    · skip
      obtain ⟨v, ev⟩ := oI_s c_2
      have hv := wk_lt _ _ _ ev
      have hl : lv_has ls 3 [(0, .ref a), (1, .int (nI v)), (2, .int (nI i))] := x_hl hl (by rw [ev]; rfl)
      refine lv_aload_n hx hb dX0_firstWeakestJoint_19 rfl (lv_at hl 0 rfl) ?_
      refine lv_iload_n hx hb dX0_firstWeakestJoint_20 rfl (lv_at hl 2 rfl) ?_
      refine ro_V (rest := []) S hK (c_X0_strengthAt l Γ a P U B E G R Bs Gl hP0 hP (i) (by omega)) (cwV 1 hts gX0_firstWeakestJoint_X0_strengthAt rfl rfl rfl (by decide +kernel) ⟨Nat.le_of_ble_eq_true rfl, Nat.le_of_ble_eq_true rfl⟩) (Ob.recv hK hW.1 rfl) hW rfl hl.1 rfl (Nat.le_of_ble_eq_true rfl) dX0_firstWeakestJoint_21 ⟨Nat.zero_le _, Nat.zero_le _⟩ ?_
      refine W.eq (g2 := F0 m 24 ls [.int (stn R Bs i)]) rfl ?_
      refine lv_aload_n hx hb dX0_firstWeakestJoint_24 rfl (lv_at hl 0 rfl) ?_
      refine lv_iload_n hx hb dX0_firstWeakestJoint_25 rfl (lv_at hl 1 rfl) ?_
      refine ro_V (rest := [.int (stn R Bs i)]) S hK (c_X0_strengthAt l Γ a P U B E G R Bs Gl hP0 hP (v) (by omega)) (cwV 1 hts gX0_firstWeakestJoint_X0_strengthAt rfl rfl rfl (by decide +kernel) ⟨Nat.le_of_ble_eq_true rfl, Nat.le_of_ble_eq_true rfl⟩) (Ob.recv hK hW.1 rfl) hW rfl hl.1 rfl (Nat.le_of_ble_eq_true rfl) dX0_firstWeakestJoint_26 ⟨Nat.zero_le _, Nat.zero_le _⟩ ?_
      refine W.eq (g2 := F0 m 29 ls [.int (stn R Bs v), .int (stn R Bs i)]) rfl ?_
      refine lv_icmp_ge (tgt := 34) hx hb dX0_firstWeakestJoint_29 (by decide) (fun c_3 => ?_) (fun c_3 => ?_)
      · skip
        refine x_iinc (n := 1) (lv' := [(2, .int (nI (i + 1))), (0, .ref a), (1, .int (nI v))]) hx hb dX0_firstWeakestJoint_34 hl (k := 2) rfl (by decide) rfl (fun ls hl => ?_)
        refine lv_goto (tgt := 4) hx hb dX0_firstWeakestJoint_37 (by decide) ?_
        have hl : lv_has ls 3 [(2, .int (nI (i + 1))), (0, .ref a), (1, .int (oI (wk (stn R Bs) (i + 1))))] := x_hl hl (by rw [show nI v = oI (wk (stn R Bs) (i + 1)) by rw [wk_n ev (Int32.not_lt.mpr c_3)]; rfl])
        exact ih (i + 1) (by omega) (by omega) ls (lv_sub hl [1, 2, 0] rfl)
      · skip
        refine lv_iload_n hx hb dX0_firstWeakestJoint_32 rfl (lv_at hl 2 rfl) ?_
        refine lv_istore_n (lv' := [(1, .int (nI i)), (0, .ref a), (2, .int (nI i))]) hx hb dX0_firstWeakestJoint_33 rfl hl (by decide) rfl (fun ls hl => ?_)
        refine x_iinc (n := 1) (lv' := [(2, .int (nI (i + 1))), (1, .int (nI i)), (0, .ref a)]) hx hb dX0_firstWeakestJoint_34 hl (k := 2) rfl (by decide) rfl (fun ls hl => ?_)
        refine lv_goto (tgt := 4) hx hb dX0_firstWeakestJoint_37 (by decide) ?_
        have hl : lv_has ls 3 [(2, .int (nI (i + 1))), (1, .int (oI (wk (stn R Bs) (i + 1)))), (0, .ref a)] := x_hl hl (by rw [show nI i = oI (wk (stn R Bs) (i + 1)) by rw [wk_y ev (Int32.not_le.mp c_3)]; rfl])
        exact ih (i + 1) (by omega) (by omega) ls (lv_sub hl [2, 1, 0] rfl)
theorem in_X0_jointsWeakerThan_X0 : ∀ w ∈ wsX00, w ∈ wsX0_jointsWeakerThan := by decide +kernel
set_option maxHeartbeats 4000000 in
set_option maxRecDepth 100000 in
theorem c_X0_jointsWeakerThan (l : Launch) (Γ : GG) (a P U : Nat) (B E : Int32) (G : Nat) (R Bs Gl : Nat → Int32) (hP0 : 1 ≤ P) (hP : P ≤ 12) (x : Int32)  : Ro l yX0_jointsWeakerThan wsX0_jointsWeakerThan ({ frames := 4, cells := 0, slots := 0, locals := 88 }) Γ [.ref a, .int x] (SW Γ a P U B E G R Bs Gl) (some (.int (nI (cW (stn R Bs) x (P - 1))))) := by
  refine Ro.of (cc := cX0_jointsWeakerThan) (maxL := 4) (ret := some .int) (by decide) rfl (Nat.le_of_ble_eq_true rfl) ?_
  intro p e s m below meth c S hr hlk hK hW ls hl
  obtain ⟨hx, hb, hml, hown, hts⟩ := id S
  have hl : lv_has ls 4 [(0, .ref a), (1, .int x)] := hl
  refine lv_iconst (v := nI 0) hx hb dX0_jointsWeakerThan_0 (by decide +kernel) ?_
  refine lv_istore_n (lv' := [(2, .int (nI 0)), (0, .ref a), (1, .int x)]) hx hb dX0_jointsWeakerThan_1 rfl hl (by decide) rfl (fun ls hl => ?_)
  refine lv_iconst (v := nI 0) hx hb dX0_jointsWeakerThan_2 (by decide +kernel) ?_
  refine lv_istore_n (lv' := [(3, .int (nI 0)), (2, .int (nI 0)), (0, .ref a), (1, .int x)]) hx hb dX0_jointsWeakerThan_3 rfl hl (by decide) rfl (fun ls hl => ?_)
  refine x_loop (σ := Nat) (fun u => [(0, .ref a), (1, .int x), (2, .int (nI (cW (stn R Bs) x u))), (3, .int (nI u))]) (fun u => u ≤ P - 1) (fun u => P - u) (fun u hu ih ls hl => ?_) 0 (by omega) ls (x_hl (lv_sub (l' := [(0, .ref a), (1, .int x), (2, .int (nI 0)), (3, .int (nI 0))]) hl [2, 3, 1, 0] rfl) rfl)
  obtain ⟨i, rfl⟩ : ∃ z, z = u := ⟨_, rfl⟩
  have hu : i ≤ P - 1 := hu
  have hl : lv_has ls 4 [(0, .ref a), (1, .int x), (2, .int (nI (cW (stn R Bs) x i))), (3, .int (nI i))] := hl
  refine lv_iload_n hx hb dX0_jointsWeakerThan_4 rfl (lv_at hl 3 rfl) ?_
  refine lv_aload_n hx hb dX0_jointsWeakerThan_5 rfl (lv_at hl 0 rfl) ?_
  refine x_get S in_X0_jointsWeakerThan_X0 hK hW.1 rfl 0 (by decide) (by decide +kernel) rfl rfl dX0_jointsWeakerThan_6 ?_
  refine lv_iconst (v := nI 1) hx hb dX0_jointsWeakerThan_9 (by decide +kernel) ?_
  refine x_sub hx hb (by omega) dX0_jointsWeakerThan_10 ?_
  refine x_icge hx hb (by omega) (by omega) (tgt := 32) dX0_jointsWeakerThan_11 (by decide) (fun c_1 => ?_) (fun c_1 => ?_)
  · skip
    refine lv_iload_n hx hb dX0_jointsWeakerThan_32 rfl (lv_at hl 2 rfl) ?_
    refine x_e (show nI (cW (stn R Bs) x i) = nI (cW (stn R Bs) x (P - 1)) by rw [show i = P - 1 by omega]) ?_
    exact ro_iret hx hb hr hlk dX0_jointsWeakerThan_33
  · skip
    refine lv_aload_n hx hb dX0_jointsWeakerThan_14 rfl (lv_at hl 0 rfl) ?_
    refine lv_iload_n hx hb dX0_jointsWeakerThan_15 rfl (lv_at hl 3 rfl) ?_
    refine ro_V (rest := []) S hK (c_X0_strengthAt l Γ a P U B E G R Bs Gl hP0 hP (i) (by omega)) (cwV 1 hts gX0_jointsWeakerThan_X0_strengthAt rfl rfl rfl (by decide +kernel) ⟨Nat.le_of_ble_eq_true rfl, Nat.le_of_ble_eq_true rfl⟩) (Ob.recv hK hW.1 rfl) hW rfl hl.1 rfl (Nat.le_of_ble_eq_true rfl) dX0_jointsWeakerThan_16 ⟨Nat.zero_le _, Nat.zero_le _⟩ ?_
    refine W.eq (g2 := F0 m 19 ls [.int (stn R Bs i)]) rfl ?_
    refine lv_iload_n hx hb dX0_jointsWeakerThan_19 rfl (lv_at hl 1 rfl) ?_
    refine lv_icmp_ge (tgt := 26) hx hb dX0_jointsWeakerThan_20 (by decide) (fun c_2 => ?_) (fun c_2 => ?_)
    · skip
      refine x_iinc (n := 1) (lv' := [(3, .int (nI (i + 1))), (0, .ref a), (1, .int x), (2, .int (nI (cW (stn R Bs) x i)))]) hx hb dX0_jointsWeakerThan_26 hl (k := 3) rfl (by decide) rfl (fun ls hl => ?_)
      refine lv_goto (tgt := 4) hx hb dX0_jointsWeakerThan_29 (by decide) ?_
      have hl : lv_has ls 4 [(3, .int (nI (i + 1))), (0, .ref a), (1, .int x), (2, .int (nI (cW (stn R Bs) x (i + 1))))] := x_hl hl (by rw [← cW_n (f := stn R Bs) (Int32.not_lt.mpr c_2)])
      exact ih (i + 1) (by omega) (by omega) ls (lv_sub hl [1, 2, 3, 0] rfl)
    · skip
      refine x_iinc (n := 1) (lv' := [(2, .int (nI (cW (stn R Bs) x i + 1))), (0, .ref a), (1, .int x), (3, .int (nI i))]) hx hb dX0_jointsWeakerThan_23 hl (k := 2) rfl (by decide) rfl (fun ls hl => ?_)
      refine x_iinc (n := 1) (lv' := [(3, .int (nI (i + 1))), (2, .int (nI (cW (stn R Bs) x i + 1))), (0, .ref a), (1, .int x)]) hx hb dX0_jointsWeakerThan_26 hl (k := 3) rfl (by decide) rfl (fun ls hl => ?_)
      refine lv_goto (tgt := 4) hx hb dX0_jointsWeakerThan_29 (by decide) ?_
      have hl : lv_has ls 4 [(3, .int (nI (i + 1))), (2, .int (nI (cW (stn R Bs) x (i + 1)))), (0, .ref a), (1, .int x)] := x_hl hl (by rw [← cW_y (f := stn R Bs) (Int32.not_le.mp c_2)])
      exact ih (i + 1) (by omega) (by omega) ls (lv_sub hl [2, 3, 1, 0] rfl)
set_option maxHeartbeats 4000000 in
set_option maxRecDepth 100000 in
theorem c_X0_runeRead (l : Launch) (Γ : GG) (a P U : Nat) (B E : Int32) (G : Nat) (R Bs Gl : Nat → Int32) (hP0 : 1 ≤ P) (hP : P ≤ 12) (su t pl : Nat) (h1 : su < 3) (h2 : t < 3) (h3 : pl < P) : Ro l yX0_runeRead wsX0_runeRead ({ frames := 2, cells := 0, slots := 0, locals := 44 }) Γ [.ref a, .int (nI su), .int (nI t), .int (nI pl)] (SW Γ a P U B E G R Bs Gl) (some (.int (rd R su t pl))) := by
  refine Ro.of (cc := cX0_runeRead) (maxL := 4) (ret := some .int) (by decide) rfl (Nat.le_of_ble_eq_true rfl) ?_
  intro p e s m below meth c S hr hlk hK hW ls hl
  obtain ⟨hx, hb, hml, hown, hts⟩ := id S
  have hl : lv_has ls 4 [(0, .ref a), (1, .int (nI su)), (2, .int (nI t)), (3, .int (nI pl))] := hl
  refine lv_aload_n hx hb dX0_runeRead_0 rfl (lv_at hl 0 rfl) ?_
  refine lv_iconst (v := nI 0) hx hb dX0_runeRead_1 (by decide +kernel) ?_
  refine lv_iload_n hx hb dX0_runeRead_2 rfl (lv_at hl 3 rfl) ?_
  refine ro_V (rest := []) S hK (c_X0_hasPlace l Γ a P U B E G R Bs Gl hP0 hP (nI 0) (nI pl)) (cwV 2 hts gX0_runeRead_X0_hasPlace rfl rfl rfl (by decide +kernel) ⟨Nat.le_of_ble_eq_true rfl, Nat.le_of_ble_eq_true rfl⟩) (Ob.recv hK hW.1 rfl) hW rfl hl.1 rfl (Nat.le_of_ble_eq_true rfl) dX0_runeRead_3 ⟨Nat.zero_le _, Nat.zero_le _⟩ ?_
  refine W.eq (g2 := F0 m 6 ls [.int (nI (bP (inb (nI 0) 3 ∧ inb (nI pl) P)))]) rfl ?_
  refine x_e (y := nI 1) (by rw [bP_t ⟨(inb_nI (by omega)).mpr (by omega), (inb_nI (by omega)).mpr (by omega)⟩]) ?_
  refine x_ifeq hx hb (by omega) (tgt := 24) dX0_runeRead_6 (by decide) (fun c_1 => absurd c_1 (by decide)) (fun c_1 => ?_)
  have hm : pl * t < 40 := Nat.lt_of_le_of_lt (Nat.mul_le_mul (show pl ≤ 12 by omega) (show t ≤ 3 by omega)) (by decide)
  refine lv_aload_n hx hb dX0_runeRead_9 rfl (lv_at hl 0 rfl) ?_
  refine lv_iload_n hx hb dX0_runeRead_10 rfl (lv_at hl 1 rfl) ?_
  refine lv_iload_n hx hb dX0_runeRead_11 rfl (lv_at hl 3 rfl) ?_
  refine lv_iload_n hx hb dX0_runeRead_12 rfl (lv_at hl 2 rfl) ?_
  refine x_mul hx hb dX0_runeRead_13 ?_
  refine x_add hx hb dX0_runeRead_14 ?_
  refine lv_iconst (v := nI 3) hx hb dX0_runeRead_15 (by decide +kernel) ?_
  refine x_rem hx hb (by omega) (by omega) (by omega) dX0_runeRead_16 ?_
  refine lv_iload_n hx hb dX0_runeRead_17 rfl (lv_at hl 3 rfl) ?_
  refine ro_V (rest := []) S hK (c_X0_runeAt l Γ a P U B E G R Bs Gl hP0 hP ((su + (pl * t)) % 3) (pl) (by omega) (by omega)) (cwV 2 hts gX0_runeRead_X0_runeAt rfl rfl rfl (by decide +kernel) ⟨Nat.le_of_ble_eq_true rfl, Nat.le_of_ble_eq_true rfl⟩) (Ob.recv hK hW.1 rfl) hW rfl hl.1 rfl (Nat.le_of_ble_eq_true rfl) dX0_runeRead_18 ⟨Nat.zero_le _, Nat.zero_le _⟩ ?_
  refine W.eq (g2 := F0 m 21 ls [.int (R (3 * pl + ((su + (pl * t)) % 3)))]) rfl ?_
  refine lv_goto (tgt := 25) hx hb dX0_runeRead_21 (by decide) ?_
  refine x_e rfl ?_
  exact ro_iret hx hb hr hlk dX0_runeRead_25
set_option maxHeartbeats 4000000 in
set_option maxRecDepth 100000 in
theorem c_X0_placeReadUpTo (l : Launch) (Γ : GG) (a P U : Nat) (B E : Int32) (G : Nat) (R Bs Gl : Nat → Int32) (hP0 : 1 ≤ P) (hP : P ≤ 12) (su t n : Nat) (h1 : su < 3) (h2 : t < 3) (h3 : n ≤ P) : Ro l yX0_placeReadUpTo wsX0_placeReadUpTo ({ frames := 3, cells := 0, slots := 0, locals := 67 }) Γ [.ref a, .int (nI su), .int (nI t), .int (pn n)] (SW Γ a P U B E G R Bs Gl) (some (.int (oI (lst (rd R su t) n)))) := by
  refine Ro.of (cc := cX0_placeReadUpTo) (maxL := 5) (ret := some .int) (by decide) rfl (Nat.le_of_ble_eq_true rfl) ?_
  intro p e s m below meth c S hr hlk hK hW ls hl
  obtain ⟨hx, hb, hml, hown, hts⟩ := id S
  have hl : lv_has ls 5 [(0, .ref a), (1, .int (nI su)), (2, .int (nI t)), (3, .int (pn n))] := hl
  refine lv_iload_n hx hb dX0_placeReadUpTo_0 rfl (lv_at hl 3 rfl) ?_
  refine lv_istore (lv' := [(4, .int (pn n)), (0, .ref a), (1, .int (nI su)), (2, .int (nI t)), (3, .int (pn n))]) hx hb dX0_placeReadUpTo_1 hl (by decide) rfl (fun ls hl => ?_)
  refine x_loop (σ := Nat) (fun u => [(0, .ref a), (1, .int (nI su)), (2, .int (nI t)), (4, .int (pn u))]) (fun u => u ≤ n ∧ lst (rd R su t) u = lst (rd R su t) n) (fun u => u) (fun u hu ih ls hl => ?_) n ⟨Nat.le_refl _, rfl⟩ ls (x_hl (lv_sub (l' := [(0, .ref a), (1, .int (nI su)), (2, .int (nI t)), (4, .int (pn n))]) hl [1, 2, 3, 0] rfl) rfl)
  obtain ⟨i, rfl⟩ : ∃ z, z = u := ⟨_, rfl⟩
  have hu : i ≤ n ∧ lst (rd R su t) i = lst (rd R su t) n := hu
  have hl : lv_has ls 5 [(0, .ref a), (1, .int (nI su)), (2, .int (nI t)), (4, .int (pn i))] := hl
  rcases i with _ | k
  · have hl : lv_has ls 5 [(0, .ref a), (1, .int (nI su)), (2, .int (nI t)), (4, .int ((-1)))] := x_hl hl (by rw [show pn 0 = -1 from rfl])
    refine lv_iload hx hb dX0_placeReadUpTo_3 (lv_at hl 3 rfl) ?_
    refine lv_if_lt (tgt := 29) hx hb dX0_placeReadUpTo_5 (by decide) (fun c_1 => ?_) (fun c_1 => ?_)
    · skip
      refine lv_iconst (v := (-1)) hx hb dX0_placeReadUpTo_29 (by decide +kernel) ?_
      refine x_e (show (-1 : Int32) = oI (lst (rd R su t) n) by rw [← hu.2]; rfl) ?_
      exact ro_iret hx hb hr hlk dX0_placeReadUpTo_30
    · skip
      exact absurd (by decide +kernel) c_1
  · have hl : lv_has ls 5 [(0, .ref a), (1, .int (nI su)), (2, .int (nI t)), (4, .int (nI k))] := x_hl hl (by rw [pn_s])
    refine lv_iload hx hb dX0_placeReadUpTo_3 (lv_at hl 3 rfl) ?_
    refine lv_if_lt (tgt := 29) hx hb dX0_placeReadUpTo_5 (by decide) (fun c_2 => ?_) (fun c_2 => ?_)
    · skip
      exact absurd c_2 (nI_pos (by omega))
    · skip
      refine lv_aload_n hx hb dX0_placeReadUpTo_8 rfl (lv_at hl 0 rfl) ?_
      refine lv_iload_n hx hb dX0_placeReadUpTo_9 rfl (lv_at hl 1 rfl) ?_
      refine lv_iload_n hx hb dX0_placeReadUpTo_10 rfl (lv_at hl 2 rfl) ?_
      refine lv_iload hx hb dX0_placeReadUpTo_11 (lv_at hl 3 rfl) ?_
      refine ro_V (rest := []) S hK (c_X0_runeRead l Γ a P U B E G R Bs Gl hP0 hP (su) (t) (k) (by omega) (by omega) (by omega)) (cwV 3 hts gX0_placeReadUpTo_X0_runeRead rfl rfl rfl (by decide +kernel) ⟨Nat.le_of_ble_eq_true rfl, Nat.le_of_ble_eq_true rfl⟩) (Ob.recv hK hW.1 rfl) hW rfl hl.1 rfl (Nat.le_of_ble_eq_true rfl) dX0_placeReadUpTo_13 ⟨Nat.zero_le _, Nat.zero_le _⟩ ?_
      refine W.eq (g2 := F0 m 16 ls [.int (rd R su t k)]) rfl ?_
      refine lv_iconst (v := (-1)) hx hb dX0_placeReadUpTo_16 (by decide +kernel) ?_
      refine lv_icmp_eq (tgt := 23) hx hb dX0_placeReadUpTo_17 (by decide) (fun c_3 => ?_) (fun c_3 => ?_)
      · skip
        refine lv_iinc (v := pn k) (lv' := [(4, .int (pn k)), (0, .ref a), (1, .int (nI su)), (2, .int (nI t))]) hx hb dX0_placeReadUpTo_23 hl (k := 3) rfl rfl (by decide) rfl (fun ls hl => ?_)
        refine lv_goto (tgt := 3) hx hb dX0_placeReadUpTo_26 (by decide) ?_
        exact ih k ⟨by omega, by rw [← hu.2, lst_n c_3]⟩ (Nat.lt_succ_self k) ls (lv_sub hl [1, 2, 3, 0] rfl)
      · skip
        refine lv_iload hx hb dX0_placeReadUpTo_20 (lv_at hl 3 rfl) ?_
        refine x_e (show nI k = oI (lst (rd R su t) n) by rw [← hu.2, lst_y c_3]; rfl) ?_
        exact ro_iret hx hb hr hlk dX0_placeReadUpTo_22
theorem in_X0_readingLength_X0 : ∀ w ∈ wsX00, w ∈ wsX0_readingLength := by decide +kernel
set_option maxHeartbeats 4000000 in
set_option maxRecDepth 100000 in
theorem c_X0_readingLength (l : Launch) (Γ : GG) (a P U : Nat) (B E : Int32) (G : Nat) (R Bs Gl : Nat → Int32) (hP0 : 1 ≤ P) (hP : P ≤ 12) (su t : Nat) (h1 : su < 3) (h2 : t < 3) : Ro l yX0_readingLength wsX0_readingLength ({ frames := 3, cells := 0, slots := 0, locals := 67 }) Γ [.ref a, .int (nI su), .int (nI t)] (SW Γ a P U B E G R Bs Gl) (some (.int (nI (cU (rd R su t) P)))) := by
  refine Ro.of (cc := cX0_readingLength) (maxL := 5) (ret := some .int) (by decide) rfl (Nat.le_of_ble_eq_true rfl) ?_
  intro p e s m below meth c S hr hlk hK hW ls hl
  obtain ⟨hx, hb, hml, hown, hts⟩ := id S
  have hl : lv_has ls 5 [(0, .ref a), (1, .int (nI su)), (2, .int (nI t))] := hl
  refine lv_iconst (v := nI 0) hx hb dX0_readingLength_0 (by decide +kernel) ?_
  refine lv_istore_n (lv' := [(3, .int (nI 0)), (0, .ref a), (1, .int (nI su)), (2, .int (nI t))]) hx hb dX0_readingLength_1 rfl hl (by decide) rfl (fun ls hl => ?_)
  refine lv_iconst (v := nI 0) hx hb dX0_readingLength_2 (by decide +kernel) ?_
  refine lv_istore (lv' := [(4, .int (nI 0)), (3, .int (nI 0)), (0, .ref a), (1, .int (nI su)), (2, .int (nI t))]) hx hb dX0_readingLength_3 hl (by decide) rfl (fun ls hl => ?_)
  refine x_loop (σ := Nat) (fun u => [(0, .ref a), (1, .int (nI su)), (2, .int (nI t)), (3, .int (nI (cU (rd R su t) u))), (4, .int (nI u))]) (fun u => u ≤ P) (fun u => P - u) (fun u hu ih ls hl => ?_) 0 (by omega) ls (x_hl (lv_sub (l' := [(0, .ref a), (1, .int (nI su)), (2, .int (nI t)), (3, .int (nI 0)), (4, .int (nI 0))]) hl [2, 3, 4, 1, 0] rfl) rfl)
  obtain ⟨i, rfl⟩ : ∃ z, z = u := ⟨_, rfl⟩
  have hu : i ≤ P := hu
  have hl : lv_has ls 5 [(0, .ref a), (1, .int (nI su)), (2, .int (nI t)), (3, .int (nI (cU (rd R su t) i))), (4, .int (nI i))] := hl
  refine lv_iload hx hb dX0_readingLength_5 (lv_at hl 4 rfl) ?_
  refine lv_aload_n hx hb dX0_readingLength_7 rfl (lv_at hl 0 rfl) ?_
  refine x_get S in_X0_readingLength_X0 hK hW.1 rfl 0 (by decide) (by decide +kernel) rfl rfl dX0_readingLength_8 ?_
  refine x_icge hx hb (by omega) (by omega) (tgt := 35) dX0_readingLength_11 (by decide) (fun c_1 => ?_) (fun c_1 => ?_)
  · skip
    refine lv_iload_n hx hb dX0_readingLength_35 rfl (lv_at hl 3 rfl) ?_
    refine x_e (show nI (cU (rd R su t) i) = nI (cU (rd R su t) P) by rw [show i = P by omega]) ?_
    exact ro_iret hx hb hr hlk dX0_readingLength_36
  · skip
    refine lv_aload_n hx hb dX0_readingLength_14 rfl (lv_at hl 0 rfl) ?_
    refine lv_iload_n hx hb dX0_readingLength_15 rfl (lv_at hl 1 rfl) ?_
    refine lv_iload_n hx hb dX0_readingLength_16 rfl (lv_at hl 2 rfl) ?_
    refine lv_iload hx hb dX0_readingLength_17 (lv_at hl 4 rfl) ?_
    refine ro_V (rest := []) S hK (c_X0_runeRead l Γ a P U B E G R Bs Gl hP0 hP (su) (t) (i) (by omega) (by omega) (by omega)) (cwV 3 hts gX0_readingLength_X0_runeRead rfl rfl rfl (by decide +kernel) ⟨Nat.le_of_ble_eq_true rfl, Nat.le_of_ble_eq_true rfl⟩) (Ob.recv hK hW.1 rfl) hW rfl hl.1 rfl (Nat.le_of_ble_eq_true rfl) dX0_readingLength_19 ⟨Nat.zero_le _, Nat.zero_le _⟩ ?_
    refine W.eq (g2 := F0 m 22 ls [.int (rd R su t i)]) rfl ?_
    refine lv_iconst (v := (-1)) hx hb dX0_readingLength_22 (by decide +kernel) ?_
    refine lv_icmp_eq (tgt := 29) hx hb dX0_readingLength_23 (by decide) (fun c_2 => ?_) (fun c_2 => ?_)
    · skip
      refine x_iinc (n := 1) (lv' := [(4, .int (nI (i + 1))), (0, .ref a), (1, .int (nI su)), (2, .int (nI t)), (3, .int (nI (cU (rd R su t) i)))]) hx hb dX0_readingLength_29 hl (k := 4) rfl (by decide) rfl (fun ls hl => ?_)
      refine lv_goto (tgt := 5) hx hb dX0_readingLength_32 (by decide) ?_
      have hl : lv_has ls 5 [(4, .int (nI (i + 1))), (0, .ref a), (1, .int (nI su)), (2, .int (nI t)), (3, .int (nI (cU (rd R su t) (i + 1))))] := x_hl hl (by rw [← cU_n (f := rd R su t) (n := i) c_2])
      exact ih (i + 1) (by omega) (by omega) ls (lv_sub hl [1, 2, 3, 4, 0] rfl)
    · skip
      refine x_iinc (n := 1) (lv' := [(3, .int (nI (cU (rd R su t) i + 1))), (0, .ref a), (1, .int (nI su)), (2, .int (nI t)), (4, .int (nI i))]) hx hb dX0_readingLength_26 hl (k := 3) rfl (by decide) rfl (fun ls hl => ?_)
      refine x_iinc (n := 1) (lv' := [(4, .int (nI (i + 1))), (3, .int (nI (cU (rd R su t) i + 1))), (0, .ref a), (1, .int (nI su)), (2, .int (nI t))]) hx hb dX0_readingLength_29 hl (k := 4) rfl (by decide) rfl (fun ls hl => ?_)
      refine lv_goto (tgt := 5) hx hb dX0_readingLength_32 (by decide) ?_
      have hl : lv_has ls 5 [(4, .int (nI (i + 1))), (3, .int (nI (cU (rd R su t) (i + 1)))), (0, .ref a), (1, .int (nI su)), (2, .int (nI t))] := x_hl hl (by rw [← cU_y (f := rd R su t) (n := i) c_2])
      exact ih (i + 1) (by omega) (by omega) ls (lv_sub hl [2, 3, 4, 1, 0] rfl)
theorem in_X0_readsPair_X0 : ∀ w ∈ wsX00, w ∈ wsX0_readsPair := by decide +kernel
set_option maxHeartbeats 4000000 in
set_option maxRecDepth 100000 in
theorem c_X0_readsPair (l : Launch) (Γ : GG) (a P U : Nat) (B E : Int32) (G : Nat) (R Bs Gl : Nat → Int32) (hP0 : 1 ≤ P) (hP : P ≤ 12) (su t : Nat) (x y : Int32) (h1 : su < 3) (h2 : t < 3) : Ro l yX0_readsPair wsX0_readsPair ({ frames := 3, cells := 0, slots := 0, locals := 67 }) Γ [.ref a, .int (nI su), .int (nI t), .int x, .int y] (SW Γ a P U B E G R Bs Gl) (some (.int (nI (b01 (pr (rd R su t) x y P))))) := by
  refine Ro.of (cc := cX0_readsPair) (maxL := 8) (ret := some .boolean) (by decide) rfl (Nat.le_of_ble_eq_true rfl) ?_
  intro p e s m below meth c S hr hlk hK hW ls hl
  obtain ⟨hx, hb, hml, hown, hts⟩ := id S
  have hl : lv_has ls 8 [(0, .ref a), (1, .int (nI su)), (2, .int (nI t)), (3, .int x), (4, .int y)] := hl
  refine lv_iconst (v := (-1)) hx hb dX0_readsPair_0 (by decide +kernel) ?_
  refine lv_istore (lv' := [(5, .int ((-1))), (0, .ref a), (1, .int (nI su)), (2, .int (nI t)), (3, .int x), (4, .int y)]) hx hb dX0_readsPair_1 hl (by decide) rfl (fun ls hl => ?_)
  refine lv_iconst (v := nI 0) hx hb dX0_readsPair_3 (by decide +kernel) ?_
  refine lv_istore (lv' := [(6, .int (nI 0)), (5, .int ((-1))), (0, .ref a), (1, .int (nI su)), (2, .int (nI t)), (3, .int x), (4, .int y)]) hx hb dX0_readsPair_4 hl (by decide) rfl (fun ls hl => ?_)
  refine x_loop (σ := Nat) (fun u => [(0, .ref a), (1, .int (nI su)), (2, .int (nI t)), (3, .int x), (4, .int y), (5, .int (lastv (rd R su t) u)), (6, .int (nI u))]) (fun u => u ≤ P ∧ pr (rd R su t) x y u = false) (fun u => P - u) (fun u hu ih ls hl => ?_) 0 ⟨by omega, rfl⟩ ls (x_hl (lv_sub (l' := [(0, .ref a), (1, .int (nI su)), (2, .int (nI t)), (3, .int x), (4, .int y), (5, .int ((-1))), (6, .int (nI 0))]) hl [2, 3, 4, 5, 6, 1, 0] rfl) rfl)
  obtain ⟨i, rfl⟩ : ∃ z, z = u := ⟨_, rfl⟩
  have hu : i ≤ P ∧ pr (rd R su t) x y i = false := hu
  have hl : lv_has ls 8 [(0, .ref a), (1, .int (nI su)), (2, .int (nI t)), (3, .int x), (4, .int y), (5, .int (lastv (rd R su t) i)), (6, .int (nI i))] := hl
  refine lv_iload hx hb dX0_readsPair_6 (lv_at hl 6 rfl) ?_
  refine lv_aload_n hx hb dX0_readsPair_8 rfl (lv_at hl 0 rfl) ?_
  refine x_get S in_X0_readsPair_X0 hK hW.1 rfl 0 (by decide) (by decide +kernel) rfl rfl dX0_readsPair_9 ?_
  refine x_icge hx hb (by omega) (by omega) (tgt := 56) dX0_readsPair_12 (by decide) (fun c_1 => ?_) (fun c_1 => ?_)
  · skip
    refine lv_iconst (v := nI 0) hx hb dX0_readsPair_56 (by decide +kernel) ?_
    refine x_e (show nI 0 = nI (b01 (pr (rd R su t) x y P)) by rw [show P = i by omega, hu.2]; rfl) ?_
    exact ro_zret (b01_le _) hx hb hr hlk dX0_readsPair_57
  · skip
    refine lv_aload_n hx hb dX0_readsPair_15 rfl (lv_at hl 0 rfl) ?_
    refine lv_iload_n hx hb dX0_readsPair_16 rfl (lv_at hl 1 rfl) ?_
    refine lv_iload_n hx hb dX0_readsPair_17 rfl (lv_at hl 2 rfl) ?_
    refine lv_iload hx hb dX0_readsPair_18 (lv_at hl 6 rfl) ?_
    refine ro_V (rest := []) S hK (c_X0_runeRead l Γ a P U B E G R Bs Gl hP0 hP (su) (t) (i) (by omega) (by omega) (by omega)) (cwV 3 hts gX0_readsPair_X0_runeRead rfl rfl rfl (by decide +kernel) ⟨Nat.le_of_ble_eq_true rfl, Nat.le_of_ble_eq_true rfl⟩) (Ob.recv hK hW.1 rfl) hW rfl hl.1 rfl (Nat.le_of_ble_eq_true rfl) dX0_readsPair_20 ⟨Nat.zero_le _, Nat.zero_le _⟩ ?_
    refine W.eq (g2 := F0 m 23 ls [.int (rd R su t i)]) rfl ?_
    refine lv_istore (lv' := [(7, .int (rd R su t i)), (0, .ref a), (1, .int (nI su)), (2, .int (nI t)), (3, .int x), (4, .int y), (5, .int (lastv (rd R su t) i)), (6, .int (nI i))]) hx hb dX0_readsPair_23 hl (by decide) rfl (fun ls hl => ?_)
    refine lv_iload hx hb dX0_readsPair_25 (lv_at hl 0 rfl) ?_
    refine lv_iconst (v := (-1)) hx hb dX0_readsPair_27 (by decide +kernel) ?_
    refine lv_icmp_eq (tgt := 50) hx hb dX0_readsPair_28 (by decide) (fun c_2 => ?_) (fun c_2 => ?_)
    · skip
      refine x_iinc (n := 1) (lv' := [(6, .int (nI (i + 1))), (7, .int (rd R su t i)), (0, .ref a), (1, .int (nI su)), (2, .int (nI t)), (3, .int x), (4, .int y), (5, .int (lastv (rd R su t) i))]) hx hb dX0_readsPair_50 hl (k := 7) rfl (by decide) rfl (fun ls hl => ?_)
      refine lv_goto (tgt := 6) hx hb dX0_readsPair_53 (by decide) ?_
      have hl : lv_has ls 8 [(6, .int (nI (i + 1))), (7, .int (rd R su t i)), (0, .ref a), (1, .int (nI su)), (2, .int (nI t)), (3, .int x), (4, .int y), (5, .int (lastv (rd R su t) (i + 1)))] := x_hl hl (by rw [← lastv_n (f := rd R su t) (n := i) c_2])
      exact ih (i + 1) ⟨by omega, pr_skip hu.2 c_2⟩ (by omega) ls (lv_sub hl [2, 3, 4, 5, 6, 7, 0] rfl)
    · skip
      refine lv_iload hx hb dX0_readsPair_31 (lv_at hl 6 rfl) ?_
      refine lv_iload_n hx hb dX0_readsPair_33 rfl (lv_at hl 4 rfl) ?_
      refine lv_icmp_ne (tgt := 46) hx hb dX0_readsPair_34 (by decide) (fun c_3 => ?_) (fun c_3 => ?_)
      · skip
        refine lv_iload hx hb dX0_readsPair_46 (lv_at hl 0 rfl) ?_
        refine lv_istore (lv' := [(5, .int (rd R su t i)), (7, .int (rd R su t i)), (0, .ref a), (1, .int (nI su)), (2, .int (nI t)), (3, .int x), (4, .int y), (6, .int (nI i))]) hx hb dX0_readsPair_48 hl (by decide) rfl (fun ls hl => ?_)
        refine x_iinc (n := 1) (lv' := [(6, .int (nI (i + 1))), (5, .int (rd R su t i)), (7, .int (rd R su t i)), (0, .ref a), (1, .int (nI su)), (2, .int (nI t)), (3, .int x), (4, .int y)]) hx hb dX0_readsPair_50 hl (k := 7) rfl (by decide) rfl (fun ls hl => ?_)
        refine lv_goto (tgt := 6) hx hb dX0_readsPair_53 (by decide) ?_
        have hl : lv_has ls 8 [(6, .int (nI (i + 1))), (5, .int (lastv (rd R su t) (i + 1))), (7, .int (rd R su t i)), (0, .ref a), (1, .int (nI su)), (2, .int (nI t)), (3, .int x), (4, .int y)] := x_hl hl (by rw [← lastv_y (f := rd R su t) (n := i) c_2])
        exact ih (i + 1) ⟨by omega, pr_no hu.2 (Or.inl c_3)⟩ (by omega) ls (lv_sub hl [3, 4, 5, 6, 7, 1, 0] rfl)
      · skip
        refine lv_iload hx hb dX0_readsPair_37 (lv_at hl 0 rfl) ?_
        refine lv_iload hx hb dX0_readsPair_39 (lv_at hl 5 rfl) ?_
        refine lv_icmp_ne (tgt := 46) hx hb dX0_readsPair_41 (by decide) (fun c_4 => ?_) (fun c_4 => ?_)
        · skip
          refine lv_iload hx hb dX0_readsPair_46 (lv_at hl 0 rfl) ?_
          refine lv_istore (lv' := [(5, .int (rd R su t i)), (7, .int (rd R su t i)), (0, .ref a), (1, .int (nI su)), (2, .int (nI t)), (3, .int x), (4, .int y), (6, .int (nI i))]) hx hb dX0_readsPair_48 hl (by decide) rfl (fun ls hl => ?_)
          refine x_iinc (n := 1) (lv' := [(6, .int (nI (i + 1))), (5, .int (rd R su t i)), (7, .int (rd R su t i)), (0, .ref a), (1, .int (nI su)), (2, .int (nI t)), (3, .int x), (4, .int y)]) hx hb dX0_readsPair_50 hl (k := 7) rfl (by decide) rfl (fun ls hl => ?_)
          refine lv_goto (tgt := 6) hx hb dX0_readsPair_53 (by decide) ?_
          have hl : lv_has ls 8 [(6, .int (nI (i + 1))), (5, .int (lastv (rd R su t) (i + 1))), (7, .int (rd R su t i)), (0, .ref a), (1, .int (nI su)), (2, .int (nI t)), (3, .int x), (4, .int y)] := x_hl hl (by rw [← lastv_y (f := rd R su t) (n := i) c_2])
          exact ih (i + 1) ⟨by omega, pr_no hu.2 (Or.inr c_4)⟩ (by omega) ls (lv_sub hl [3, 4, 5, 6, 7, 1, 0] rfl)
        · skip
          refine lv_iconst (v := nI 1) hx hb dX0_readsPair_44 (by decide +kernel) ?_
          refine x_e (show nI 1 = nI (b01 (pr (rd R su t) x y P)) by rw [pr_yes (by omega) c_2 c_3 c_4]; rfl) ?_
          exact ro_zret (b01_le _) hx hb hr hlk dX0_readsPair_45
theorem in_X0_fitsAheadOf_X0 : ∀ w ∈ wsX00, w ∈ wsX0_fitsAheadOf := by decide +kernel
set_option maxHeartbeats 4000000 in
set_option maxRecDepth 100000 in
theorem c_X0_fitsAheadOf (l : Launch) (Γ : GG) (a P U : Nat) (B E : Int32) (G : Nat) (R Bs Gl : Nat → Int32) (hP0 : 1 ≤ P) (hP : P ≤ 12) (a2 P2 U2 : Nat) (B2 E2 : Int32) (G2 r2 s2 t2 : Nat)  : Ro l yX0_fitsAheadOf wsX0_fitsAheadOf ({ frames := 0, cells := 0, slots := 0, locals := 0 }) Γ [.ref a, .ref a2] (fun H => SW Γ a P U B E G R Bs Gl H ∧ Ob Γ 0 a2 [.int (nI P2), .int (nI U2), .int B2, .int E2, .int (nI G2), .ref r2, .ref s2, .ref t2] H) (some (.int (nI (bP (¬ a = a2 ∧ ¬ E = -1 ∧ E = B2))))) := by
  refine Ro.of (cc := cX0_fitsAheadOf) (maxL := 2) (ret := some .boolean) (by decide) rfl (Nat.le_of_ble_eq_true rfl) ?_
  intro p e s m below meth c S hr hlk hK hW ls hl
  obtain ⟨hx, hb, hml, hown, hts⟩ := id S
  have hl : lv_has ls 2 [(0, .ref a), (1, .ref a2)] := hl
  obtain ⟨hW1, hW2⟩ := hW
  refine lv_aload_n hx hb dX0_fitsAheadOf_0 rfl (lv_at hl 0 rfl) ?_
  refine lv_aload_n hx hb dX0_fitsAheadOf_1 rfl (lv_at hl 1 rfl) ?_
  refine lv_acmp_eq (rx := some a) (ry := some a2) (tgt := 28) hx hb dX0_fitsAheadOf_2 (by decide) (fun c_1 => ?_) (fun c_1 => ?_)
  · skip
    refine lv_iconst (v := nI 0) hx hb dX0_fitsAheadOf_28 (by decide +kernel) ?_
    refine x_e (show nI 0 = nI (bP (¬ a = a2 ∧ ¬ E = -1 ∧ E = B2)) by rw [bP_f (fun q => q.1 (Option.some.inj c_1))]) ?_
    exact ro_zret (bP_le _) hx hb hr hlk dX0_fitsAheadOf_29
  · skip
    refine lv_aload_n hx hb dX0_fitsAheadOf_5 rfl (lv_at hl 0 rfl) ?_
    refine x_get S in_X0_fitsAheadOf_X0 hK hW1.1 rfl 3 (by decide) (by decide +kernel) rfl rfl dX0_fitsAheadOf_6 ?_
    refine lv_iconst (v := (-1)) hx hb dX0_fitsAheadOf_9 (by decide +kernel) ?_
    refine lv_icmp_eq (tgt := 28) hx hb dX0_fitsAheadOf_10 (by decide) (fun c_2 => ?_) (fun c_2 => ?_)
    · skip
      refine lv_iconst (v := nI 0) hx hb dX0_fitsAheadOf_28 (by decide +kernel) ?_
      refine x_e (show nI 0 = nI (bP (¬ a = a2 ∧ ¬ E = -1 ∧ E = B2)) by rw [bP_f (fun q => q.2.1 c_2)]) ?_
      exact ro_zret (bP_le _) hx hb hr hlk dX0_fitsAheadOf_29
    · skip
      refine lv_aload_n hx hb dX0_fitsAheadOf_13 rfl (lv_at hl 0 rfl) ?_
      refine x_get S in_X0_fitsAheadOf_X0 hK hW1.1 rfl 3 (by decide) (by decide +kernel) rfl rfl dX0_fitsAheadOf_14 ?_
      refine lv_aload_n hx hb dX0_fitsAheadOf_17 rfl (lv_at hl 1 rfl) ?_
      refine x_get S in_X0_fitsAheadOf_X0 hK hW2 rfl 2 (by decide) (by decide +kernel) rfl rfl dX0_fitsAheadOf_18 ?_
      refine lv_icmp_ne (tgt := 28) hx hb dX0_fitsAheadOf_21 (by decide) (fun c_3 => ?_) (fun c_3 => ?_)
      · skip
        refine lv_iconst (v := nI 0) hx hb dX0_fitsAheadOf_28 (by decide +kernel) ?_
        refine x_e (show nI 0 = nI (bP (¬ a = a2 ∧ ¬ E = -1 ∧ E = B2)) by rw [bP_f (fun q => c_3 q.2.2)]) ?_
        exact ro_zret (bP_le _) hx hb hr hlk dX0_fitsAheadOf_29
      · skip
        refine lv_iconst (v := nI 1) hx hb dX0_fitsAheadOf_24 (by decide +kernel) ?_
        refine lv_goto (tgt := 29) hx hb dX0_fitsAheadOf_25 (by decide) ?_
        refine x_e (show nI 1 = nI (bP (¬ a = a2 ∧ ¬ E = -1 ∧ E = B2)) by rw [bP_t ⟨fun q => c_1 (by rw [q]), c_2, c_3⟩]) ?_
        exact ro_zret (bP_le _) hx hb hr hlk dX0_fitsAheadOf_29
theorem in_X0_factAt_X0 : ∀ w ∈ wsX00, w ∈ wsX0_factAt := by decide +kernel
set_option maxHeartbeats 4000000 in
set_option maxRecDepth 100000 in
theorem c_X0_factAt (l : Launch) (Γ : GG) (a P U : Nat) (B E : Int32) (G : Nat) (R Bs Gl : Nat → Int32) (hP0 : 1 ≤ P) (hP : P ≤ 12) (v : Nat) (h1 : v < 7) (hG : G ≤ 1) : Ro l yX0_factAt wsX0_factAt ({ frames := 4, cells := 0, slots := 0, locals := 89 }) Γ [.ref a, .int (nI v)] (SW Γ a P U B E G R Bs Gl) (some (.int (fct P U B E G R Gl v))) := by
  refine Ro.of (cc := cX0_factAt) (maxL := 2) (ret := some .int) (by decide) rfl (Nat.le_of_ble_eq_true rfl) ?_
  intro p e s m below meth c S hr hlk hK hW ls hl
  obtain ⟨hx, hb, hml, hown, hts⟩ := id S
  have hl : lv_has ls 2 [(0, .ref a), (1, .int (nI v))] := hl
  have h9 : v = 0 ∨ v = 1 ∨ v = 2 ∨ v = 3 ∨ v = 4 ∨ v = 5 ∨ v = 6 := by omega
  rcases h9 with rfl | rfl | rfl | rfl | rfl | rfl | rfl
  · skip
    refine lv_iload_n hx hb dX0_factAt_0 rfl (lv_at hl 1 rfl) ?_
    refine lv_tableIn (off := 39) (tgt := 40) hx hb dX0_factAt_1 (by decide +kernel) (by decide +kernel) rfl (by decide) ?_
    refine lv_aload_n hx hb dX0_factAt_40 rfl (lv_at hl 0 rfl) ?_
    refine x_get S in_X0_factAt_X0 hK hW.1 rfl 0 (by decide) (by decide +kernel) rfl rfl dX0_factAt_41 ?_
    exact ro_iret hx hb hr hlk dX0_factAt_44
  · skip
    refine lv_iload_n hx hb dX0_factAt_0 rfl (lv_at hl 1 rfl) ?_
    refine lv_tableIn (off := 44) (tgt := 45) hx hb dX0_factAt_1 (by decide +kernel) (by decide +kernel) rfl (by decide) ?_
    refine lv_aload_n hx hb dX0_factAt_45 rfl (lv_at hl 0 rfl) ?_
    refine x_get S in_X0_factAt_X0 hK hW.1 rfl 1 (by decide) (by decide +kernel) rfl rfl dX0_factAt_46 ?_
    exact ro_iret hx hb hr hlk dX0_factAt_49
  · skip
    refine lv_iload_n hx hb dX0_factAt_0 rfl (lv_at hl 1 rfl) ?_
    refine lv_tableIn (off := 49) (tgt := 50) hx hb dX0_factAt_1 (by decide +kernel) (by decide +kernel) rfl (by decide) ?_
    refine lv_aload_n hx hb dX0_factAt_50 rfl (lv_at hl 0 rfl) ?_
    refine ro_V (rest := []) S hK (c_X0_runesInAll l Γ a P U B E G R Bs Gl hP0 hP) (cwV 0 hts gX0_factAt_X0_runesInAll rfl rfl rfl (by decide +kernel) ⟨Nat.le_of_ble_eq_true rfl, Nat.le_of_ble_eq_true rfl⟩) (Ob.recv hK hW.1 rfl) hW rfl hl.1 rfl (Nat.le_of_ble_eq_true rfl) dX0_factAt_51 ⟨Nat.zero_le _, Nat.zero_le _⟩ ?_
    refine W.eq (g2 := F0 m 54 ls [.int (nI (rT R P))]) rfl ?_
    exact ro_iret hx hb hr hlk dX0_factAt_54
  · skip
    refine lv_iload_n hx hb dX0_factAt_0 rfl (lv_at hl 1 rfl) ?_
    refine lv_tableIn (off := 54) (tgt := 55) hx hb dX0_factAt_1 (by decide +kernel) (by decide +kernel) rfl (by decide) ?_
    refine lv_aload_n hx hb dX0_factAt_55 rfl (lv_at hl 0 rfl) ?_
    refine ro_V (rest := []) S hK (c_X0_gluedJoints l Γ a P U B E G R Bs Gl hP0 hP) (cwV 0 hts gX0_factAt_X0_gluedJoints rfl rfl rfl (by decide +kernel) ⟨Nat.le_of_ble_eq_true rfl, Nat.le_of_ble_eq_true rfl⟩) (Ob.recv hK hW.1 rfl) hW rfl hl.1 rfl (Nat.le_of_ble_eq_true rfl) dX0_factAt_56 ⟨Nat.zero_le _, Nat.zero_le _⟩ ?_
    refine W.eq (g2 := F0 m 59 ls [.int (nI (gT Gl (P - 1)))]) rfl ?_
    exact ro_iret hx hb hr hlk dX0_factAt_59
  · skip
    refine lv_iload_n hx hb dX0_factAt_0 rfl (lv_at hl 1 rfl) ?_
    refine lv_tableIn (off := 59) (tgt := 60) hx hb dX0_factAt_1 (by decide +kernel) (by decide +kernel) rfl (by decide) ?_
    refine lv_aload_n hx hb dX0_factAt_60 rfl (lv_at hl 0 rfl) ?_
    refine x_get S in_X0_factAt_X0 hK hW.1 rfl 2 (by decide) (by decide +kernel) rfl rfl dX0_factAt_61 ?_
    exact ro_iret hx hb hr hlk dX0_factAt_64
  · skip
    refine lv_iload_n hx hb dX0_factAt_0 rfl (lv_at hl 1 rfl) ?_
    refine lv_tableIn (off := 64) (tgt := 65) hx hb dX0_factAt_1 (by decide +kernel) (by decide +kernel) rfl (by decide) ?_
    refine lv_aload_n hx hb dX0_factAt_65 rfl (lv_at hl 0 rfl) ?_
    refine x_get S in_X0_factAt_X0 hK hW.1 rfl 3 (by decide) (by decide +kernel) rfl rfl dX0_factAt_66 ?_
    exact ro_iret hx hb hr hlk dX0_factAt_69
  · skip
    refine lv_iload_n hx hb dX0_factAt_0 rfl (lv_at hl 1 rfl) ?_
    refine lv_tableOut (tgt := 70) hx hb dX0_factAt_1 (by decide +kernel) (by decide) ?_
    refine lv_aload_n hx hb dX0_factAt_70 rfl (lv_at hl 0 rfl) ?_
    refine x_get S in_X0_factAt_X0 hK hW.1 rfl 4 (by decide) (by decide +kernel) rfl rfl dX0_factAt_71 ?_
    refine x_ifeq hx hb (by omega) (tgt := 81) dX0_factAt_74 (by decide) (fun c_1 => ?_) (fun c_1 => ?_)
    · skip
      refine lv_iconst (v := nI 0) hx hb dX0_factAt_81 (by decide +kernel) ?_
      refine x_e (show nI 0 = nI G by rw [show G = 0 by omega]) ?_
      exact ro_iret hx hb hr hlk dX0_factAt_82
    · skip
      refine lv_iconst (v := nI 1) hx hb dX0_factAt_77 (by decide +kernel) ?_
      refine lv_goto (tgt := 82) hx hb dX0_factAt_78 (by decide) ?_
      refine x_e (show nI 1 = nI G by rw [show G = 1 by omega]) ?_
      exact ro_iret hx hb hr hlk dX0_factAt_82
theorem in_X0_addedTo_X0 : ∀ w ∈ wsX00, w ∈ wsX0_addedTo := by decide +kernel
set_option maxHeartbeats 4000000 in
set_option maxRecDepth 100000 in
theorem c_X0_addedTo (l : Launch) (Γ : GG) (a P U : Nat) (B E : Int32) (G : Nat) (R Bs Gl : Nat → Int32) (hP0 : 1 ≤ P) (hP : P ≤ 12) (d : Int64) (hG : G ≤ 1) : Ro l yX0_addedTo wsX0_addedTo ({ frames := 5, cells := 0, slots := 0, locals := 110 }) Γ [.ref a, .long d] (SW Γ a P U B E G R Bs Gl) (some (.long (addTo P U B E G R Bs Gl d))) := by
  refine Ro.of (cc := cX0_addedTo) (maxL := 7) (ret := some .long) (by decide) rfl (Nat.le_of_ble_eq_true rfl) ?_
  intro p e s m below meth c S hr hlk hK hW ls hl
  obtain ⟨hx, hb, hml, hown, hts⟩ := id S
  have hl : lv_has ls 7 [(0, .ref a), (1, .long d)] := hl
  refine lv_lload_n hx hb dX0_addedTo_0 rfl (lv_at hl 1 rfl) ?_
  refine lv_lstore_n (lv' := [(3, .long d), (0, .ref a), (1, .long d)]) hx hb dX0_addedTo_1 rfl hl (by decide) rfl (fun ls hl => ?_)
  refine lv_iconst (v := nI 0) hx hb dX0_addedTo_2 (by decide +kernel) ?_
  refine lv_istore (lv' := [(5, .int (nI 0)), (3, .long d), (0, .ref a), (1, .long d)]) hx hb dX0_addedTo_3 hl (by decide) rfl (fun ls hl => ?_)
  have hl : lv_has ls 7 [(5, .int (nI 0)), (3, .long (dF (fct P U B E G R Gl) d 0)), (0, .ref a), (1, .long d)] := x_hl hl rfl
  refine x_loop (σ := Nat) (fun u => [(0, .ref a), (3, .long (dF (fct P U B E G R Gl) d u)), (5, .int (nI u))]) (fun u => u ≤ 7) (fun u => 7 - u) (fun u hu ih ls hl => ?_) 0 (by omega) ls (x_hl (lv_sub (l' := [(0, .ref a), (3, .long (dF (fct P U B E G R Gl) d 0)), (5, .int (nI 0))]) hl [2, 1, 0] rfl) rfl)
  obtain ⟨i, rfl⟩ : ∃ z, z = u := ⟨_, rfl⟩
  have hu : i ≤ 7 := hu
  have hl : lv_has ls 7 [(0, .ref a), (3, .long (dF (fct P U B E G R Gl) d i)), (5, .int (nI i))] := hl
  refine lv_iload hx hb dX0_addedTo_5 (lv_at hl 2 rfl) ?_
  refine lv_bipush (v := nI 7) hx hb dX0_addedTo_7 (by decide +kernel) ?_
  refine x_icge hx hb (by omega) (by omega) (tgt := 32) dX0_addedTo_9 (by decide) (fun c_1 => ?_) (fun c_1 => ?_)
  · skip
    refine lv_iconst (v := nI 0) hx hb dX0_addedTo_32 (by decide +kernel) ?_
    refine lv_istore (lv' := [(5, .int (nI 0)), (0, .ref a), (3, .long (dF (fct P U B E G R Gl) d i))]) hx hb dX0_addedTo_33 hl (by decide) rfl (fun ls hl => ?_)
    have hl : lv_has ls 7 [(5, .int (nI 0)), (0, .ref a), (3, .long (dF R (dF (fct P U B E G R Gl) d 7) (3 * 0)))] := x_hl hl (by rw [show dF (fct P U B E G R Gl) d i = dF R (dF (fct P U B E G R Gl) d 7) (3 * 0) by rw [show i = 7 by omega]; rfl])
    refine x_loop (σ := Nat) (fun u => [(0, .ref a), (3, .long (dF R (dF (fct P U B E G R Gl) d 7) (3 * u))), (5, .int (nI u))]) (fun u => u ≤ P) (fun u => P - u) (fun u hu ih ls hl => ?_) 0 (by omega) ls (x_hl (lv_sub (l' := [(0, .ref a), (3, .long (dF R (dF (fct P U B E G R Gl) d 7) (3 * 0))), (5, .int (nI 0))]) hl [1, 2, 0] rfl) rfl)
    obtain ⟨p, rfl⟩ : ∃ z, z = u := ⟨_, rfl⟩
    have hu : p ≤ P := hu
    have hl : lv_has ls 7 [(0, .ref a), (3, .long (dF R (dF (fct P U B E G R Gl) d 7) (3 * p))), (5, .int (nI p))] := hl
    refine lv_iload hx hb dX0_addedTo_35 (lv_at hl 2 rfl) ?_
    refine lv_aload_n hx hb dX0_addedTo_37 rfl (lv_at hl 0 rfl) ?_
    refine x_get S in_X0_addedTo_X0 hK hW.1 rfl 0 (by decide) (by decide +kernel) rfl rfl dX0_addedTo_38 ?_
    refine x_icge hx hb (by omega) (by omega) (tgt := 81) dX0_addedTo_41 (by decide) (fun c_2 => ?_) (fun c_2 => ?_)
    · skip
      refine lv_iconst (v := nI 0) hx hb dX0_addedTo_81 (by decide +kernel) ?_
      refine lv_istore (lv' := [(5, .int (nI 0)), (0, .ref a), (3, .long (dF R (dF (fct P U B E G R Gl) d 7) (3 * p)))]) hx hb dX0_addedTo_82 hl (by decide) rfl (fun ls hl => ?_)
      have hl : lv_has ls 7 [(5, .int (nI 0)), (0, .ref a), (3, .long (dF Bs (dF R (dF (fct P U B E G R Gl) d 7) (3 * P)) 0))] := x_hl hl (by rw [show dF R (dF (fct P U B E G R Gl) d 7) (3 * p) = dF Bs (dF R (dF (fct P U B E G R Gl) d 7) (3 * P)) 0 by rw [show p = P by omega]; rfl])
      refine x_loop (σ := Nat) (fun u => [(0, .ref a), (3, .long (dF Bs (dF R (dF (fct P U B E G R Gl) d 7) (3 * P)) u)), (5, .int (nI u))]) (fun u => u ≤ P - 1) (fun u => P - u) (fun u hu ih ls hl => ?_) 0 (by omega) ls (x_hl (lv_sub (l' := [(0, .ref a), (3, .long (dF Bs (dF R (dF (fct P U B E G R Gl) d 7) (3 * P)) 0)), (5, .int (nI 0))]) hl [1, 2, 0] rfl) rfl)
      obtain ⟨j, rfl⟩ : ∃ z, z = u := ⟨_, rfl⟩
      have hu : j ≤ P - 1 := hu
      have hl : lv_has ls 7 [(0, .ref a), (3, .long (dF Bs (dF R (dF (fct P U B E G R Gl) d 7) (3 * P)) j)), (5, .int (nI j))] := hl
      refine lv_iload hx hb dX0_addedTo_84 (lv_at hl 2 rfl) ?_
      refine lv_aload_n hx hb dX0_addedTo_86 rfl (lv_at hl 0 rfl) ?_
      refine x_get S in_X0_addedTo_X0 hK hW.1 rfl 0 (by decide) (by decide +kernel) rfl rfl dX0_addedTo_87 ?_
      refine lv_iconst (v := nI 1) hx hb dX0_addedTo_90 (by decide +kernel) ?_
      refine x_sub hx hb (by omega) dX0_addedTo_91 ?_
      refine x_icge hx hb (by omega) (by omega) (tgt := 115) dX0_addedTo_92 (by decide) (fun c_3 => ?_) (fun c_3 => ?_)
      · skip
        refine lv_lload_n hx hb dX0_addedTo_115 rfl (lv_at hl 1 rfl) ?_
        refine x_eL (show dF Bs (dF R (dF (fct P U B E G R Gl) d 7) (3 * P)) j = addTo P U B E G R Bs Gl d by rw [show j = P - 1 by omega]; rfl) ?_
        exact ro_lret hx hb hr hlk dX0_addedTo_116
      · skip
        refine lv_lload_n hx hb dX0_addedTo_95 rfl (lv_at hl 1 rfl) ?_
        refine lv_ldc2 hx hb hown (v := 31) (hts _ (by decide +kernel)) dX0_addedTo_96 ?_
        refine lv_lmul hx hb dX0_addedTo_99 ?_
        refine lv_aload_n hx hb dX0_addedTo_100 rfl (lv_at hl 0 rfl) ?_
        refine lv_iload hx hb dX0_addedTo_101 (lv_at hl 2 rfl) ?_
        refine ro_V (rest := [.long ((dF Bs (dF R (dF (fct P U B E G R Gl) d 7) (3 * P)) j) * 31)]) S hK (c_X0_baseAt l Γ a P U B E G R Bs Gl hP0 hP (j) (by omega)) (cwV 1 hts gX0_addedTo_X0_baseAt rfl rfl rfl (by decide +kernel) ⟨Nat.le_of_ble_eq_true rfl, Nat.le_of_ble_eq_true rfl⟩) (Ob.recv hK hW.1 rfl) hW rfl hl.1 rfl (Nat.le_of_ble_eq_true rfl) dX0_addedTo_103 ⟨Nat.zero_le _, Nat.zero_le _⟩ ?_
        refine W.eq (g2 := F0 m 106 ls [.int (Bs j), .long ((dF Bs (dF R (dF (fct P U B E G R Gl) d 7) (3 * P)) j) * 31)]) rfl ?_
        refine lv_i2l hx hb dX0_addedTo_106 rfl ?_
        refine lv_ladd hx hb dX0_addedTo_107 ?_
        refine lv_lstore_n (lv' := [(3, .long (((dF Bs (dF R (dF (fct P U B E G R Gl) d 7) (3 * P)) j) * 31) + ((Bs j).toInt64))), (0, .ref a), (5, .int (nI j))]) hx hb dX0_addedTo_108 rfl hl (by decide) rfl (fun ls hl => ?_)
        refine x_iinc (n := 1) (lv' := [(5, .int (nI (j + 1))), (3, .long (((dF Bs (dF R (dF (fct P U B E G R Gl) d 7) (3 * P)) j) * 31) + ((Bs j).toInt64))), (0, .ref a)]) hx hb dX0_addedTo_109 hl (k := 2) rfl (by decide) rfl (fun ls hl => ?_)
        refine lv_goto (tgt := 84) hx hb dX0_addedTo_112 (by decide) ?_
        have hl : lv_has ls 7 [(5, .int (nI (j + 1))), (3, .long (dF Bs (dF R (dF (fct P U B E G R Gl) d 7) (3 * P)) (j + 1))), (0, .ref a)] := x_hl hl (by rw [← dF_s])
        exact ih (j + 1) (by omega) (by omega) ls (lv_sub hl [2, 1, 0] rfl)
    · skip
      refine lv_iconst (v := nI 0) hx hb dX0_addedTo_44 (by decide +kernel) ?_
      refine lv_istore (lv' := [(6, .int (nI 0)), (0, .ref a), (3, .long (dF R (dF (fct P U B E G R Gl) d 7) (3 * p))), (5, .int (nI p))]) hx hb dX0_addedTo_45 hl (by decide) rfl (fun ls hl => ?_)
      refine x_loop (σ := Nat) (fun u => [(0, .ref a), (3, .long (dF R (dF (fct P U B E G R Gl) d 7) (3 * p + u))), (5, .int (nI p)), (6, .int (nI u))]) (fun u => u ≤ 3) (fun u => 3 - u) (fun u hu3 ih3 ls hl => ?_) 0 (by omega) ls (x_hl (lv_sub (l' := [(0, .ref a), (3, .long (dF R (dF (fct P U B E G R Gl) d 7) (3 * p))), (5, .int (nI p)), (6, .int (nI 0))]) hl [1, 2, 3, 0] rfl) rfl)
      obtain ⟨s, rfl⟩ : ∃ z, z = u := ⟨_, rfl⟩
      have hu3 : s ≤ 3 := hu3
      have hl : lv_has ls 7 [(0, .ref a), (3, .long (dF R (dF (fct P U B E G R Gl) d 7) (3 * p + s))), (5, .int (nI p)), (6, .int (nI s))] := hl
      refine lv_iload hx hb dX0_addedTo_47 (lv_at hl 3 rfl) ?_
      refine lv_iconst (v := nI 3) hx hb dX0_addedTo_49 (by decide +kernel) ?_
      refine x_icge hx hb (by omega) (by omega) (tgt := 75) dX0_addedTo_50 (by decide) (fun c_4 => ?_) (fun c_4 => ?_)
      · skip
        refine x_iinc (n := 1) (lv' := [(5, .int (nI (p + 1))), (0, .ref a), (3, .long (dF R (dF (fct P U B E G R Gl) d 7) (3 * p + s))), (6, .int (nI s))]) hx hb dX0_addedTo_75 hl (k := 2) rfl (by decide) rfl (fun ls hl => ?_)
        refine lv_goto (tgt := 35) hx hb dX0_addedTo_78 (by decide) ?_
        have hl : lv_has ls 7 [(5, .int (nI (p + 1))), (0, .ref a), (3, .long (dF R (dF (fct P U B E G R Gl) d 7) (3 * (p + 1)))), (6, .int (nI s))] := x_hl hl (by rw [show 3 * p + s = 3 * (p + 1) by omega])
        exact ih (p + 1) (by omega) (by omega) ls (lv_sub hl [1, 2, 0] rfl)
      · skip
        refine lv_lload_n hx hb dX0_addedTo_53 rfl (lv_at hl 1 rfl) ?_
        refine lv_ldc2 hx hb hown (v := 31) (hts _ (by decide +kernel)) dX0_addedTo_54 ?_
        refine lv_lmul hx hb dX0_addedTo_57 ?_
        refine lv_aload_n hx hb dX0_addedTo_58 rfl (lv_at hl 0 rfl) ?_
        refine lv_iload hx hb dX0_addedTo_59 (lv_at hl 3 rfl) ?_
        refine lv_iload hx hb dX0_addedTo_61 (lv_at hl 2 rfl) ?_
        refine ro_V (rest := [.long ((dF R (dF (fct P U B E G R Gl) d 7) (3 * p + s)) * 31)]) S hK (c_X0_runeAt l Γ a P U B E G R Bs Gl hP0 hP (s) (p) (by omega) (by omega)) (cwV 2 hts gX0_addedTo_X0_runeAt rfl rfl rfl (by decide +kernel) ⟨Nat.le_of_ble_eq_true rfl, Nat.le_of_ble_eq_true rfl⟩) (Ob.recv hK hW.1 rfl) hW rfl hl.1 rfl (Nat.le_of_ble_eq_true rfl) dX0_addedTo_63 ⟨Nat.zero_le _, Nat.zero_le _⟩ ?_
        refine W.eq (g2 := F0 m 66 ls [.int (R (3 * p + s)), .long ((dF R (dF (fct P U B E G R Gl) d 7) (3 * p + s)) * 31)]) rfl ?_
        refine lv_i2l hx hb dX0_addedTo_66 rfl ?_
        refine lv_ladd hx hb dX0_addedTo_67 ?_
        refine lv_lstore_n (lv' := [(3, .long (((dF R (dF (fct P U B E G R Gl) d 7) (3 * p + s)) * 31) + ((R (3 * p + s)).toInt64))), (0, .ref a), (5, .int (nI p)), (6, .int (nI s))]) hx hb dX0_addedTo_68 rfl hl (by decide) rfl (fun ls hl => ?_)
        refine x_iinc (n := 1) (lv' := [(6, .int (nI (s + 1))), (3, .long (((dF R (dF (fct P U B E G R Gl) d 7) (3 * p + s)) * 31) + ((R (3 * p + s)).toInt64))), (0, .ref a), (5, .int (nI p))]) hx hb dX0_addedTo_69 hl (k := 3) rfl (by decide) rfl (fun ls hl => ?_)
        refine lv_goto (tgt := 47) hx hb dX0_addedTo_72 (by decide) ?_
        have hl : lv_has ls 7 [(6, .int (nI (s + 1))), (3, .long (dF R (dF (fct P U B E G R Gl) d 7) (3 * p + (s + 1)))), (0, .ref a), (5, .int (nI p))] := x_hl hl (by rw [← Nat.add_assoc, ← dF_s])
        exact ih3 (s + 1) (by omega) (by omega) ls (lv_sub hl [2, 1, 3, 0] rfl)
  · skip
    refine lv_lload_n hx hb dX0_addedTo_12 rfl (lv_at hl 1 rfl) ?_
    refine lv_ldc2 hx hb hown (v := 31) (hts _ (by decide +kernel)) dX0_addedTo_13 ?_
    refine lv_lmul hx hb dX0_addedTo_16 ?_
    refine lv_aload_n hx hb dX0_addedTo_17 rfl (lv_at hl 0 rfl) ?_
    refine lv_iload hx hb dX0_addedTo_18 (lv_at hl 2 rfl) ?_
    refine ro_V (rest := [.long ((dF (fct P U B E G R Gl) d i) * 31)]) S hK (c_X0_factAt l Γ a P U B E G R Bs Gl hP0 hP (i) (by omega) hG) (cwV 1 hts gX0_addedTo_X0_factAt rfl rfl rfl (by decide +kernel) ⟨Nat.le_of_ble_eq_true rfl, Nat.le_of_ble_eq_true rfl⟩) (Ob.recv hK hW.1 rfl) hW rfl hl.1 rfl (Nat.le_of_ble_eq_true rfl) dX0_addedTo_20 ⟨Nat.zero_le _, Nat.zero_le _⟩ ?_
    refine W.eq (g2 := F0 m 23 ls [.int (fct P U B E G R Gl i), .long ((dF (fct P U B E G R Gl) d i) * 31)]) rfl ?_
    refine lv_i2l hx hb dX0_addedTo_23 rfl ?_
    refine lv_ladd hx hb dX0_addedTo_24 ?_
    refine lv_lstore_n (lv' := [(3, .long (((dF (fct P U B E G R Gl) d i) * 31) + ((fct P U B E G R Gl i).toInt64))), (0, .ref a), (5, .int (nI i))]) hx hb dX0_addedTo_25 rfl hl (by decide) rfl (fun ls hl => ?_)
    refine x_iinc (n := 1) (lv' := [(5, .int (nI (i + 1))), (3, .long (((dF (fct P U B E G R Gl) d i) * 31) + ((fct P U B E G R Gl i).toInt64))), (0, .ref a)]) hx hb dX0_addedTo_26 hl (k := 2) rfl (by decide) rfl (fun ls hl => ?_)
    refine lv_goto (tgt := 5) hx hb dX0_addedTo_29 (by decide) ?_
    have hl : lv_has ls 7 [(5, .int (nI (i + 1))), (3, .long (dF (fct P U B E G R Gl) d (i + 1))), (0, .ref a)] := x_hl hl (by rw [← dF_s])
    exact ih (i + 1) (by omega) (by omega) ls (lv_sub hl [2, 1, 0] rfl)
