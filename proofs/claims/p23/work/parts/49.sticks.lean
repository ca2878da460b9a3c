/-! sticks -/
set_option maxRecDepth 100000 in
theorem in_sticks_X1 : ∀ w ∈ wsX10, w ∈ wsL_sticks := by decide +kernel
set_option maxRecDepth 100000 in
theorem cwsticks_L_cell {s : State} {args : Array Value} (hts : ∀ w ∈ wsL_sticks, w.before args s = true) : CallB rmK s args RL 12 yL_cell cL_cell 2 (some .int) wsL_cell ({ frames := 0, cells := 0, slots := 0, locals := 0 }) 0 0 2 ∧ (Cond.static yL_cell).before args s = true := va_cwS 2 hts gL_sticks_L_cell rfl rfl rfl (by decide +kernel) ⟨Nat.le_of_ble_eq_true rfl, Nat.le_of_ble_eq_true rfl⟩
set_option maxRecDepth 100000 in
theorem cwsticks_L_below {s : State} {args : Array Value} (hts : ∀ w ∈ wsL_sticks, w.before args s = true) : CallB rmK s args RL 18 yL_below cL_below 2 (some .int) wsL_below ({ frames := 0, cells := 0, slots := 0, locals := 0 }) 0 0 2 ∧ (Cond.static yL_below).before args s = true := va_cwS 2 hts gL_sticks_L_below rfl rfl rfl (by decide +kernel) ⟨Nat.le_of_ble_eq_true rfl, Nat.le_of_ble_eq_true rfl⟩
set_option maxRecDepth 100000 in
theorem cwsticks_make {s : State} {args : Array Value} (hts : ∀ w ∈ wsL_sticks, w.before args s = true) : CallW rmK s args RL RX1 22 yX1_make cX1_make 2 (some .int) wsX1_make ({ frames := 7, cells := 6, slots := 78, locals := 103 }) 6 78 1 := cwV 1 hts gL_sticks_X1_make rfl rfl rfl (by decide +kernel) ⟨Nat.le_of_ble_eq_true rfl, Nat.le_of_ble_eq_true rfl⟩
set_option maxRecDepth 100000 in
theorem cwsticks_count {s : State} {args : Array Value} (hts : ∀ w ∈ wsL_sticks, w.before args s = true) : CallW rmK s args RL RX1 26 yX1_count cX1_count 2 (some .int) wsX1_count ({ frames := 7, cells := 1, slots := 6, locals := 155 }) 1 6 1 := cwV 1 hts gL_sticks_X1_count rfl rfl rfl (by decide +kernel) ⟨Nat.le_of_ble_eq_true rfl, Nat.le_of_ble_eq_true rfl⟩
set_option maxRecDepth 100000 in
theorem cwsticks_stick {s : State} {args : Array Value} (hts : ∀ w ∈ wsL_sticks, w.before args s = true) : CallW rmK s args RL RX1 29 yX1_stick cX1_stick 4 (some .int) wsX1_stick ({ frames := 7, cells := 2, slots := 12, locals := 110 }) 2 12 2 := cwV 2 hts gL_sticks_X1_stick rfl rfl rfl (by decide +kernel) ⟨Nat.le_of_ble_eq_true rfl, Nat.le_of_ble_eq_true rfl⟩
set_option maxRecDepth 100000 in
theorem cwsticks_roll {s : State} {args : Array Value} (hts : ∀ w ∈ wsL_sticks, w.before args s = true) : CallW rmK s args RL RX1 32 yX1_roll cX1_roll 4 (some .int) wsX1_roll ({ frames := 7, cells := 3, slots := 18, locals := 104 }) 3 18 2 := cwV 2 hts gL_sticks_X1_roll rfl rfl rfl (by decide +kernel) ⟨Nat.le_of_ble_eq_true rfl, Nat.le_of_ble_eq_true rfl⟩
set_option maxRecDepth 100000 in
theorem cwsticks_carve {s : State} {args : Array Value} (hts : ∀ w ∈ wsL_sticks, w.before args s = true) : CallW rmK s args RL RX1 43 yX1_carve cX1_carve 7 (some .int) wsX1_carve ({ frames := 7, cells := 4, slots := 24, locals := 104 }) 4 24 4 := cwV 4 hts gL_sticks_X1_carve rfl rfl rfl (by decide +kernel) ⟨Nat.le_of_ble_eq_true rfl, Nat.le_of_ble_eq_true rfl⟩
set_option maxHeartbeats 8000000 in
set_option maxRecDepth 100000 in
theorem c_L_sticks (l : Launch) (hfl : l.stackTraces = false) (Γ : GG) (bs sb L : Nat) (xs : Nat → Int32) : Lx l yL_sticks wsL_sticks rmK Γ bs sb L xs [.ref sb] (fun H => H.size = bs) (fun H v H2 => v = some (.ref bs) ∧ (∃ σ ad, Iv σ ∧ Jv σ ∧ Ly (bs + 2) σ ad ∧ CW Γ bs σ ad H2) ∧ bs + 2 ≤ H2.size ∧ ∀ q : Nat, q < bs → H2[q]? = H[q]?) 900 10200 := by
  refine Lx.of (cc := cL_sticks) (maxL := 9) (ret := some (.object "RuneSticks")) (by decide) rfl (Nat.le_of_ble_eq_true rfl) ?_
  intro p e s m below meth c S hr hlk hX hW ls hl
  obtain ⟨hx, hb, hml, hown, hts⟩ := id S
  have hbs : s.heap.size = bs := hW
  obtain ⟨lc, elc⟩ : ∃ z : List Loc, z = [] := ⟨_, rfl⟩
  rw [← elc]
  have hlo : lo bs lc := by rw [elc]; exact lo.nil
  clear elc
  have hl : lv_has ls 9 [(0, .ref sb)] := hl
  refine x_new (ci := 1) (fs := [.null, .int (nI 0), .int (nI 0)]) S in_sticks_X1 tyX1 tyX1_ok (hcl := by decide +kernel) (hinst := by decide +kernel) (hini := by decide +kernel) hX.1 rfl (fun j hj => by rcases (show j = 0 ∨ j = 1 ∨ j = 2 by omega) with rfl | rfl | rfl <;> rfl) (Nat.le_of_ble_eq_true rfl) (Nat.le_of_ble_eq_true rfl) dL_sticks_0 (fun H1 hO1 hz1 ho1 => ?_)
  rw [hbs] at hO1 hz1 ho1
  refine x_v (congrArg Value.ref hbs) ?_
  refine lv_dup hx hb dL_sticks_3 rfl ?_
  refine m_IA (rest := [.ref bs]) S hX.1 hX.2.2.2.1 (c_X1_init l Γ bs bs (Nat.le_refl _)) (cwI 0 hts gL_sticks_X1_init rfl rfl rfl (hts (.initialized RX1) (by decide +kernel)) (hts (.methodLink RL 11 yX1_init) (by decide +kernel)) (hts (.instanceMethod yX1_init) (by decide +kernel)) rfl (by decide +kernel) ⟨Nat.le_of_ble_eq_true rfl, Nat.le_of_ble_eq_true rfl⟩) ⟨hO1, hz1⟩ rfl hl.1 rfl (Nat.le_of_ble_eq_true rfl) dL_sticks_4 ⟨Nat.le_of_ble_eq_true rfl, Nat.le_of_ble_eq_true rfl⟩ hlo (fun v H2 lc2 hp hlo => ?_)
  obtain ⟨rfl, hO2, hQ2, hz2, ho2⟩ := hp
  refine W.eq (g2 := F0 m 7 ls [.ref bs]) rfl ?_
  have hlow : ∀ q : Nat, q < bs → H2[q]? = s.heap[q]? := fun q hq => (ho2 q (by omega)).trans (ho1 q (by omega))
  have hC0 : CW Γ bs s0 (fun _ => 0) H2 := by
    refine ⟨hO2, ?_, fun k hk => absurd hk (Nat.not_lt_zero k)⟩
    have e9 : (fun k => if k < qn s0 then some ((fun _ => 0 : Nat → Nat) k) else none) = (fun _ => (none : Option Nat)) := funext fun k => if_neg (Nat.not_lt_zero k)
    rw [e9]
    exact hQ2
  refine lv_astore_n (lv' := [(1, .ref bs), (0, .ref sb)]) hx hb dL_sticks_7 rfl hl (by decide) rfl (fun ls hl => ?_)
  refine lv_iconst (v := nI 1) hx hb dL_sticks_8 (by decide +kernel) ?_
  refine lv_aload_n hx hb dL_sticks_9 rfl (lv_at hl 1 rfl) ?_
  refine lv_iconst (v := nI 0) hx hb dL_sticks_10 (by decide +kernel) ?_
  refine l_Sq (v0 := some (.int (cl L xs 0))) (rest := [.int (nI 1)]) S hX hlow (c_L_cell l Γ bs sb L xs 0 (by omega)) (cwsticks_L_cell hts) trivial rfl hl.1 rfl (Nat.le_of_ble_eq_true rfl) dL_sticks_11 ⟨by show _ ≤ 900; omega, by show _ ≤ 10200; omega⟩ (fun v H1 h => h) ?_
  refine W.eq (g2 := F0 m 14 ls [.int (cl L xs 0), .int (nI 1)]) rfl ?_
  refine lv_bipush (v := nI 8) hx hb dL_sticks_14 (by decide +kernel) ?_
  refine ro_S (rest := [.int (nI 1)]) S hX.1 (c_L_below l Γ (cl L xs 0) 8 (by omega) (by omega)) (cwsticks_L_below hts) trivial rfl hl.1 rfl (Nat.le_of_ble_eq_true rfl) dL_sticks_16 ⟨by show _ ≤ 900; omega, by show _ ≤ 10200; omega⟩ ?_
  refine W.eq (g2 := F0 m 19 ls [.int (nI (bl (cl L xs 0) 8)), .int (nI 1)]) rfl ?_
  obtain ⟨b_1, hb_1, eb_1⟩ : ∃ z : Nat, z < 8 ∧ bl (cl L xs 0) 8 = z := ⟨_, bl_lt _ (by omega), rfl⟩
  refine x_e (show nI (bl (cl L xs 0) 8) = nI b_1 by rw [eb_1]) ?_
  clear eb_1
  refine x_add hx hb dL_sticks_19 ?_
  refine lv_istore_n (lv' := [(2, .int (nI (1 + b_1))), (1, .ref bs), (0, .ref sb)]) hx hb dL_sticks_20 rfl hl (by decide) rfl (fun ls hl => ?_)
  refine lv_iconst (v := nI 0) hx hb dL_sticks_21 (by decide +kernel) ?_
  refine lv_istore_n (lv' := [(3, .int (nI 0)), (2, .int (nI (1 + b_1))), (1, .ref bs), (0, .ref sb)]) hx hb dL_sticks_22 rfl hl (by decide) rfl (fun ls hl => ?_)
  obtain ⟨md, emd⟩ : ∃ z : Nat, z = 1 + b_1 := ⟨_, rfl⟩
  have hmd : 1 ≤ md ∧ md ≤ 8 := by omega
  rw [← emd] at hl
  clear emd
  refine W.widen (k := 50 + 6 * 0) (n := 100 + 78 * 0) (by omega) (by omega) ?_
  refine x_loopC (fun u => [(3, .int (nI u)), (2, .int (nI md)), (1, .ref bs), (0, .ref sb)]) (fun u H locs => u ≤ md ∧ ∃ σ ad, Iv σ ∧ Kv σ ∧ qn σ = u ∧ thr σ (qn σ) = u ∧ (0 < u → qg σ (qn σ - 1) = 0) ∧ Ly (bs + 2) σ ad ∧ CW Γ bs σ ad H ∧ lo bs locs ∧ bs + 2 ≤ H.size ∧ ∀ q : Nat, q < bs → H[q]? = s.heap[q]?) (fun u => 50 + 6 * u) (fun u => 100 + 78 * u) (fun u => 8 - u) ?_ 0 ⟨Nat.zero_le _, s0, fun _ => 0, Iv_0, Kv_0, rfl, rfl, fun h => absurd h (Nat.lt_irrefl 0), ⟨fun k hk => absurd hk (Nat.not_lt_zero k), fun i j _ hj => absurd hj (Nat.not_lt_zero j)⟩, hC0, hlo, by omega, hlow⟩ ls (lv_sub hl [0, 1, 2, 3] rfl)
  clear hC0 hlow hlo hO2 hQ2 hz2 ho2 hO1 hz1 ho1 hl ls
  intro u H locs hu ih ls hl
  obtain ⟨hu8, σ, ad, hI, hKv, hqn, hth, hlast, hy, hC, hlo, hb9, hlow⟩ := hu
  have h40 := hI.1
  refine lv_iload_n hx hb dL_sticks_23 rfl (lv_at hl 0 rfl) ?_
  refine lv_iload_n hx hb dL_sticks_24 rfl (lv_at hl 1 rfl) ?_
  refine x_icge hx hb (by omega) (by omega) (tgt := 55) dL_sticks_25 (by decide) (fun c_2 => ?_) (fun c_2 => ?_)
  · skip
    have hJ : Jv σ := ⟨by omega, hlast (by omega), hKv⟩
    have hLI : LI Γ bs s σ ad H locs := ⟨hI, hJ, hy, hC, hlo, hb9, hlow⟩
    have key : ∀ fw : Nat, fw ≤ 1 → ∀ ls : Array Slot, lv_has ls 9 [(3, .int (nI fw)), (1, .ref bs), (0, .ref sb)] → W p l e rmK s m ([.ref sb] : List Value).toArray below meth c H locs (50 + 6 * u) (100 + 78 * u) (MQ below (fun _ st o t => ∃ v, o = .returned v ∧ (v = some (.ref bs) ∧ (∃ σ ad, Iv σ ∧ Jv σ ∧ Ly (bs + 2) σ ad ∧ CW Γ bs σ ad t.heap) ∧ bs + 2 ≤ t.heap.size ∧ ∀ q : Nat, q < bs → t.heap[q]? = st.heap[q]?)) ([.ref sb] : List Value).toArray s 900 10200 (fun q => bs ≤ q)) (F0 m 73 ls []) := by
      clear hl ls ih
      intro fw hfw ls hl
      refine lv_iconst (v := nI 0) hx hb dL_sticks_73 (by decide +kernel) ?_
      refine lv_istore (lv' := [(4, .int (nI 0)), (3, .int (nI fw)), (1, .ref bs), (0, .ref sb)]) hx hb dL_sticks_74 hl (by decide) rfl (fun ls hl => ?_)
      refine W.widen (k := 98 + 12 * 0) (n := 724 + 156 * 0) (by omega) (by omega) ?_
      refine x_loopC (fun u => [(4, .int (nI u)), (3, .int (nI fw)), (1, .ref bs), (0, .ref sb)]) (fun u H locs => u ≤ 60 ∧ ∃ σ ad, LI Γ bs s σ ad H locs) (fun u => 98 + 12 * u) (fun u => 724 + 156 * u) (fun u => 60 - u) ?_ 0 ⟨Nat.zero_le _, σ, ad, hLI⟩ ls (lv_sub hl [0, 1, 2, 3] rfl)
      clear hLI hl
      intro u H locs hu ih ls hl
      obtain ⟨hu60, σ, ad, hLI⟩ := hu
      obtain ⟨hI, hJ, hy, hC, hlo, hb9, hlow⟩ := id hLI
      have h40 := hI.1
      have h1n := hJ.1
      refine lv_iload hx hb dL_sticks_76 (lv_at hl 0 rfl) ?_
      refine lv_bipush (v := nI 60) hx hb dL_sticks_78 (by decide +kernel) ?_
      refine x_icge hx hb (by omega) (by omega) (tgt := 356) dL_sticks_80 (by decide) (fun c_1 => ?_) (fun c_1 => ?_)
      · skip
        refine lv_aload_n hx hb dL_sticks_356 rfl (lv_at hl 2 rfl) ?_
        have e60 : u = 60 := by omega
        refine W.widen (k := 900) (n := 10200) (by omega) (by omega) ?_
        exact m_aret (Post := fun H v H2 => v = some (.ref bs) ∧ (∃ σ ad, Iv σ ∧ Jv σ ∧ Ly (bs + 2) σ ad ∧ CW Γ bs σ ad H2) ∧ bs + 2 ≤ H2.size ∧ ∀ q : Nat, q < bs → H2[q]? = H[q]?) hx hb hr hlk hlo dL_sticks_357 ⟨rfl, ⟨σ, ad, hI, hJ, hy, hC⟩, hb9, hlow⟩
      · skip
        refine lv_aload_n hx hb dL_sticks_83 rfl (lv_at hl 3 rfl) ?_
        refine lv_iconst (v := nI 3) hx hb dL_sticks_84 (by decide +kernel) ?_
        refine lv_iload hx hb dL_sticks_85 (lv_at hl 0 rfl) ?_
        refine lv_bipush (v := nI 11) hx hb dL_sticks_87 (by decide +kernel) ?_
        refine x_rem hx hb (by omega) (by omega) (by omega) dL_sticks_89 ?_
        refine x_add hx hb dL_sticks_90 ?_
        refine l_Sq (v0 := some (.int (cl L xs (3 + (u % 11))))) (rest := []) S hX hlow (c_L_cell l Γ bs sb L xs (3 + (u % 11)) (by omega)) (cwsticks_L_cell hts) trivial rfl hl.1 rfl (Nat.le_of_ble_eq_true rfl) dL_sticks_91 ⟨by show _ ≤ 900; omega, by show _ ≤ 10200; omega⟩ (fun v H1 h => h) ?_
        refine W.eq (g2 := F0 m 94 ls [.int (cl L xs (3 + (u % 11)))]) rfl ?_
        refine lv_iload hx hb dL_sticks_94 (lv_at hl 0 rfl) ?_
        refine lv_bipush (v := nI 11) hx hb dL_sticks_96 (by decide +kernel) ?_
        refine x_div hx hb (by omega) (by omega) (by omega) dL_sticks_98 ?_
        refine lv_iconst (v := nI 3) hx hb dL_sticks_99 (by decide +kernel) ?_
        refine x_mul hx hb dL_sticks_100 ?_
        refine lv_ishr hx hb dL_sticks_101 ?_
        refine lv_bipush (v := nI 41) hx hb dL_sticks_102 (by decide +kernel) ?_
        refine lv_iload hx hb dL_sticks_104 (lv_at hl 0 rfl) ?_
        refine x_mul hx hb dL_sticks_106 ?_
        refine lv_iadd hx hb dL_sticks_107 ?_
        obtain ⟨X, eX⟩ : ∃ z : Int32, ((cl L xs (3 + (u % 11))) >>> ((nI ((u / 11) * 3)) &&& 31)) + (nI (41 * u)) = z := ⟨_, rfl⟩
        refine x_e eX ?_
        clear eX
        refine lv_istore (lv' := [(5, .int X), (4, .int (nI u)), (3, .int (nI fw)), (1, .ref bs), (0, .ref sb)]) hx hb dL_sticks_108 hl (by decide) rfl (fun ls hl => ?_)
        refine lv_aload_n hx hb dL_sticks_110 rfl (lv_at hl 3 rfl) ?_
        refine lv_iconst (v := nI 1) hx hb dL_sticks_111 (by decide +kernel) ?_
        refine q_count (v := .int (nI (qn σ))) hfl S hX hlow hI hy hC (by omega) (cwsticks_count hts) hl.1 (Nat.le_of_ble_eq_true rfl) dL_sticks_112 ⟨by show _ ≤ 900; omega, by show _ ≤ 10200; omega⟩ (congrArg Value.int (tot_1 σ)) ?_
        refine W.eq (g2 := F0 m 115 ls [.int (nI (qn σ))]) rfl ?_
        refine lv_istore (lv' := [(6, .int (nI (qn σ))), (5, .int X), (4, .int (nI u)), (3, .int (nI fw)), (1, .ref bs), (0, .ref sb)]) hx hb dL_sticks_115 hl (by decide) rfl (fun ls hl => ?_)
        refine lv_iload hx hb dL_sticks_117 (lv_at hl 1 rfl) ?_
        refine lv_iload hx hb dL_sticks_119 (lv_at hl 0 rfl) ?_
        refine ro_S (rest := []) S hX.1 (c_L_below l Γ X (qn σ) (by omega) (by omega)) (cwsticks_L_below hts) trivial rfl hl.1 rfl (Nat.le_of_ble_eq_true rfl) dL_sticks_121 ⟨by show _ ≤ 900; omega, by show _ ≤ 10200; omega⟩ ?_
        refine W.eq (g2 := F0 m 124 ls [.int (nI (bl X (qn σ)))]) rfl ?_
        obtain ⟨b_2, hb_2, eb_2⟩ : ∃ z : Nat, z < qn σ ∧ bl X (qn σ) = z := ⟨_, bl_lt _ (by omega), rfl⟩
        refine x_e (show nI (bl X (qn σ)) = nI b_2 by rw [eb_2]) ?_
        clear eb_2
        refine lv_istore (lv' := [(7, .int (nI b_2)), (6, .int (nI (qn σ))), (5, .int X), (4, .int (nI u)), (3, .int (nI fw)), (1, .ref bs), (0, .ref sb)]) hx hb dL_sticks_124 hl (by decide) rfl (fun ls hl => ?_)
        refine lv_iload hx hb dL_sticks_126 (lv_at hl 2 rfl) ?_
        refine lv_iconst (v := nI 3) hx hb dL_sticks_128 (by decide +kernel) ?_
        refine lv_ishr hx hb dL_sticks_129 ?_
        refine lv_iload hx hb dL_sticks_130 (lv_at hl 1 rfl) ?_
        refine ro_S (rest := []) S hX.1 (c_L_below l Γ (X >>> ((nI 3) &&& 31)) (qn σ) (by omega) (by omega)) (cwsticks_L_below hts) trivial rfl hl.1 rfl (Nat.le_of_ble_eq_true rfl) dL_sticks_132 ⟨by show _ ≤ 900; omega, by show _ ≤ 10200; omega⟩ ?_
        refine W.eq (g2 := F0 m 135 ls [.int (nI (bl (X >>> ((nI 3) &&& 31)) (qn σ)))]) rfl ?_
        obtain ⟨b_3, hb_3, eb_3⟩ : ∃ z : Nat, z < qn σ ∧ bl (X >>> ((nI 3) &&& 31)) (qn σ) = z := ⟨_, bl_lt _ (by omega), rfl⟩
        refine x_e (show nI (bl (X >>> ((nI 3) &&& 31)) (qn σ)) = nI b_3 by rw [eb_3]) ?_
        clear eb_3
        refine lv_istore (lv' := [(8, .int (nI b_3)), (7, .int (nI b_2)), (6, .int (nI (qn σ))), (5, .int X), (4, .int (nI u)), (3, .int (nI fw)), (1, .ref bs), (0, .ref sb)]) hx hb dL_sticks_135 hl (by decide) rfl (fun ls hl => ?_)
        refine lv_aload_n hx hb dL_sticks_137 rfl (lv_at hl 6 rfl) ?_
        refine lv_iload hx hb dL_sticks_138 (lv_at hl 1 rfl) ?_
        refine lv_bipush (v := nI 6) hx hb dL_sticks_140 (by decide +kernel) ?_
        refine q_stick (v := .int (nI (qg σ b_2))) hfl S hX hlow hI hy hC hb_2 (by omega) (cwsticks_stick hts) hl.1 (Nat.le_of_ble_eq_true rfl) dL_sticks_142 ⟨by show _ ≤ 900; omega, by show _ ≤ 10200; omega⟩ (rfl) ?_
        refine W.eq (g2 := F0 m 145 ls [.int (nI (qg σ b_2))]) rfl ?_
        have hqa := (hI.2.1 b_2 hb_2).2.2.2
        have fin : ∀ (σ1 : St) (ad1 : Nat → Nat) (H1 : Heap) (lc1 : List Loc), LI Γ bs s σ1 ad1 H1 lc1 → ∀ ls : Array Slot, lv_has ls 9 [(4, .int (nI u)), (3, .int (nI fw)), (1, .ref bs), (0, .ref sb)] → W p l e rmK s m ([.ref sb] : List Value).toArray below meth c H1 lc1 (98 + 12 * u + 12) (724 + 156 * u + 156) (MQ below (fun _ st o t => ∃ v, o = .returned v ∧ (v = some (.ref bs) ∧ (∃ σ ad, Iv σ ∧ Jv σ ∧ Ly (bs + 2) σ ad ∧ CW Γ bs σ ad t.heap) ∧ bs + 2 ≤ t.heap.size ∧ ∀ q : Nat, q < bs → t.heap[q]? = st.heap[q]?)) ([.ref sb] : List Value).toArray s 900 10200 (fun q => bs ≤ q)) (F0 m 350 ls []) := by
          intro σ1 ad1 H1 lc1 h1 ls hl
          refine x_iinc (n := 1) (lv' := [(4, .int (nI (u + 1))), (3, .int (nI fw)), (1, .ref bs), (0, .ref sb)]) hx hb dL_sticks_350 hl (k := 0) rfl (by decide) rfl (fun ls hl => ?_)
          refine lv_goto (tgt := 76) hx hb dL_sticks_353 (by decide) ?_
          refine W.widen (k := 98 + 12 * (u + 1)) (n := 724 + 156 * (u + 1)) (by omega) (by omega) ?_
          exact ih (u + 1) H1 lc1 ⟨by omega, σ1, ad1, h1⟩ (by omega) ls hl
        have key2 : ∀ a : Nat, a < qn σ → qg σ a = 0 → ∀ ls : Array Slot, lv_has ls 9 [(7, .int (nI a)), (8, .int (nI b_3)), (5, .int X), (4, .int (nI u)), (3, .int (nI fw)), (1, .ref bs), (0, .ref sb)] → W p l e rmK s m ([.ref sb] : List Value).toArray below meth c H locs (98 + 12 * u) (724 + 156 * u) (MQ below (fun _ st o t => ∃ v, o = .returned v ∧ (v = some (.ref bs) ∧ (∃ σ ad, Iv σ ∧ Jv σ ∧ Ly (bs + 2) σ ad ∧ CW Γ bs σ ad t.heap) ∧ bs + 2 ≤ t.heap.size ∧ ∀ q : Nat, q < bs → t.heap[q]? = st.heap[q]?)) ([.ref sb] : List Value).toArray s 900 10200 (fun q => bs ≤ q)) (F0 m 155 ls []) := by
          clear hl ls
          intro a ha hga ls hl
          have hpa := hI.2.1 a ha
          refine lv_iload hx hb dL_sticks_155 (lv_at hl 2 rfl) ?_
          refine lv_bipush (v := nI 6) hx hb dL_sticks_157 (by decide +kernel) ?_
          refine lv_ishr hx hb dL_sticks_159 ?_
          refine lv_bipush (v := nI 9) hx hb dL_sticks_160 (by decide +kernel) ?_
          refine ro_S (rest := []) S hX.1 (c_L_below l Γ (X >>> ((nI 6) &&& 31)) 9 (by omega) (by omega)) (cwsticks_L_below hts) trivial rfl hl.1 rfl (Nat.le_of_ble_eq_true rfl) dL_sticks_162 ⟨by show _ ≤ 900; omega, by show _ ≤ 10200; omega⟩ ?_
          refine W.eq (g2 := F0 m 165 ls [.int (nI (bl (X >>> ((nI 6) &&& 31)) 9))]) rfl ?_
          obtain ⟨b_4, hb_4, eb_4⟩ : ∃ z : Nat, z < 9 ∧ bl (X >>> ((nI 6) &&& 31)) 9 = z := ⟨_, bl_lt _ (by omega), rfl⟩
          refine x_e (show nI (bl (X >>> ((nI 6) &&& 31)) 9) = nI b_4 by rw [eb_4]) ?_
          clear eb_4
          by_cases h_0 : b_4 = 0
          · skip
            refine x_e (show nI b_4 = nI 0 by rw [h_0]) ?_
            refine lv_tableIn (off := 27) (tgt := 192) hx hb dL_sticks_165 (by decide +kernel) (by decide +kernel) rfl (by decide) ?_
            refine lv_aload_n hx hb dL_sticks_192 rfl (lv_at hl 5 rfl) ?_
            refine lv_iload hx hb dL_sticks_193 (lv_at hl 0 rfl) ?_
            refine lv_bipush (v := nI 6) hx hb dL_sticks_195 (by decide +kernel) ?_
            refine q_stick (v := .int (nI 0)) hfl S hX hlow hI hy hC ha (by omega) (cwsticks_stick hts) hl.1 (Nat.le_of_ble_eq_true rfl) dL_sticks_197 ⟨by show _ ≤ 900; omega, by show _ ≤ 10200; omega⟩ (congrArg Value.int (congrArg nI hga)) ?_
            refine W.eq (g2 := F0 m 200 ls [.int (nI 0)]) rfl ?_
            refine x_ifne hx hb (by omega) (tgt := 350) dL_sticks_200 (by decide) (fun c_5 => absurd c_5 (by decide)) (fun c_5 => ?_)
            refine lv_aload_n hx hb dL_sticks_203 rfl (lv_at hl 5 rfl) ?_
            refine lv_iload hx hb dL_sticks_204 (lv_at hl 0 rfl) ?_
            refine lv_iload hx hb dL_sticks_206 (lv_at hl 2 rfl) ?_
            refine lv_iconst (v := nI 4) hx hb dL_sticks_208 (by decide +kernel) ?_
            refine lv_ishr hx hb dL_sticks_209 ?_
            refine lv_iconst (v := nI 3) hx hb dL_sticks_210 (by decide +kernel) ?_
            refine ro_S (rest := [.int (nI a), .ref bs]) S hX.1 (c_L_below l Γ (X >>> ((nI 4) &&& 31)) 3 (by omega) (by omega)) (cwsticks_L_below hts) trivial rfl hl.1 rfl (Nat.le_of_ble_eq_true rfl) dL_sticks_211 ⟨by show _ ≤ 900; omega, by show _ ≤ 10200; omega⟩ ?_
            refine W.eq (g2 := F0 m 214 ls [.int (nI (bl (X >>> ((nI 4) &&& 31)) 3)), .int (nI a), .ref bs]) rfl ?_
            obtain ⟨b_6, hb_6, eb_6⟩ : ∃ z : Nat, z < 3 ∧ bl (X >>> ((nI 4) &&& 31)) 3 = z := ⟨_, bl_lt _ (by omega), rfl⟩
            refine x_e (show nI (bl (X >>> ((nI 4) &&& 31)) 3) = nI b_6 by rw [eb_6]) ?_
            clear eb_6
            refine q_roll hfl S hX hlow hI hy hC (Nat.le_refl _) (Nat.le_refl _) hb9 hlo ha hga (by omega) (cwsticks_roll hts) hl.1 (Nat.le_of_ble_eq_true rfl) dL_sticks_214 ⟨by show _ ≤ 900; omega, by show _ ≤ 10200; omega⟩ (fun ad2 H3 lc3 hC3 hy3 hF3 hlo3 => ?_)
            refine W.eq (g2 := F0 m 217 ls [.int (nI ((qu σ a + b_6) % 3))]) rfl ?_
            refine lv_pop hx hb dL_sticks_217 rfl ?_
            refine lv_goto (tgt := 350) hx hb dL_sticks_218 (by decide) ?_
            refine W.widen (k := 98 + 12 * u + 12) (n := 724 + 156 * u + 156) (by omega) (by omega) ?_
            exact fin _ _ _ _ (hLI.step (Iv_up hI (Nat.mod_lt _ (by decide))) (Jv_up hJ) hC3 hy3 hF3 hlo3) ls (lv_sub hl [3, 4, 5, 6] rfl)
          by_cases h_1 : b_4 = 1
          · skip
            refine x_e (show nI b_4 = nI 1 by rw [h_1]) ?_
            refine lv_tableIn (off := 56) (tgt := 221) hx hb dL_sticks_165 (by decide +kernel) (by decide +kernel) rfl (by decide) ?_
            refine lv_aload_n hx hb dL_sticks_221 rfl (lv_at hl 5 rfl) ?_
            refine lv_iload hx hb dL_sticks_222 (lv_at hl 0 rfl) ?_
            refine lv_iconst (v := nI 1) hx hb dL_sticks_224 (by decide +kernel) ?_
            refine lv_iload hx hb dL_sticks_225 (lv_at hl 2 rfl) ?_
            refine lv_iconst (v := nI 4) hx hb dL_sticks_227 (by decide +kernel) ?_
            refine lv_ishr hx hb dL_sticks_228 ?_
            refine lv_bipush (v := nI 20) hx hb dL_sticks_229 (by decide +kernel) ?_
            refine ro_S (rest := [.int (nI 1), .int (nI a), .ref bs]) S hX.1 (c_L_below l Γ (X >>> ((nI 4) &&& 31)) 20 (by omega) (by omega)) (cwsticks_L_below hts) trivial rfl hl.1 rfl (Nat.le_of_ble_eq_true rfl) dL_sticks_231 ⟨by show _ ≤ 900; omega, by show _ ≤ 10200; omega⟩ ?_
            refine W.eq (g2 := F0 m 234 ls [.int (nI (bl (X >>> ((nI 4) &&& 31)) 20)), .int (nI 1), .int (nI a), .ref bs]) rfl ?_
            obtain ⟨b_7, hb_7, eb_7⟩ : ∃ z : Nat, z < 20 ∧ bl (X >>> ((nI 4) &&& 31)) 20 = z := ⟨_, bl_lt _ (by omega), rfl⟩
            refine x_e (show nI (bl (X >>> ((nI 4) &&& 31)) 20) = nI b_7 by rw [eb_7]) ?_
            clear eb_7
            refine x_add hx hb dL_sticks_234 ?_
            refine l_SW (rest := []) S hX hlow (c_L_bend l hfl Γ bs sb L xs bs σ ad hI (bs + 2) a (1 + b_7) ha hga (by omega) (by omega) hy (Nat.le_refl _) (Nat.le_refl _)) (vx_cwSW 3 hts gL_sticks_L_bend rfl rfl rfl (by decide +kernel) ⟨Nat.le_of_ble_eq_true rfl, Nat.le_of_ble_eq_true rfl⟩) ⟨hC, hb9⟩ rfl hl.1 rfl (Nat.le_of_ble_eq_true rfl) dL_sticks_235 ⟨by show _ ≤ 900; omega, by show _ ≤ 10200; omega⟩ hlo (fun v H3 lc3 hp hlo3 => ?_)
            rcases hp with ⟨hc, rfl, ⟨ad2, hC3, hy3⟩, hF3⟩ | ⟨hc, rfl, hz3, ho3⟩
            · skip
              refine W.eq (g2 := F0 m 238 ls [.int (bdV σ a (nI (1 + b_7)))]) rfl ?_
              refine lv_pop hx hb dL_sticks_238 rfl ?_
              refine lv_goto (tgt := 350) hx hb dL_sticks_239 (by decide) ?_
              refine W.widen (k := 98 + 12 * u + 12) (n := 724 + 156 * u + 156) (by omega) (by omega) ?_
              exact fin _ _ _ _ (hLI.step (bdS_ok hI hJ ha hga hc).1 (bdS_ok hI hJ ha hga hc).2 hC3 hy3 hF3 hlo3) ls (lv_sub hl [3, 4, 5, 6] rfl)
            · skip
              refine W.eq (g2 := F0 m 238 ls [.int ((-2))]) rfl ?_
              refine lv_pop hx hb dL_sticks_238 rfl ?_
              refine lv_goto (tgt := 350) hx hb dL_sticks_239 (by decide) ?_
              refine W.widen (k := 98 + 12 * u + 12) (n := 724 + 156 * u + 156) (by omega) (by omega) ?_
              exact fin _ _ _ _ (hLI.same hz3 ho3 hlo3) ls (lv_sub hl [3, 4, 5, 6] rfl)
          by_cases h_2 : b_4 = 2
          · skip
            refine x_e (show nI b_4 = nI 2 by rw [h_2]) ?_
            refine lv_tableIn (off := 77) (tgt := 242) hx hb dL_sticks_165 (by decide +kernel) (by decide +kernel) rfl (by decide) ?_
            refine lv_aload_n hx hb dL_sticks_242 rfl (lv_at hl 5 rfl) ?_
            refine lv_iload hx hb dL_sticks_243 (lv_at hl 0 rfl) ?_
            refine lv_iload hx hb dL_sticks_245 (lv_at hl 1 rfl) ?_
            refine lv_iload hx hb dL_sticks_247 (lv_at hl 2 rfl) ?_
            refine lv_iconst (v := nI 4) hx hb dL_sticks_249 (by decide +kernel) ?_
            refine lv_ishr hx hb dL_sticks_250 ?_
            refine lv_iconst (v := nI 3) hx hb dL_sticks_251 (by decide +kernel) ?_
            refine ro_S (rest := [.int (nI b_3), .int (nI a), .ref bs]) S hX.1 (c_L_below l Γ (X >>> ((nI 4) &&& 31)) 3 (by omega) (by omega)) (cwsticks_L_below hts) trivial rfl hl.1 rfl (Nat.le_of_ble_eq_true rfl) dL_sticks_252 ⟨by show _ ≤ 900; omega, by show _ ≤ 10200; omega⟩ ?_
            refine W.eq (g2 := F0 m 255 ls [.int (nI (bl (X >>> ((nI 4) &&& 31)) 3)), .int (nI b_3), .int (nI a), .ref bs]) rfl ?_
            obtain ⟨b_8, hb_8, eb_8⟩ : ∃ z : Nat, z < 3 ∧ bl (X >>> ((nI 4) &&& 31)) 3 = z := ⟨_, bl_lt _ (by omega), rfl⟩
            refine x_e (show nI (bl (X >>> ((nI 4) &&& 31)) 3) = nI b_8 by rw [eb_8]) ?_
            clear eb_8
            refine lv_iconst (v := nI 1) hx hb dL_sticks_255 (by decide +kernel) ?_
            refine lv_iload hx hb dL_sticks_256 (lv_at hl 2 rfl) ?_
            refine lv_iconst (v := nI 5) hx hb dL_sticks_258 (by decide +kernel) ?_
            refine lv_ishr hx hb dL_sticks_259 ?_
            refine lv_bipush (v := nI 9) hx hb dL_sticks_260 (by decide +kernel) ?_
            refine ro_S (rest := [.int (nI 1), .int (nI b_8), .int (nI b_3), .int (nI a), .ref bs]) S hX.1 (c_L_below l Γ (X >>> ((nI 5) &&& 31)) 9 (by omega) (by omega)) (cwsticks_L_below hts) trivial rfl hl.1 rfl (Nat.le_of_ble_eq_true rfl) dL_sticks_262 ⟨by show _ ≤ 900; omega, by show _ ≤ 10200; omega⟩ ?_
            refine W.eq (g2 := F0 m 265 ls [.int (nI (bl (X >>> ((nI 5) &&& 31)) 9)), .int (nI 1), .int (nI b_8), .int (nI b_3), .int (nI a), .ref bs]) rfl ?_
            obtain ⟨b_9, hb_9, eb_9⟩ : ∃ z : Nat, z < 9 ∧ bl (X >>> ((nI 5) &&& 31)) 9 = z := ⟨_, bl_lt _ (by omega), rfl⟩
            refine x_e (show nI (bl (X >>> ((nI 5) &&& 31)) 9) = nI b_9 by rw [eb_9]) ?_
            clear eb_9
            refine x_add hx hb dL_sticks_265 ?_
            refine l_SW (rest := []) S hX hlow (c_L_glue l hfl Γ bs sb L xs bs σ ad hI (bs + 2) a b_3 b_8 (1 + b_9) ha hb_3 hga (by omega) (by omega) (by omega) hy (Nat.le_refl _) (Nat.le_refl _)) (vx_cwSW 5 hts gL_sticks_L_glue rfl rfl rfl (by decide +kernel) ⟨Nat.le_of_ble_eq_true rfl, Nat.le_of_ble_eq_true rfl⟩) ⟨hC, hb9⟩ rfl hl.1 rfl (Nat.le_of_ble_eq_true rfl) dL_sticks_266 ⟨by show _ ≤ 900; omega, by show _ ≤ 10200; omega⟩ hlo (fun v H3 lc3 hp hlo3 => ?_)
            rcases hp with ⟨hc, rfl, ⟨ad2, hC3, hy3⟩, hF3⟩ | ⟨hc, rfl, hz3, ho3⟩
            · skip
              refine W.eq (g2 := F0 m 269 ls [.int (nI (qn σ))]) rfl ?_
              refine lv_pop hx hb dL_sticks_269 rfl ?_
              refine lv_goto (tgt := 350) hx hb dL_sticks_270 (by decide) ?_
              refine W.widen (k := 98 + 12 * u + 12) (n := 724 + 156 * u + 156) (by omega) (by omega) ?_
              exact fin _ _ _ _ (hLI.step (Iv_glue hI ha hb_3 hc.2.1 hga hc.1 hc.2.2.2 hc.2.2.1) (Jv_glue hI hJ ha hb_3 (by omega)) hC3 hy3 hF3 hlo3) ls (lv_sub hl [3, 4, 5, 6] rfl)
            · skip
              refine W.eq (g2 := F0 m 269 ls [.int ((-1))]) rfl ?_
              refine lv_pop hx hb dL_sticks_269 rfl ?_
              refine lv_goto (tgt := 350) hx hb dL_sticks_270 (by decide) ?_
              refine W.widen (k := 98 + 12 * u + 12) (n := 724 + 156 * u + 156) (by omega) (by omega) ?_
              exact fin _ _ _ _ (hLI.same hz3 ho3 hlo3) ls (lv_sub hl [3, 4, 5, 6] rfl)
          refine lv_tableOut (tgt := 273) hx hb dL_sticks_165 (Or.inr (by rw [nI_toInt (by omega)]; omega)) (by decide) ?_
          refine lv_aload_n hx hb dL_sticks_273 rfl (lv_at hl 5 rfl) ?_
          refine lv_iload hx hb dL_sticks_274 (lv_at hl 0 rfl) ?_
          refine lv_bipush (v := nI 6) hx hb dL_sticks_276 (by decide +kernel) ?_
          refine q_stick (v := .int (nI 0)) hfl S hX hlow hI hy hC ha (by omega) (cwsticks_stick hts) hl.1 (Nat.le_of_ble_eq_true rfl) dL_sticks_278 ⟨by show _ ≤ 900; omega, by show _ ≤ 10200; omega⟩ (congrArg Value.int (congrArg nI hga)) ?_
          refine W.eq (g2 := F0 m 281 ls [.int (nI 0)]) rfl ?_
          refine x_ifne hx hb (by omega) (tgt := 350) dL_sticks_281 (by decide) (fun c_10 => absurd c_10 (by decide)) (fun c_10 => ?_)
          refine lv_aload_n hx hb dL_sticks_284 rfl (lv_at hl 5 rfl) ?_
          refine lv_iload hx hb dL_sticks_285 (lv_at hl 0 rfl) ?_
          refine lv_iload hx hb dL_sticks_287 (lv_at hl 2 rfl) ?_
          refine lv_iconst (v := nI 2) hx hb dL_sticks_289 (by decide +kernel) ?_
          refine lv_ishr hx hb dL_sticks_290 ?_
          refine lv_iconst (v := nI 3) hx hb dL_sticks_291 (by decide +kernel) ?_
          refine ro_S (rest := [.int (nI a), .ref bs]) S hX.1 (c_L_below l Γ (X >>> ((nI 2) &&& 31)) 3 (by omega) (by omega)) (cwsticks_L_below hts) trivial rfl hl.1 rfl (Nat.le_of_ble_eq_true rfl) dL_sticks_292 ⟨by show _ ≤ 900; omega, by show _ ≤ 10200; omega⟩ ?_
          refine W.eq (g2 := F0 m 295 ls [.int (nI (bl (X >>> ((nI 2) &&& 31)) 3)), .int (nI a), .ref bs]) rfl ?_
          obtain ⟨b_11, hb_11, eb_11⟩ : ∃ z : Nat, z < 3 ∧ bl (X >>> ((nI 2) &&& 31)) 3 = z := ⟨_, bl_lt _ (by omega), rfl⟩
          refine x_e (show nI (bl (X >>> ((nI 2) &&& 31)) 3) = nI b_11 by rw [eb_11]) ?_
          clear eb_11
          refine lv_iload hx hb dL_sticks_295 (lv_at hl 2 rfl) ?_
          refine lv_iconst (v := nI 5) hx hb dL_sticks_297 (by decide +kernel) ?_
          refine lv_ishr hx hb dL_sticks_298 ?_
          refine lv_aload_n hx hb dL_sticks_299 rfl (lv_at hl 5 rfl) ?_
          refine lv_iload hx hb dL_sticks_300 (lv_at hl 0 rfl) ?_
          refine lv_iconst (v := nI 0) hx hb dL_sticks_302 (by decide +kernel) ?_
          refine q_stick (v := .int (nI (qp σ a))) hfl S hX hlow hI hy hC ha (by omega) (cwsticks_stick hts) hl.1 (Nat.le_of_ble_eq_true rfl) dL_sticks_303 ⟨by show _ ≤ 900; omega, by show _ ≤ 10200; omega⟩ (rfl) ?_
          refine W.eq (g2 := F0 m 306 ls [.int (nI (qp σ a)), .int (X >>> ((nI 5) &&& 31)), .int (nI b_11), .int (nI a), .ref bs]) rfl ?_
          refine ro_S (rest := [.int (nI b_11), .int (nI a), .ref bs]) S hX.1 (c_L_below l Γ (X >>> ((nI 5) &&& 31)) (qp σ a) (by omega) (by omega)) (cwsticks_L_below hts) trivial rfl hl.1 rfl (Nat.le_of_ble_eq_true rfl) dL_sticks_306 ⟨by show _ ≤ 900; omega, by show _ ≤ 10200; omega⟩ ?_
          refine W.eq (g2 := F0 m 309 ls [.int (nI (bl (X >>> ((nI 5) &&& 31)) (qp σ a))), .int (nI b_11), .int (nI a), .ref bs]) rfl ?_
          obtain ⟨b_12, hb_12, eb_12⟩ : ∃ z : Nat, z < qp σ a ∧ bl (X >>> ((nI 5) &&& 31)) (qp σ a) = z := ⟨_, bl_lt _ (by omega), rfl⟩
          refine x_e (show nI (bl (X >>> ((nI 5) &&& 31)) (qp σ a)) = nI b_12 by rw [eb_12]) ?_
          clear eb_12
          refine lv_iload_n hx hb dL_sticks_309 rfl (lv_at hl 4 rfl) ?_
          refine x_ifeq hx hb (by omega) (tgt := 337) dL_sticks_310 (by decide) (fun c_13 => ?_) (fun c_13 => ?_)
          · skip
            refine lv_iload hx hb dL_sticks_337 (lv_at hl 2 rfl) ?_
            refine lv_iconst (v := nI 4) hx hb dL_sticks_339 (by decide +kernel) ?_
            refine lv_ishr hx hb dL_sticks_340 ?_
            refine lv_bipush (v := nI 24) hx hb dL_sticks_341 (by decide +kernel) ?_
            refine ro_S (rest := [.int (nI b_12), .int (nI b_11), .int (nI a), .ref bs]) S hX.1 (c_L_below l Γ (X >>> ((nI 4) &&& 31)) 24 (by omega) (by omega)) (cwsticks_L_below hts) trivial rfl hl.1 rfl (Nat.le_of_ble_eq_true rfl) dL_sticks_343 ⟨by show _ ≤ 900; omega, by show _ ≤ 10200; omega⟩ ?_
            refine W.eq (g2 := F0 m 346 ls [.int (nI (bl (X >>> ((nI 4) &&& 31)) 24)), .int (nI b_12), .int (nI b_11), .int (nI a), .ref bs]) rfl ?_
            obtain ⟨b_14, hb_14, eb_14⟩ : ∃ z : Nat, z < 24 ∧ bl (X >>> ((nI 4) &&& 31)) 24 = z := ⟨_, bl_lt _ (by omega), rfl⟩
            refine x_e (show nI (bl (X >>> ((nI 4) &&& 31)) 24) = nI b_14 by rw [eb_14]) ?_
            clear eb_14
            refine q_carve hfl S hX hlow hI hy hC (Nat.le_refl _) (Nat.le_refl _) hb9 hlo ha hga (by omega) (by omega) (r := b_14) (by omega) (cwsticks_carve hts) hl.1 (Nat.le_of_ble_eq_true rfl) dL_sticks_346 ⟨by show _ ≤ 900; omega, by show _ ≤ 10200; omega⟩ (fun ad2 H3 lc3 hC3 hy3 hF3 hlo3 => ?_)
            refine W.eq (g2 := F0 m 349 ls [.int (rk σ a (3 * b_12 + b_11))]) rfl ?_
            refine lv_pop hx hb dL_sticks_349 rfl ?_
            refine W.widen (k := 98 + 12 * u + 12) (n := 724 + 156 * u + 156) (by omega) (by omega) ?_
            exact fin _ _ _ _ (hLI.step (Iv_rune hI (by omega) (Or.inr ⟨_, by omega, rfl⟩)) (Jv_rune hJ) hC3 hy3 hF3 hlo3) ls (lv_sub hl [3, 4, 5, 6] rfl)
          · skip
            refine lv_bipush (v := nI 8) hx hb dL_sticks_313 (by decide +kernel) ?_
            refine lv_iload hx hb dL_sticks_315 (lv_at hl 2 rfl) ?_
            refine lv_bipush (v := nI 7) hx hb dL_sticks_317 (by decide +kernel) ?_
            refine lv_ishr hx hb dL_sticks_319 ?_
            refine lv_iconst (v := nI 3) hx hb dL_sticks_320 (by decide +kernel) ?_
            refine ro_S (rest := [.int (nI 8), .int (nI b_12), .int (nI b_11), .int (nI a), .ref bs]) S hX.1 (c_L_below l Γ (X >>> ((nI 7) &&& 31)) 3 (by omega) (by omega)) (cwsticks_L_below hts) trivial rfl hl.1 rfl (Nat.le_of_ble_eq_true rfl) dL_sticks_321 ⟨by show _ ≤ 900; omega, by show _ ≤ 10200; omega⟩ ?_
            refine W.eq (g2 := F0 m 324 ls [.int (nI (bl (X >>> ((nI 7) &&& 31)) 3)), .int (nI 8), .int (nI b_12), .int (nI b_11), .int (nI a), .ref bs]) rfl ?_
            obtain ⟨b_15, hb_15, eb_15⟩ : ∃ z : Nat, z < 3 ∧ bl (X >>> ((nI 7) &&& 31)) 3 = z := ⟨_, bl_lt _ (by omega), rfl⟩
            refine x_e (show nI (bl (X >>> ((nI 7) &&& 31)) 3) = nI b_15 by rw [eb_15]) ?_
            clear eb_15
            refine x_mul hx hb dL_sticks_324 ?_
            refine lv_iload hx hb dL_sticks_325 (lv_at hl 2 rfl) ?_
            refine lv_iconst (v := nI 4) hx hb dL_sticks_327 (by decide +kernel) ?_
            refine lv_ishr hx hb dL_sticks_328 ?_
            refine lv_iconst (v := nI 2) hx hb dL_sticks_329 (by decide +kernel) ?_
            refine ro_S (rest := [.int (nI (8 * b_15)), .int (nI b_12), .int (nI b_11), .int (nI a), .ref bs]) S hX.1 (c_L_below l Γ (X >>> ((nI 4) &&& 31)) 2 (by omega) (by omega)) (cwsticks_L_below hts) trivial rfl hl.1 rfl (Nat.le_of_ble_eq_true rfl) dL_sticks_330 ⟨by show _ ≤ 900; omega, by show _ ≤ 10200; omega⟩ ?_
            refine W.eq (g2 := F0 m 333 ls [.int (nI (bl (X >>> ((nI 4) &&& 31)) 2)), .int (nI (8 * b_15)), .int (nI b_12), .int (nI b_11), .int (nI a), .ref bs]) rfl ?_
            obtain ⟨b_16, hb_16, eb_16⟩ : ∃ z : Nat, z < 2 ∧ bl (X >>> ((nI 4) &&& 31)) 2 = z := ⟨_, bl_lt _ (by omega), rfl⟩
            refine x_e (show nI (bl (X >>> ((nI 4) &&& 31)) 2) = nI b_16 by rw [eb_16]) ?_
            clear eb_16
            refine x_add hx hb dL_sticks_333 ?_
            refine lv_goto (tgt := 346) hx hb dL_sticks_334 (by decide) ?_
            refine q_carve hfl S hX hlow hI hy hC (Nat.le_refl _) (Nat.le_refl _) hb9 hlo ha hga (by omega) (by omega) (r := (8 * b_15) + b_16) (by omega) (cwsticks_carve hts) hl.1 (Nat.le_of_ble_eq_true rfl) dL_sticks_346 ⟨by show _ ≤ 900; omega, by show _ ≤ 10200; omega⟩ (fun ad2 H3 lc3 hC3 hy3 hF3 hlo3 => ?_)
            refine W.eq (g2 := F0 m 349 ls [.int (rk σ a (3 * b_12 + b_11))]) rfl ?_
            refine lv_pop hx hb dL_sticks_349 rfl ?_
            refine W.widen (k := 98 + 12 * u + 12) (n := 724 + 156 * u + 156) (by omega) (by omega) ?_
            exact fin _ _ _ _ (hLI.step (Iv_rune hI (by omega) (Or.inr ⟨_, by omega, rfl⟩)) (Jv_rune hJ) hC3 hy3 hF3 hlo3) ls (lv_sub hl [3, 4, 5, 6] rfl)
        refine lv_iconst (v := nI 1) hx hb dL_sticks_145 (by decide +kernel) ?_
        refine x_icne hx hb (by omega) (by omega) (tgt := 155) dL_sticks_146 (by decide) (fun c_4 => ?_) (fun c_4 => ?_)
        · skip
          exact key2 b_2 hb_2 (by omega) ls (lv_sub hl [1, 0, 3, 4, 5, 6, 7] rfl)
        · skip
          refine lv_iload hx hb dL_sticks_149 (lv_at hl 2 rfl) ?_
          refine lv_iconst (v := nI 1) hx hb dL_sticks_151 (by decide +kernel) ?_
          refine x_sub hx hb (by omega) dL_sticks_152 ?_
          refine lv_istore (lv' := [(7, .int (nI ((qn σ) - 1))), (8, .int (nI b_3)), (6, .int (nI (qn σ))), (5, .int X), (4, .int (nI u)), (3, .int (nI fw)), (1, .ref bs), (0, .ref sb)]) hx hb dL_sticks_153 hl (by decide) rfl (fun ls hl => ?_)
          exact key2 ((qn σ) - 1) (by omega) hJ.2.1 ls (lv_sub hl [0, 1, 3, 4, 5, 6, 7] rfl)
    refine lv_aload_n hx hb dL_sticks_55 rfl (lv_at hl 3 rfl) ?_
    refine lv_iconst (v := nI 2) hx hb dL_sticks_56 (by decide +kernel) ?_
    refine l_Sq (v0 := some (.int (cl L xs 2))) (rest := []) S hX hlow (c_L_cell l Γ bs sb L xs 2 (by omega)) (cwsticks_L_cell hts) trivial rfl hl.1 rfl (Nat.le_of_ble_eq_true rfl) dL_sticks_57 ⟨by show _ ≤ 900; omega, by show _ ≤ 10200; omega⟩ (fun v H1 h => h) ?_
    refine W.eq (g2 := F0 m 60 ls [.int (cl L xs 2)]) rfl ?_
    refine lv_iconst (v := nI 3) hx hb dL_sticks_60 (by decide +kernel) ?_
    refine ro_S (rest := []) S hX.1 (c_L_below l Γ (cl L xs 2) 3 (by omega) (by omega)) (cwsticks_L_below hts) trivial rfl hl.1 rfl (Nat.le_of_ble_eq_true rfl) dL_sticks_61 ⟨by show _ ≤ 900; omega, by show _ ≤ 10200; omega⟩ ?_
    refine W.eq (g2 := F0 m 64 ls [.int (nI (bl (cl L xs 2) 3))]) rfl ?_
    obtain ⟨b_3, hb_3, eb_3⟩ : ∃ z : Nat, z < 3 ∧ bl (cl L xs 2) 3 = z := ⟨_, bl_lt _ (by omega), rfl⟩
    refine x_e (show nI (bl (cl L xs 2) 3) = nI b_3 by rw [eb_3]) ?_
    clear eb_3
    refine x_ifle hx hb (by omega) (tgt := 71) dL_sticks_64 (by decide) (fun c_1 => ?_) (fun c_1 => ?_)
    · skip
      refine lv_iconst (v := nI 0) hx hb dL_sticks_71 (by decide +kernel) ?_
      refine lv_istore_n (lv' := [(3, .int (nI 0)), (2, .int (nI md)), (1, .ref bs), (0, .ref sb)]) hx hb dL_sticks_72 rfl hl (by decide) rfl (fun ls hl => ?_)
      exact key 0 (by omega) ls (lv_sub hl [0, 2, 3] rfl)
    · skip
      refine lv_iconst (v := nI 1) hx hb dL_sticks_67 (by decide +kernel) ?_
      refine lv_goto (tgt := 72) hx hb dL_sticks_68 (by decide) ?_
      refine lv_istore_n (lv' := [(3, .int (nI 1)), (2, .int (nI md)), (1, .ref bs), (0, .ref sb)]) hx hb dL_sticks_72 rfl hl (by decide) rfl (fun ls hl => ?_)
      exact key 1 (by omega) ls (lv_sub hl [0, 2, 3] rfl)
  · skip
    refine lv_aload_n hx hb dL_sticks_28 rfl (lv_at hl 2 rfl) ?_
    refine lv_iconst (v := nI 1) hx hb dL_sticks_29 (by decide +kernel) ?_
    refine lv_aload_n hx hb dL_sticks_30 rfl (lv_at hl 3 rfl) ?_
    refine lv_iconst (v := nI 1) hx hb dL_sticks_31 (by decide +kernel) ?_
    refine l_Sq (v0 := some (.int (cl L xs 1))) (rest := [.int (nI 1), .ref bs]) S hX hlow (c_L_cell l Γ bs sb L xs 1 (by omega)) (cwsticks_L_cell hts) trivial rfl hl.1 rfl (Nat.le_of_ble_eq_true rfl) dL_sticks_32 ⟨by show _ ≤ 900; omega, by show _ ≤ 10200; omega⟩ (fun v H1 h => h) ?_
    refine W.eq (g2 := F0 m 35 ls [.int (cl L xs 1), .int (nI 1), .ref bs]) rfl ?_
    refine lv_iconst (v := nI 2) hx hb dL_sticks_35 (by decide +kernel) ?_
    refine lv_iload_n hx hb dL_sticks_36 rfl (lv_at hl 0 rfl) ?_
    refine x_mul hx hb dL_sticks_37 ?_
    refine lv_ishr hx hb dL_sticks_38 ?_
    refine lv_bipush (v := nI 12) hx hb dL_sticks_39 (by decide +kernel) ?_
    refine ro_S (rest := [.int (nI 1), .ref bs]) S hX.1 (c_L_below l Γ ((cl L xs 1) >>> ((nI (2 * u)) &&& 31)) 12 (by omega) (by omega)) (cwsticks_L_below hts) trivial rfl hl.1 rfl (Nat.le_of_ble_eq_true rfl) dL_sticks_41 ⟨by show _ ≤ 900; omega, by show _ ≤ 10200; omega⟩ ?_
    refine W.eq (g2 := F0 m 44 ls [.int (nI (bl ((cl L xs 1) >>> ((nI (2 * u)) &&& 31)) 12)), .int (nI 1), .ref bs]) rfl ?_
    obtain ⟨b_4, hb_4, eb_4⟩ : ∃ z : Nat, z < 12 ∧ bl ((cl L xs 1) >>> ((nI (2 * u)) &&& 31)) 12 = z := ⟨_, bl_lt _ (by omega), rfl⟩
    refine x_e (show nI (bl ((cl L xs 1) >>> ((nI (2 * u)) &&& 31)) 12) = nI b_4 by rw [eb_4]) ?_
    clear eb_4
    refine x_add hx hb dL_sticks_44 ?_
    refine q_make hfl S hX hlow hI hy hC (Nat.le_refl _) (Nat.le_refl _) hb9 hlo (P := 1 + b_4) (by omega) (by omega) (by omega) (by omega) (cwsticks_make hts) hl.1 (Nat.le_of_ble_eq_true rfl) dL_sticks_45 ⟨by show _ ≤ 900; omega, by show _ ≤ 10200; omega⟩ (fun ad2 H3 lc3 hC3 hy3 hF3 hlo3 => ?_)
    refine W.eq (g2 := F0 m 48 ls [.int (nI (qn σ))]) rfl ?_
    refine lv_pop hx hb dL_sticks_48 rfl ?_
    refine x_iinc (n := 1) (lv' := [(3, .int (nI (u + 1))), (2, .int (nI md)), (1, .ref bs), (0, .ref sb)]) hx hb dL_sticks_49 hl (k := 0) rfl (by decide) rfl (fun ls hl => ?_)
    refine lv_goto (tgt := 23) hx hb dL_sticks_52 (by decide) ?_
    refine W.widen (k := 50 + 6 * (u + 1)) (n := 100 + 78 * (u + 1)) (by omega) (by omega) ?_
    exact ih (u + 1) H3 lc3 ⟨by omega, sMake σ (1 + b_4), ad2, Iv_make hI (by omega) (by omega) (by omega) (by omega) (by decide), Kv_make hKv, by show qn σ + 1 = u + 1; omega, (thr_make hI).trans (by omega), fun _ => hI.2.2.1 _ (Nat.le_refl _), hy3, hC3, hlo3, by have := hF3.1; omega, fun q hq => (hF3.2 q (by omega) (by omega) (by omega) (fun i hi => Or.inl (by have := hy.1 i hi; omega))).trans (hlow q hq)⟩ (by omega) ls (lv_sub hl [0, 1, 2, 3] rfl)
