/-! told -/
def TInv (Γ : GG) (w bs : Nat) (s : State) (g : Nat → Int32) (c : Nat) (H : Heap) (locs : List Loc) : Prop :=
  lo bs locs ∧ H.size = w + 1 ∧ (∀ q : Nat, q < w → H[q]? = s.heap[q]?) ∧ ∃ f, Ai Γ w 60 f H ∧ ∀ i, i < 60 → (i < c → f i = g i) ∧ (c ≤ i → f i = nI 0)
theorem TInv.put {Γ : GG} {w bs : Nat} {s : State} {g : Nat → Int32} {c : Nat} {H H1 : Heap} {locs1 : List Loc} {f : Nat → Int32} {v : Int32} (hz0 : H.size = w + 1) (ho0 : ∀ q : Nat, q < w → H[q]? = s.heap[q]?) (hf : ∀ i, i < 60 → (i < c → f i = g i) ∧ (c ≤ i → f i = nI 0)) (hA : Ai Γ w 60 (upd f c v) H1) (hz : H1.size = H.size) (ho : ∀ q : Nat, q ≠ w → H1[q]? = H[q]?) (hlo : lo bs locs1) (hv : v = g c) : TInv Γ w bs s g (c + 1) H1 locs1 := by
  refine ⟨hlo, by omega, fun q hq => (ho q (by omega)).trans (ho0 q hq), _, hA, fun i hi => ⟨fun h => ?_, fun h => ?_⟩⟩
  · by_cases e : i = c
    · rw [e, upd_s, hv]
    · rw [upd_n e]
      exact (hf i hi).1 (by omega)
  · rw [upd_n (by omega)]
    exact (hf i hi).2 (by omega)
set_option maxHeartbeats 4000000 in
set_option maxRecDepth 100000 in
theorem c_L_told (l : Launch) (hfl : l.stackTraces = false) (Γ : GG) (bs sb L : Nat) (xs : Nat → Int32) (x : Nat) (σ : St) (ad : Nat → Nat) (hI : Iv σ) (b0 k : Nat) (hk : k < qn σ) (hy : Ly b0 σ ad) (hb0 : x + 2 ≤ b0) (hbs : bs ≤ x) : Lx l yL_told wsL_told ({ frames := 8, cells := 3, slots := 72, locals := 134 }) Γ bs sb L xs [.ref x, .int (nI k)] (fun H => CW Γ x σ ad H ∧ b0 ≤ H.size) (fun H v H2 => v = some (.ref H.size) ∧ H2.size = H.size + 1 ∧ Ai Γ H.size 60 (tv σ k) H2 ∧ ∀ q : Nat, q < H.size → H2[q]? = H[q]?) 3 72 := by
  refine Lx.of (cc := cL_told) (maxL := 4) (ret := some (.array .int)) (by decide) rfl (Nat.le_of_ble_eq_true rfl) ?_
  intro p e s m below meth c S hr hlk hX hW ls hl
  obtain ⟨hx, hb, hml, hown, hts⟩ := id S
  obtain ⟨hC0, hsz0⟩ := hW
  have h40 := hI.1
  have hp1 := (hI.2.1 k hk).1
  have hp2 := (hI.2.1 k hk).2.1
  obtain ⟨w, hw⟩ : ∃ z : Nat, s.heap.size = z := ⟨_, rfl⟩
  have hl : lv_has ls 4 [(0, .ref x), (1, .int (nI k))] := hl
  have cw_stick : CallW { frames := 8, cells := 3, slots := 72, locals := 134 } s ([.ref x, .int (nI k)] : List Value).toArray RL RX1 29 yX1_stick cX1_stick 4 (some .int) wsX1_stick ({ frames := 7, cells := 2, slots := 12, locals := 110 }) 2 12 2 := cwV 2 hts gL_told_X1_stick rfl rfl rfl (by decide +kernel) ⟨Nat.le_of_ble_eq_true rfl, Nat.le_of_ble_eq_true rfl⟩
  have cw_rune : CallW { frames := 8, cells := 3, slots := 72, locals := 134 } s ([.ref x, .int (nI k)] : List Value).toArray RL RX1 75 yX1_rune cX1_rune 5 (some .int) wsX1_rune ({ frames := 7, cells := 2, slots := 12, locals := 104 }) 2 12 3 := cwV 3 hts gL_told_X1_rune rfl rfl rfl (by decide +kernel) ⟨Nat.le_of_ble_eq_true rfl, Nat.le_of_ble_eq_true rfl⟩
  have cw_strength : CallW { frames := 8, cells := 3, slots := 72, locals := 134 } s ([.ref x, .int (nI k)] : List Value).toArray RL RX1 72 yX1_strength cX1_strength 4 (some .int) wsX1_strength ({ frames := 7, cells := 2, slots := 12, locals := 104 }) 2 12 2 := cwV 2 hts gL_told_X1_strength rfl rfl rfl (by decide +kernel) ⟨Nat.le_of_ble_eq_true rfl, Nat.le_of_ble_eq_true rfl⟩
  refine lv_bipush (v := nI 60) hx hb dL_told_0 (by decide +kernel) ?_
  refine x_newI hx hb hX.1 (hts _ (by decide +kernel)) (by omega) (Nat.le_of_ble_eq_true rfl) (Nat.le_of_ble_eq_true rfl) dL_told_2 (fun H hA hz ho => ?_)
  rw [hw] at hA hz ho
  refine x_v (congrArg Value.ref hw) ?_
  refine lv_astore_n (lv' := [(2, .ref w), (0, .ref x), (1, .int (nI k))]) hx hb dL_told_4 rfl hl (by decide) rfl (fun ls hl => ?_)
  refine lv_iconst (v := nI 0) hx hb dL_told_5 (by decide +kernel) ?_
  refine lv_istore_n (lv' := [(3, .int (nI 0)), (2, .ref w), (0, .ref x), (1, .int (nI k))]) hx hb dL_told_6 rfl hl (by decide) rfl (fun ls hl => ?_)
  refine x_loopH (fun u => [(3, .int (nI u)), (2, .ref w), (0, .ref x), (1, .int (nI k))]) (fun u H locs => u ≤ 7 ∧ TInv Γ w bs s (tv σ k) u H locs) (fun u => 7 - u) ?_ 0 ⟨by omega, lo.nil, by omega, ho, _, hA, fun i _ => ⟨fun h => absurd h (Nat.not_lt_zero i), fun _ => rfl⟩⟩ ls hl
  intro u H locs hu ih ls hl
  obtain ⟨hu7, hT⟩ := hu
  obtain ⟨hlo, hz0, ho0, f, hA, hf⟩ := id hT
  have hlow : ∀ q : Nat, q < bs → H[q]? = s.heap[q]? := fun q hq => ho0 q (by omega)
  have hC : CW Γ x σ ad H := hC0.kept fun q hq => ho0 q (by omega)
  refine lv_iload_n hx hb dL_told_7 rfl (lv_at hl 0 rfl) ?_
  refine lv_bipush (v := nI 7) hx hb dL_told_8 (by decide +kernel) ?_
  refine x_icge hx hb (by omega) (by omega) (tgt := 28) dL_told_10 (by decide) (fun c_1 => ?_) (fun c_1 => ?_)
  · skip
    have e7 : u = 7 := by omega
    subst e7
    refine lv_iconst (v := nI 0) hx hb dL_told_28 (by decide +kernel) ?_
    refine lv_istore_n (lv' := [(3, .int (nI 0)), (2, .ref w), (0, .ref x), (1, .int (nI k))]) hx hb dL_told_29 rfl hl (by decide) rfl (fun ls hl => ?_)
    refine x_loopH (fun u => [(3, .int (nI u)), (2, .ref w), (0, .ref x), (1, .int (nI k))]) (fun u H locs => u ≤ 3 * qp σ k ∧ TInv Γ w bs s (tv σ k) (7 + u) H locs) (fun u => 36 - u) ?_ 0 ⟨by omega, hT⟩ ls hl
    clear hT hlo hz0 ho0 hA hf hlow hC hl ih hu7 c_1 ls f locs H
    intro u H locs hu ih ls hl
    obtain ⟨hu7, hT⟩ := hu
    obtain ⟨hlo, hz0, ho0, f, hA, hf⟩ := id hT
    have hlow : ∀ q : Nat, q < bs → H[q]? = s.heap[q]? := fun q hq => ho0 q (by omega)
    have hC : CW Γ x σ ad H := hC0.kept fun q hq => ho0 q (by omega)
    have ef : f 0 = nI (qp σ k) := (hf 0 (by omega)).1 (by omega)
    refine lv_iload_n hx hb dL_told_30 rfl (lv_at hl 0 rfl) ?_
    refine lv_iconst (v := nI 3) hx hb dL_told_31 (by decide +kernel) ?_
    refine lv_aload_n hx hb dL_told_32 rfl (lv_at hl 1 rfl) ?_
    refine lv_iconst (v := nI 0) hx hb dL_told_33 (by decide +kernel) ?_
    refine x_iald hx hb hX.1 hA (by omega) (by omega) dL_told_34 ?_
    refine x_e ef ?_
    refine x_mul hx hb dL_told_35 ?_
    refine x_icge hx hb (by omega) (by omega) (tgt := 62) dL_told_36 (by decide) (fun c_1 => ?_) (fun c_1 => ?_)
    · skip
      have e7 : u = 3 * qp σ k := by omega
      subst e7
      have hT3 : TInv Γ w bs s (tv σ k) 43 H locs := by
        refine ⟨hlo, hz0, ho0, f, hA, fun i hi => ⟨fun h => ?_, fun h => (hf i hi).2 (by omega)⟩⟩
        by_cases h2 : i < 7 + 3 * qp σ k
        · exact (hf i hi).1 h2
        · have e9 : tv σ k i = nI 0 := by
            unfold tv
            rw [if_neg (by omega), if_pos (by omega), if_neg (by omega)]
          rw [e9]
          exact (hf i hi).2 (by omega)
      refine lv_iconst (v := nI 0) hx hb dL_told_62 (by decide +kernel) ?_
      refine lv_istore_n (lv' := [(3, .int (nI 0)), (2, .ref w), (0, .ref x), (1, .int (nI k))]) hx hb dL_told_63 rfl hl (by decide) rfl (fun ls hl => ?_)
      refine x_loopH (fun u => [(3, .int (nI u)), (2, .ref w), (0, .ref x), (1, .int (nI k))]) (fun u H locs => u ≤ qp σ k - 1 ∧ TInv Γ w bs s (tv σ k) (43 + u) H locs) (fun u => 12 - u) ?_ 0 ⟨by omega, hT3⟩ ls hl
      clear hT3 hT hlo hz0 ho0 hA hf hlow hC hl ih hu7 c_1 ls ef f locs H
      intro u H locs hu ih ls hl
      obtain ⟨hu7, hT⟩ := hu
      obtain ⟨hlo, hz0, ho0, f, hA, hf⟩ := id hT
      have hlow : ∀ q : Nat, q < bs → H[q]? = s.heap[q]? := fun q hq => ho0 q (by omega)
      have hC : CW Γ x σ ad H := hC0.kept fun q hq => ho0 q (by omega)
      have ef : f 0 = nI (qp σ k) := (hf 0 (by omega)).1 (by omega)
      refine lv_iload_n hx hb dL_told_64 rfl (lv_at hl 0 rfl) ?_
      refine lv_iconst (v := nI 1) hx hb dL_told_65 (by decide +kernel) ?_
      refine x_add hx hb dL_told_66 ?_
      refine lv_aload_n hx hb dL_told_67 rfl (lv_at hl 1 rfl) ?_
      refine lv_iconst (v := nI 0) hx hb dL_told_68 (by decide +kernel) ?_
      refine x_iald hx hb hX.1 hA (by omega) (by omega) dL_told_69 ?_
      refine x_e ef ?_
      refine x_icge hx hb (by omega) (by omega) (tgt := 91) dL_told_70 (by decide) (fun c_1 => ?_) (fun c_1 => ?_)
      · skip
        have hfin : ∀ i, i < 60 → f i = tv σ k i := fun i hi => by
          by_cases h2 : i < 43 + u
          · exact (hf i hi).1 h2
          · have e9 : tv σ k i = nI 0 := by
              unfold tv
              rw [if_neg (by omega), if_neg (by omega), if_neg (by omega)]
            rw [e9]
            exact (hf i hi).2 (by omega)
        refine lv_aload_n hx hb dL_told_91 rfl (lv_at hl 1 rfl) ?_
        refine W.widen (k := 3) (n := 72) (Nat.le_of_ble_eq_true rfl) (Nat.le_of_ble_eq_true rfl) ?_
        subst hw
        exact W.aret hx hb hr (Or.inr ⟨_, rfl⟩) (Or.inr ⟨_, rfl⟩) (fun t ht _ => ⟨_, rfl, rfl, by rw [ht]; exact hz0, by rw [ht]; exact hA.ext hfin, by rw [ht]; exact ho0⟩) hlo dL_told_92 hlk
      · skip
        refine lv_aload_n hx hb dL_told_73 rfl (lv_at hl 1 rfl) ?_
        refine lv_bipush (v := nI 43) hx hb dL_told_74 (by decide +kernel) ?_
        refine lv_iload_n hx hb dL_told_76 rfl (lv_at hl 0 rfl) ?_
        refine x_add hx hb dL_told_77 ?_
        refine lv_aload_n hx hb dL_told_78 rfl (lv_at hl 2 rfl) ?_
        refine lv_iload_n hx hb dL_told_79 rfl (lv_at hl 3 rfl) ?_
        refine lv_iload_n hx hb dL_told_80 rfl (lv_at hl 0 rfl) ?_
        have et : stn (rk σ k) (ak σ k) u = tv σ k (43 + u) := by
          unfold tv
          rw [if_neg (by omega), if_neg (by omega), if_pos (by omega), show 43 + u - 43 = u by omega]
        refine q_strength (v := .int (tv σ k (43 + u))) hfl S hX hlow hI hy hC hk (by omega) cw_strength hl.1 (Nat.le_of_ble_eq_true rfl) dL_told_81 ⟨(Nat.le_of_ble_eq_true rfl), (Nat.le_of_ble_eq_true rfl)⟩ (congrArg Value.int et) ?_
        refine W.eq (g2 := F0 m 84 ls [.int (tv σ k (43 + u)), .int (nI (43 + u)), .ref w]) rfl ?_
        refine x_iast hx hb hX.1 hA (by omega) (by omega) hlo (by omega) dL_told_84 (fun H1 lc1 hA1 hz1 ho1 hlo1 => ?_)
        refine x_iinc (n := 1) (lv' := [(3, .int (nI (u + 1))), (2, .ref w), (0, .ref x), (1, .int (nI k))]) hx hb dL_told_85 hl (k := 0) rfl (by decide) rfl (fun ls hl => ?_)
        refine lv_goto (tgt := 64) hx hb dL_told_88 (by decide) ?_
        exact ih (u + 1) H1 lc1 ⟨by omega, TInv.put hz0 ho0 hf hA1 hz1 ho1 hlo1 rfl⟩ (by omega) ls hl
    · skip
      refine lv_aload_n hx hb dL_told_39 rfl (lv_at hl 1 rfl) ?_
      refine lv_bipush (v := nI 7) hx hb dL_told_40 (by decide +kernel) ?_
      refine lv_iload_n hx hb dL_told_42 rfl (lv_at hl 0 rfl) ?_
      refine x_add hx hb dL_told_43 ?_
      refine lv_aload_n hx hb dL_told_44 rfl (lv_at hl 2 rfl) ?_
      refine lv_iload_n hx hb dL_told_45 rfl (lv_at hl 3 rfl) ?_
      refine lv_iload_n hx hb dL_told_46 rfl (lv_at hl 0 rfl) ?_
      refine lv_iconst (v := nI 3) hx hb dL_told_47 (by decide +kernel) ?_
      refine x_rem hx hb (by omega) (by omega) (by omega) dL_told_48 ?_
      refine lv_iload_n hx hb dL_told_49 rfl (lv_at hl 0 rfl) ?_
      refine lv_iconst (v := nI 3) hx hb dL_told_50 (by decide +kernel) ?_
      refine x_div hx hb (by omega) (by omega) (by omega) dL_told_51 ?_
      have et : rk σ k (3 * (u / 3) + u % 3) = tv σ k (7 + u) := by
        unfold tv
        rw [if_neg (by omega), if_pos (by omega), if_pos (by omega), show 7 + u - 7 = 3 * (u / 3) + u % 3 by omega]
      refine q_rune (v := .int (tv σ k (7 + u))) hfl S hX hlow hI hy hC hk (by omega) (by omega) cw_rune hl.1 (Nat.le_of_ble_eq_true rfl) dL_told_52 ⟨(Nat.le_of_ble_eq_true rfl), (Nat.le_of_ble_eq_true rfl)⟩ (congrArg Value.int et) ?_
      refine W.eq (g2 := F0 m 55 ls [.int (tv σ k (7 + u)), .int (nI (7 + u)), .ref w]) rfl ?_
      refine x_iast hx hb hX.1 hA (by omega) (by omega) hlo (by omega) dL_told_55 (fun H1 lc1 hA1 hz1 ho1 hlo1 => ?_)
      refine x_iinc (n := 1) (lv' := [(3, .int (nI (u + 1))), (2, .ref w), (0, .ref x), (1, .int (nI k))]) hx hb dL_told_56 hl (k := 0) rfl (by decide) rfl (fun ls hl => ?_)
      refine lv_goto (tgt := 30) hx hb dL_told_59 (by decide) ?_
      exact ih (u + 1) H1 lc1 ⟨by omega, TInv.put hz0 ho0 hf hA1 hz1 ho1 hlo1 rfl⟩ (by omega) ls hl
  · skip
    refine lv_aload_n hx hb dL_told_13 rfl (lv_at hl 1 rfl) ?_
    refine lv_iload_n hx hb dL_told_14 rfl (lv_at hl 0 rfl) ?_
    refine lv_aload_n hx hb dL_told_15 rfl (lv_at hl 2 rfl) ?_
    refine lv_iload_n hx hb dL_told_16 rfl (lv_at hl 3 rfl) ?_
    refine lv_iload_n hx hb dL_told_17 rfl (lv_at hl 0 rfl) ?_
    refine q_stick (v := .int (tv σ k u)) hfl S hX hlow hI hy hC hk (by omega) cw_stick hl.1 (Nat.le_of_ble_eq_true rfl) dL_told_18 ⟨(Nat.le_of_ble_eq_true rfl), (Nat.le_of_ble_eq_true rfl)⟩ (congrArg Value.int (if_pos c_1).symm) ?_
    refine W.eq (g2 := F0 m 21 ls [.int (tv σ k u), .int (nI u), .ref w]) rfl ?_
    refine x_iast hx hb hX.1 hA (by omega) (by omega) hlo (by omega) dL_told_21 (fun H1 lc1 hA1 hz1 ho1 hlo1 => ?_)
    refine x_iinc (n := 1) (lv' := [(3, .int (nI (u + 1))), (2, .ref w), (0, .ref x), (1, .int (nI k))]) hx hb dL_told_22 hl (k := 0) rfl (by decide) rfl (fun ls hl => ?_)
    refine lv_goto (tgt := 7) hx hb dL_told_25 (by decide) ?_
    exact ih (u + 1) H1 lc1 ⟨by omega, TInv.put hz0 ho0 hf hA1 hz1 ho1 hlo1 rfl⟩ (by omega) ls hl
