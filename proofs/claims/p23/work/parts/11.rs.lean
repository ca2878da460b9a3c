theorem inb_of2 {x : Int32} {n : Nat} (h1 : ¬ x < 0) (h2 : x < nI n) (hn : n < 2 ^ 31) : inb x n :=
  inb_of hn h1 (Int32.not_le.mpr h2)
theorem inb_lt {x : Int32} {n k : Nat} (h : inb x n) (hk : n ≤ k) (hk2 : k < 2 ^ 31) : x < nI k := by
  apply Int32.lt_iff_toInt_lt.mpr
  rw [nI_toInt hk2]
  have := h.2
  omega
theorem lr_zero {f : Nat → Int32} {n : Nat} (h : cU f n = 0) : lr f n = [] := List.eq_nil_of_length_eq_zero (by rw [lr_len, h])
theorem in_X1_stickOrNull_X1 : ∀ w ∈ wsX10, w ∈ wsX1_stickOrNull := by decide +kernel
set_option maxHeartbeats 4000000 in
set_option maxRecDepth 100000 in
theorem c_X1_stickOrNull (l : Launch) (Γ : GG) (x : Nat) (σ : St) (ad : Nat → Nat) (hI : Iv σ) (y : Int32)  : Ro l yX1_stickOrNull wsX1_stickOrNull ({ frames := 0, cells := 0, slots := 0, locals := 0 }) Γ [.ref x, .int y] (CW Γ x σ ad) (some (va_rf (sr σ ad y))) := by
  refine Ro.of (cc := cX1_stickOrNull) (maxL := 2) (ret := some (.object "RuneSticks$Stick")) (by decide) rfl (Nat.le_of_ble_eq_true rfl) ?_
  intro p e s m below meth c S hr hlk hK hW ls hl
  obtain ⟨hx, hb, hml, hown, hts⟩ := id S
  have hl : lv_has ls 2 [(0, .ref x), (1, .int y)] := hl
  have hn40 := hI.1
  refine lv_iload_n hx hb dX1_stickOrNull_0 rfl (lv_at hl 1 rfl) ?_
  refine lv_if_lt (tgt := 13) hx hb dX1_stickOrNull_1 (by decide) (fun c_1 => ?_) (fun c_1 => ?_)
  · skip
    refine lv_null hx hb dX1_stickOrNull_13 ?_
    refine lv_goto (tgt := 23) hx hb dX1_stickOrNull_14 (by decide) ?_
    refine x_v (show Value.null = va_rf (sr σ ad y) by rw [sr_none (fun q => inb_lt0 c_1 q)]; rfl) ?_
    exact ro_aret hx hb hr hlk dX1_stickOrNull_23
  · skip
    refine lv_iload_n hx hb dX1_stickOrNull_4 rfl (lv_at hl 1 rfl) ?_
    refine lv_aload_n hx hb dX1_stickOrNull_5 rfl (lv_at hl 0 rfl) ?_
    refine x_get S in_X1_stickOrNull_X1 hK hW.1 rfl 0 (by decide) (by decide +kernel) rfl rfl dX1_stickOrNull_6 ?_
    refine x_qlen hx hb hK hW.2.1 dX1_stickOrNull_9 ?_
    refine lv_icmp_lt (tgt := 17) hx hb dX1_stickOrNull_10 (by decide) (fun c_2 => ?_) (fun c_2 => ?_)
    · skip
      obtain ⟨k, hk, rfl⟩ := inb_ex (inb_of2 c_1 c_2 (by decide))
      refine lv_aload_n hx hb dX1_stickOrNull_17 rfl (lv_at hl 0 rfl) ?_
      refine x_get S in_X1_stickOrNull_X1 hK hW.1 rfl 0 (by decide) (by decide +kernel) rfl rfl dX1_stickOrNull_18 ?_
      refine lv_iload_n hx hb dX1_stickOrNull_21 rfl (lv_at hl 1 rfl) ?_
      refine x_aald hx hb hK hW.2.1 (by omega) (by omega) dX1_stickOrNull_22 ?_
      refine x_v (show va_rf (if k < qn σ then some (ad k) else none) = va_rf (sr σ ad (nI k)) by rw [sr_nI (by omega)]) ?_
      exact ro_aret hx hb hr hlk dX1_stickOrNull_23
    · skip
      refine lv_null hx hb dX1_stickOrNull_13 ?_
      refine lv_goto (tgt := 23) hx hb dX1_stickOrNull_14 (by decide) ?_
      refine x_v (show Value.null = va_rf (sr σ ad y) by rw [sr_none (fun q => c_2 (inb_lt q (by omega) (by omega)))]; rfl) ?_
      exact ro_aret hx hb hr hlk dX1_stickOrNull_23
theorem in_X1_thereOrNull_X0 : ∀ w ∈ wsX00, w ∈ wsX1_thereOrNull := by decide +kernel
set_option maxHeartbeats 4000000 in
set_option maxRecDepth 100000 in
theorem c_X1_thereOrNull (l : Launch) (Γ : GG) (x : Nat) (σ : St) (ad : Nat → Nat) (hI : Iv σ) (k : Nat) (hk : k < qn σ) : Ro l yX1_thereOrNull wsX1_thereOrNull ({ frames := 1, cells := 0, slots := 0, locals := 21 }) Γ [.ref x, .int (nI k)] (CW Γ x σ ad) (some (va_rf (tr σ ad k))) := by
  refine Ro.of (cc := cX1_thereOrNull) (maxL := 3) (ret := some (.object "RuneSticks$Stick")) (by decide) rfl (Nat.le_of_ble_eq_true rfl) ?_
  intro p e s m below meth c S hr hlk hK hW ls hl
  obtain ⟨hx, hb, hml, hown, hts⟩ := id S
  have hl : lv_has ls 3 [(0, .ref x), (1, .int (nI k))] := hl
  have hn40 := hI.1
  refine lv_aload_n hx hb dX1_thereOrNull_0 rfl (lv_at hl 0 rfl) ?_
  refine lv_iload_n hx hb dX1_thereOrNull_1 rfl (lv_at hl 1 rfl) ?_
  refine ro_V (rest := []) S hK (c_X1_stickOrNull l Γ x σ ad hI (nI k)) (cwV 1 hts gX1_thereOrNull_X1_stickOrNull rfl rfl rfl (by decide +kernel) ⟨Nat.le_of_ble_eq_true rfl, Nat.le_of_ble_eq_true rfl⟩) (Ob.recv hK hW.1 rfl) hW rfl hl.1 rfl (Nat.le_of_ble_eq_true rfl) dX1_thereOrNull_2 ⟨Nat.zero_le _, Nat.zero_le _⟩ ?_
  refine W.eq (g2 := F0 m 5 ls [va_rf (sr σ ad (nI k))]) rfl ?_
  refine x_v (show va_rf (sr σ ad (nI k)) = .ref (ad k) by rw [sr_nI (by omega), if_pos (by omega)]; rfl) ?_
  refine lv_astore_n (lv' := [(2, .ref (ad k)), (0, .ref x), (1, .int (nI k))]) hx hb dX1_thereOrNull_5 rfl hl (by decide) rfl (fun ls hl => ?_)
  refine lv_aload_n hx hb dX1_thereOrNull_6 rfl (lv_at hl 0 rfl) ?_
  refine lv_ifnull hx hb dX1_thereOrNull_7 ?_
  refine lv_aload_n hx hb dX1_thereOrNull_10 rfl (lv_at hl 0 rfl) ?_
  refine x_get S in_X1_thereOrNull_X0 hK (hW.2.2 k (by omega)).1 rfl 4 (by decide) (by decide +kernel) rfl rfl dX1_thereOrNull_11 ?_
  have hgk := (hI.2.1 k (by omega)).2.2.2
  refine x_ifeq hx hb (by omega) (tgt := 21) dX1_thereOrNull_14 (by decide) (fun c_1 => ?_) (fun c_1 => ?_)
  · skip
    refine lv_aload_n hx hb dX1_thereOrNull_21 rfl (lv_at hl 0 rfl) ?_
    refine x_v (show Value.ref (ad k) = va_rf (tr σ ad k) by unfold tr; rw [if_pos c_1]; rfl) ?_
    exact ro_aret hx hb hr hlk dX1_thereOrNull_22
  · skip
    refine lv_null hx hb dX1_thereOrNull_17 ?_
    refine lv_goto (tgt := 22) hx hb dX1_thereOrNull_18 (by decide) ?_
    refine x_v (show Value.null = va_rf (tr σ ad k) by unfold tr; rw [if_neg (by omega)]; rfl) ?_
    exact ro_aret hx hb hr hlk dX1_thereOrNull_22
theorem in_X1_howManyThere_X1 : ∀ w ∈ wsX10, w ∈ wsX1_howManyThere := by decide +kernel
set_option maxHeartbeats 4000000 in
set_option maxRecDepth 100000 in
theorem c_X1_howManyThere (l : Launch) (Γ : GG) (x : Nat) (σ : St) (ad : Nat → Nat) (hI : Iv σ)   : Ro l yX1_howManyThere wsX1_howManyThere ({ frames := 2, cells := 0, slots := 0, locals := 43 }) Γ [.ref x] (CW Γ x σ ad) (some (.int (nI (thr σ (qn σ))))) := by
  refine Ro.of (cc := cX1_howManyThere) (maxL := 3) (ret := some .int) (by decide) rfl (Nat.le_of_ble_eq_true rfl) ?_
  intro p e s m below meth c S hr hlk hK hW ls hl
  obtain ⟨hx, hb, hml, hown, hts⟩ := id S
  have hl : lv_has ls 3 [(0, .ref x)] := hl
  have hn40 := hI.1
  refine lv_iconst (v := nI 0) hx hb dX1_howManyThere_0 (by decide +kernel) ?_
  refine lv_istore_n (lv' := [(1, .int (nI 0)), (0, .ref x)]) hx hb dX1_howManyThere_1 rfl hl (by decide) rfl (fun ls hl => ?_)
  refine lv_iconst (v := nI 0) hx hb dX1_howManyThere_2 (by decide +kernel) ?_
  refine lv_istore_n (lv' := [(2, .int (nI 0)), (1, .int (nI 0)), (0, .ref x)]) hx hb dX1_howManyThere_3 rfl hl (by decide) rfl (fun ls hl => ?_)
  refine x_loop (σ := Nat) (fun u => [(0, .ref x), (1, .int (nI (thr σ u))), (2, .int (nI u))]) (fun u => u ≤ qn σ) (fun u => qn σ - u) (fun u hu ih ls hl => ?_) 0 (by omega) ls (x_hl (lv_sub (l' := [(0, .ref x), (1, .int (nI 0)), (2, .int (nI 0))]) hl [2, 1, 0] rfl) rfl)
  obtain ⟨i, rfl⟩ : ∃ z, z = u := ⟨_, rfl⟩
  have hu : i ≤ qn σ := hu
  have hl : lv_has ls 3 [(0, .ref x), (1, .int (nI (thr σ i))), (2, .int (nI i))] := hl
  refine lv_iload_n hx hb dX1_howManyThere_4 rfl (lv_at hl 2 rfl) ?_
  refine lv_aload_n hx hb dX1_howManyThere_5 rfl (lv_at hl 0 rfl) ?_
  refine x_get S in_X1_howManyThere_X1 hK hW.1 rfl 1 (by decide) (by decide +kernel) rfl rfl dX1_howManyThere_6 ?_
  refine x_icge hx hb (by omega) (by omega) (tgt := 29) dX1_howManyThere_9 (by decide) (fun c_1 => ?_) (fun c_1 => ?_)
  · skip
    refine lv_iload_n hx hb dX1_howManyThere_29 rfl (lv_at hl 1 rfl) ?_
    refine x_e (show nI (thr σ i) = nI (thr σ (qn σ)) by rw [show i = qn σ by omega]) ?_
    exact ro_iret hx hb hr hlk dX1_howManyThere_30
  · skip
    refine lv_aload_n hx hb dX1_howManyThere_12 rfl (lv_at hl 0 rfl) ?_
    refine lv_iload_n hx hb dX1_howManyThere_13 rfl (lv_at hl 2 rfl) ?_
    refine ro_V (rest := []) S hK (c_X1_thereOrNull l Γ x σ ad hI i (by omega)) (cwV 1 hts gX1_howManyThere_X1_thereOrNull rfl rfl rfl (by decide +kernel) ⟨Nat.le_of_ble_eq_true rfl, Nat.le_of_ble_eq_true rfl⟩) (Ob.recv hK hW.1 rfl) hW rfl hl.1 rfl (Nat.le_of_ble_eq_true rfl) dX1_howManyThere_14 ⟨Nat.zero_le _, Nat.zero_le _⟩ ?_
    refine W.eq (g2 := F0 m 17 ls [va_rf (tr σ ad i)]) rfl ?_
    rcases Nat.eq_zero_or_pos (qg σ i) with hg | hg
    · skip
      refine x_v (show va_rf (tr σ ad i) = .ref (ad i) by unfold tr; rw [if_pos hg]; rfl) ?_
      refine lv_ifnull hx hb dX1_howManyThere_17 ?_
      refine x_iinc (n := 1) (lv' := [(1, .int (nI (thr σ i + 1))), (0, .ref x), (2, .int (nI i))]) hx hb dX1_howManyThere_20 hl (k := 1) rfl (by decide) rfl (fun ls hl => ?_)
      refine x_iinc (n := 1) (lv' := [(2, .int (nI (i + 1))), (1, .int (nI (thr σ i + 1))), (0, .ref x)]) hx hb dX1_howManyThere_23 hl (k := 2) rfl (by decide) rfl (fun ls hl => ?_)
      refine lv_goto (tgt := 4) hx hb dX1_howManyThere_26 (by decide) ?_
      have hl : lv_has ls 3 [(2, .int (nI (i + 1))), (1, .int (nI (thr σ (i + 1)))), (0, .ref x)] := x_hl hl (by rw [← thr_y hg])
      exact ih (i + 1) (by omega) (by omega) ls (lv_sub hl [2, 1, 0] rfl)
    · skip
      refine x_v (show va_rf (tr σ ad i) = .null by unfold tr; rw [if_neg (by omega)]; rfl) ?_
      refine lv_ifnullN (tgt := 23) hx hb dX1_howManyThere_17 (by decide) ?_
      refine x_iinc (n := 1) (lv' := [(2, .int (nI (i + 1))), (0, .ref x), (1, .int (nI (thr σ i)))]) hx hb dX1_howManyThere_23 hl (k := 2) rfl (by decide) rfl (fun ls hl => ?_)
      refine lv_goto (tgt := 4) hx hb dX1_howManyThere_26 (by decide) ?_
      have hl : lv_has ls 3 [(2, .int (nI (i + 1))), (0, .ref x), (1, .int (nI (thr σ (i + 1))))] := x_hl hl (by rw [← thr_n hg])
      exact ih (i + 1) (by omega) (by omega) ls (lv_sub hl [1, 2, 0] rfl)
theorem in_X1_sumThere_X1 : ∀ w ∈ wsX10, w ∈ wsX1_sumThere := by decide +kernel
set_option maxHeartbeats 4000000 in
set_option maxRecDepth 100000 in
theorem c_X1_sumThere (l : Launch) (Γ : GG) (x : Nat) (σ : St) (ad : Nat → Nat) (hI : Iv σ) (v : Nat) (hv : v < 7) : Ro l yX1_sumThere wsX1_sumThere ({ frames := 5, cells := 0, slots := 0, locals := 110 }) Γ [.ref x, .int (nI v)] (CW Γ x σ ad) (some (.int (tS σ (fun k => fk σ k v) (qn σ)))) := by
  refine Ro.of (cc := cX1_sumThere) (maxL := 5) (ret := some .int) (by decide) rfl (Nat.le_of_ble_eq_true rfl) ?_
  intro p e s m below meth c S hr hlk hK hW ls hl
  obtain ⟨hx, hb, hml, hown, hts⟩ := id S
  have hl : lv_has ls 5 [(0, .ref x), (1, .int (nI v))] := hl
  have hn40 := hI.1
  refine lv_iconst (v := nI 0) hx hb dX1_sumThere_0 (by decide +kernel) ?_
  refine lv_istore_n (lv' := [(2, .int (nI 0)), (0, .ref x), (1, .int (nI v))]) hx hb dX1_sumThere_1 rfl hl (by decide) rfl (fun ls hl => ?_)
  refine lv_iconst (v := nI 0) hx hb dX1_sumThere_2 (by decide +kernel) ?_
  refine lv_istore_n (lv' := [(3, .int (nI 0)), (2, .int (nI 0)), (0, .ref x), (1, .int (nI v))]) hx hb dX1_sumThere_3 rfl hl (by decide) rfl (fun ls hl => ?_)
  refine x_loop (σ := Nat) (fun u => [(0, .ref x), (1, .int (nI v)), (2, .int (tS σ (fun k => fk σ k v) u)), (3, .int (nI u))]) (fun u => u ≤ qn σ) (fun u => qn σ - u) (fun u hu ih ls hl => ?_) 0 (by omega) ls (x_hl (lv_sub (l' := [(0, .ref x), (1, .int (nI v)), (2, .int (nI 0)), (3, .int (nI 0))]) hl [2, 3, 1, 0] rfl) rfl)
  obtain ⟨i, rfl⟩ : ∃ z, z = u := ⟨_, rfl⟩
  have hu : i ≤ qn σ := hu
  have hl : lv_has ls 5 [(0, .ref x), (1, .int (nI v)), (2, .int (tS σ (fun k => fk σ k v) i)), (3, .int (nI i))] := hl
  refine lv_iload_n hx hb dX1_sumThere_4 rfl (lv_at hl 3 rfl) ?_
  refine lv_aload_n hx hb dX1_sumThere_5 rfl (lv_at hl 0 rfl) ?_
  refine x_get S in_X1_sumThere_X1 hK hW.1 rfl 1 (by decide) (by decide +kernel) rfl rfl dX1_sumThere_6 ?_
  refine x_icge hx hb (by omega) (by omega) (tgt := 39) dX1_sumThere_9 (by decide) (fun c_1 => ?_) (fun c_1 => ?_)
  · skip
    refine lv_iload_n hx hb dX1_sumThere_39 rfl (lv_at hl 2 rfl) ?_
    refine x_e (show tS σ (fun k => fk σ k v) i = tS σ (fun k => fk σ k v) (qn σ) by rw [show i = qn σ by omega]) ?_
    exact ro_iret hx hb hr hlk dX1_sumThere_40
  · skip
    refine lv_aload_n hx hb dX1_sumThere_12 rfl (lv_at hl 0 rfl) ?_
    refine lv_iload_n hx hb dX1_sumThere_13 rfl (lv_at hl 3 rfl) ?_
    refine ro_V (rest := []) S hK (c_X1_thereOrNull l Γ x σ ad hI i (by omega)) (cwV 1 hts gX1_sumThere_X1_thereOrNull rfl rfl rfl (by decide +kernel) ⟨Nat.le_of_ble_eq_true rfl, Nat.le_of_ble_eq_true rfl⟩) (Ob.recv hK hW.1 rfl) hW rfl hl.1 rfl (Nat.le_of_ble_eq_true rfl) dX1_sumThere_14 ⟨Nat.zero_le _, Nat.zero_le _⟩ ?_
    refine W.eq (g2 := F0 m 17 ls [va_rf (tr σ ad i)]) rfl ?_
    rcases Nat.eq_zero_or_pos (qg σ i) with hg | hg
    · skip
      refine x_v (show va_rf (tr σ ad i) = .ref (ad i) by unfold tr; rw [if_pos hg]; rfl) ?_
      refine lv_astore (lv' := [(4, .ref (ad i)), (0, .ref x), (1, .int (nI v)), (2, .int (tS σ (fun k => fk σ k v) i)), (3, .int (nI i))]) hx hb dX1_sumThere_17 hl (by decide) rfl (fun ls hl => ?_)
      refine lv_aload hx hb dX1_sumThere_19 (lv_at hl 0 rfl) ?_
      refine lv_ifnull hx hb dX1_sumThere_21 ?_
      refine lv_iload_n hx hb dX1_sumThere_24 rfl (lv_at hl 3 rfl) ?_
      refine lv_aload hx hb dX1_sumThere_25 (lv_at hl 0 rfl) ?_
      refine lv_iload_n hx hb dX1_sumThere_27 rfl (lv_at hl 2 rfl) ?_
      refine ro_V (rest := [.int (tS σ (fun k => fk σ k v) i)]) S hK (c_X0_factAt l Γ (ad i) (qp σ i) (qu σ i) (qB σ i) (qE σ i) (qg σ i) (rk σ i) (ak σ i) (lk σ i) (hI.2.1 i (by omega)).1 (hI.2.1 i (by omega)).2.1 v (by omega) (hI.2.1 i (by omega)).2.2.2) (cwV 1 hts gX1_sumThere_X0_factAt rfl rfl rfl (by decide +kernel) ⟨Nat.le_of_ble_eq_true rfl, Nat.le_of_ble_eq_true rfl⟩) (Ob.recv hK (hW.2.2 i (by omega)).1 rfl) (hW.2.2 i (by omega)) rfl hl.1 rfl (Nat.le_of_ble_eq_true rfl) dX1_sumThere_28 ⟨Nat.zero_le _, Nat.zero_le _⟩ ?_
      refine W.eq (g2 := F0 m 31 ls [.int (fk σ i v), .int (tS σ (fun k => fk σ k v) i)]) rfl ?_
      refine lv_iadd hx hb dX1_sumThere_31 ?_
      refine lv_istore_n (lv' := [(2, .int ((tS σ (fun k => fk σ k v) i) + (fk σ i v))), (4, .ref (ad i)), (0, .ref x), (1, .int (nI v)), (3, .int (nI i))]) hx hb dX1_sumThere_32 rfl hl (by decide) rfl (fun ls hl => ?_)
      refine x_iinc (n := 1) (lv' := [(3, .int (nI (i + 1))), (2, .int ((tS σ (fun k => fk σ k v) i) + (fk σ i v))), (4, .ref (ad i)), (0, .ref x), (1, .int (nI v))]) hx hb dX1_sumThere_33 hl (k := 4) rfl (by decide) rfl (fun ls hl => ?_)
      refine lv_goto (tgt := 4) hx hb dX1_sumThere_36 (by decide) ?_
      have hl : lv_has ls 5 [(3, .int (nI (i + 1))), (2, .int (tS σ (fun k => fk σ k v) (i + 1))), (4, .ref (ad i)), (0, .ref x), (1, .int (nI v))] := x_hl hl (by rw [show tS σ (fun k => fk σ k v) i + fk σ i v = tS σ (fun k => fk σ k v) (i + 1) from (tS_y (g := (fun k => fk σ k v)) hg).symm])
      exact ih (i + 1) (by omega) (by omega) ls (lv_sub hl [3, 4, 1, 0] rfl)
    · skip
      refine x_v (show va_rf (tr σ ad i) = .null by unfold tr; rw [if_neg (by omega)]; rfl) ?_
      refine lv_astoreN (lv' := [(4, .null), (0, .ref x), (1, .int (nI v)), (2, .int (tS σ (fun k => fk σ k v) i)), (3, .int (nI i))]) hx hb dX1_sumThere_17 hl (by decide) rfl (fun ls hl => ?_)
      refine lv_aloadN hx hb dX1_sumThere_19 (lv_at hl 0 rfl) ?_
      refine lv_ifnullN (tgt := 33) hx hb dX1_sumThere_21 (by decide) ?_
      refine x_iinc (n := 1) (lv' := [(3, .int (nI (i + 1))), (4, .null), (0, .ref x), (1, .int (nI v)), (2, .int (tS σ (fun k => fk σ k v) i))]) hx hb dX1_sumThere_33 hl (k := 4) rfl (by decide) rfl (fun ls hl => ?_)
      refine lv_goto (tgt := 4) hx hb dX1_sumThere_36 (by decide) ?_
      have hl : lv_has ls 5 [(3, .int (nI (i + 1))), (4, .null), (0, .ref x), (1, .int (nI v)), (2, .int (tS σ (fun k => fk σ k v) (i + 1)))] := x_hl hl (by rw [← tS_n (g := (fun k => fk σ k v)) hg])
      exact ih (i + 1) (by omega) (by omega) ls (lv_sub hl [2, 3, 4, 0] rfl)
theorem in_X1_fittingBehind_X1 : ∀ w ∈ wsX10, w ∈ wsX1_fittingBehind := by decide +kernel
set_option maxHeartbeats 4000000 in
set_option maxRecDepth 100000 in
theorem c_X1_fittingBehind (l : Launch) (Γ : GG) (x : Nat) (σ : St) (ad : Nat → Nat) (hI : Iv σ) (b0 : Nat) (a : Nat) (hy : Ly b0 σ ad) (ha : a < qn σ) (ha0 : qg σ a = 0) : Ro l yX1_fittingBehind wsX1_fittingBehind ({ frames := 2, cells := 0, slots := 0, locals := 43 }) Γ [.ref x, .ref (ad a)] (CW Γ x σ ad) (some (.int (nI (fB σ a (qn σ))))) := by
  refine Ro.of (cc := cX1_fittingBehind) (maxL := 5) (ret := some .int) (by decide) rfl (Nat.le_of_ble_eq_true rfl) ?_
  intro p e s m below meth c S hr hlk hK hW ls hl
  obtain ⟨hx, hb, hml, hown, hts⟩ := id S
  have hl : lv_has ls 5 [(0, .ref x), (1, .ref (ad a))] := hl
  have hn40 := hI.1
  refine lv_iconst (v := nI 0) hx hb dX1_fittingBehind_0 (by decide +kernel) ?_
  refine lv_istore_n (lv' := [(2, .int (nI 0)), (0, .ref x), (1, .ref (ad a))]) hx hb dX1_fittingBehind_1 rfl hl (by decide) rfl (fun ls hl => ?_)
  refine lv_iconst (v := nI 0) hx hb dX1_fittingBehind_2 (by decide +kernel) ?_
  refine lv_istore_n (lv' := [(3, .int (nI 0)), (2, .int (nI 0)), (0, .ref x), (1, .ref (ad a))]) hx hb dX1_fittingBehind_3 rfl hl (by decide) rfl (fun ls hl => ?_)
  refine x_loop (σ := Nat) (fun u => [(0, .ref x), (1, .ref (ad a)), (2, .int (nI (fB σ a u))), (3, .int (nI u))]) (fun u => u ≤ qn σ) (fun u => qn σ - u) (fun u hu ih ls hl => ?_) 0 (by omega) ls (x_hl (lv_sub (l' := [(0, .ref x), (1, .ref (ad a)), (2, .int (nI 0)), (3, .int (nI 0))]) hl [2, 3, 1, 0] rfl) rfl)
  obtain ⟨i, rfl⟩ : ∃ z, z = u := ⟨_, rfl⟩
  have hu : i ≤ qn σ := hu
  have hl : lv_has ls 5 [(0, .ref x), (1, .ref (ad a)), (2, .int (nI (fB σ a i))), (3, .int (nI i))] := hl
  refine lv_iload_n hx hb dX1_fittingBehind_4 rfl (lv_at hl 3 rfl) ?_
  refine lv_aload_n hx hb dX1_fittingBehind_5 rfl (lv_at hl 0 rfl) ?_
  refine x_get S in_X1_fittingBehind_X1 hK hW.1 rfl 1 (by decide) (by decide +kernel) rfl rfl dX1_fittingBehind_6 ?_
  refine x_icge hx hb (by omega) (by omega) (tgt := 42) dX1_fittingBehind_9 (by decide) (fun c_1 => ?_) (fun c_1 => ?_)
  · skip
    refine lv_iload_n hx hb dX1_fittingBehind_42 rfl (lv_at hl 2 rfl) ?_
    refine x_e (show nI (fB σ a i) = nI (fB σ a (qn σ)) by rw [show i = qn σ by omega]) ?_
    exact ro_iret hx hb hr hlk dX1_fittingBehind_43
  · skip
    refine lv_aload_n hx hb dX1_fittingBehind_12 rfl (lv_at hl 0 rfl) ?_
    refine lv_iload_n hx hb dX1_fittingBehind_13 rfl (lv_at hl 3 rfl) ?_
    refine ro_V (rest := []) S hK (c_X1_thereOrNull l Γ x σ ad hI i (by omega)) (cwV 1 hts gX1_fittingBehind_X1_thereOrNull rfl rfl rfl (by decide +kernel) ⟨Nat.le_of_ble_eq_true rfl, Nat.le_of_ble_eq_true rfl⟩) (Ob.recv hK hW.1 rfl) hW rfl hl.1 rfl (Nat.le_of_ble_eq_true rfl) dX1_fittingBehind_14 ⟨Nat.zero_le _, Nat.zero_le _⟩ ?_
    refine W.eq (g2 := F0 m 17 ls [va_rf (tr σ ad i)]) rfl ?_
    rcases Nat.eq_zero_or_pos (qg σ i) with hg | hg
    · skip
      refine x_v (show va_rf (tr σ ad i) = .ref (ad i) by unfold tr; rw [if_pos hg]; rfl) ?_
      refine lv_astore (lv' := [(4, .ref (ad i)), (0, .ref x), (1, .ref (ad a)), (2, .int (nI (fB σ a i))), (3, .int (nI i))]) hx hb dX1_fittingBehind_17 hl (by decide) rfl (fun ls hl => ?_)
      refine lv_aload hx hb dX1_fittingBehind_19 (lv_at hl 0 rfl) ?_
      refine lv_ifnull hx hb dX1_fittingBehind_21 ?_
      refine lv_aload_n hx hb dX1_fittingBehind_24 rfl (lv_at hl 2 rfl) ?_
      refine lv_aload hx hb dX1_fittingBehind_25 (lv_at hl 0 rfl) ?_
      refine ro_V (rest := []) S hK (c_X0_fitsAheadOf l Γ (ad a) (qp σ a) (qu σ a) (qB σ a) (qE σ a) (qg σ a) (rk σ a) (ak σ a) (lk σ a) (hI.2.1 a (by omega)).1 (hI.2.1 a (by omega)).2.1 (ad i) (qp σ i) (qu σ i) (qB σ i) (qE σ i) (qg σ i) (ad i + 1) (ad i + 2) (ad i + 3)) (cwV 1 hts gX1_fittingBehind_X0_fitsAheadOf rfl rfl rfl (by decide +kernel) ⟨Nat.le_of_ble_eq_true rfl, Nat.le_of_ble_eq_true rfl⟩) (Ob.recv hK (hW.2.2 a (by omega)).1 rfl) ⟨hW.2.2 a (by omega), (hW.2.2 i (by omega)).1⟩ rfl hl.1 rfl (Nat.le_of_ble_eq_true rfl) dX1_fittingBehind_27 ⟨Nat.zero_le _, Nat.zero_le _⟩ ?_
      refine W.eq (g2 := F0 m 30 ls [.int (nI (bP (¬ ad a = ad i ∧ ¬ qE σ a = -1 ∧ qE σ a = qB σ i)))]) rfl ?_
      have hbb := bP_le (¬ ad a = ad i ∧ ¬ qE σ a = -1 ∧ qE σ a = qB σ i)
      refine x_ifeq hx hb (by omega) (tgt := 36) dX1_fittingBehind_30 (by decide) (fun c_2 => ?_) (fun c_2 => ?_)
      · skip
        refine x_iinc (n := 1) (lv' := [(3, .int (nI (i + 1))), (4, .ref (ad i)), (0, .ref x), (1, .ref (ad a)), (2, .int (nI (fB σ a i)))]) hx hb dX1_fittingBehind_36 hl (k := 4) rfl (by decide) rfl (fun ls hl => ?_)
        refine lv_goto (tgt := 4) hx hb dX1_fittingBehind_39 (by decide) ?_
        have hl : lv_has ls 5 [(3, .int (nI (i + 1))), (4, .ref (ad i)), (0, .ref x), (1, .ref (ad a)), (2, .int (nI (fB σ a (i + 1))))] := x_hl hl (by rw [show fB σ a i = fB σ a (i + 1) by rw [fB_s, bP_f (fun q => bP_0 c_2 ⟨fun z => q.1 (hy.ne (by omega) (by omega) z), q.2.2.2⟩), Nat.add_zero]])
        exact ih (i + 1) (by omega) (by omega) ls (lv_sub hl [2, 3, 4, 0] rfl)
      · skip
        refine x_iinc (n := 1) (lv' := [(2, .int (nI (fB σ a i + 1))), (4, .ref (ad i)), (0, .ref x), (1, .ref (ad a)), (3, .int (nI i))]) hx hb dX1_fittingBehind_33 hl (k := 3) rfl (by decide) rfl (fun ls hl => ?_)
        refine x_iinc (n := 1) (lv' := [(3, .int (nI (i + 1))), (2, .int (nI (fB σ a i + 1))), (4, .ref (ad i)), (0, .ref x), (1, .ref (ad a))]) hx hb dX1_fittingBehind_36 hl (k := 4) rfl (by decide) rfl (fun ls hl => ?_)
        refine lv_goto (tgt := 4) hx hb dX1_fittingBehind_39 (by decide) ?_
        have hl : lv_has ls 5 [(3, .int (nI (i + 1))), (2, .int (nI (fB σ a (i + 1)))), (4, .ref (ad i)), (0, .ref x), (1, .ref (ad a))] := x_hl hl (by rw [show fB σ a i + 1 = fB σ a (i + 1) by rw [fB_s, bP_t ⟨fun z => (bP_1 c_2).1 (by rw [z]), ha0, hg, (bP_1 c_2).2⟩]])
        exact ih (i + 1) (by omega) (by omega) ls (lv_sub hl [3, 4, 1, 0] rfl)
    · skip
      refine x_v (show va_rf (tr σ ad i) = .null by unfold tr; rw [if_neg (by omega)]; rfl) ?_
      refine lv_astoreN (lv' := [(4, .null), (0, .ref x), (1, .ref (ad a)), (2, .int (nI (fB σ a i))), (3, .int (nI i))]) hx hb dX1_fittingBehind_17 hl (by decide) rfl (fun ls hl => ?_)
      refine lv_aloadN hx hb dX1_fittingBehind_19 (lv_at hl 0 rfl) ?_
      refine lv_ifnullN (tgt := 36) hx hb dX1_fittingBehind_21 (by decide) ?_
      refine x_iinc (n := 1) (lv' := [(3, .int (nI (i + 1))), (4, .null), (0, .ref x), (1, .ref (ad a)), (2, .int (nI (fB σ a i)))]) hx hb dX1_fittingBehind_36 hl (k := 4) rfl (by decide) rfl (fun ls hl => ?_)
      refine lv_goto (tgt := 4) hx hb dX1_fittingBehind_39 (by decide) ?_
      have hl : lv_has ls 5 [(3, .int (nI (i + 1))), (4, .null), (0, .ref x), (1, .ref (ad a)), (2, .int (nI (fB σ a (i + 1))))] := x_hl hl (by rw [show fB σ a i = fB σ a (i + 1) by rw [fB_s, bP_f (fun q => by have := q.2.2.1; omega), Nat.add_zero]])
      exact ih (i + 1) (by omega) (by omega) ls (lv_sub hl [2, 3, 4, 0] rfl)
theorem in_X1_fittingPairs_X1 : ∀ w ∈ wsX10, w ∈ wsX1_fittingPairs := by decide +kernel
set_option maxHeartbeats 4000000 in
set_option maxRecDepth 100000 in
theorem c_X1_fittingPairs (l : Launch) (Γ : GG) (x : Nat) (σ : St) (ad : Nat → Nat) (hI : Iv σ) (b0 : Nat) (hy : Ly b0 σ ad) : Ro l yX1_fittingPairs wsX1_fittingPairs ({ frames := 3, cells := 0, slots := 0, locals := 67 }) Γ [.ref x] (CW Γ x σ ad) (some (.int (nI (fA σ (qn σ))))) := by
  refine Ro.of (cc := cX1_fittingPairs) (maxL := 4) (ret := some .int) (by decide) rfl (Nat.le_of_ble_eq_true rfl) ?_
  intro p e s m below meth c S hr hlk hK hW ls hl
  obtain ⟨hx, hb, hml, hown, hts⟩ := id S
  have hl : lv_has ls 4 [(0, .ref x)] := hl
  have hn40 := hI.1
  refine lv_iconst (v := nI 0) hx hb dX1_fittingPairs_0 (by decide +kernel) ?_
  refine lv_istore_n (lv' := [(1, .int (nI 0)), (0, .ref x)]) hx hb dX1_fittingPairs_1 rfl hl (by decide) rfl (fun ls hl => ?_)
  refine lv_iconst (v := nI 0) hx hb dX1_fittingPairs_2 (by decide +kernel) ?_
  refine lv_istore_n (lv' := [(2, .int (nI 0)), (1, .int (nI 0)), (0, .ref x)]) hx hb dX1_fittingPairs_3 rfl hl (by decide) rfl (fun ls hl => ?_)
  refine x_loop (σ := Nat) (fun u => [(0, .ref x), (1, .int (nI (fA σ u))), (2, .int (nI u))]) (fun u => u ≤ qn σ) (fun u => qn σ - u) (fun u hu ih ls hl => ?_) 0 (by omega) ls (x_hl (lv_sub (l' := [(0, .ref x), (1, .int (nI 0)), (2, .int (nI 0))]) hl [2, 1, 0] rfl) rfl)
  obtain ⟨i, rfl⟩ : ∃ z, z = u := ⟨_, rfl⟩
  have hu : i ≤ qn σ := hu
  have hl : lv_has ls 4 [(0, .ref x), (1, .int (nI (fA σ i))), (2, .int (nI i))] := hl
  refine lv_iload_n hx hb dX1_fittingPairs_4 rfl (lv_at hl 2 rfl) ?_
  refine lv_aload_n hx hb dX1_fittingPairs_5 rfl (lv_at hl 0 rfl) ?_
  refine x_get S in_X1_fittingPairs_X1 hK hW.1 rfl 1 (by decide) (by decide +kernel) rfl rfl dX1_fittingPairs_6 ?_
  refine x_icge hx hb (by omega) (by omega) (tgt := 36) dX1_fittingPairs_9 (by decide) (fun c_1 => ?_) (fun c_1 => ?_)
  · skip
    refine lv_iload_n hx hb dX1_fittingPairs_36 rfl (lv_at hl 1 rfl) ?_
    refine x_e (show nI (fA σ i) = nI (fA σ (qn σ)) by rw [show i = qn σ by omega]) ?_
    exact ro_iret hx hb hr hlk dX1_fittingPairs_37
  · skip
    refine lv_aload_n hx hb dX1_fittingPairs_12 rfl (lv_at hl 0 rfl) ?_
    refine lv_iload_n hx hb dX1_fittingPairs_13 rfl (lv_at hl 2 rfl) ?_
    refine ro_V (rest := []) S hK (c_X1_thereOrNull l Γ x σ ad hI i (by omega)) (cwV 1 hts gX1_fittingPairs_X1_thereOrNull rfl rfl rfl (by decide +kernel) ⟨Nat.le_of_ble_eq_true rfl, Nat.le_of_ble_eq_true rfl⟩) (Ob.recv hK hW.1 rfl) hW rfl hl.1 rfl (Nat.le_of_ble_eq_true rfl) dX1_fittingPairs_14 ⟨Nat.zero_le _, Nat.zero_le _⟩ ?_
    refine W.eq (g2 := F0 m 17 ls [va_rf (tr σ ad i)]) rfl ?_
    rcases Nat.eq_zero_or_pos (qg σ i) with hg | hg
    · skip
      refine x_v (show va_rf (tr σ ad i) = .ref (ad i) by unfold tr; rw [if_pos hg]; rfl) ?_
      refine lv_astore_n (lv' := [(3, .ref (ad i)), (0, .ref x), (1, .int (nI (fA σ i))), (2, .int (nI i))]) hx hb dX1_fittingPairs_17 rfl hl (by decide) rfl (fun ls hl => ?_)
      refine lv_aload_n hx hb dX1_fittingPairs_18 rfl (lv_at hl 0 rfl) ?_
      refine lv_ifnull hx hb dX1_fittingPairs_19 ?_
      refine lv_iload_n hx hb dX1_fittingPairs_22 rfl (lv_at hl 2 rfl) ?_
      refine lv_aload_n hx hb dX1_fittingPairs_23 rfl (lv_at hl 1 rfl) ?_
      refine lv_aload_n hx hb dX1_fittingPairs_24 rfl (lv_at hl 0 rfl) ?_
      refine ro_V (rest := [.int (nI (fA σ i))]) S hK (c_X1_fittingBehind l Γ x σ ad hI b0 i hy (by omega) hg) (cwV 1 hts gX1_fittingPairs_X1_fittingBehind rfl rfl rfl (by decide +kernel) ⟨Nat.le_of_ble_eq_true rfl, Nat.le_of_ble_eq_true rfl⟩) (Ob.recv hK hW.1 rfl) hW rfl hl.1 rfl (Nat.le_of_ble_eq_true rfl) dX1_fittingPairs_25 ⟨Nat.zero_le _, Nat.zero_le _⟩ ?_
      refine W.eq (g2 := F0 m 28 ls [.int (nI (fB σ i (qn σ))), .int (nI (fA σ i))]) rfl ?_
      refine x_add hx hb dX1_fittingPairs_28 ?_
      refine lv_istore_n (lv' := [(1, .int (nI ((fA σ i) + (fB σ i (qn σ))))), (3, .ref (ad i)), (0, .ref x), (2, .int (nI i))]) hx hb dX1_fittingPairs_29 rfl hl (by decide) rfl (fun ls hl => ?_)
      refine x_iinc (n := 1) (lv' := [(2, .int (nI (i + 1))), (1, .int (nI ((fA σ i) + (fB σ i (qn σ))))), (3, .ref (ad i)), (0, .ref x)]) hx hb dX1_fittingPairs_30 hl (k := 3) rfl (by decide) rfl (fun ls hl => ?_)
      refine lv_goto (tgt := 4) hx hb dX1_fittingPairs_33 (by decide) ?_
      have hl : lv_has ls 4 [(2, .int (nI (i + 1))), (1, .int (nI (fA σ (i + 1)))), (3, .ref (ad i)), (0, .ref x)] := x_hl hl (by rw [← fA_s])
      exact ih (i + 1) (by omega) (by omega) ls (lv_sub hl [3, 1, 0] rfl)
    · skip
      refine x_v (show va_rf (tr σ ad i) = .null by unfold tr; rw [if_neg (by omega)]; rfl) ?_
      refine lv_astore_nN (lv' := [(3, .null), (0, .ref x), (1, .int (nI (fA σ i))), (2, .int (nI i))]) hx hb dX1_fittingPairs_17 rfl hl (by decide) rfl (fun ls hl => ?_)
      refine lv_aload_nN hx hb dX1_fittingPairs_18 rfl (lv_at hl 0 rfl) ?_
      refine lv_ifnullN (tgt := 30) hx hb dX1_fittingPairs_19 (by decide) ?_
      refine x_iinc (n := 1) (lv' := [(2, .int (nI (i + 1))), (3, .null), (0, .ref x), (1, .int (nI (fA σ i)))]) hx hb dX1_fittingPairs_30 hl (k := 3) rfl (by decide) rfl (fun ls hl => ?_)
      refine lv_goto (tgt := 4) hx hb dX1_fittingPairs_33 (by decide) ?_
      have hl : lv_has ls 4 [(2, .int (nI (i + 1))), (3, .null), (0, .ref x), (1, .int (nI (fA σ (i + 1))))] := x_hl hl (by rw [show fA σ i = fA σ (i + 1) by rw [fA_s, fB_gone hg, Nat.add_zero]])
      exact ih (i + 1) (by omega) (by omega) ls (lv_sub hl [2, 3, 0] rfl)
theorem in_X1_total_X1 : ∀ w ∈ wsX10, w ∈ wsX1_total := by decide +kernel
set_option maxHeartbeats 4000000 in
set_option maxRecDepth 100000 in
theorem c_X1_total (l : Launch) (Γ : GG) (x : Nat) (σ : St) (ad : Nat → Nat) (hI : Iv σ) (b0 : Nat) (v : Nat) (hy : Ly b0 σ ad) (hv : v < 7) : Ro l yX1_total wsX1_total ({ frames := 6, cells := 0, slots := 0, locals := 134 }) Γ [.ref x, .int (nI v)] (CW Γ x σ ad) (some (.int (tot σ v))) := by
  refine Ro.of (cc := cX1_total) (maxL := 2) (ret := some .int) (by decide) rfl (Nat.le_of_ble_eq_true rfl) ?_
  intro p e s m below meth c S hr hlk hK hW ls hl
  obtain ⟨hx, hb, hml, hown, hts⟩ := id S
  have hl : lv_has ls 2 [(0, .ref x), (1, .int (nI v))] := hl
  have h9 : v = 0 ∨ v = 1 ∨ v = 2 ∨ v = 3 ∨ v = 4 ∨ v = 5 ∨ v = 6 := by omega
  rcases h9 with rfl | rfl | rfl | rfl | rfl | rfl | rfl
  · skip
    refine lv_iload_n hx hb dX1_total_0 rfl (lv_at hl 1 rfl) ?_
    refine lv_tableIn (off := 39) (tgt := 40) hx hb dX1_total_1 (by decide +kernel) (by decide +kernel) rfl (by decide) ?_
    refine lv_aload_n hx hb dX1_total_40 rfl (lv_at hl 0 rfl) ?_
    refine ro_V (rest := []) S hK (c_X1_howManyThere l Γ x σ ad hI ) (cwV 0 hts gX1_total_X1_howManyThere rfl rfl rfl (by decide +kernel) ⟨Nat.le_of_ble_eq_true rfl, Nat.le_of_ble_eq_true rfl⟩) (Ob.recv hK hW.1 rfl) hW rfl hl.1 rfl (Nat.le_of_ble_eq_true rfl) dX1_total_41 ⟨Nat.zero_le _, Nat.zero_le _⟩ ?_
    refine W.eq (g2 := F0 m 44 ls [.int (nI (thr σ (qn σ)))]) rfl ?_
    exact ro_iret hx hb hr hlk dX1_total_44
  · skip
    refine lv_iload_n hx hb dX1_total_0 rfl (lv_at hl 1 rfl) ?_
    refine lv_tableIn (off := 44) (tgt := 45) hx hb dX1_total_1 (by decide +kernel) (by decide +kernel) rfl (by decide) ?_
    refine lv_aload_n hx hb dX1_total_45 rfl (lv_at hl 0 rfl) ?_
    refine x_get S in_X1_total_X1 hK hW.1 rfl 1 (by decide) (by decide +kernel) rfl rfl dX1_total_46 ?_
    exact ro_iret hx hb hr hlk dX1_total_49
  · skip
    refine lv_iload_n hx hb dX1_total_0 rfl (lv_at hl 1 rfl) ?_
    refine lv_tableIn (off := 49) (tgt := 50) hx hb dX1_total_1 (by decide +kernel) (by decide +kernel) rfl (by decide) ?_
    refine lv_aload_n hx hb dX1_total_50 rfl (lv_at hl 0 rfl) ?_
    refine lv_iconst (v := nI 2) hx hb dX1_total_51 (by decide +kernel) ?_
    refine ro_V (rest := []) S hK (c_X1_sumThere l Γ x σ ad hI 2 (by omega)) (cwV 1 hts gX1_total_X1_sumThere rfl rfl rfl (by decide +kernel) ⟨Nat.le_of_ble_eq_true rfl, Nat.le_of_ble_eq_true rfl⟩) (Ob.recv hK hW.1 rfl) hW rfl hl.1 rfl (Nat.le_of_ble_eq_true rfl) dX1_total_52 ⟨Nat.zero_le _, Nat.zero_le _⟩ ?_
    refine W.eq (g2 := F0 m 55 ls [.int (tS σ (fun k => fk σ k 2) (qn σ))]) rfl ?_
    exact ro_iret hx hb hr hlk dX1_total_55
  · skip
    refine lv_iload_n hx hb dX1_total_0 rfl (lv_at hl 1 rfl) ?_
    refine lv_tableIn (off := 55) (tgt := 56) hx hb dX1_total_1 (by decide +kernel) (by decide +kernel) rfl (by decide) ?_
    refine lv_aload_n hx hb dX1_total_56 rfl (lv_at hl 0 rfl) ?_
    refine x_get S in_X1_total_X1 hK hW.1 rfl 2 (by decide) (by decide +kernel) rfl rfl dX1_total_57 ?_
    exact ro_iret hx hb hr hlk dX1_total_60
  · skip
    refine lv_iload_n hx hb dX1_total_0 rfl (lv_at hl 1 rfl) ?_
    refine lv_tableIn (off := 60) (tgt := 61) hx hb dX1_total_1 (by decide +kernel) (by decide +kernel) rfl (by decide) ?_
    refine lv_aload_n hx hb dX1_total_61 rfl (lv_at hl 0 rfl) ?_
    refine lv_iconst (v := nI 3) hx hb dX1_total_62 (by decide +kernel) ?_
    refine ro_V (rest := []) S hK (c_X1_sumThere l Γ x σ ad hI 3 (by omega)) (cwV 1 hts gX1_total_X1_sumThere rfl rfl rfl (by decide +kernel) ⟨Nat.le_of_ble_eq_true rfl, Nat.le_of_ble_eq_true rfl⟩) (Ob.recv hK hW.1 rfl) hW rfl hl.1 rfl (Nat.le_of_ble_eq_true rfl) dX1_total_63 ⟨Nat.zero_le _, Nat.zero_le _⟩ ?_
    refine W.eq (g2 := F0 m 66 ls [.int (tS σ (fun k => fk σ k 3) (qn σ))]) rfl ?_
    exact ro_iret hx hb hr hlk dX1_total_66
  · skip
    refine lv_iload_n hx hb dX1_total_0 rfl (lv_at hl 1 rfl) ?_
    refine lv_tableIn (off := 66) (tgt := 67) hx hb dX1_total_1 (by decide +kernel) (by decide +kernel) rfl (by decide) ?_
    refine lv_aload_n hx hb dX1_total_67 rfl (lv_at hl 0 rfl) ?_
    refine lv_iconst (v := nI 0) hx hb dX1_total_68 (by decide +kernel) ?_
    refine ro_V (rest := []) S hK (c_X1_sumThere l Γ x σ ad hI 0 (by omega)) (cwV 1 hts gX1_total_X1_sumThere rfl rfl rfl (by decide +kernel) ⟨Nat.le_of_ble_eq_true rfl, Nat.le_of_ble_eq_true rfl⟩) (Ob.recv hK hW.1 rfl) hW rfl hl.1 rfl (Nat.le_of_ble_eq_true rfl) dX1_total_69 ⟨Nat.zero_le _, Nat.zero_le _⟩ ?_
    refine W.eq (g2 := F0 m 72 ls [.int (tS σ (fun k => fk σ k 0) (qn σ))]) rfl ?_
    exact ro_iret hx hb hr hlk dX1_total_72
  · skip
    refine lv_iload_n hx hb dX1_total_0 rfl (lv_at hl 1 rfl) ?_
    refine lv_tableOut (tgt := 73) hx hb dX1_total_1 (by decide +kernel) (by decide) ?_
    refine lv_aload_n hx hb dX1_total_73 rfl (lv_at hl 0 rfl) ?_
    refine ro_V (rest := []) S hK (c_X1_fittingPairs l Γ x σ ad hI b0 hy) (cwV 0 hts gX1_total_X1_fittingPairs rfl rfl rfl (by decide +kernel) ⟨Nat.le_of_ble_eq_true rfl, Nat.le_of_ble_eq_true rfl⟩) (Ob.recv hK hW.1 rfl) hW rfl hl.1 rfl (Nat.le_of_ble_eq_true rfl) dX1_total_74 ⟨Nat.zero_le _, Nat.zero_le _⟩ ?_
    refine W.eq (g2 := F0 m 77 ls [.int (nI (fA σ (qn σ)))]) rfl ?_
    exact ro_iret hx hb hr hlk dX1_total_77
set_option maxHeartbeats 4000000 in
set_option maxRecDepth 100000 in
theorem c_X1_pairWorth (l : Launch) (Γ : GG)   (y z : Int32)  : Ro l yX1_pairWorth wsX1_pairWorth ({ frames := 0, cells := 0, slots := 0, locals := 0 }) Γ [.int y, .int z] (fun _ => True) (some (.int (nI (pw y z)))) := by
  refine Ro.of (cc := cX1_pairWorth) (maxL := 2) (ret := some .int) (by decide) rfl (Nat.le_of_ble_eq_true rfl) ?_
  intro p e s m below meth c S hr hlk hK hW ls hl
  obtain ⟨hx, hb, hml, hown, hts⟩ := id S
  have hl : lv_has ls 2 [(0, .int y), (1, .int z)] := hl
  refine lv_iload_n hx hb dX1_pairWorth_0 rfl (lv_at hl 0 rfl) ?_
  refine lv_iload_n hx hb dX1_pairWorth_1 rfl (lv_at hl 1 rfl) ?_
  refine lv_icmp_ne (tgt := 7) hx hb dX1_pairWorth_2 (by decide) (fun c_1 => ?_) (fun c_1 => ?_)
  · skip
    refine lv_iload_n hx hb dX1_pairWorth_7 rfl (lv_at hl 0 rfl) ?_
    refine lv_bipush (v := nI 8) hx hb dX1_pairWorth_8 (by decide +kernel) ?_
    refine lv_idiv hx hb dX1_pairWorth_10 (by decide +kernel) ?_
    refine lv_iload_n hx hb dX1_pairWorth_11 rfl (lv_at hl 1 rfl) ?_
    refine lv_bipush (v := nI 8) hx hb dX1_pairWorth_12 (by decide +kernel) ?_
    refine lv_idiv hx hb dX1_pairWorth_14 (by decide +kernel) ?_
    refine lv_icmp_ne (tgt := 22) hx hb dX1_pairWorth_15 (by decide) (fun c_2 => ?_) (fun c_2 => ?_)
    · skip
      refine lv_iconst (v := nI 0) hx hb dX1_pairWorth_22 (by decide +kernel) ?_
      refine x_e (show nI 0 = nI (pw y z) by unfold pw; rw [if_neg c_1, if_neg c_2]) ?_
      exact ro_iret hx hb hr hlk dX1_pairWorth_23
    · skip
      refine lv_iconst (v := nI 1) hx hb dX1_pairWorth_18 (by decide +kernel) ?_
      refine lv_goto (tgt := 23) hx hb dX1_pairWorth_19 (by decide) ?_
      refine x_e (show nI 1 = nI (pw y z) by unfold pw; rw [if_neg c_1, if_pos c_2]) ?_
      exact ro_iret hx hb hr hlk dX1_pairWorth_23
  · skip
    refine lv_iconst (v := nI 2) hx hb dX1_pairWorth_5 (by decide +kernel) ?_
    refine x_e (show nI 2 = nI (pw y z) by unfold pw; rw [if_pos c_1]) ?_
    exact ro_iret hx hb hr hlk dX1_pairWorth_6
theorem in_X1_rhymeOf_X0 : ∀ w ∈ wsX00, w ∈ wsX1_rhymeOf := by decide +kernel
set_option maxHeartbeats 4000000 in
set_option maxRecDepth 100000 in
theorem c_X1_rhymeOf (l : Launch) (Γ : GG) (x : Nat) (σ : St) (ad : Nat → Nat) (hI : Iv σ) (a su b t : Nat) (ha : a < qn σ) (hb9 : b < qn σ) (hsu : su < 3) (ht : t < 3) : Ro l yX1_rhymeOf wsX1_rhymeOf ({ frames := 4, cells := 0, slots := 0, locals := 91 }) Γ [.ref (ad a), .int (nI su), .ref (ad b), .int (nI t)] (CW Γ x σ ad) (some (.int (nI (rhy σ a su b t)))) := by
  refine Ro.of (cc := cX1_rhymeOf) (maxL := 9) (ret := some .int) (by decide) rfl (Nat.le_of_ble_eq_true rfl) ?_
  intro p e s m below meth c S hr hlk hK hW ls hl
  obtain ⟨hx, hb, hml, hown, hts⟩ := id S
  have hl : lv_has ls 9 [(0, .ref (ad a)), (1, .int (nI su)), (2, .ref (ad b)), (3, .int (nI t))] := hl
  obtain ⟨hPa0, hPa, hUa, hGa⟩ := hI.2.1 a (by omega)
  obtain ⟨hPb0, hPb, hUb, hGb⟩ := hI.2.1 b (by omega)
  refine lv_iconst (v := nI 0) hx hb dX1_rhymeOf_0 (by decide +kernel) ?_
  refine lv_istore (lv' := [(4, .int (nI 0)), (0, .ref (ad a)), (1, .int (nI su)), (2, .ref (ad b)), (3, .int (nI t))]) hx hb dX1_rhymeOf_1 hl (by decide) rfl (fun ls hl => ?_)
  refine lv_aload_n hx hb dX1_rhymeOf_3 rfl (lv_at hl 1 rfl) ?_
  refine lv_iload_n hx hb dX1_rhymeOf_4 rfl (lv_at hl 2 rfl) ?_
  refine lv_iload_n hx hb dX1_rhymeOf_5 rfl (lv_at hl 4 rfl) ?_
  refine lv_aload_n hx hb dX1_rhymeOf_6 rfl (lv_at hl 1 rfl) ?_
  refine x_get S in_X1_rhymeOf_X0 hK (hW.2.2 a (by omega)).1 rfl 0 (by decide) (by decide +kernel) rfl rfl dX1_rhymeOf_7 ?_
  refine lv_iconst (v := nI 1) hx hb dX1_rhymeOf_10 (by decide +kernel) ?_
  refine x_sub hx hb (by omega) dX1_rhymeOf_11 ?_
  refine x_e (pn_pred (hI.2.1 a (by omega)).1) ?_
  refine ro_V (rest := []) S hK (c_X0_placeReadUpTo l Γ (ad a) (qp σ a) (qu σ a) (qB σ a) (qE σ a) (qg σ a) (rk σ a) (ak σ a) (lk σ a) (hI.2.1 a (by omega)).1 (hI.2.1 a (by omega)).2.1 su t ((qp σ a)) (by first | omega | exact (hI.2.1 a (by omega)).2.2.1) (by omega) (by first | exact Nat.le_refl _ | omega)) (cwV 3 hts gX1_rhymeOf_X0_placeReadUpTo rfl rfl rfl (by decide +kernel) ⟨Nat.le_of_ble_eq_true rfl, Nat.le_of_ble_eq_true rfl⟩) (Ob.recv hK (hW.2.2 a (by omega)).1 rfl) (hW.2.2 a (by omega)) rfl hl.1 rfl (Nat.le_of_ble_eq_true rfl) dX1_rhymeOf_12 ⟨Nat.zero_le _, Nat.zero_le _⟩ ?_
  refine W.eq (g2 := F0 m 15 ls [.int (oI (lst (rd (rk σ a) su t) ((qp σ a))))]) rfl ?_
  refine lv_istore (lv' := [(5, .int (oI (lst (rd (rk σ a) su t) ((qp σ a))))), (4, .int (nI 0)), (0, .ref (ad a)), (1, .int (nI su)), (2, .ref (ad b)), (3, .int (nI t))]) hx hb dX1_rhymeOf_15 hl (by decide) rfl (fun ls hl => ?_)
  refine lv_aload_n hx hb dX1_rhymeOf_17 rfl (lv_at hl 4 rfl) ?_
  refine lv_aload_n hx hb dX1_rhymeOf_18 rfl (lv_at hl 4 rfl) ?_
  refine x_get S in_X1_rhymeOf_X0 hK (hW.2.2 b (by omega)).1 rfl 1 (by decide) (by decide +kernel) rfl rfl dX1_rhymeOf_19 ?_
  refine lv_iload_n hx hb dX1_rhymeOf_22 rfl (lv_at hl 5 rfl) ?_
  refine lv_aload_n hx hb dX1_rhymeOf_23 rfl (lv_at hl 4 rfl) ?_
  refine x_get S in_X1_rhymeOf_X0 hK (hW.2.2 b (by omega)).1 rfl 0 (by decide) (by decide +kernel) rfl rfl dX1_rhymeOf_24 ?_
  refine lv_iconst (v := nI 1) hx hb dX1_rhymeOf_27 (by decide +kernel) ?_
  refine x_sub hx hb (by omega) dX1_rhymeOf_28 ?_
  refine x_e (pn_pred (hI.2.1 b (by omega)).1) ?_
  refine ro_V (rest := []) S hK (c_X0_placeReadUpTo l Γ (ad b) (qp σ b) (qu σ b) (qB σ b) (qE σ b) (qg σ b) (rk σ b) (ak σ b) (lk σ b) (hI.2.1 b (by omega)).1 (hI.2.1 b (by omega)).2.1 (qu σ b) t ((qp σ b)) (by first | omega | exact (hI.2.1 b (by omega)).2.2.1) (by omega) (by first | exact Nat.le_refl _ | omega)) (cwV 3 hts gX1_rhymeOf_X0_placeReadUpTo rfl rfl rfl (by decide +kernel) ⟨Nat.le_of_ble_eq_true rfl, Nat.le_of_ble_eq_true rfl⟩) (Ob.recv hK (hW.2.2 b (by omega)).1 rfl) (hW.2.2 b (by omega)) rfl hl.1 rfl (Nat.le_of_ble_eq_true rfl) dX1_rhymeOf_29 ⟨Nat.zero_le _, Nat.zero_le _⟩ ?_
  refine W.eq (g2 := F0 m 32 ls [.int (oI (lst (rd (rk σ b) (qu σ b) t) ((qp σ b))))]) rfl ?_
  refine lv_istore (lv' := [(6, .int (oI (lst (rd (rk σ b) (qu σ b) t) ((qp σ b))))), (5, .int (oI (lst (rd (rk σ a) su t) ((qp σ a))))), (4, .int (nI 0)), (0, .ref (ad a)), (1, .int (nI su)), (2, .ref (ad b)), (3, .int (nI t))]) hx hb dX1_rhymeOf_32 hl (by decide) rfl (fun ls hl => ?_)
  refine lv_iconst (v := nI 0) hx hb dX1_rhymeOf_34 (by decide +kernel) ?_
  refine lv_istore (lv' := [(7, .int (nI 0)), (6, .int (oI (lst (rd (rk σ b) (qu σ b) t) ((qp σ b))))), (5, .int (oI (lst (rd (rk σ a) su t) ((qp σ a))))), (4, .int (nI 0)), (0, .ref (ad a)), (1, .int (nI su)), (2, .ref (ad b)), (3, .int (nI t))]) hx hb dX1_rhymeOf_35 hl (by decide) rfl (fun ls hl => ?_)
  refine x_loop (σ := Nat × Nat × Nat × Nat) (fun u => [(0, .ref (ad a)), (1, .int (nI su)), (2, .ref (ad b)), (3, .int (nI t)), (4, .int (nI ((u.2.1)))), (5, .int (oI (lst (rd (rk σ a) su t) (u.2.2.1)))), (6, .int (oI (lst (rd (rk σ b) (qu σ b) t) (u.2.2.2)))), (7, .int (nI ((u.1))))]) (fun u => (u.2.2.1) ≤ qp σ a ∧ (u.2.2.2) ≤ qp σ b ∧ (u.1) + cU (rd (rk σ a) su t) (u.2.2.1) ≤ 12 ∧ (u.2.1) + rhR (lr (rd (rk σ a) su t) (u.2.2.1)) (lr (rd (rk σ b) (qu σ b) t) (u.2.2.2)) = rhy σ a su b t) (fun u => 12 - (u.1)) (fun u hu ih ls hl => ?_) (0, 0, qp σ a, qp σ b) ⟨Nat.le_refl _, Nat.le_refl _, by have := cU_le (rd (rk σ a) su t) (qp σ a); have := (hI.2.1 a (by omega)).2.1; dsimp only; omega, by dsimp only; rw [Nat.zero_add]; rfl⟩ ls (x_hl (lv_sub (l' := [(0, .ref (ad a)), (1, .int (nI su)), (2, .ref (ad b)), (3, .int (nI t)), (4, .int (nI 0)), (5, .int (oI (lst (rd (rk σ a) su t) ((qp σ a))))), (6, .int (oI (lst (rd (rk σ b) (qu σ b) t) ((qp σ b))))), (7, .int (nI 0))]) hl [4, 5, 6, 7, 3, 2, 1, 0] rfl) rfl)
  obtain ⟨i, r, u, v⟩ := u
  have hu : u ≤ qp σ a ∧ v ≤ qp σ b ∧ i + cU (rd (rk σ a) su t) u ≤ 12 ∧ r + rhR (lr (rd (rk σ a) su t) u) (lr (rd (rk σ b) (qu σ b) t) v) = rhy σ a su b t := hu
  have hl : lv_has ls 9 [(0, .ref (ad a)), (1, .int (nI su)), (2, .ref (ad b)), (3, .int (nI t)), (4, .int (nI r)), (5, .int (oI (lst (rd (rk σ a) su t) u))), (6, .int (oI (lst (rd (rk σ b) (qu σ b) t) v))), (7, .int (nI i))] := hl
  refine lv_iload hx hb dX1_rhymeOf_37 (lv_at hl 7 rfl) ?_
  refine lv_bipush (v := nI 12) hx hb dX1_rhymeOf_39 (by decide +kernel) ?_
  refine x_icge hx hb (by omega) (by omega) (tgt := 128) dX1_rhymeOf_41 (by decide) (fun c_1 => ?_) (fun c_1 => ?_)
  · skip
    refine lv_iload hx hb dX1_rhymeOf_128 (lv_at hl 4 rfl) ?_
    refine x_e (show nI r = nI (rhy σ a su b t) by rw [← hu.2.2.2, lr_zero (by omega)]; rfl) ?_
    exact ro_iret hx hb hr hlk dX1_rhymeOf_130
  · skip
    refine lv_iload hx hb dX1_rhymeOf_44 (lv_at hl 5 rfl) ?_
    refine lv_iconst (v := (-1)) hx hb dX1_rhymeOf_46 (by decide +kernel) ?_
    refine lv_icmp_eq (tgt := 128) hx hb dX1_rhymeOf_47 (by decide) (fun c_2 => ?_) (fun c_2 => ?_)
    · skip
      refine lv_iload hx hb dX1_rhymeOf_128 (lv_at hl 4 rfl) ?_
      refine x_e (show nI r = nI (rhy σ a su b t) by rw [← hu.2.2.2, lr_none (oI_n c_2 (fun w h => by have := lst_lt _ _ _ h; omega))]; rfl) ?_
      exact ro_iret hx hb hr hlk dX1_rhymeOf_130
    · skip
      obtain ⟨q1, eq1⟩ := oI_s c_2
      have hq1 := lst_lt _ _ _ eq1
      have hc1 := cU_lst eq1
      have hl : lv_has ls 9 [(0, .ref (ad a)), (1, .int (nI su)), (2, .ref (ad b)), (3, .int (nI t)), (4, .int (nI r)), (5, .int (nI q1)), (6, .int (oI (lst (rd (rk σ b) (qu σ b) t) v))), (7, .int (nI i))] := x_hl hl (by rw [show oI (lst (rd (rk σ a) su t) u) = nI q1 by rw [eq1]; rfl])
      refine lv_iload hx hb dX1_rhymeOf_50 (lv_at hl 6 rfl) ?_
      refine lv_iconst (v := (-1)) hx hb dX1_rhymeOf_52 (by decide +kernel) ?_
      refine lv_icmp_eq (tgt := 128) hx hb dX1_rhymeOf_53 (by decide) (fun c_3 => ?_) (fun c_3 => ?_)
      · skip
        refine lv_iload hx hb dX1_rhymeOf_128 (lv_at hl 4 rfl) ?_
        refine x_e (show nI r = nI (rhy σ a su b t) by rw [← hu.2.2.2, lr_none (f := rd (rk σ b) (qu σ b) t) (oI_n c_3 (fun w h => by have := lst_lt _ _ _ h; omega)), rhR_nil]; rfl) ?_
        exact ro_iret hx hb hr hlk dX1_rhymeOf_130
      · skip
        obtain ⟨q2, eq2⟩ := oI_s c_3
        have hq2 := lst_lt _ _ _ eq2
        have e3 : rhR (lr (rd (rk σ a) su t) u) (lr (rd (rk σ b) (qu σ b) t) v) = if pw ((rd (rk σ a) su t) q1) ((rd (rk σ b) (qu σ b) t) q2) = 0 then 0 else pw ((rd (rk σ a) su t) q1) ((rd (rk σ b) (qu σ b) t) q2) + rhR (lr (rd (rk σ a) su t) q1) (lr (rd (rk σ b) (qu σ b) t) q2) := by rw [lr_some eq1, lr_some eq2]; rfl
        have hl : lv_has ls 9 [(0, .ref (ad a)), (1, .int (nI su)), (2, .ref (ad b)), (3, .int (nI t)), (4, .int (nI r)), (5, .int (nI q1)), (6, .int (nI q2)), (7, .int (nI i))] := x_hl hl (by rw [show oI (lst (rd (rk σ b) (qu σ b) t) v) = nI q2 by rw [eq2]; rfl])
        refine lv_aload_n hx hb dX1_rhymeOf_56 rfl (lv_at hl 0 rfl) ?_
        refine lv_iload_n hx hb dX1_rhymeOf_57 rfl (lv_at hl 1 rfl) ?_
        refine lv_iload_n hx hb dX1_rhymeOf_58 rfl (lv_at hl 3 rfl) ?_
        refine lv_iload hx hb dX1_rhymeOf_59 (lv_at hl 5 rfl) ?_
        refine ro_V (rest := []) S hK (c_X0_runeRead l Γ (ad a) (qp σ a) (qu σ a) (qB σ a) (qE σ a) (qg σ a) (rk σ a) (ak σ a) (lk σ a) (hI.2.1 a (by omega)).1 (hI.2.1 a (by omega)).2.1 su t q1 (by first | omega | exact (hI.2.1 a (by omega)).2.2.1) (by omega) (by omega)) (cwV 3 hts gX1_rhymeOf_X0_runeRead rfl rfl rfl (by decide +kernel) ⟨Nat.le_of_ble_eq_true rfl, Nat.le_of_ble_eq_true rfl⟩) (Ob.recv hK (hW.2.2 a (by omega)).1 rfl) (hW.2.2 a (by omega)) rfl hl.1 rfl (Nat.le_of_ble_eq_true rfl) dX1_rhymeOf_61 ⟨Nat.zero_le _, Nat.zero_le _⟩ ?_
        refine W.eq (g2 := F0 m 64 ls [.int (rd (rk σ a) su t q1)]) rfl ?_
        refine lv_aload_n hx hb dX1_rhymeOf_64 rfl (lv_at hl 2 rfl) ?_
        refine lv_aload_n hx hb dX1_rhymeOf_65 rfl (lv_at hl 2 rfl) ?_
        refine x_get S in_X1_rhymeOf_X0 hK (hW.2.2 b (by omega)).1 rfl 1 (by decide) (by decide +kernel) rfl rfl dX1_rhymeOf_66 ?_
        refine lv_iload_n hx hb dX1_rhymeOf_69 rfl (lv_at hl 3 rfl) ?_
        refine lv_iload hx hb dX1_rhymeOf_70 (lv_at hl 6 rfl) ?_
        refine ro_V (rest := [.int (rd (rk σ a) su t q1)]) S hK (c_X0_runeRead l Γ (ad b) (qp σ b) (qu σ b) (qB σ b) (qE σ b) (qg σ b) (rk σ b) (ak σ b) (lk σ b) (hI.2.1 b (by omega)).1 (hI.2.1 b (by omega)).2.1 (qu σ b) t q2 (by first | omega | exact (hI.2.1 b (by omega)).2.2.1) (by omega) (by omega)) (cwV 3 hts gX1_rhymeOf_X0_runeRead rfl rfl rfl (by decide +kernel) ⟨Nat.le_of_ble_eq_true rfl, Nat.le_of_ble_eq_true rfl⟩) (Ob.recv hK (hW.2.2 b (by omega)).1 rfl) (hW.2.2 b (by omega)) rfl hl.1 rfl (Nat.le_of_ble_eq_true rfl) dX1_rhymeOf_72 ⟨Nat.zero_le _, Nat.zero_le _⟩ ?_
        refine W.eq (g2 := F0 m 75 ls [.int (rd (rk σ b) (qu σ b) t q2), .int (rd (rk σ a) su t q1)]) rfl ?_
        refine ro_S (rest := []) S hK (c_X1_pairWorth l Γ (rd (rk σ a) su t q1) (rd (rk σ b) (qu σ b) t q2)) (cwS 2 hts gX1_rhymeOf_X1_pairWorth rfl rfl rfl (by decide +kernel) ⟨Nat.le_of_ble_eq_true rfl, Nat.le_of_ble_eq_true rfl⟩) trivial rfl hl.1 rfl (Nat.le_of_ble_eq_true rfl) dX1_rhymeOf_75 ⟨Nat.zero_le _, Nat.zero_le _⟩ ?_
        refine W.eq (g2 := F0 m 78 ls [.int (nI (pw (rd (rk σ a) su t q1) (rd (rk σ b) (qu σ b) t q2)))]) rfl ?_
        refine lv_istore (lv' := [(8, .int (nI (pw (rd (rk σ a) su t q1) (rd (rk σ b) (qu σ b) t q2)))), (0, .ref (ad a)), (1, .int (nI su)), (2, .ref (ad b)), (3, .int (nI t)), (4, .int (nI r)), (5, .int (nI q1)), (6, .int (nI q2)), (7, .int (nI i))]) hx hb dX1_rhymeOf_78 hl (by decide) rfl (fun ls hl => ?_)
        refine lv_iload hx hb dX1_rhymeOf_80 (lv_at hl 0 rfl) ?_
        have hpw := pw_le ((rd (rk σ a) su t) q1) ((rd (rk σ b) (qu σ b) t) q2)
        refine x_ifne hx hb (by omega) (tgt := 88) dX1_rhymeOf_82 (by decide) (fun c_4 => ?_) (fun c_4 => ?_)
        · skip
          refine lv_iload hx hb dX1_rhymeOf_88 (lv_at hl 5 rfl) ?_
          refine lv_iload hx hb dX1_rhymeOf_90 (lv_at hl 0 rfl) ?_
          refine x_add hx hb dX1_rhymeOf_92 ?_
          refine lv_istore (lv' := [(4, .int (nI (r + (pw (rd (rk σ a) su t q1) (rd (rk σ b) (qu σ b) t q2))))), (8, .int (nI (pw (rd (rk σ a) su t q1) (rd (rk σ b) (qu σ b) t q2)))), (0, .ref (ad a)), (1, .int (nI su)), (2, .ref (ad b)), (3, .int (nI t)), (5, .int (nI q1)), (6, .int (nI q2)), (7, .int (nI i))]) hx hb dX1_rhymeOf_93 hl (by decide) rfl (fun ls hl => ?_)
          refine lv_aload_n hx hb dX1_rhymeOf_95 rfl (lv_at hl 2 rfl) ?_
          refine lv_iload_n hx hb dX1_rhymeOf_96 rfl (lv_at hl 3 rfl) ?_
          refine lv_iload_n hx hb dX1_rhymeOf_97 rfl (lv_at hl 5 rfl) ?_
          refine lv_iload hx hb dX1_rhymeOf_98 (lv_at hl 6 rfl) ?_
          refine lv_iconst (v := nI 1) hx hb dX1_rhymeOf_100 (by decide +kernel) ?_
          refine lv_isub hx hb dX1_rhymeOf_101 ?_
          refine x_e (pn_sub q1) ?_
          refine ro_V (rest := []) S hK (c_X0_placeReadUpTo l Γ (ad a) (qp σ a) (qu σ a) (qB σ a) (qE σ a) (qg σ a) (rk σ a) (ak σ a) (lk σ a) (hI.2.1 a (by omega)).1 (hI.2.1 a (by omega)).2.1 su t q1 (by first | omega | exact (hI.2.1 a (by omega)).2.2.1) (by omega) (by first | exact Nat.le_refl _ | omega)) (cwV 3 hts gX1_rhymeOf_X0_placeReadUpTo rfl rfl rfl (by decide +kernel) ⟨Nat.le_of_ble_eq_true rfl, Nat.le_of_ble_eq_true rfl⟩) (Ob.recv hK (hW.2.2 a (by omega)).1 rfl) (hW.2.2 a (by omega)) rfl hl.1 rfl (Nat.le_of_ble_eq_true rfl) dX1_rhymeOf_102 ⟨Nat.zero_le _, Nat.zero_le _⟩ ?_
          refine W.eq (g2 := F0 m 105 ls [.int (oI (lst (rd (rk σ a) su t) q1))]) rfl ?_
          refine lv_istore (lv' := [(5, .int (oI (lst (rd (rk σ a) su t) q1))), (4, .int (nI (r + (pw (rd (rk σ a) su t q1) (rd (rk σ b) (qu σ b) t q2))))), (8, .int (nI (pw (rd (rk σ a) su t q1) (rd (rk σ b) (qu σ b) t q2)))), (0, .ref (ad a)), (1, .int (nI su)), (2, .ref (ad b)), (3, .int (nI t)), (6, .int (nI q2)), (7, .int (nI i))]) hx hb dX1_rhymeOf_105 hl (by decide) rfl (fun ls hl => ?_)
          refine lv_aload_n hx hb dX1_rhymeOf_107 rfl (lv_at hl 5 rfl) ?_
          refine lv_aload_n hx hb dX1_rhymeOf_108 rfl (lv_at hl 5 rfl) ?_
          refine x_get S in_X1_rhymeOf_X0 hK (hW.2.2 b (by omega)).1 rfl 1 (by decide) (by decide +kernel) rfl rfl dX1_rhymeOf_109 ?_
          refine lv_iload_n hx hb dX1_rhymeOf_112 rfl (lv_at hl 6 rfl) ?_
          refine lv_iload hx hb dX1_rhymeOf_113 (lv_at hl 7 rfl) ?_
          refine lv_iconst (v := nI 1) hx hb dX1_rhymeOf_115 (by decide +kernel) ?_
          refine lv_isub hx hb dX1_rhymeOf_116 ?_
          refine x_e (pn_sub q2) ?_
          refine ro_V (rest := []) S hK (c_X0_placeReadUpTo l Γ (ad b) (qp σ b) (qu σ b) (qB σ b) (qE σ b) (qg σ b) (rk σ b) (ak σ b) (lk σ b) (hI.2.1 b (by omega)).1 (hI.2.1 b (by omega)).2.1 (qu σ b) t q2 (by first | omega | exact (hI.2.1 b (by omega)).2.2.1) (by omega) (by first | exact Nat.le_refl _ | omega)) (cwV 3 hts gX1_rhymeOf_X0_placeReadUpTo rfl rfl rfl (by decide +kernel) ⟨Nat.le_of_ble_eq_true rfl, Nat.le_of_ble_eq_true rfl⟩) (Ob.recv hK (hW.2.2 b (by omega)).1 rfl) (hW.2.2 b (by omega)) rfl hl.1 rfl (Nat.le_of_ble_eq_true rfl) dX1_rhymeOf_117 ⟨Nat.zero_le _, Nat.zero_le _⟩ ?_
          refine W.eq (g2 := F0 m 120 ls [.int (oI (lst (rd (rk σ b) (qu σ b) t) q2))]) rfl ?_
          refine lv_istore (lv' := [(6, .int (oI (lst (rd (rk σ b) (qu σ b) t) q2))), (5, .int (oI (lst (rd (rk σ a) su t) q1))), (4, .int (nI (r + (pw (rd (rk σ a) su t q1) (rd (rk σ b) (qu σ b) t q2))))), (8, .int (nI (pw (rd (rk σ a) su t q1) (rd (rk σ b) (qu σ b) t q2)))), (0, .ref (ad a)), (1, .int (nI su)), (2, .ref (ad b)), (3, .int (nI t)), (7, .int (nI i))]) hx hb dX1_rhymeOf_120 hl (by decide) rfl (fun ls hl => ?_)
          refine x_iinc (n := 1) (lv' := [(7, .int (nI (i + 1))), (6, .int (oI (lst (rd (rk σ b) (qu σ b) t) q2))), (5, .int (oI (lst (rd (rk σ a) su t) q1))), (4, .int (nI (r + (pw (rd (rk σ a) su t q1) (rd (rk σ b) (qu σ b) t q2))))), (8, .int (nI (pw (rd (rk σ a) su t q1) (rd (rk σ b) (qu σ b) t q2)))), (0, .ref (ad a)), (1, .int (nI su)), (2, .ref (ad b)), (3, .int (nI t))]) hx hb dX1_rhymeOf_122 hl (k := 8) rfl (by decide) rfl (fun ls hl => ?_)
          refine lv_goto (tgt := 37) hx hb dX1_rhymeOf_125 (by decide) ?_
          exact ih ⟨i + 1, r + pw ((rd (rk σ a) su t) q1) ((rd (rk σ b) (qu σ b) t) q2), q1, q2⟩ ⟨by dsimp only; omega, by dsimp only; omega, by dsimp only; omega, by rw [← hu.2.2.2, e3, if_neg (by omega)]; dsimp only; omega⟩ (by dsimp only; omega) ls (lv_sub hl [5, 6, 7, 8, 3, 2, 1, 0] rfl)
        · skip
          refine lv_iload hx hb dX1_rhymeOf_85 (lv_at hl 5 rfl) ?_
          refine x_e (show nI r = nI (rhy σ a su b t) by rw [← hu.2.2.2, e3, if_pos c_4, Nat.add_zero]) ?_
          exact ro_iret hx hb hr hlk dX1_rhymeOf_87
theorem in_X1_digest_X1 : ∀ w ∈ wsX10, w ∈ wsX1_digest := by decide +kernel
set_option maxHeartbeats 4000000 in
set_option maxRecDepth 100000 in
theorem c_X1_digest (l : Launch) (Γ : GG) (x : Nat) (σ : St) (ad : Nat → Nat) (hI : Iv σ) (b0 : Nat) (hy : Ly b0 σ ad) : Ro l yX1_digest wsX1_digest ({ frames := 7, cells := 0, slots := 0, locals := 155 }) Γ [.ref x] (CW Γ x σ ad) (some (.long (dig σ))) := by
  refine Ro.of (cc := cX1_digest) (maxL := 5) (ret := some .long) (by decide) rfl (Nat.le_of_ble_eq_true rfl) ?_
  intro p e s m below meth c S hr hlk hK hW ls hl
  obtain ⟨hx, hb, hml, hown, hts⟩ := id S
  have hl : lv_has ls 5 [(0, .ref x)] := hl
  have hn40 := hI.1
  refine lv_ldc2 hx hb hown (v := 1019) (hts _ (by decide +kernel)) dX1_digest_0 ?_
  refine lv_lstore_n (lv' := [(1, .long 1019), (0, .ref x)]) hx hb dX1_digest_3 rfl hl (by decide) rfl (fun ls hl => ?_)
  refine lv_iconst (v := nI 0) hx hb dX1_digest_4 (by decide +kernel) ?_
  refine lv_istore_n (lv' := [(3, .int (nI 0)), (1, .long 1019), (0, .ref x)]) hx hb dX1_digest_5 rfl hl (by decide) rfl (fun ls hl => ?_)
  have hl : lv_has ls 5 [(3, .int (nI 0)), (1, .long (dF (tot σ) 1019 0)), (0, .ref x)] := x_hl hl rfl
  refine x_loop (σ := Nat) (fun u => [(0, .ref x), (1, .long (dF (tot σ) 1019 u)), (3, .int (nI u))]) (fun u => u ≤ 7) (fun u => 7 - u) (fun u hu ih ls hl => ?_) 0 (by omega) ls (x_hl (lv_sub (l' := [(0, .ref x), (1, .long (dF (tot σ) 1019 0)), (3, .int (nI 0))]) hl [2, 1, 0] rfl) rfl)
  obtain ⟨i, rfl⟩ : ∃ z, z = u := ⟨_, rfl⟩
  have hu : i ≤ 7 := hu
  have hl : lv_has ls 5 [(0, .ref x), (1, .long (dF (tot σ) 1019 i)), (3, .int (nI i))] := hl
  refine lv_iload_n hx hb dX1_digest_6 rfl (lv_at hl 2 rfl) ?_
  refine lv_bipush (v := nI 7) hx hb dX1_digest_7 (by decide +kernel) ?_
  refine x_icge hx hb (by omega) (by omega) (tgt := 31) dX1_digest_9 (by decide) (fun c_1 => ?_) (fun c_1 => ?_)
  · skip
    refine lv_iconst (v := nI 0) hx hb dX1_digest_31 (by decide +kernel) ?_
    refine lv_istore_n (lv' := [(3, .int (nI 0)), (0, .ref x), (1, .long (dF (tot σ) 1019 i))]) hx hb dX1_digest_32 rfl hl (by decide) rfl (fun ls hl => ?_)
    have hl : lv_has ls 5 [(3, .int (nI 0)), (0, .ref x), (1, .long (dS σ (dF (tot σ) 1019 7) 0))] := x_hl hl (by rw [show dF (tot σ) 1019 i = dS σ (dF (tot σ) 1019 7) 0 by rw [show i = 7 by omega]; rfl])
    refine x_loop (σ := Nat) (fun u => [(0, .ref x), (1, .long (dS σ (dF (tot σ) 1019 7) u)), (3, .int (nI u))]) (fun u => u ≤ qn σ) (fun u => qn σ - u) (fun u hu ih ls hl => ?_) 0 (by omega) ls (x_hl (lv_sub (l' := [(0, .ref x), (1, .long (dS σ (dF (tot σ) 1019 7) 0)), (3, .int (nI 0))]) hl [1, 2, 0] rfl) rfl)
    obtain ⟨j, rfl⟩ : ∃ z, z = u := ⟨_, rfl⟩
    have hu : j ≤ qn σ := hu
    have hl : lv_has ls 5 [(0, .ref x), (1, .long (dS σ (dF (tot σ) 1019 7) j)), (3, .int (nI j))] := hl
    refine lv_iload_n hx hb dX1_digest_33 rfl (lv_at hl 2 rfl) ?_
    refine lv_aload_n hx hb dX1_digest_34 rfl (lv_at hl 0 rfl) ?_
    refine x_get S in_X1_digest_X1 hK hW.1 rfl 1 (by decide) (by decide +kernel) rfl rfl dX1_digest_35 ?_
    refine x_icge hx hb (by omega) (by omega) (tgt := 66) dX1_digest_38 (by decide) (fun c_2 => ?_) (fun c_2 => ?_)
    · skip
      refine lv_lload_n hx hb dX1_digest_66 rfl (lv_at hl 1 rfl) ?_
      refine x_eL (show dS σ (dF (tot σ) 1019 7) j = dig σ by rw [show j = qn σ by omega]; rfl) ?_
      exact ro_lret hx hb hr hlk dX1_digest_67
    · skip
      refine lv_aload_n hx hb dX1_digest_41 rfl (lv_at hl 0 rfl) ?_
      refine lv_iload_n hx hb dX1_digest_42 rfl (lv_at hl 2 rfl) ?_
      refine ro_V (rest := []) S hK (c_X1_stickOrNull l Γ x σ ad hI (nI j)) (cwV 1 hts gX1_digest_X1_stickOrNull rfl rfl rfl (by decide +kernel) ⟨Nat.le_of_ble_eq_true rfl, Nat.le_of_ble_eq_true rfl⟩) (Ob.recv hK hW.1 rfl) hW rfl hl.1 rfl (Nat.le_of_ble_eq_true rfl) dX1_digest_43 ⟨Nat.zero_le _, Nat.zero_le _⟩ ?_
      refine W.eq (g2 := F0 m 46 ls [va_rf (sr σ ad (nI j))]) rfl ?_
      refine x_v (show va_rf (sr σ ad (nI j)) = .ref (ad j) by rw [sr_nI (by omega), if_pos (by omega)]; rfl) ?_
      refine lv_astore (lv' := [(4, .ref (ad j)), (0, .ref x), (1, .long (dS σ (dF (tot σ) 1019 7) j)), (3, .int (nI j))]) hx hb dX1_digest_46 hl (by decide) rfl (fun ls hl => ?_)
      refine lv_aload hx hb dX1_digest_48 (lv_at hl 0 rfl) ?_
      refine lv_ifnull hx hb dX1_digest_50 ?_
      refine lv_aload hx hb dX1_digest_53 (lv_at hl 0 rfl) ?_
      refine lv_lload_n hx hb dX1_digest_55 rfl (lv_at hl 2 rfl) ?_
      refine ro_V (rest := []) S hK (c_X0_addedTo l Γ (ad j) (qp σ j) (qu σ j) (qB σ j) (qE σ j) (qg σ j) (rk σ j) (ak σ j) (lk σ j) (hI.2.1 j (by omega)).1 (hI.2.1 j (by omega)).2.1 (dS σ (dF (tot σ) 1019 7) j) (hI.2.1 j (by omega)).2.2.2) (cwV 1 hts gX1_digest_X0_addedTo rfl rfl rfl (by decide +kernel) ⟨Nat.le_of_ble_eq_true rfl, Nat.le_of_ble_eq_true rfl⟩) (Ob.recv hK (hW.2.2 j (by omega)).1 rfl) (hW.2.2 j (by omega)) rfl hl.1 rfl (Nat.le_of_ble_eq_true rfl) dX1_digest_56 ⟨Nat.zero_le _, Nat.zero_le _⟩ ?_
      refine W.eq (g2 := F0 m 59 ls [.long (kd σ j (dS σ (dF (tot σ) 1019 7) j))]) rfl ?_
      refine lv_lstore_n (lv' := [(1, .long (kd σ j (dS σ (dF (tot σ) 1019 7) j))), (4, .ref (ad j)), (0, .ref x), (3, .int (nI j))]) hx hb dX1_digest_59 rfl hl (by decide) rfl (fun ls hl => ?_)
      refine x_iinc (n := 1) (lv' := [(3, .int (nI (j + 1))), (1, .long (kd σ j (dS σ (dF (tot σ) 1019 7) j))), (4, .ref (ad j)), (0, .ref x)]) hx hb dX1_digest_60 hl (k := 3) rfl (by decide) rfl (fun ls hl => ?_)
      refine lv_goto (tgt := 33) hx hb dX1_digest_63 (by decide) ?_
      have hl : lv_has ls 5 [(3, .int (nI (j + 1))), (1, .long (dS σ (dF (tot σ) 1019 7) (j + 1))), (4, .ref (ad j)), (0, .ref x)] := x_hl hl (by rw [show kd σ j (dS σ (dF (tot σ) 1019 7) j) = dS σ (dF (tot σ) 1019 7) (j + 1) from rfl])
      exact ih (j + 1) (by omega) (by omega) ls (lv_sub hl [3, 1, 0] rfl)
  · skip
    refine lv_lload_n hx hb dX1_digest_12 rfl (lv_at hl 1 rfl) ?_
    refine lv_ldc2 hx hb hown (v := 31) (hts _ (by decide +kernel)) dX1_digest_13 ?_
    refine lv_lmul hx hb dX1_digest_16 ?_
    refine lv_aload_n hx hb dX1_digest_17 rfl (lv_at hl 0 rfl) ?_
    refine lv_iload_n hx hb dX1_digest_18 rfl (lv_at hl 2 rfl) ?_
    refine ro_V (rest := [.long ((dF (tot σ) 1019 i) * 31)]) S hK (c_X1_total l Γ x σ ad hI b0 i hy (by omega)) (cwV 1 hts gX1_digest_X1_total rfl rfl rfl (by decide +kernel) ⟨Nat.le_of_ble_eq_true rfl, Nat.le_of_ble_eq_true rfl⟩) (Ob.recv hK hW.1 rfl) hW rfl hl.1 rfl (Nat.le_of_ble_eq_true rfl) dX1_digest_19 ⟨Nat.zero_le _, Nat.zero_le _⟩ ?_
    refine W.eq (g2 := F0 m 22 ls [.int (tot σ i), .long ((dF (tot σ) 1019 i) * 31)]) rfl ?_
    refine lv_i2l hx hb dX1_digest_22 rfl ?_
    refine lv_ladd hx hb dX1_digest_23 ?_
    refine lv_lstore_n (lv' := [(1, .long (((dF (tot σ) 1019 i) * 31) + ((tot σ i).toInt64))), (0, .ref x), (3, .int (nI i))]) hx hb dX1_digest_24 rfl hl (by decide) rfl (fun ls hl => ?_)
    refine x_iinc (n := 1) (lv' := [(3, .int (nI (i + 1))), (1, .long (((dF (tot σ) 1019 i) * 31) + ((tot σ i).toInt64))), (0, .ref x)]) hx hb dX1_digest_25 hl (k := 2) rfl (by decide) rfl (fun ls hl => ?_)
    refine lv_goto (tgt := 6) hx hb dX1_digest_28 (by decide) ?_
    have hl : lv_has ls 5 [(3, .int (nI (i + 1))), (1, .long (dF (tot σ) 1019 (i + 1))), (0, .ref x)] := x_hl hl (by rw [← dF_s])
    exact ih (i + 1) (by omega) (by omega) ls (lv_sub hl [2, 1, 0] rfl)
