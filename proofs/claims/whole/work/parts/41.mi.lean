/-- nothing is there yet -/
def s0 : St := (0, nI 0, fun _ => 0, fun _ => 0, fun _ => 0, fun _ => nI 0, fun _ => nI 0, fun _ => -1, fun _ => nI 0, fun _ => nI 0)
theorem Iv_0 : Iv s0 := ⟨Nat.zero_le _, fun k hk => absurd hk (Nat.not_lt_zero k), fun _ _ => rfl, fun _ => Or.inl rfl, fun _ _ => rfl, fun _ => Or.inl rfl, Nat.zero_le _⟩
theorem in_X2_init_X2 : ∀ w ∈ wsX20, w ∈ wsX2_init := by decide +kernel
set_option maxHeartbeats 4000000 in
set_option maxRecDepth 100000 in
theorem c_X2_init (l : Launch) (Γ : GG) (bs : Nat) (mo : Nat) (hab : bs ≤ mo) : Mt l yX2_init wsX2_init ({ frames := 1, cells := 10, slots := 2624, locals := 20 }) Γ bs [.ref mo] (fun H => Ob Γ 2 mo [.int (nI 0), .int (nI 0), .int (nI 0), .null, .null, .null, .null, .null, .null, .null, .null, .null, .null] H ∧ H.size = mo + 1) (fun H v H2 => v = none ∧ MX Γ mo (nI 0) s0 H2 ∧ H2.size = mo + 11 ∧ ∀ q : Nat, q < mo → H2[q]? = H[q]?) 10 2624 := by
  refine Mt.of (cc := cX2_init) (maxL := 1) (ret := none) (by decide) rfl (Nat.le_of_ble_eq_true rfl) ?_
  intro p e s m below meth c S hr hlk hin hK hW ls hl
  obtain ⟨hx, hb, hml, hown, hts⟩ := id S
  obtain ⟨lc, elc⟩ : ∃ z : List Loc, z = [] := ⟨_, rfl⟩
  rw [← elc]
  have hlo : lo bs lc := by rw [elc]; exact lo.nil
  clear elc
  have hl : lv_has ls 1 [(0, .ref mo)] := hl
  obtain ⟨hO, hsz⟩ := hW
  have hlow : ∀ q : Nat, q < mo → s.heap[q]? = s.heap[q]? := fun _ _ => rfl
  refine lv_aload_n hx hb dX2_init_0 rfl (lv_at hl 0 rfl) ?_
  refine W.objInit hx hb hown (hts (.methodLink RX2 1 objectInit) (by decide +kernel)) (hts (.instanceMethod objectInit) (by decide +kernel)) (hts (.code objectInit ⟨#[0xb1]⟩ 1 none) (by decide +kernel)) rfl (by rw [hml]; exact hl.1) rfl dX2_init_1 (Nat.le_of_ble_eq_true rfl) (Nat.le_of_ble_eq_true rfl) ?_
  refine W.eq (g2 := F0 m 4 ls []) rfl ?_
  refine lv_aload_n hx hb dX2_init_4 rfl (lv_at hl 0 rfl) ?_
  refine lv_bipush (v := nI 40) hx hb dX2_init_5 (by decide +kernel) ?_
  refine x_newI hx hb hK (hts _ (by decide +kernel)) (by decide) (Nat.le_of_ble_eq_true rfl) (Nat.le_of_ble_eq_true rfl) dX2_init_7 (fun H1 hA1 hz1 ho1 => ?_)
  rw [hsz] at hA1 hz1 ho1
  refine x_v (congrArg Value.ref hsz) ?_
  have hO := hO.kept (ho1 _ (by omega))
  have hA_1 := hA1
  have hsz : H1.size = mo + 2 := hz1
  have hlow : ∀ q : Nat, q < mo → H1[q]? = s.heap[q]? := fun q hq => (ho1 q (by omega)).trans (hlow q hq)
  refine x_putX S in_X2_init_X2 tyX2 tyX2_ok nmX2 hK hO rfl 3 (by decide) (by decide +kernel) rfl (Or.inr ⟨rfl, hin, rfl⟩) (tyX2_ok 3 (by decide)) rfl rfl (Nat.le_of_ble_eq_true rfl) hlo hab dX2_init_9 (fun H1 lc1 hO1 hz1 ho1 hlo => ?_)
  have hO1 : Ob Γ 2 mo [.int (nI 0), .int (nI 0), .int (nI 0), .ref (mo + 1), .null, .null, .null, .null, .null, .null, .null, .null, .null] H1 := hO1
  have hO := hO1
  have hA_1 := hA_1.kept (ho1 _ (by omega))
  have hsz := hz1.trans hsz
  have hlow : ∀ q : Nat, q < mo → H1[q]? = s.heap[q]? := fun q hq => (ho1 q (by omega)).trans (hlow q hq)
  refine lv_aload_n hx hb dX2_init_12 rfl (lv_at hl 0 rfl) ?_
  refine lv_bipush (v := nI 40) hx hb dX2_init_13 (by decide +kernel) ?_
  refine x_newI hx hb hK (hts _ (by decide +kernel)) (by decide) (Nat.le_of_ble_eq_true rfl) (Nat.le_of_ble_eq_true rfl) dX2_init_15 (fun H1 hA1 hz1 ho1 => ?_)
  rw [hsz] at hA1 hz1 ho1
  refine x_v (congrArg Value.ref hsz) ?_
  have hO := hO.kept (ho1 _ (by omega))
  have hA_1 := hA_1.kept (ho1 _ (by omega))
  have hA_2 := hA1
  have hsz : H1.size = mo + 3 := hz1
  have hlow : ∀ q : Nat, q < mo → H1[q]? = s.heap[q]? := fun q hq => (ho1 q (by omega)).trans (hlow q hq)
  refine x_putX S in_X2_init_X2 tyX2 tyX2_ok nmX2 hK hO rfl 4 (by decide) (by decide +kernel) rfl (Or.inr ⟨rfl, hin, rfl⟩) (tyX2_ok 4 (by decide)) rfl rfl (Nat.le_of_ble_eq_true rfl) hlo hab dX2_init_17 (fun H1 lc1 hO1 hz1 ho1 hlo => ?_)
  have hO1 : Ob Γ 2 mo [.int (nI 0), .int (nI 0), .int (nI 0), .ref (mo + 1), .ref (mo + 2), .null, .null, .null, .null, .null, .null, .null, .null] H1 := hO1
  have hO := hO1
  have hA_1 := hA_1.kept (ho1 _ (by omega))
  have hA_2 := hA_2.kept (ho1 _ (by omega))
  have hsz := hz1.trans hsz
  have hlow : ∀ q : Nat, q < mo → H1[q]? = s.heap[q]? := fun q hq => (ho1 q (by omega)).trans (hlow q hq)
  refine lv_aload_n hx hb dX2_init_20 rfl (lv_at hl 0 rfl) ?_
  refine lv_bipush (v := nI 40) hx hb dX2_init_21 (by decide +kernel) ?_
  refine x_newI hx hb hK (hts _ (by decide +kernel)) (by decide) (Nat.le_of_ble_eq_true rfl) (Nat.le_of_ble_eq_true rfl) dX2_init_23 (fun H1 hA1 hz1 ho1 => ?_)
  rw [hsz] at hA1 hz1 ho1
  refine x_v (congrArg Value.ref hsz) ?_
  have hO := hO.kept (ho1 _ (by omega))
  have hA_1 := hA_1.kept (ho1 _ (by omega))
  have hA_2 := hA_2.kept (ho1 _ (by omega))
  have hA_3 := hA1
  have hsz : H1.size = mo + 4 := hz1
  have hlow : ∀ q : Nat, q < mo → H1[q]? = s.heap[q]? := fun q hq => (ho1 q (by omega)).trans (hlow q hq)
  refine x_putX S in_X2_init_X2 tyX2 tyX2_ok nmX2 hK hO rfl 5 (by decide) (by decide +kernel) rfl (Or.inr ⟨rfl, hin, rfl⟩) (tyX2_ok 5 (by decide)) rfl rfl (Nat.le_of_ble_eq_true rfl) hlo hab dX2_init_25 (fun H1 lc1 hO1 hz1 ho1 hlo => ?_)
  have hO1 : Ob Γ 2 mo [.int (nI 0), .int (nI 0), .int (nI 0), .ref (mo + 1), .ref (mo + 2), .ref (mo + 3), .null, .null, .null, .null, .null, .null, .null] H1 := hO1
  have hO := hO1
  have hA_1 := hA_1.kept (ho1 _ (by omega))
  have hA_2 := hA_2.kept (ho1 _ (by omega))
  have hA_3 := hA_3.kept (ho1 _ (by omega))
  have hsz := hz1.trans hsz
  have hlow : ∀ q : Nat, q < mo → H1[q]? = s.heap[q]? := fun q hq => (ho1 q (by omega)).trans (hlow q hq)
  refine lv_aload_n hx hb dX2_init_28 rfl (lv_at hl 0 rfl) ?_
  refine lv_bipush (v := nI 40) hx hb dX2_init_29 (by decide +kernel) ?_
  refine x_newI hx hb hK (hts _ (by decide +kernel)) (by decide) (Nat.le_of_ble_eq_true rfl) (Nat.le_of_ble_eq_true rfl) dX2_init_31 (fun H1 hA1 hz1 ho1 => ?_)
  rw [hsz] at hA1 hz1 ho1
  refine x_v (congrArg Value.ref hsz) ?_
  have hO := hO.kept (ho1 _ (by omega))
  have hA_1 := hA_1.kept (ho1 _ (by omega))
  have hA_2 := hA_2.kept (ho1 _ (by omega))
  have hA_3 := hA_3.kept (ho1 _ (by omega))
  have hA_4 := hA1
  have hsz : H1.size = mo + 5 := hz1
  have hlow : ∀ q : Nat, q < mo → H1[q]? = s.heap[q]? := fun q hq => (ho1 q (by omega)).trans (hlow q hq)
  refine x_putX S in_X2_init_X2 tyX2 tyX2_ok nmX2 hK hO rfl 6 (by decide) (by decide +kernel) rfl (Or.inr ⟨rfl, hin, rfl⟩) (tyX2_ok 6 (by decide)) rfl rfl (Nat.le_of_ble_eq_true rfl) hlo hab dX2_init_33 (fun H1 lc1 hO1 hz1 ho1 hlo => ?_)
  have hO1 : Ob Γ 2 mo [.int (nI 0), .int (nI 0), .int (nI 0), .ref (mo + 1), .ref (mo + 2), .ref (mo + 3), .ref (mo + 4), .null, .null, .null, .null, .null, .null] H1 := hO1
  have hO := hO1
  have hA_1 := hA_1.kept (ho1 _ (by omega))
  have hA_2 := hA_2.kept (ho1 _ (by omega))
  have hA_3 := hA_3.kept (ho1 _ (by omega))
  have hA_4 := hA_4.kept (ho1 _ (by omega))
  have hsz := hz1.trans hsz
  have hlow : ∀ q : Nat, q < mo → H1[q]? = s.heap[q]? := fun q hq => (ho1 q (by omega)).trans (hlow q hq)
  refine lv_aload_n hx hb dX2_init_36 rfl (lv_at hl 0 rfl) ?_
  refine lv_bipush (v := nI 40) hx hb dX2_init_37 (by decide +kernel) ?_
  refine x_newI hx hb hK (hts _ (by decide +kernel)) (by decide) (Nat.le_of_ble_eq_true rfl) (Nat.le_of_ble_eq_true rfl) dX2_init_39 (fun H1 hA1 hz1 ho1 => ?_)
  rw [hsz] at hA1 hz1 ho1
  refine x_v (congrArg Value.ref hsz) ?_
  have hO := hO.kept (ho1 _ (by omega))
  have hA_1 := hA_1.kept (ho1 _ (by omega))
  have hA_2 := hA_2.kept (ho1 _ (by omega))
  have hA_3 := hA_3.kept (ho1 _ (by omega))
  have hA_4 := hA_4.kept (ho1 _ (by omega))
  have hA_5 := hA1
  have hsz : H1.size = mo + 6 := hz1
  have hlow : ∀ q : Nat, q < mo → H1[q]? = s.heap[q]? := fun q hq => (ho1 q (by omega)).trans (hlow q hq)
  refine x_putX S in_X2_init_X2 tyX2 tyX2_ok nmX2 hK hO rfl 7 (by decide) (by decide +kernel) rfl (Or.inr ⟨rfl, hin, rfl⟩) (tyX2_ok 7 (by decide)) rfl rfl (Nat.le_of_ble_eq_true rfl) hlo hab dX2_init_41 (fun H1 lc1 hO1 hz1 ho1 hlo => ?_)
  have hO1 : Ob Γ 2 mo [.int (nI 0), .int (nI 0), .int (nI 0), .ref (mo + 1), .ref (mo + 2), .ref (mo + 3), .ref (mo + 4), .ref (mo + 5), .null, .null, .null, .null, .null] H1 := hO1
  have hO := hO1
  have hA_1 := hA_1.kept (ho1 _ (by omega))
  have hA_2 := hA_2.kept (ho1 _ (by omega))
  have hA_3 := hA_3.kept (ho1 _ (by omega))
  have hA_4 := hA_4.kept (ho1 _ (by omega))
  have hA_5 := hA_5.kept (ho1 _ (by omega))
  have hsz := hz1.trans hsz
  have hlow : ∀ q : Nat, q < mo → H1[q]? = s.heap[q]? := fun q hq => (ho1 q (by omega)).trans (hlow q hq)
  refine lv_aload_n hx hb dX2_init_44 rfl (lv_at hl 0 rfl) ?_
  refine lv_sipush (v := nI 1440) hx hb dX2_init_45 (by decide +kernel) ?_
  refine x_newI hx hb hK (hts _ (by decide +kernel)) (by decide) (Nat.le_of_ble_eq_true rfl) (Nat.le_of_ble_eq_true rfl) dX2_init_48 (fun H1 hA1 hz1 ho1 => ?_)
  rw [hsz] at hA1 hz1 ho1
  refine x_v (congrArg Value.ref hsz) ?_
  have hO := hO.kept (ho1 _ (by omega))
  have hA_1 := hA_1.kept (ho1 _ (by omega))
  have hA_2 := hA_2.kept (ho1 _ (by omega))
  have hA_3 := hA_3.kept (ho1 _ (by omega))
  have hA_4 := hA_4.kept (ho1 _ (by omega))
  have hA_5 := hA_5.kept (ho1 _ (by omega))
  have hA_6 := hA1
  have hsz : H1.size = mo + 7 := hz1
  have hlow : ∀ q : Nat, q < mo → H1[q]? = s.heap[q]? := fun q hq => (ho1 q (by omega)).trans (hlow q hq)
  refine x_putX S in_X2_init_X2 tyX2 tyX2_ok nmX2 hK hO rfl 8 (by decide) (by decide +kernel) rfl (Or.inr ⟨rfl, hin, rfl⟩) (tyX2_ok 8 (by decide)) rfl rfl (Nat.le_of_ble_eq_true rfl) hlo hab dX2_init_50 (fun H1 lc1 hO1 hz1 ho1 hlo => ?_)
  have hO1 : Ob Γ 2 mo [.int (nI 0), .int (nI 0), .int (nI 0), .ref (mo + 1), .ref (mo + 2), .ref (mo + 3), .ref (mo + 4), .ref (mo + 5), .ref (mo + 6), .null, .null, .null, .null] H1 := hO1
  have hO := hO1
  have hA_1 := hA_1.kept (ho1 _ (by omega))
  have hA_2 := hA_2.kept (ho1 _ (by omega))
  have hA_3 := hA_3.kept (ho1 _ (by omega))
  have hA_4 := hA_4.kept (ho1 _ (by omega))
  have hA_5 := hA_5.kept (ho1 _ (by omega))
  have hA_6 := hA_6.kept (ho1 _ (by omega))
  have hsz := hz1.trans hsz
  have hlow : ∀ q : Nat, q < mo → H1[q]? = s.heap[q]? := fun q hq => (ho1 q (by omega)).trans (hlow q hq)
  refine lv_aload_n hx hb dX2_init_53 rfl (lv_at hl 0 rfl) ?_
  refine lv_sipush (v := nI 480) hx hb dX2_init_54 (by decide +kernel) ?_
  refine x_newI hx hb hK (hts _ (by decide +kernel)) (by decide) (Nat.le_of_ble_eq_true rfl) (Nat.le_of_ble_eq_true rfl) dX2_init_57 (fun H1 hA1 hz1 ho1 => ?_)
  rw [hsz] at hA1 hz1 ho1
  refine x_v (congrArg Value.ref hsz) ?_
  have hO := hO.kept (ho1 _ (by omega))
  have hA_1 := hA_1.kept (ho1 _ (by omega))
  have hA_2 := hA_2.kept (ho1 _ (by omega))
  have hA_3 := hA_3.kept (ho1 _ (by omega))
  have hA_4 := hA_4.kept (ho1 _ (by omega))
  have hA_5 := hA_5.kept (ho1 _ (by omega))
  have hA_6 := hA_6.kept (ho1 _ (by omega))
  have hA_7 := hA1
  have hsz : H1.size = mo + 8 := hz1
  have hlow : ∀ q : Nat, q < mo → H1[q]? = s.heap[q]? := fun q hq => (ho1 q (by omega)).trans (hlow q hq)
  refine x_putX S in_X2_init_X2 tyX2 tyX2_ok nmX2 hK hO rfl 9 (by decide) (by decide +kernel) rfl (Or.inr ⟨rfl, hin, rfl⟩) (tyX2_ok 9 (by decide)) rfl rfl (Nat.le_of_ble_eq_true rfl) hlo hab dX2_init_59 (fun H1 lc1 hO1 hz1 ho1 hlo => ?_)
  have hO1 : Ob Γ 2 mo [.int (nI 0), .int (nI 0), .int (nI 0), .ref (mo + 1), .ref (mo + 2), .ref (mo + 3), .ref (mo + 4), .ref (mo + 5), .ref (mo + 6), .ref (mo + 7), .null, .null, .null] H1 := hO1
  have hO := hO1
  have hA_1 := hA_1.kept (ho1 _ (by omega))
  have hA_2 := hA_2.kept (ho1 _ (by omega))
  have hA_3 := hA_3.kept (ho1 _ (by omega))
  have hA_4 := hA_4.kept (ho1 _ (by omega))
  have hA_5 := hA_5.kept (ho1 _ (by omega))
  have hA_6 := hA_6.kept (ho1 _ (by omega))
  have hA_7 := hA_7.kept (ho1 _ (by omega))
  have hsz := hz1.trans hsz
  have hlow : ∀ q : Nat, q < mo → H1[q]? = s.heap[q]? := fun q hq => (ho1 q (by omega)).trans (hlow q hq)
  refine lv_aload_n hx hb dX2_init_62 rfl (lv_at hl 0 rfl) ?_
  refine lv_sipush (v := nI 480) hx hb dX2_init_63 (by decide +kernel) ?_
  refine x_newI hx hb hK (hts _ (by decide +kernel)) (by decide) (Nat.le_of_ble_eq_true rfl) (Nat.le_of_ble_eq_true rfl) dX2_init_66 (fun H1 hA1 hz1 ho1 => ?_)
  rw [hsz] at hA1 hz1 ho1
  refine x_v (congrArg Value.ref hsz) ?_
  have hO := hO.kept (ho1 _ (by omega))
  have hA_1 := hA_1.kept (ho1 _ (by omega))
  have hA_2 := hA_2.kept (ho1 _ (by omega))
  have hA_3 := hA_3.kept (ho1 _ (by omega))
  have hA_4 := hA_4.kept (ho1 _ (by omega))
  have hA_5 := hA_5.kept (ho1 _ (by omega))
  have hA_6 := hA_6.kept (ho1 _ (by omega))
  have hA_7 := hA_7.kept (ho1 _ (by omega))
  have hA_8 := hA1
  have hsz : H1.size = mo + 9 := hz1
  have hlow : ∀ q : Nat, q < mo → H1[q]? = s.heap[q]? := fun q hq => (ho1 q (by omega)).trans (hlow q hq)
  refine x_putX S in_X2_init_X2 tyX2 tyX2_ok nmX2 hK hO rfl 10 (by decide) (by decide +kernel) rfl (Or.inr ⟨rfl, hin, rfl⟩) (tyX2_ok 10 (by decide)) rfl rfl (Nat.le_of_ble_eq_true rfl) hlo hab dX2_init_68 (fun H1 lc1 hO1 hz1 ho1 hlo => ?_)
  have hO1 : Ob Γ 2 mo [.int (nI 0), .int (nI 0), .int (nI 0), .ref (mo + 1), .ref (mo + 2), .ref (mo + 3), .ref (mo + 4), .ref (mo + 5), .ref (mo + 6), .ref (mo + 7), .ref (mo + 8), .null, .null] H1 := hO1
  have hO := hO1
  have hA_1 := hA_1.kept (ho1 _ (by omega))
  have hA_2 := hA_2.kept (ho1 _ (by omega))
  have hA_3 := hA_3.kept (ho1 _ (by omega))
  have hA_4 := hA_4.kept (ho1 _ (by omega))
  have hA_5 := hA_5.kept (ho1 _ (by omega))
  have hA_6 := hA_6.kept (ho1 _ (by omega))
  have hA_7 := hA_7.kept (ho1 _ (by omega))
  have hA_8 := hA_8.kept (ho1 _ (by omega))
  have hsz := hz1.trans hsz
  have hlow : ∀ q : Nat, q < mo → H1[q]? = s.heap[q]? := fun q hq => (ho1 q (by omega)).trans (hlow q hq)
  refine lv_aload_n hx hb dX2_init_71 rfl (lv_at hl 0 rfl) ?_
  refine lv_bipush (v := nI 12) hx hb dX2_init_72 (by decide +kernel) ?_
  refine x_newI hx hb hK (hts _ (by decide +kernel)) (by decide) (Nat.le_of_ble_eq_true rfl) (Nat.le_of_ble_eq_true rfl) dX2_init_74 (fun H1 hA1 hz1 ho1 => ?_)
  rw [hsz] at hA1 hz1 ho1
  refine x_v (congrArg Value.ref hsz) ?_
  have hO := hO.kept (ho1 _ (by omega))
  have hA_1 := hA_1.kept (ho1 _ (by omega))
  have hA_2 := hA_2.kept (ho1 _ (by omega))
  have hA_3 := hA_3.kept (ho1 _ (by omega))
  have hA_4 := hA_4.kept (ho1 _ (by omega))
  have hA_5 := hA_5.kept (ho1 _ (by omega))
  have hA_6 := hA_6.kept (ho1 _ (by omega))
  have hA_7 := hA_7.kept (ho1 _ (by omega))
  have hA_8 := hA_8.kept (ho1 _ (by omega))
  have hA_9 := hA1
  have hsz : H1.size = mo + 10 := hz1
  have hlow : ∀ q : Nat, q < mo → H1[q]? = s.heap[q]? := fun q hq => (ho1 q (by omega)).trans (hlow q hq)
  refine x_putX S in_X2_init_X2 tyX2 tyX2_ok nmX2 hK hO rfl 11 (by decide) (by decide +kernel) rfl (Or.inr ⟨rfl, hin, rfl⟩) (tyX2_ok 11 (by decide)) rfl rfl (Nat.le_of_ble_eq_true rfl) hlo hab dX2_init_76 (fun H1 lc1 hO1 hz1 ho1 hlo => ?_)
  have hO1 : Ob Γ 2 mo [.int (nI 0), .int (nI 0), .int (nI 0), .ref (mo + 1), .ref (mo + 2), .ref (mo + 3), .ref (mo + 4), .ref (mo + 5), .ref (mo + 6), .ref (mo + 7), .ref (mo + 8), .ref (mo + 9), .null] H1 := hO1
  have hO := hO1
  have hA_1 := hA_1.kept (ho1 _ (by omega))
  have hA_2 := hA_2.kept (ho1 _ (by omega))
  have hA_3 := hA_3.kept (ho1 _ (by omega))
  have hA_4 := hA_4.kept (ho1 _ (by omega))
  have hA_5 := hA_5.kept (ho1 _ (by omega))
  have hA_6 := hA_6.kept (ho1 _ (by omega))
  have hA_7 := hA_7.kept (ho1 _ (by omega))
  have hA_8 := hA_8.kept (ho1 _ (by omega))
  have hA_9 := hA_9.kept (ho1 _ (by omega))
  have hsz := hz1.trans hsz
  have hlow : ∀ q : Nat, q < mo → H1[q]? = s.heap[q]? := fun q hq => (ho1 q (by omega)).trans (hlow q hq)
  refine lv_aload_n hx hb dX2_init_79 rfl (lv_at hl 0 rfl) ?_
  refine lv_bipush (v := nI 12) hx hb dX2_init_80 (by decide +kernel) ?_
  refine x_newI hx hb hK (hts _ (by decide +kernel)) (by decide) (Nat.le_of_ble_eq_true rfl) (Nat.le_of_ble_eq_true rfl) dX2_init_82 (fun H1 hA1 hz1 ho1 => ?_)
  rw [hsz] at hA1 hz1 ho1
  refine x_v (congrArg Value.ref hsz) ?_
  have hO := hO.kept (ho1 _ (by omega))
  have hA_1 := hA_1.kept (ho1 _ (by omega))
  have hA_2 := hA_2.kept (ho1 _ (by omega))
  have hA_3 := hA_3.kept (ho1 _ (by omega))
  have hA_4 := hA_4.kept (ho1 _ (by omega))
  have hA_5 := hA_5.kept (ho1 _ (by omega))
  have hA_6 := hA_6.kept (ho1 _ (by omega))
  have hA_7 := hA_7.kept (ho1 _ (by omega))
  have hA_8 := hA_8.kept (ho1 _ (by omega))
  have hA_9 := hA_9.kept (ho1 _ (by omega))
  have hA_10 := hA1
  have hsz : H1.size = mo + 11 := hz1
  have hlow : ∀ q : Nat, q < mo → H1[q]? = s.heap[q]? := fun q hq => (ho1 q (by omega)).trans (hlow q hq)
  refine x_putX S in_X2_init_X2 tyX2 tyX2_ok nmX2 hK hO rfl 12 (by decide) (by decide +kernel) rfl (Or.inr ⟨rfl, hin, rfl⟩) (tyX2_ok 12 (by decide)) rfl rfl (Nat.le_of_ble_eq_true rfl) hlo hab dX2_init_84 (fun H1 lc1 hO1 hz1 ho1 hlo => ?_)
  have hO1 : Ob Γ 2 mo [.int (nI 0), .int (nI 0), .int (nI 0), .ref (mo + 1), .ref (mo + 2), .ref (mo + 3), .ref (mo + 4), .ref (mo + 5), .ref (mo + 6), .ref (mo + 7), .ref (mo + 8), .ref (mo + 9), .ref (mo + 10)] H1 := hO1
  have hO := hO1
  have hA_1 := hA_1.kept (ho1 _ (by omega))
  have hA_2 := hA_2.kept (ho1 _ (by omega))
  have hA_3 := hA_3.kept (ho1 _ (by omega))
  have hA_4 := hA_4.kept (ho1 _ (by omega))
  have hA_5 := hA_5.kept (ho1 _ (by omega))
  have hA_6 := hA_6.kept (ho1 _ (by omega))
  have hA_7 := hA_7.kept (ho1 _ (by omega))
  have hA_8 := hA_8.kept (ho1 _ (by omega))
  have hA_9 := hA_9.kept (ho1 _ (by omega))
  have hA_10 := hA_10.kept (ho1 _ (by omega))
  have hsz := hz1.trans hsz
  have hlow : ∀ q : Nat, q < mo → H1[q]? = s.heap[q]? := fun q hq => (ho1 q (by omega)).trans (hlow q hq)
  refine W.widen (k := 10) (n := 2624) (Nat.le_of_ble_eq_true rfl) (Nat.le_of_ble_eq_true rfl) ?_
  exact m_vret (Post := fun H v H2 => v = none ∧ MX Γ mo (nI 0) s0 H2 ∧ H2.size = mo + 11 ∧ ∀ q : Nat, q < mo → H2[q]? = H[q]?) hx hb hr hlk hlo dX2_init_87 ⟨rfl, ⟨fun _ => nI 0, fun _ => nI 0, hO, hA_1, hA_2, hA_3, hA_4, hA_5, hA_6.ext (fun _ _ => (show nI 0 = (-1 : Int32) + 1 by decide +kernel)), hA_7, hA_8, hA_9, hA_10⟩, hsz, hlow⟩
