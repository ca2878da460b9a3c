theorem inlX0 : ∀ w ∈ wsX00, w ∈ wsL_law := fun _ h => List.mem_append_left _ (List.mem_append_left _ (List.mem_append_left _ (List.mem_append_left _ (List.mem_append_right _ h))))
theorem inlX1 : ∀ w ∈ wsX10, w ∈ wsL_law := fun _ h => List.mem_append_left _ (List.mem_append_left _ (List.mem_append_left _ (List.mem_append_left _ (List.mem_append_left _ (List.mem_append_left _ (List.mem_append_right _ h))))))
theorem inlX2 : ∀ w ∈ wsX20, w ∈ wsL_law := fun _ h => List.mem_append_left _ (List.mem_append_left _ (List.mem_append_left _ (List.mem_append_left _ (List.mem_append_left _ (List.mem_append_right _ h)))))
section LJ
variable {p : Program} {l : Launch} {e : Env} {R : Room} {s : State} {m : MethodId} {args : Array Value} {below : List Frame} {meth : Method} {c : Code} {H : Heap} {locs : List Loc} {cells slots : Nat} {Q : State → Prop}
variable {cc : ByteArray} {pc : Nat} {ls : Array Slot} {rest st0 : List Value} {cJ : ClassId}
theorem x_newJ (hx : p.tables.exec = Jvm.exec) (hb : c.code = cc) (hJ : xJ cJ s) (harr : (Cond.arrayClass .long).before args s = true) (hcells : cells + 1 ≤ R.cells) (hslots : slots + 1 ≤ R.slots) (hdg : decode cc pc = .ok (.newarray .long, 2))
    (k : ∀ H1 : Heap, Aj cJ H.size 0 H1 → H1.size = H.size + 1 → (∀ q : Nat, q < H.size → H1[q]? = H[q]?) → W p l e R s m args below meth c H1 locs (cells + 1) (slots + 1) Q (F0 m (pc + 2) ls (.ref H.size :: rest))) : W p l e R s m args below meth c H locs cells slots Q (F0 m pc ls (.int (nI 1) :: rest)) := by
  have hc : (nI 1).toNatClampNeg = 1 := nI_clamp (by omega)
  refine va_newaK (atype := .long) hx hb harr rfl hdg rfl (nI_pos (by omega)) hc (by decide) hcells hslots rfl fun H1 cA e1 z1 o1 hAr hNm => ?_
  have hcA : cA = cJ := Option.some.inj (hNm.symm.trans hJ.2)
  subst hcA
  exact k H1 e1 z1 o1
end LJ
set_option maxHeartbeats 4000000 in
set_option maxRecDepth 100000 in
theorem law_body {p : Program} {l : Launch} {e : Env} {s : State} {m : MethodId} {args : Array Value} {below : List Frame} {meth : Method} {c : Code} {Q : State → Prop} {Γ : GG} {cJ : ClassId} {bs sb L : Nat} {xs : Nat → Int32}
    (hfl : l.stackTraces = false) (S : CallFix p m c cL_law 9 s args wsL_law RL) (hK : xK Γ s) (hT : xT bs s) (hE0 : xE s) (hJ : xJ cJ s) (hX : va_X sb L xs s s.heap) (hsb : sb < s.heap.size) (hbs : s.heap.size = bs) (hL : L ≤ 2560) (hAO : va_AO RX0 s)
    (hend : ∀ (H : Heap) (locs : List Loc) (ls : Array Slot), lo bs locs → W p l e room_1 s m args below meth c H locs 601024 7293034 Q (F0 m 1520 ls []))
    (ls : Array Slot) (hl : lv_has ls 9 [(0, .ref sb)]) : W p l e room_1 s m args below meth c s.heap [] 0 0 Q (F0 m 0 ls []) := by
  obtain ⟨hx, hb, hml, hown, hts⟩ := id S
  obtain ⟨lc, elc⟩ : ∃ z : List Loc, z = [] := ⟨_, rfl⟩
  rw [← elc]
  have hlo : lo bs lc := by rw [elc]; exact lo.nil
  clear elc
  refine x_new (ci := 1) (fs := [.null, .int (nI 0), .int (nI 0)]) S inlX1 tyX1 tyX1_ok (by decide +kernel) (by decide +kernel) (by decide +kernel) hK rfl (fun j hj => by rcases (show j = 0 ∨ j = 1 ∨ j = 2 by omega) with rfl | rfl | rfl <;> rfl) (Nat.le_of_ble_eq_true rfl) (Nat.le_of_ble_eq_true rfl) dL_law_0 (fun H1 hO1 hz1 ho1 => ?_)
  rw [hbs] at hO1 hz1 ho1
  refine x_v (congrArg Value.ref hbs) ?_
  refine lv_dup hx hb dL_law_3 rfl ?_
  refine m_IA (rest := [.ref bs]) S hK hAO (c_X1_init l Γ bs bs (Nat.le_refl _)) (cwI 0 hts gL_law_X1_init rfl rfl rfl (hts (.initialized RX1) (by decide +kernel)) (hts (.methodLink RL 74 yX1_init) (by decide +kernel)) (hts (.instanceMethod yX1_init) (by decide +kernel)) rfl (by decide +kernel) ⟨Nat.le_of_ble_eq_true rfl, Nat.le_of_ble_eq_true rfl⟩) ⟨hO1, hz1⟩ rfl hl.1 rfl (Nat.le_of_ble_eq_true rfl) dL_law_4 ⟨Nat.le_of_ble_eq_true rfl, Nat.le_of_ble_eq_true rfl⟩ hlo (fun v H2 lc2 hp hlo => ?_)
  obtain ⟨rfl, hO2, hQ2, hz2, ho2⟩ := hp
  refine W.eq (g2 := F0 m 7 ls [.ref bs]) rfl ?_
  refine lv_astore_n (lv' := [(1, .ref bs), (0, .ref sb)]) hx hb dL_law_7 rfl hl (by decide) rfl (fun ls hl => ?_)
  refine x_new (ci := 2) (fs := [.int (nI 0), .int (nI 0), .int (nI 0), .null, .null, .null, .null, .null, .null, .null, .null, .null, .null]) S inlX2 tyX2 tyX2_ok (by decide +kernel) (by decide +kernel) (by decide +kernel) hK rfl (fun j hj => by rcases (show j = 0 ∨ j = 1 ∨ j = 2 ∨ j = 3 ∨ j = 4 ∨ j = 5 ∨ j = 6 ∨ j = 7 ∨ j = 8 ∨ j = 9 ∨ j = 10 ∨ j = 11 ∨ j = 12 by omega) with rfl | rfl | rfl | rfl | rfl | rfl | rfl | rfl | rfl | rfl | rfl | rfl | rfl <;> rfl) (Nat.le_of_ble_eq_true rfl) (Nat.le_of_ble_eq_true rfl) dL_law_8 (fun H3 hO3 hz3 ho3 => ?_)
  rw [hz2] at hO3 hz3 ho3
  refine x_v (congrArg Value.ref hz2) ?_
  refine lv_dup hx hb dL_law_11 rfl ?_
  refine m_I (rest := [.ref (bs + 2)]) S hK (c_X2_init l Γ bs (bs + 2) (by omega)) (cwI 0 hts gL_law_X2_init rfl rfl rfl (hts (.initialized RX2) (by decide +kernel)) (hts (.methodLink RL 77 yX2_init) (by decide +kernel)) (hts (.instanceMethod yX2_init) (by decide +kernel)) rfl (by decide +kernel) ⟨Nat.le_of_ble_eq_true rfl, Nat.le_of_ble_eq_true rfl⟩) ⟨hO3, hz3⟩ rfl hl.1 rfl (Nat.le_of_ble_eq_true rfl) dL_law_12 ⟨Nat.le_of_ble_eq_true rfl, Nat.le_of_ble_eq_true rfl⟩ hlo (fun v H4 lc4 hp hlo => ?_)
  obtain ⟨rfl, hM4, hz4, ho4⟩ := hp
  refine W.eq (g2 := F0 m 15 ls [.ref (bs + 2)]) rfl ?_
  refine lv_astore_n (lv' := [(2, .ref (bs + 2)), (1, .ref bs), (0, .ref sb)]) hx hb dL_law_15 rfl hl (by decide) rfl (fun ls hl => ?_)
  refine lv_iconst (v := nI 1) hx hb dL_law_16 (by decide +kernel) ?_
  refine x_newJ hx hb hJ (hts _ (by decide +kernel)) (Nat.le_of_ble_eq_true rfl) (Nat.le_of_ble_eq_true rfl) dL_law_17 (fun H5 hA5 hz5 ho5 => ?_)
  rw [hz4] at hA5 hz5 ho5
  refine x_v (congrArg Value.ref hz4) ?_
  refine lv_astore_n (lv' := [(3, .ref (bs + 13)), (2, .ref (bs + 2)), (1, .ref bs), (0, .ref sb)]) hx hb dL_law_19 rfl hl (by decide) rfl (fun ls hl => ?_)
  refine lv_iconst (v := nI 0) hx hb dL_law_20 (by decide +kernel) ?_
  refine lv_istore (lv' := [(4, .int (nI 0)), (3, .ref (bs + 13)), (2, .ref (bs + 2)), (1, .ref bs), (0, .ref sb)]) hx hb dL_law_21 hl (by decide) rfl (fun ls hl => ?_)
  refine W.widen (k := 100 + 300 * 0) (n := 3000 + 2100 * 0) (by omega) (by omega) ?_
  refine law_loop hfl S hK hT hE0 hJ hX hsb hbs hL hend 513 0 rfl (Nat.zero_le _) s0 (fun _ => 0) (nI 0) 0 H5 _ ⟨Iv_0, ⟨fun k hk => absurd hk (Nat.not_lt_zero k), fun i j _ hj => absurd hj (Nat.not_lt_zero j)⟩, ⟨?_, ?_, fun k hk => absurd hk (Nat.not_lt_zero k)⟩, hM4.kept (fun q q1 q2 => ho5 q (by omega)), hA5, hlo, by omega, ?_⟩ ls (lv_sub hl [4, 3, 2, 1, 0] rfl)
  · exact hO2.kept ((ho5 _ (by omega)).trans ((ho4 _ (by omega)).trans (ho3 _ (by omega))))
  · have e : (fun k => if k < qn s0 then some ((fun _ => 0 : Nat → Nat) k) else none) = (fun _ => (none : Option Nat)) := funext fun k => if_neg (Nat.not_lt_zero k)
    rw [e]
    exact hQ2.kept ((ho5 _ (by omega)).trans ((ho4 _ (by omega)).trans (ho3 _ (by omega))))
  · intro q hq
    exact (ho5 q (by omega)).trans ((ho4 q (by omega)).trans ((ho3 q (by omega)).trans ((ho2 q (by omega)).trans (ho1 q (by omega)))))
