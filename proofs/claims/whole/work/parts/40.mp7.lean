section XD2
variable {p : Program} {l : Launch} {e : Env} {R : Room} {s : State} {m : MethodId} {args : Array Value} {below : List Frame} {meth : Method} {c : Code} {H : Heap} {locs : List Loc} {cells slots : Nat} {Q : State → Prop}
variable {cc : ByteArray} {pc : Nat} {ls : Array Slot} {rest st0 : List Value} {Γ : GG} {bs : Nat}
theorem m_dret {r : UInt64} {Post : Heap → Option Value → Heap → Prop} (hx : p.tables.exec = Jvm.exec) (hb : c.code = cc) (hr : meth.sig.returnType = some .double) (hlk : meth.locks = false) (hlo : lo bs locs) (hdg : decode cc pc = .ok (.dreturn, 1)) (hp : Post s.heap (some (.double r)) H) : W p l e R s m args below meth c H locs cells slots (MQ below (fun _ st o t => ∃ v, o = .returned v ∧ Post st.heap v t.heap) args s cells slots (fun q => bs ≤ q)) (F0 m pc ls [.double r]) :=
  W.dret hx hb hr (fun t ht _ => ⟨_, rfl, by rw [ht]; exact hp⟩) hlo hdg hlk
theorem x_loopC {σ : Type} {nL : Nat} {st : List Value} (I : σ → List (Nat × Value)) (P : σ → Heap → List Loc → Prop) (C S : σ → Nat) (μ : σ → Nat)
    (step : ∀ (u : σ) (H : Heap) (locs : List Loc), P u H locs → (∀ (u' : σ) (H' : Heap) (locs' : List Loc), P u' H' locs' → μ u' < μ u → ∀ ls : Array Slot, lv_has ls nL (I u') → W p l e R s m args below meth c H' locs' (C u') (S u') Q (F0 m pc ls st)) → ∀ ls : Array Slot, lv_has ls nL (I u) → W p l e R s m args below meth c H locs (C u) (S u) Q (F0 m pc ls st))
    (u0 : σ) (h0 : P u0 H locs) (ls : Array Slot) (hl : lv_has ls nL (I u0)) : W p l e R s m args below meth c H locs (C u0) (S u0) Q (F0 m pc ls st) := by
  have key : ∀ (n : Nat) (u : σ) (H : Heap) (locs : List Loc), μ u < n → P u H locs → ∀ ls : Array Slot, lv_has ls nL (I u) → W p l e R s m args below meth c H locs (C u) (S u) Q (F0 m pc ls st) := by
    intro n
    induction n with
    | zero => intro u H locs hu; omega
    | succ n ih => exact fun u H locs hu hp => step u H locs hp (fun u' H' locs' hp' hm => ih u' H' locs' (by omega) hp')
  exact key (μ u0 + 1) u0 H locs (Nat.lt_succ_self _) h0 ls hl
end XD2
theorem okR_64 {x : Int32} (h : okR x) : (x + 1).toInt64 - 1 = x.toInt64 := by
  rcases h with h | ⟨r, hr, h⟩
  · subst h
    decide +kernel
  · subst h
    have h1 : (List.range 24).all (fun r => decide ((nI r + 1).toInt64 - 1 = (nI r).toInt64)) = true := by decide +kernel
    exact of_decide_eq_true (List.all_eq_true.mp h1 r (List.mem_range.mpr hr))
theorem dg_sub {a : Int64} {x y : Int32} (h : okR x) (e : x = y) : a + (x + 1).toInt64 - 1 = a + y.toInt64 := by
  subst e
  rw [← okR_64 h, Int64.sub_eq_add_neg, Int64.sub_eq_add_neg, Int64.add_assoc]
theorem in_X2_mean_X2 : ∀ w ∈ wsX20, w ∈ wsX2_mean := by decide +kernel
set_option maxHeartbeats 4000000 in
set_option maxRecDepth 100000 in
theorem c_X2_mean (l : Launch) (Γ : GG) (bs : Nat) (mo : Nat) (th : Int32) (σ : St) (hI : Iv σ) (hbm : bs ≤ mo)   : Mt l yX2_mean wsX2_mean ({ frames := 4, cells := 1, slots := 7, locals := 96 }) Γ bs [.ref mo] (MX Γ mo th σ) (fun H v H2 => v = some (.double (mnv σ)) ∧ MX Γ mo (nI 0) σ H2 ∧ Fr mo (mo + 11) H H2) 1 7 := by
  refine Mt.of (cc := cX2_mean) (maxL := 1) (ret := (some .double)) (by decide) rfl (Nat.le_of_ble_eq_true rfl) ?_
  intro p e s m below meth c S hr hlk hin hK hW ls hl
  obtain ⟨hx, hb, hml, hown, hts⟩ := id S
  obtain ⟨lc, elc⟩ : ∃ z : List Loc, z = [] := ⟨_, rfl⟩
  rw [← elc]
  have hlo : lo bs lc := by rw [elc]; exact lo.nil
  clear elc
  have hl : lv_has ls 1 [(0, .ref mo)] := hl
  have hn40 := hI.1
  have hFr : Fr mo (mo + 11) s.heap s.heap := Fr.rf
  obtain ⟨g1, g2, hW⟩ := hW
  have hthr := thr_le σ (qn σ)
  refine lv_aload_n hx hb dX2_mean_0 rfl (lv_at hl 0 rfl) ?_
  refine lv_iconst (v := nI 0) hx hb dX2_mean_1 (by decide +kernel) ?_
  refine x_putX S in_X2_mean_X2 tyX2 tyX2_ok nmX2 hK hW.1 rfl 0 (by decide) (by decide +kernel) rfl (Or.inl rfl) (tyX2_ok 0 (by decide)) rfl rfl (Nat.le_of_ble_eq_true rfl) hlo (by omega) dX2_mean_2 (fun H1 lc1 hO1 hz1 ho1 hlo => ?_)
  have hO1 : Ob Γ 2 mo [.int (nI 0), .int (nI (qn σ)), .int (qb σ), .ref (mo + 1), .ref (mo + 2), .ref (mo + 3), .ref (mo + 4), .ref (mo + 5), .ref (mo + 6), .ref (mo + 7), .ref (mo + 8), .ref (mo + 9), .ref (mo + 10)] H1 := hO1
  have hFr := hFr.put hz1 ho1 (by omega) (by omega)
  have hW := MW.put (σ' := σ) hW hO1 ho1 rfl
  have hW : MW Γ mo (nI 0) σ g1 g2 H1 := hW
  refine lv_aload_n hx hb dX2_mean_5 rfl (lv_at hl 0 rfl) ?_
  refine ro_V (rest := []) S hK (c_X2_there l Γ mo (nI 0) σ g1 g2 hI ) (cwV 0 hts gX2_mean_X2_there rfl rfl rfl (by decide +kernel) ⟨Nat.le_of_ble_eq_true rfl, Nat.le_of_ble_eq_true rfl⟩) (Ob.recv hK hW.1 rfl) hW rfl hl.1 rfl (Nat.le_of_ble_eq_true rfl) dX2_mean_6 ⟨Nat.le_of_ble_eq_true rfl, Nat.le_of_ble_eq_true rfl⟩ ?_
  refine W.eq (g2 := F0 m 9 ls [.int (nI (thr σ (qn σ)))]) rfl ?_
  refine x_ifne hx hb (by omega) (tgt := 16) dX2_mean_9 (by decide) (fun c_1 => ?_) (fun c_1 => ?_)
  · skip
    refine lv_aload_n hx hb dX2_mean_16 rfl (lv_at hl 0 rfl) ?_
    refine lv_iconst (v := nI 2) hx hb dX2_mean_17 (by decide +kernel) ?_
    refine m_V (rest := []) S hK (c_X2_counted l Γ bs mo (nI 0) σ g1 g2 hI hbm 2 (by omega)) (cwV 1 hts gX2_mean_X2_counted rfl rfl rfl (by decide +kernel) ⟨Nat.le_of_ble_eq_true rfl, Nat.le_of_ble_eq_true rfl⟩) (Ob.recv hK hW.1 rfl) hW rfl hl.1 rfl (Nat.le_of_ble_eq_true rfl) dX2_mean_18 ⟨Nat.le_of_ble_eq_true rfl, Nat.le_of_ble_eq_true rfl⟩ hlo (fun v H1 lc1 hp hlo => ?_)
    obtain ⟨rfl, hW, hFq⟩ := hp
    refine W.eq (g2 := F0 m 21 ls [.int (tot σ 2)]) rfl ?_
    have hFr := hFr.trans hFq
    refine x_e (show tot σ 2 = tS σ (fun k => fk σ k 2) (qn σ) from rfl) ?_
    refine lv_i2d hx hb dX2_mean_21 ?_
    refine lv_aload_n hx hb dX2_mean_22 rfl (lv_at hl 0 rfl) ?_
    refine ro_V (rest := [.double (FP.i2d (tS σ (fun k => fk σ k 2) (qn σ)))]) S hK (c_X2_there l Γ mo (nI 0) σ g1 g2 hI ) (cwV 0 hts gX2_mean_X2_there rfl rfl rfl (by decide +kernel) ⟨Nat.le_of_ble_eq_true rfl, Nat.le_of_ble_eq_true rfl⟩) (Ob.recv hK hW.1 rfl) hW rfl hl.1 rfl (Nat.le_of_ble_eq_true rfl) dX2_mean_23 ⟨Nat.le_of_ble_eq_true rfl, Nat.le_of_ble_eq_true rfl⟩ ?_
    refine W.eq (g2 := F0 m 26 ls [.int (nI (thr σ (qn σ))), .double (FP.i2d (tS σ (fun k => fk σ k 2) (qn σ)))]) rfl ?_
    refine lv_i2d hx hb dX2_mean_26 ?_
    refine lv_ddiv hx hb dX2_mean_27 (mnv_ok hI (by omega)) ?_
    refine x_eD (show FP.ddiv (FP.i2d (tS σ (fun k => fk σ k 2) (qn σ))) (FP.i2d (nI (thr σ (qn σ)))) = mnv σ by unfold mnv; rw [if_neg (by omega)]) ?_
    refine W.widen (k := 1) (n := 7) (Nat.le_of_ble_eq_true rfl) (Nat.le_of_ble_eq_true rfl) ?_
    exact m_dret (Post := fun H v H2 => v = some (.double (mnv σ)) ∧ MX Γ mo (nI 0) σ H2 ∧ Fr mo (mo + 11) H H2) hx hb hr hlk hlo dX2_mean_28 ⟨rfl, ⟨_, _, hW⟩, hFr⟩
  · skip
    refine lv_dconst0 hx hb dX2_mean_12 ?_
    refine lv_goto (tgt := 28) hx hb dX2_mean_13 (by decide) ?_
    refine x_eD (show FP.dconst0 = mnv σ by unfold mnv; rw [if_pos c_1]) ?_
    refine W.widen (k := 1) (n := 7) (Nat.le_of_ble_eq_true rfl) (Nat.le_of_ble_eq_true rfl) ?_
    exact m_dret (Post := fun H v H2 => v = some (.double (mnv σ)) ∧ MX Γ mo (nI 0) σ H2 ∧ Fr mo (mo + 11) H H2) hx hb hr hlk hlo dX2_mean_28 ⟨rfl, ⟨_, _, hW⟩, hFr⟩
theorem in_X2_digest_X2 : ∀ w ∈ wsX20, w ∈ wsX2_digest := by decide +kernel
set_option maxHeartbeats 4000000 in
set_option maxRecDepth 100000 in
theorem c_X2_digest (l : Launch) (Γ : GG) (bs : Nat) (mo : Nat) (th : Int32) (σ : St) (hI : Iv σ) (hbm : bs ≤ mo)   : Mt l yX2_digest wsX2_digest ({ frames := 4, cells := 287, slots := 2009, locals := 96 }) Γ bs [.ref mo] (MX Γ mo th σ) (fun H v H2 => v = some (.long (dig σ)) ∧ MX Γ mo (nI 0) σ H2 ∧ Fr mo (mo + 11) H H2) 287 2009 := by
  refine Mt.of (cc := cX2_digest) (maxL := 5) (ret := (some .long)) (by decide) rfl (Nat.le_of_ble_eq_true rfl) ?_
  intro p e s m below meth c S hr hlk hin hK hW ls hl
  obtain ⟨hx, hb, hml, hown, hts⟩ := id S
  obtain ⟨lc, elc⟩ : ∃ z : List Loc, z = [] := ⟨_, rfl⟩
  rw [← elc]
  have hlo : lo bs lc := by rw [elc]; exact lo.nil
  clear elc
  have hl : lv_has ls 5 [(0, .ref mo)] := hl
  have hn40 := hI.1
  have hFr : Fr mo (mo + 11) s.heap s.heap := Fr.rf
  obtain ⟨g1, g2, hW⟩ := hW
  have hthr := thr_le σ (qn σ)
  refine lv_aload_n hx hb dX2_digest_0 rfl (lv_at hl 0 rfl) ?_
  refine lv_iconst (v := nI 0) hx hb dX2_digest_1 (by decide +kernel) ?_
  refine x_putX S in_X2_digest_X2 tyX2 tyX2_ok nmX2 hK hW.1 rfl 0 (by decide) (by decide +kernel) rfl (Or.inl rfl) (tyX2_ok 0 (by decide)) rfl rfl (Nat.le_of_ble_eq_true rfl) hlo (by omega) dX2_digest_2 (fun H1 lc1 hO1 hz1 ho1 hlo => ?_)
  have hO1 : Ob Γ 2 mo [.int (nI 0), .int (nI (qn σ)), .int (qb σ), .ref (mo + 1), .ref (mo + 2), .ref (mo + 3), .ref (mo + 4), .ref (mo + 5), .ref (mo + 6), .ref (mo + 7), .ref (mo + 8), .ref (mo + 9), .ref (mo + 10)] H1 := hO1
  have hFr := hFr.put hz1 ho1 (by omega) (by omega)
  have hW := MW.put (σ' := σ) hW hO1 ho1 rfl
  have hW : MW Γ mo (nI 0) σ g1 g2 H1 := hW
  refine lv_ldc2 hx hb hown (v := 1019) (hts _ (by decide +kernel)) dX2_digest_5 ?_
  refine lv_lstore_n (lv' := [(1, .long 1019), (0, .ref mo)]) hx hb dX2_digest_8 rfl hl (by decide) rfl (fun ls hl => ?_)
  refine lv_iconst (v := nI 0) hx hb dX2_digest_9 (by decide +kernel) ?_
  refine lv_istore_n (lv' := [(3, .int (nI 0)), (1, .long 1019), (0, .ref mo)]) hx hb dX2_digest_10 rfl hl (by decide) rfl (fun ls hl => ?_)
  refine W.widen (k := 0) (n := 7 * 0) (by omega) (by omega) ?_
  refine x_loopC (σ := Nat) (fun u => [(0, .ref mo), (1, .long (dF (tot σ) 1019 u)), (3, .int (nI u))]) (fun u H locs => u ≤ 7 ∧ (∃ g1 g2, MW Γ mo (nI 0) σ g1 g2 H) ∧ Fr mo (mo + 11) s.heap H ∧ lo bs locs) (fun u => u) (fun u => 7 * u) (fun u => 7 - u) (fun u H locs hu ih ls hl => ?_) 0 ⟨Nat.zero_le _, ⟨_, _, hW⟩, hFr, hlo⟩ ls (x_hl (lv_sub (l' := [(0, .ref mo), (1, .long 1019), (3, .int (nI 0))]) hl [2, 1, 0] rfl) rfl)
  obtain ⟨wt, rfl⟩ : ∃ z, z = u := ⟨_, rfl⟩
  have hl : lv_has ls 5 [(0, .ref mo), (1, .long (dF (tot σ) 1019 wt)), (3, .int (nI wt))] := hl
  obtain ⟨hw9, ⟨g1, g2, hW⟩, hFr, hlo⟩ := hu
  refine W.widen (k := wt) (n := 7 * wt) (Nat.le_refl _) (Nat.le_refl _) ?_
  refine lv_iload_n hx hb dX2_digest_11 rfl (lv_at hl 2 rfl) ?_
  refine lv_bipush (v := nI 6) hx hb dX2_digest_12 (by decide +kernel) ?_
  refine x_icgt hx hb (by omega) (by omega) (tgt := 36) dX2_digest_14 (by decide) (fun c_1 => ?_) (fun c_1 => ?_)
  · skip
    refine lv_iconst (v := nI 0) hx hb dX2_digest_36 (by decide +kernel) ?_
    refine lv_istore_n (lv' := [(3, .int (nI 0)), (0, .ref mo), (1, .long (dF (tot σ) 1019 wt))]) hx hb dX2_digest_37 rfl hl (by decide) rfl (fun ls hl => ?_)
    have hl : lv_has ls 5 [(3, .int (nI 0)), (0, .ref mo), (1, .long (dS σ (dF (tot σ) 1019 7) 0))] := x_hl hl (by rw [show dF (tot σ) 1019 wt = dS σ (dF (tot σ) 1019 7) 0 by rw [show wt = 7 by omega]; rfl])
    refine W.widen (k := 7 + 7 * 0) (n := 49 + 49 * 0) (by omega) (by omega) ?_
    refine x_loopC (σ := Nat) (fun u => [(0, .ref mo), (1, .long (dS σ (dF (tot σ) 1019 7) u)), (3, .int (nI u))]) (fun u H locs => u ≤ qn σ ∧ (∃ g1 g2, MW Γ mo (nI 0) σ g1 g2 H) ∧ Fr mo (mo + 11) s.heap H ∧ lo bs locs) (fun u => 7 + 7 * u) (fun u => 49 + 49 * u) (fun u => qn σ - u) (fun u H locs hu2 ih2 ls hl => ?_) 0 ⟨Nat.zero_le _, ⟨_, _, hW⟩, hFr, hlo⟩ ls (x_hl (lv_sub (l' := [(0, .ref mo), (1, .long (dS σ (dF (tot σ) 1019 7) 0)), (3, .int (nI 0))]) hl [1, 2, 0] rfl) rfl)
    obtain ⟨k, rfl⟩ : ∃ z, z = u := ⟨_, rfl⟩
    have hl : lv_has ls 5 [(0, .ref mo), (1, .long (dS σ (dF (tot σ) 1019 7) k)), (3, .int (nI k))] := hl
    obtain ⟨hk9, ⟨g1, g2, hW⟩, hFr, hlo⟩ := hu2
    refine W.widen (k := 7 + 7 * k) (n := 49 + 49 * k) (Nat.le_refl _) (Nat.le_refl _) ?_
    refine lv_iload_n hx hb dX2_digest_38 rfl (lv_at hl 2 rfl) ?_
    refine lv_aload_n hx hb dX2_digest_39 rfl (lv_at hl 0 rfl) ?_
    refine x_get S in_X2_digest_X2 hK hW.1 rfl 1 (by decide) (by decide +kernel) rfl rfl dX2_digest_40 ?_
    refine x_icge hx hb (by omega) (by omega) (tgt := 171) dX2_digest_43 (by decide) (fun c_2 => ?_) (fun c_2 => ?_)
    · skip
      refine lv_lload_n hx hb dX2_digest_171 rfl (lv_at hl 1 rfl) ?_
      refine W.widen (k := 287) (n := 2009) (by omega) (by omega) ?_
      refine x_eL (show dS σ (dF (tot σ) 1019 7) k = dig σ by rw [show k = qn σ by omega]; rfl) ?_
      exact m_lret (Post := fun H v H2 => v = some (.long (dig σ)) ∧ MX Γ mo (nI 0) σ H2 ∧ Fr mo (mo + 11) H H2) hx hb hr hlk hlo dX2_digest_172 ⟨rfl, ⟨_, _, hW⟩, hFr⟩
    · skip
      obtain ⟨hp0k, hp12k, hu3k, hg1k⟩ := hI.2.1 k (by omega)
      refine lv_iconst (v := nI 0) hx hb dX2_digest_46 (by decide +kernel) ?_
      refine lv_istore (lv' := [(4, .int (nI 0)), (0, .ref mo), (1, .long (dS σ (dF (tot σ) 1019 7) k)), (3, .int (nI k))]) hx hb dX2_digest_47 hl (by decide) rfl (fun ls hl => ?_)
      refine W.widen (k := 7 + 7 * k + 0) (n := 49 + 49 * k + 7 * 0) (by omega) (by omega) ?_
      refine x_loopC (σ := Nat) (fun u => [(0, .ref mo), (1, .long (dF (fk σ k) (dS σ (dF (tot σ) 1019 7) k) u)), (3, .int (nI k)), (4, .int (nI u))]) (fun u H locs => u ≤ 7 ∧ (∃ g1 g2, MW Γ mo (nI 0) σ g1 g2 H) ∧ Fr mo (mo + 11) s.heap H ∧ lo bs locs) (fun u => 7 + 7 * k + u) (fun u => 49 + 49 * k + 7 * u) (fun u => 7 - u) (fun u H locs hu3 ih3 ls hl => ?_) 0 ⟨Nat.zero_le _, ⟨_, _, hW⟩, hFr, hlo⟩ ls (x_hl (lv_sub (l' := [(0, .ref mo), (1, .long (dS σ (dF (tot σ) 1019 7) k)), (3, .int (nI k)), (4, .int (nI 0))]) hl [1, 2, 3, 0] rfl) rfl)
      obtain ⟨wt, rfl⟩ : ∃ z, z = u := ⟨_, rfl⟩
      have hl : lv_has ls 5 [(0, .ref mo), (1, .long (dF (fk σ k) (dS σ (dF (tot σ) 1019 7) k) wt)), (3, .int (nI k)), (4, .int (nI wt))] := hl
      obtain ⟨hw9, ⟨g1, g2, hW⟩, hFr, hlo⟩ := hu3
      refine W.widen (k := 7 + 7 * k + wt) (n := 49 + 49 * k + 7 * wt) (Nat.le_refl _) (Nat.le_refl _) ?_
      refine lv_iload hx hb dX2_digest_49 (lv_at hl 3 rfl) ?_
      refine lv_bipush (v := nI 6) hx hb dX2_digest_51 (by decide +kernel) ?_
      refine x_icgt hx hb (by omega) (by omega) (tgt := 77) dX2_digest_53 (by decide) (fun c_3 => ?_) (fun c_3 => ?_)
      · skip
        refine lv_iconst (v := nI 0) hx hb dX2_digest_77 (by decide +kernel) ?_
        refine lv_istore (lv' := [(4, .int (nI 0)), (0, .ref mo), (1, .long (dF (fk σ k) (dS σ (dF (tot σ) 1019 7) k) wt)), (3, .int (nI k))]) hx hb dX2_digest_78 hl (by decide) rfl (fun ls hl => ?_)
        have hl : lv_has ls 5 [(4, .int (nI 0)), (0, .ref mo), (1, .long (dF (rk σ k) (dF (fk σ k) (dS σ (dF (tot σ) 1019 7) k) 7) 0)), (3, .int (nI k))] := x_hl hl (by rw [show dF (fk σ k) (dS σ (dF (tot σ) 1019 7) k) wt = dF (rk σ k) (dF (fk σ k) (dS σ (dF (tot σ) 1019 7) k) 7) 0 by rw [show wt = 7 by omega]; rfl])
        refine x_loop (σ := Nat) (fun u => [(0, .ref mo), (1, .long (dF (rk σ k) (dF (fk σ k) (dS σ (dF (tot σ) 1019 7) k) 7) u)), (3, .int (nI k)), (4, .int (nI u))]) (fun u => u ≤ 3 * qp σ k) (fun u => 3 * qp σ k - u) (fun u hu4 ih4 ls hl => ?_) 0 (Nat.zero_le _) ls (x_hl (lv_sub (l' := [(0, .ref mo), (1, .long (dF (rk σ k) (dF (fk σ k) (dS σ (dF (tot σ) 1019 7) k) 7) 0)), (3, .int (nI k)), (4, .int (nI 0))]) hl [1, 2, 3, 0] rfl) rfl)
        obtain ⟨ii, rfl⟩ : ∃ z, z = u := ⟨_, rfl⟩
        have hu4 : ii ≤ 3 * qp σ k := hu4
        have hl : lv_has ls 5 [(0, .ref mo), (1, .long (dF (rk σ k) (dF (fk σ k) (dS σ (dF (tot σ) 1019 7) k) 7) ii)), (3, .int (nI k)), (4, .int (nI ii))] := hl
        refine lv_iload hx hb dX2_digest_80 (lv_at hl 3 rfl) ?_
        refine lv_iconst (v := nI 3) hx hb dX2_digest_82 (by decide +kernel) ?_
        refine lv_aload_n hx hb dX2_digest_83 rfl (lv_at hl 0 rfl) ?_
        refine x_get S in_X2_digest_X2 hK hW.1 rfl 3 (by decide) (by decide +kernel) rfl rfl dX2_digest_84 ?_
        refine lv_iload_n hx hb dX2_digest_87 rfl (lv_at hl 2 rfl) ?_
        refine x_iald hx hb hK hW.2.1 (by omega) (by omega) dX2_digest_88 ?_
        refine x_mul hx hb dX2_digest_89 ?_
        refine x_icge hx hb (by omega) (by omega) (tgt := 123) dX2_digest_90 (by decide) (fun c_4 => ?_) (fun c_4 => ?_)
        · skip
          refine lv_iconst (v := nI 0) hx hb dX2_digest_123 (by decide +kernel) ?_
          refine lv_istore (lv' := [(4, .int (nI 0)), (0, .ref mo), (1, .long (dF (rk σ k) (dF (fk σ k) (dS σ (dF (tot σ) 1019 7) k) 7) ii)), (3, .int (nI k))]) hx hb dX2_digest_124 hl (by decide) rfl (fun ls hl => ?_)
          have hl : lv_has ls 5 [(4, .int (nI 0)), (0, .ref mo), (1, .long (dF (ak σ k) (dF (rk σ k) (dF (fk σ k) (dS σ (dF (tot σ) 1019 7) k) 7) (3 * qp σ k)) 0)), (3, .int (nI k))] := x_hl hl (by rw [show dF (rk σ k) (dF (fk σ k) (dS σ (dF (tot σ) 1019 7) k) 7) ii = dF (ak σ k) (dF (rk σ k) (dF (fk σ k) (dS σ (dF (tot σ) 1019 7) k) 7) (3 * qp σ k)) 0 by rw [show ii = 3 * qp σ k by omega]; rfl])
          refine x_loop (σ := Nat) (fun u => [(0, .ref mo), (1, .long (dF (ak σ k) (dF (rk σ k) (dF (fk σ k) (dS σ (dF (tot σ) 1019 7) k) 7) (3 * qp σ k)) u)), (3, .int (nI k)), (4, .int (nI u))]) (fun u => u ≤ qp σ k - 1) (fun u => qp σ k - 1 - u) (fun u hu5 ih5 ls hl => ?_) 0 (Nat.zero_le _) ls (x_hl (lv_sub (l' := [(0, .ref mo), (1, .long (dF (ak σ k) (dF (rk σ k) (dF (fk σ k) (dS σ (dF (tot σ) 1019 7) k) 7) (3 * qp σ k)) 0)), (3, .int (nI k)), (4, .int (nI 0))]) hl [1, 2, 3, 0] rfl) rfl)
          obtain ⟨jj, rfl⟩ : ∃ z, z = u := ⟨_, rfl⟩
          have hu5 : jj ≤ qp σ k - 1 := hu5
          have hl : lv_has ls 5 [(0, .ref mo), (1, .long (dF (ak σ k) (dF (rk σ k) (dF (fk σ k) (dS σ (dF (tot σ) 1019 7) k) 7) (3 * qp σ k)) jj)), (3, .int (nI k)), (4, .int (nI jj))] := hl
          refine lv_iload hx hb dX2_digest_126 (lv_at hl 3 rfl) ?_
          refine lv_aload_n hx hb dX2_digest_128 rfl (lv_at hl 0 rfl) ?_
          refine x_get S in_X2_digest_X2 hK hW.1 rfl 3 (by decide) (by decide +kernel) rfl rfl dX2_digest_129 ?_
          refine lv_iload_n hx hb dX2_digest_132 rfl (lv_at hl 2 rfl) ?_
          refine x_iald hx hb hK hW.2.1 (by omega) (by omega) dX2_digest_133 ?_
          refine lv_iconst (v := nI 1) hx hb dX2_digest_134 (by decide +kernel) ?_
          refine x_sub hx hb (by omega) dX2_digest_135 ?_
          refine x_icge hx hb (by omega) (by omega) (tgt := 165) dX2_digest_136 (by decide) (fun c_5 => ?_) (fun c_5 => ?_)
          · skip
            refine x_iinc (n := 1) (lv' := [(3, .int (nI (k + 1))), (0, .ref mo), (1, .long (dF (ak σ k) (dF (rk σ k) (dF (fk σ k) (dS σ (dF (tot σ) 1019 7) k) 7) (3 * qp σ k)) jj)), (4, .int (nI jj))]) hx hb dX2_digest_165 hl (k := 2) rfl (by decide) rfl (fun ls hl => ?_)
            refine lv_goto (tgt := 38) hx hb dX2_digest_168 (by decide) ?_
            have hl : lv_has ls 5 [(3, .int (nI (k + 1))), (0, .ref mo), (1, .long (dS σ (dF (tot σ) 1019 7) (k + 1))), (4, .int (nI jj))] := x_hl hl (by rw [show dF (ak σ k) (dF (rk σ k) (dF (fk σ k) (dS σ (dF (tot σ) 1019 7) k) 7) (3 * qp σ k)) jj = dS σ (dF (tot σ) 1019 7) (k + 1) by rw [show jj = qp σ k - 1 by omega]; rfl])
            refine W.widen (k := 7 + 7 * (k + 1)) (n := 49 + 49 * (k + 1)) (by omega) (by omega) ?_
            exact ih2 (k + 1) _ _ ⟨by omega, ⟨_, _, hW⟩, hFr, hlo⟩ (by omega) ls (lv_sub hl [1, 2, 0] rfl)
          · skip
            refine lv_lload_n hx hb dX2_digest_139 rfl (lv_at hl 1 rfl) ?_
            refine lv_ldc2 hx hb hown (v := 31) (hts _ (by decide +kernel)) dX2_digest_140 ?_
            refine lv_lmul hx hb dX2_digest_143 ?_
            refine lv_aload_n hx hb dX2_digest_144 rfl (lv_at hl 0 rfl) ?_
            refine x_get S in_X2_digest_X2 hK hW.1 rfl 9 (by decide) (by decide +kernel) rfl rfl dX2_digest_145 ?_
            refine lv_bipush (v := nI 12) hx hb dX2_digest_148 (by decide +kernel) ?_
            refine lv_iload_n hx hb dX2_digest_150 rfl (lv_at hl 2 rfl) ?_
            refine x_mul hx hb dX2_digest_151 ?_
            refine lv_iload hx hb dX2_digest_152 (lv_at hl 3 rfl) ?_
            refine x_add hx hb dX2_digest_154 ?_
            refine x_iald hx hb hK hW.2.2.2.2.2.2.2.1 (by omega) (by omega) dX2_digest_155 ?_
            refine lv_i2l hx hb dX2_digest_156 rfl ?_
            refine lv_ladd hx hb dX2_digest_157 ?_
            refine lv_lstore_n (lv' := [(1, .long (((dF (ak σ k) (dF (rk σ k) (dF (fk σ k) (dS σ (dF (tot σ) 1019 7) k) 7) (3 * qp σ k)) jj) * 31) + ((qa σ ((12 * k) + jj)).toInt64))), (0, .ref mo), (3, .int (nI k)), (4, .int (nI jj))]) hx hb dX2_digest_158 rfl hl (by decide) rfl (fun ls hl => ?_)
            refine x_iinc (n := 1) (lv' := [(4, .int (nI (jj + 1))), (1, .long (((dF (ak σ k) (dF (rk σ k) (dF (fk σ k) (dS σ (dF (tot σ) 1019 7) k) 7) (3 * qp σ k)) jj) * 31) + ((qa σ ((12 * k) + jj)).toInt64))), (0, .ref mo), (3, .int (nI k))]) hx hb dX2_digest_159 hl (k := 3) rfl (by decide) rfl (fun ls hl => ?_)
            refine lv_goto (tgt := 126) hx hb dX2_digest_162 (by decide) ?_
            have hl : lv_has ls 5 [(4, .int (nI (jj + 1))), (1, .long (dF (ak σ k) (dF (rk σ k) (dF (fk σ k) (dS σ (dF (tot σ) 1019 7) k) 7) (3 * qp σ k)) (jj + 1))), (0, .ref mo), (3, .int (nI k))] := x_hl hl (by rw [show dF (ak σ k) (dF (rk σ k) (dF (fk σ k) (dS σ (dF (tot σ) 1019 7) k) 7) (3 * qp σ k)) jj * 31 + (qa σ (12 * k + jj)).toInt64 = dF (ak σ k) (dF (rk σ k) (dF (fk σ k) (dS σ (dF (tot σ) 1019 7) k) 7) (3 * qp σ k)) (jj + 1) from rfl])
            exact ih5 (jj + 1) (by omega) (by omega) ls (lv_sub hl [2, 1, 3, 0] rfl)
        · skip
          refine lv_lload_n hx hb dX2_digest_93 rfl (lv_at hl 1 rfl) ?_
          refine lv_ldc2 hx hb hown (v := 31) (hts _ (by decide +kernel)) dX2_digest_94 ?_
          refine lv_lmul hx hb dX2_digest_97 ?_
          refine lv_aload_n hx hb dX2_digest_98 rfl (lv_at hl 0 rfl) ?_
          refine x_get S in_X2_digest_X2 hK hW.1 rfl 8 (by decide) (by decide +kernel) rfl rfl dX2_digest_99 ?_
          refine lv_iload_n hx hb dX2_digest_102 rfl (lv_at hl 2 rfl) ?_
          refine lv_iconst (v := nI 0) hx hb dX2_digest_103 (by decide +kernel) ?_
          refine lv_iconst (v := nI 0) hx hb dX2_digest_104 (by decide +kernel) ?_
          refine ro_S (rest := [.ref (mo + 6), .long ((dF (rk σ k) (dF (fk σ k) (dS σ (dF (tot σ) 1019 7) k) 7) ii) * 31)]) S hK (c_X2_spot l Γ k 0 0) (cwS 3 hts gX2_digest_X2_spot rfl rfl rfl (by decide +kernel) ⟨Nat.le_of_ble_eq_true rfl, Nat.le_of_ble_eq_true rfl⟩) trivial rfl hl.1 rfl (Nat.le_of_ble_eq_true rfl) dX2_digest_105 ⟨by dsimp only; omega, by dsimp only; omega⟩ ?_
          refine W.eq (g2 := F0 m 108 ls [.int (nI (3 * (12 * k + 0) + 0)), .ref (mo + 6), .long ((dF (rk σ k) (dF (fk σ k) (dS σ (dF (tot σ) 1019 7) k) 7) ii) * 31)]) rfl ?_
          refine lv_iload hx hb dX2_digest_108 (lv_at hl 3 rfl) ?_
          refine x_add hx hb dX2_digest_110 ?_
          refine x_iald hx hb hK hW.2.2.2.2.2.2.1 (by omega) (by omega) dX2_digest_111 ?_
          refine lv_i2l hx hb dX2_digest_112 rfl ?_
          refine lv_ladd hx hb dX2_digest_113 ?_
          refine lv_lconst (v := 1) hx hb dX2_digest_114 (by decide +kernel) ?_
          refine lv_lsub hx hb dX2_digest_115 ?_
          refine x_eL (show ((dF (rk σ k) (dF (fk σ k) (dS σ (dF (tot σ) 1019 7) k) 7) ii) * 31) + ((qr σ ((3 * (12 * k + 0) + 0) + ii) + 1).toInt64) - 1 = dF (rk σ k) (dF (fk σ k) (dS σ (dF (tot σ) 1019 7) k) 7) ii * 31 + (rk σ k ii).toInt64 from dg_sub (hI.2.2.2.1 _) (congrArg (qr σ) (by omega))) ?_
          refine lv_lstore_n (lv' := [(1, .long (dF (rk σ k) (dF (fk σ k) (dS σ (dF (tot σ) 1019 7) k) 7) ii * 31 + (rk σ k ii).toInt64)), (0, .ref mo), (3, .int (nI k)), (4, .int (nI ii))]) hx hb dX2_digest_116 rfl hl (by decide) rfl (fun ls hl => ?_)
          refine x_iinc (n := 1) (lv' := [(4, .int (nI (ii + 1))), (1, .long (dF (rk σ k) (dF (fk σ k) (dS σ (dF (tot σ) 1019 7) k) 7) ii * 31 + (rk σ k ii).toInt64)), (0, .ref mo), (3, .int (nI k))]) hx hb dX2_digest_117 hl (k := 3) rfl (by decide) rfl (fun ls hl => ?_)
          refine lv_goto (tgt := 80) hx hb dX2_digest_120 (by decide) ?_
          have hl : lv_has ls 5 [(4, .int (nI (ii + 1))), (1, .long (dF (rk σ k) (dF (fk σ k) (dS σ (dF (tot σ) 1019 7) k) 7) (ii + 1))), (0, .ref mo), (3, .int (nI k))] := x_hl hl (by rw [← dF_s])
          exact ih4 (ii + 1) (by omega) (by omega) ls (lv_sub hl [2, 1, 3, 0] rfl)
      · skip
        refine lv_lload_n hx hb dX2_digest_56 rfl (lv_at hl 1 rfl) ?_
        refine lv_ldc2 hx hb hown (v := 31) (hts _ (by decide +kernel)) dX2_digest_57 ?_
        refine lv_lmul hx hb dX2_digest_60 ?_
        refine lv_aload_n hx hb dX2_digest_61 rfl (lv_at hl 0 rfl) ?_
        refine lv_iload_n hx hb dX2_digest_62 rfl (lv_at hl 2 rfl) ?_
        refine lv_iload hx hb dX2_digest_63 (lv_at hl 3 rfl) ?_
        refine m_V (rest := [.long ((dF (fk σ k) (dS σ (dF (tot σ) 1019 7) k) wt) * 31)]) S hK (c_X2_stickTold l Γ bs mo (nI 0) σ g1 g2 hI hbm k wt (by omega) (by omega)) (cwV 2 hts gX2_digest_X2_stickTold rfl rfl rfl (by decide +kernel) ⟨Nat.le_of_ble_eq_true rfl, Nat.le_of_ble_eq_true rfl⟩) (Ob.recv hK hW.1 rfl) hW rfl hl.1 rfl (Nat.le_of_ble_eq_true rfl) dX2_digest_65 ⟨by dsimp only; omega, by dsimp only; omega⟩ hlo (fun v H1 lc1 hp hlo => ?_)
        obtain ⟨rfl, hW, hFq⟩ := hp
        refine W.eq (g2 := F0 m 68 ls [.int (fk σ k wt), .long ((dF (fk σ k) (dS σ (dF (tot σ) 1019 7) k) wt) * 31)]) rfl ?_
        have hFr := hFr.trans hFq
        refine lv_i2l hx hb dX2_digest_68 rfl ?_
        refine lv_ladd hx hb dX2_digest_69 ?_
        refine lv_lstore_n (lv' := [(1, .long (((dF (fk σ k) (dS σ (dF (tot σ) 1019 7) k) wt) * 31) + ((fk σ k wt).toInt64))), (0, .ref mo), (3, .int (nI k)), (4, .int (nI wt))]) hx hb dX2_digest_70 rfl hl (by decide) rfl (fun ls hl => ?_)
        refine x_iinc (n := 1) (lv' := [(4, .int (nI (wt + 1))), (1, .long (((dF (fk σ k) (dS σ (dF (tot σ) 1019 7) k) wt) * 31) + ((fk σ k wt).toInt64))), (0, .ref mo), (3, .int (nI k))]) hx hb dX2_digest_71 hl (k := 3) rfl (by decide) rfl (fun ls hl => ?_)
        refine lv_goto (tgt := 49) hx hb dX2_digest_74 (by decide) ?_
        have hl : lv_has ls 5 [(4, .int (nI (wt + 1))), (1, .long (dF (fk σ k) (dS σ (dF (tot σ) 1019 7) k) (wt + 1))), (0, .ref mo), (3, .int (nI k))] := x_hl hl (by rw [← dF_s])
        refine W.widen (k := 7 + 7 * k + (wt + 1)) (n := 49 + 49 * k + 7 * (wt + 1)) (by omega) (by omega) ?_
        exact ih3 (wt + 1) _ _ ⟨by omega, ⟨_, _, hW⟩, hFr, hlo⟩ (by omega) ls (lv_sub hl [2, 1, 3, 0] rfl)
  · skip
    refine lv_lload_n hx hb dX2_digest_17 rfl (lv_at hl 1 rfl) ?_
    refine lv_ldc2 hx hb hown (v := 31) (hts _ (by decide +kernel)) dX2_digest_18 ?_
    refine lv_lmul hx hb dX2_digest_21 ?_
    refine lv_aload_n hx hb dX2_digest_22 rfl (lv_at hl 0 rfl) ?_
    refine lv_iload_n hx hb dX2_digest_23 rfl (lv_at hl 2 rfl) ?_
    refine m_V (rest := [.long ((dF (tot σ) 1019 wt) * 31)]) S hK (c_X2_counted l Γ bs mo (nI 0) σ g1 g2 hI hbm wt (by omega)) (cwV 1 hts gX2_digest_X2_counted rfl rfl rfl (by decide +kernel) ⟨Nat.le_of_ble_eq_true rfl, Nat.le_of_ble_eq_true rfl⟩) (Ob.recv hK hW.1 rfl) hW rfl hl.1 rfl (Nat.le_of_ble_eq_true rfl) dX2_digest_24 ⟨by dsimp only; omega, by dsimp only; omega⟩ hlo (fun v H1 lc1 hp hlo => ?_)
    obtain ⟨rfl, hW, hFq⟩ := hp
    refine W.eq (g2 := F0 m 27 ls [.int (tot σ wt), .long ((dF (tot σ) 1019 wt) * 31)]) rfl ?_
    have hFr := hFr.trans hFq
    refine lv_i2l hx hb dX2_digest_27 rfl ?_
    refine lv_ladd hx hb dX2_digest_28 ?_
    refine lv_lstore_n (lv' := [(1, .long (((dF (tot σ) 1019 wt) * 31) + ((tot σ wt).toInt64))), (0, .ref mo), (3, .int (nI wt))]) hx hb dX2_digest_29 rfl hl (by decide) rfl (fun ls hl => ?_)
    refine x_iinc (n := 1) (lv' := [(3, .int (nI (wt + 1))), (1, .long (((dF (tot σ) 1019 wt) * 31) + ((tot σ wt).toInt64))), (0, .ref mo)]) hx hb dX2_digest_30 hl (k := 2) rfl (by decide) rfl (fun ls hl => ?_)
    refine lv_goto (tgt := 11) hx hb dX2_digest_33 (by decide) ?_
    have hl : lv_has ls 5 [(3, .int (nI (wt + 1))), (1, .long (dF (tot σ) 1019 (wt + 1))), (0, .ref mo)] := x_hl hl (by rw [← dF_s])
    refine W.widen (k := (wt + 1)) (n := 7 * (wt + 1)) (by omega) (by omega) ?_
    exact ih (wt + 1) _ _ ⟨by omega, ⟨_, _, hW⟩, hFr, hlo⟩ (by omega) ls (lv_sub hl [2, 1, 0] rfl)
