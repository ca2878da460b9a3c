set_option maxHeartbeats 4000000 in
set_option maxRecDepth 100000 in
theorem c_L_make (l : Launch) (hfl : l.stackTraces = false) (Γ : GG) (cJ : ClassId) (bs x out b0 : Nat) (σ : St) (ad : Nat → Nat) (hI : Iv σ) (y : Int32) (hy : Ly b0 σ ad) (hb0 : x + 2 ≤ out) (hob : out + 1 ≤ b0) (hbs : bs ≤ x) (v0 : Int64) : Lw l yL_make wsL_make ({ frames := 8, cells := 6, slots := 78, locals := 124 }) Γ cJ bs [.ref x, .int y, .ref out] (fun H => CW Γ x σ ad H ∧ b0 ≤ H.size ∧ Aj cJ out v0 H) (fun H v H2 => WPo Γ cJ x out b0 σ (sMake σ y.toInt.toNat) ad (cd2 (inR y (1 : Nat) (12 : Nat)) (thr σ (qn σ) < 12 ∧ qn σ < 40)) (nI (qn σ)) v0 H v H2) 6 78 := by
  refine Lw.of (cc := cL_make) (maxL := 4) (ret := some .int) (by decide) rfl (Nat.le_of_ble_eq_true rfl) ?_
  intro p e s m below meth c S hr hlk htab hK hT hE0 hJ hW ls hl
  obtain ⟨hx, hb, hml, hown, hts⟩ := id S
  obtain ⟨lc, elc⟩ : ∃ z : List Loc, z = [] := ⟨_, rfl⟩
  rw [← elc]
  have hlo : lo bs lc := by rw [elc]; exact lo.nil
  clear elc
  have hl : lv_has ls 4 [(0, .ref x), (1, .int y), (2, .ref out)] := hl
  obtain ⟨hC, hsz0, hA⟩ := hW
  have hA0 := hA
  refine lv_aload_n hx hb dL_make_0 rfl (lv_at hl 2 rfl) ?_
  refine lv_iconst (v := nI 0) hx hb dL_make_1 (by decide +kernel) ?_
  refine lv_aload_n hx hb dL_make_2 rfl (lv_at hl 0 rfl) ?_
  refine lv_iload_n hx hb dL_make_3 rfl (lv_at hl 1 rfl) ?_
  refine w_V (rest := [.int (nI 0), .ref out]) S hK hT (c_X1_make l hfl Γ bs x σ ad hI b0 y hy (by omega) hbs) (cwV 1 hts gL_make_X1_make rfl rfl rfl (by decide +kernel) ⟨Nat.le_of_ble_eq_true rfl, Nat.le_of_ble_eq_true rfl⟩) (Ob.recv hK hC.1 rfl) ⟨hC, hsz0⟩ rfl hl.1 rfl (Nat.le_of_ble_eq_true rfl) dL_make_4 ⟨Nat.le_of_ble_eq_true rfl, Nat.le_of_ble_eq_true rfl⟩ hlo (fun v H1 lc1 hp hlo => ?_) (fun E ce q H1 lc1 hEx hz9 ho9 hce hcv hcl hlo => ?_)
  · skip
    obtain ⟨hcd, rfl, ⟨ad2, hC2, hy2⟩, hF⟩ := hp
    have hA := hA.kept (hF.2 out hA.lt (by omega) (by omega) (by omega))
    refine W.eq (g2 := F0 m 7 ls [.int (nI (qn σ)), .int (nI 0), .ref out]) rfl ?_
    refine lv_i2l hx hb dL_make_7 rfl ?_
    refine x_last (x := ((nI (qn σ)).toInt64)) hx hb hJ hA hlo (by omega) dL_make_8 (fun H2 lc2 hA2 hz2 ho2 hlo => ?_)
    refine lv_goto (tgt := 18) hx hb dL_make_9 (by decide) ?_
    refine lv_iconst (v := nI 0) hx hb dL_make_18 (by decide +kernel) ?_
    refine W.widen (k := 6) (n := 78) (Nat.le_of_ble_eq_true rfl) (Nat.le_of_ble_eq_true rfl) ?_
    exact m_iret (Post := fun H v H2 => WPo Γ cJ x out b0 σ (sMake σ y.toInt.toNat) ad (cd2 (inR y (1 : Nat) (12 : Nat)) (thr σ (qn σ) < 12 ∧ qn σ < 40)) (nI (qn σ)) v0 H v H2) hx hb hr hlk hlo dL_make_19 (WPo.ok hcd hC2 hy2 hF hb0 hob hA2 rfl hz2 ho2)
  · skip
    have hown9 : s.vm.findClass RL = some m.cls := hown
    obtain ⟨i, hi, hc⟩ := hEx
    rcases i with _ | _ | i
    · skip
      have hi : some eIA = some E := hi
      cases hi
      refine vx_catch (own := RL) (name := eIA) hown9 [] ⟨0, 9, 12, 13⟩ [⟨0, 9, 15, 15⟩] htab (fun z hz => by cases hz) rfl (by decide) (hts (.classLink RL 13 eIA) (by decide +kernel)) hE0.IA hce hcv hcl ?_
      refine lv_astore_n (lv' := [(3, .ref q), (0, .ref x), (1, .int y), (2, .ref out)]) hx hb dL_make_12 rfl hl (by decide) rfl (fun ls hl => ?_)
      refine lv_iconst (v := nI 1) hx hb dL_make_13 (by decide +kernel) ?_
      refine W.widen (k := 6) (n := 78) (Nat.le_of_ble_eq_true rfl) (Nat.le_of_ble_eq_true rfl) ?_
      exact m_iret (Post := fun H v H2 => WPo Γ cJ x out b0 σ (sMake σ y.toInt.toNat) ad (cd2 (inR y (1 : Nat) (12 : Nat)) (thr σ (qn σ) < 12 ∧ qn σ < 40)) (nI (qn σ)) v0 H v H2) hx hb hr hlk hlo dL_make_14 (WPo.no (i := 0) hc hC hA0 hz9 ho9)
    · skip
      have hi : some eIS = some E := hi
      cases hi
      refine vx_catch (own := RL) (name := eIS) hown9 [⟨0, 9, 12, 13⟩] ⟨0, 9, 15, 15⟩ [] htab (List.forall_mem_cons.mpr ⟨Or.inr ⟨by decide, eIA, hts (.classLink RL 13 eIA) (by decide +kernel), hE0.2.2.2.1⟩, fun z hz => by cases hz⟩) rfl (by decide) (hts (.classLink RL 15 eIS) (by decide +kernel)) hE0.IS hce hcv hcl ?_
      refine lv_astore_n (lv' := [(3, .ref q), (0, .ref x), (1, .int y), (2, .ref out)]) hx hb dL_make_15 rfl hl (by decide) rfl (fun ls hl => ?_)
      refine lv_iconst (v := nI 2) hx hb dL_make_16 (by decide +kernel) ?_
      refine W.widen (k := 6) (n := 78) (Nat.le_of_ble_eq_true rfl) (Nat.le_of_ble_eq_true rfl) ?_
      exact m_iret (Post := fun H v H2 => WPo Γ cJ x out b0 σ (sMake σ y.toInt.toNat) ad (cd2 (inR y (1 : Nat) (12 : Nat)) (thr σ (qn σ) < 12 ∧ qn σ < 40)) (nI (qn σ)) v0 H v H2) hx hb hr hlk hlo dL_make_17 (WPo.no (i := 1) hc hC hA0 hz9 ho9)
    · skip
      have hi : (none : Option String) = some E := hi
      cases hi
set_option maxHeartbeats 4000000 in
set_option maxRecDepth 100000 in
theorem c_L_carve (l : Launch) (hfl : l.stackTraces = false) (Γ : GG) (cJ : ClassId) (bs x out b0 : Nat) (σ : St) (ad : Nat → Nat) (hI : Iv σ) (y z w r : Int32) (hy : Ly b0 σ ad) (hb0 : x + 2 ≤ out) (hob : out + 1 ≤ b0) (hbs : bs ≤ x) (v0 : Int64) : Lw l yL_carve wsL_carve ({ frames := 8, cells := 4, slots := 24, locals := 130 }) Γ cJ bs [.ref x, .int y, .int z, .int w, .int r, .ref out] (fun H => CW Γ x σ ad H ∧ b0 ≤ H.size ∧ Aj cJ out v0 H) (fun H v H2 => WPo Γ cJ x out b0 σ (o_rune σ (36 * y.toInt.toNat + (3 * w.toInt.toNat + z.toInt.toNat)) (r)) ad (cd3 (spotP σ y z w) (inb r 24) (qg σ (y.toInt.toNat) = 0)) (rk σ (y.toInt.toNat) (3 * w.toInt.toNat + z.toInt.toNat)) v0 H v H2) 4 24 := by
  refine Lw.of (cc := cL_carve) (maxL := 7) (ret := some .int) (by decide) rfl (Nat.le_of_ble_eq_true rfl) ?_
  intro p e s m below meth c S hr hlk htab hK hT hE0 hJ hW ls hl
  obtain ⟨hx, hb, hml, hown, hts⟩ := id S
  obtain ⟨lc, elc⟩ : ∃ z : List Loc, z = [] := ⟨_, rfl⟩
  rw [← elc]
  have hlo : lo bs lc := by rw [elc]; exact lo.nil
  clear elc
  have hl : lv_has ls 7 [(0, .ref x), (1, .int y), (2, .int z), (3, .int w), (4, .int r), (5, .ref out)] := hl
  obtain ⟨hC, hsz0, hA⟩ := hW
  have hA0 := hA
  refine lv_aload hx hb dL_carve_0 (lv_at hl 5 rfl) ?_
  refine lv_iconst (v := nI 0) hx hb dL_carve_2 (by decide +kernel) ?_
  refine lv_aload_n hx hb dL_carve_3 rfl (lv_at hl 0 rfl) ?_
  refine lv_iload_n hx hb dL_carve_4 rfl (lv_at hl 1 rfl) ?_
  refine lv_iload_n hx hb dL_carve_5 rfl (lv_at hl 2 rfl) ?_
  refine lv_iload_n hx hb dL_carve_6 rfl (lv_at hl 3 rfl) ?_
  refine lv_iload hx hb dL_carve_7 (lv_at hl 4 rfl) ?_
  refine w_V (rest := [.int (nI 0), .ref out]) S hK hT (c_X1_carve l hfl Γ bs x σ ad hI b0 y z w r hy (by omega) hbs) (cwV 4 hts gL_carve_X1_carve rfl rfl rfl (by decide +kernel) ⟨Nat.le_of_ble_eq_true rfl, Nat.le_of_ble_eq_true rfl⟩) (Ob.recv hK hC.1 rfl) hC rfl hl.1 rfl (Nat.le_of_ble_eq_true rfl) dL_carve_9 ⟨Nat.le_of_ble_eq_true rfl, Nat.le_of_ble_eq_true rfl⟩ hlo (fun v H1 lc1 hp hlo => ?_) (fun E ce q H1 lc1 hEx hz9 ho9 hce hcv hcl hlo => ?_)
  · skip
    obtain ⟨hcd, rfl, ⟨ad2, hC2, hy2⟩, hF⟩ := hp
    have hA := hA.kept (hF.2 out hA.lt (by omega) (by omega) (by omega))
    refine W.eq (g2 := F0 m 12 ls [.int (rk σ (y.toInt.toNat) (3 * w.toInt.toNat + z.toInt.toNat)), .int (nI 0), .ref out]) rfl ?_
    refine lv_i2l hx hb dL_carve_12 rfl ?_
    refine x_last (x := ((rk σ (y.toInt.toNat) (3 * w.toInt.toNat + z.toInt.toNat)).toInt64)) hx hb hJ hA hlo (by omega) dL_carve_13 (fun H2 lc2 hA2 hz2 ho2 hlo => ?_)
    refine lv_goto (tgt := 29) hx hb dL_carve_14 (by decide) ?_
    refine lv_iconst (v := nI 0) hx hb dL_carve_29 (by decide +kernel) ?_
    refine W.widen (k := 4) (n := 24) (Nat.le_of_ble_eq_true rfl) (Nat.le_of_ble_eq_true rfl) ?_
    exact m_iret (Post := fun H v H2 => WPo Γ cJ x out b0 σ (o_rune σ (36 * y.toInt.toNat + (3 * w.toInt.toNat + z.toInt.toNat)) (r)) ad (cd3 (spotP σ y z w) (inb r 24) (qg σ (y.toInt.toNat) = 0)) (rk σ (y.toInt.toNat) (3 * w.toInt.toNat + z.toInt.toNat)) v0 H v H2) hx hb hr hlk hlo dL_carve_30 (WPo.ok hcd hC2 hy2 hF hb0 hob hA2 rfl hz2 ho2)
  · skip
    have hown9 : s.vm.findClass RL = some m.cls := hown
    obtain ⟨i, hi, hc⟩ := hEx
    rcases i with _ | _ | _ | i
    · skip
      have hi : some eIO = some E := hi
      cases hi
      refine vx_catch (own := RL) (name := eIO) hown9 [] ⟨0, 14, 17, 21⟩ [⟨0, 14, 21, 13⟩, ⟨0, 14, 25, 15⟩] htab (fun z hz => by cases hz) rfl (by decide) (hts (.classLink RL 21 eIO) (by decide +kernel)) hE0.IO hce hcv hcl ?_
      refine lv_astore (lv' := [(6, .ref q), (0, .ref x), (1, .int y), (2, .int z), (3, .int w), (4, .int r), (5, .ref out)]) hx hb dL_carve_17 hl (by decide) rfl (fun ls hl => ?_)
      refine lv_iconst (v := nI 1) hx hb dL_carve_19 (by decide +kernel) ?_
      refine W.widen (k := 4) (n := 24) (Nat.le_of_ble_eq_true rfl) (Nat.le_of_ble_eq_true rfl) ?_
      exact m_iret (Post := fun H v H2 => WPo Γ cJ x out b0 σ (o_rune σ (36 * y.toInt.toNat + (3 * w.toInt.toNat + z.toInt.toNat)) (r)) ad (cd3 (spotP σ y z w) (inb r 24) (qg σ (y.toInt.toNat) = 0)) (rk σ (y.toInt.toNat) (3 * w.toInt.toNat + z.toInt.toNat)) v0 H v H2) hx hb hr hlk hlo dL_carve_20 (WPo.no (i := 0) hc hC hA0 hz9 ho9)
    · skip
      have hi : some eIA = some E := hi
      cases hi
      refine vx_catch (own := RL) (name := eIA) hown9 [⟨0, 14, 17, 21⟩] ⟨0, 14, 21, 13⟩ [⟨0, 14, 25, 15⟩] htab (List.forall_mem_cons.mpr ⟨Or.inr ⟨by decide, eIO, hts (.classLink RL 21 eIO) (by decide +kernel), hE0.2.2.1⟩, fun z hz => by cases hz⟩) rfl (by decide) (hts (.classLink RL 13 eIA) (by decide +kernel)) hE0.IA hce hcv hcl ?_
      refine lv_astore (lv' := [(6, .ref q), (0, .ref x), (1, .int y), (2, .int z), (3, .int w), (4, .int r), (5, .ref out)]) hx hb dL_carve_21 hl (by decide) rfl (fun ls hl => ?_)
      refine lv_iconst (v := nI 2) hx hb dL_carve_23 (by decide +kernel) ?_
      refine W.widen (k := 4) (n := 24) (Nat.le_of_ble_eq_true rfl) (Nat.le_of_ble_eq_true rfl) ?_
      exact m_iret (Post := fun H v H2 => WPo Γ cJ x out b0 σ (o_rune σ (36 * y.toInt.toNat + (3 * w.toInt.toNat + z.toInt.toNat)) (r)) ad (cd3 (spotP σ y z w) (inb r 24) (qg σ (y.toInt.toNat) = 0)) (rk σ (y.toInt.toNat) (3 * w.toInt.toNat + z.toInt.toNat)) v0 H v H2) hx hb hr hlk hlo dL_carve_24 (WPo.no (i := 1) hc hC hA0 hz9 ho9)
    · skip
      have hi : some eIS = some E := hi
      cases hi
      refine vx_catch (own := RL) (name := eIS) hown9 [⟨0, 14, 17, 21⟩, ⟨0, 14, 21, 13⟩] ⟨0, 14, 25, 15⟩ [] htab (List.forall_mem_cons.mpr ⟨Or.inr ⟨by decide, eIO, hts (.classLink RL 21 eIO) (by decide +kernel), hE0.2.2.2.2.1⟩, List.forall_mem_cons.mpr ⟨Or.inr ⟨by decide, eIA, hts (.classLink RL 13 eIA) (by decide +kernel), hE0.2.2.2.1⟩, fun z hz => by cases hz⟩⟩) rfl (by decide) (hts (.classLink RL 15 eIS) (by decide +kernel)) hE0.IS hce hcv hcl ?_
      refine lv_astore (lv' := [(6, .ref q), (0, .ref x), (1, .int y), (2, .int z), (3, .int w), (4, .int r), (5, .ref out)]) hx hb dL_carve_25 hl (by decide) rfl (fun ls hl => ?_)
      refine lv_iconst (v := nI 3) hx hb dL_carve_27 (by decide +kernel) ?_
      refine W.widen (k := 4) (n := 24) (Nat.le_of_ble_eq_true rfl) (Nat.le_of_ble_eq_true rfl) ?_
      exact m_iret (Post := fun H v H2 => WPo Γ cJ x out b0 σ (o_rune σ (36 * y.toInt.toNat + (3 * w.toInt.toNat + z.toInt.toNat)) (r)) ad (cd3 (spotP σ y z w) (inb r 24) (qg σ (y.toInt.toNat) = 0)) (rk σ (y.toInt.toNat) (3 * w.toInt.toNat + z.toInt.toNat)) v0 H v H2) hx hb hr hlk hlo dL_carve_28 (WPo.no (i := 2) hc hC hA0 hz9 ho9)
    · skip
      have hi : (none : Option String) = some E := hi
      cases hi
set_option maxHeartbeats 4000000 in
set_option maxRecDepth 100000 in
theorem c_L_scrape (l : Launch) (hfl : l.stackTraces = false) (Γ : GG) (cJ : ClassId) (bs x out b0 : Nat) (σ : St) (ad : Nat → Nat) (hI : Iv σ) (y z w : Int32) (hy : Ly b0 σ ad) (hb0 : x + 2 ≤ out) (hob : out + 1 ≤ b0) (hbs : bs ≤ x) (v0 : Int64) : Lw l yL_scrape wsL_scrape ({ frames := 8, cells := 4, slots := 24, locals := 129 }) Γ cJ bs [.ref x, .int y, .int z, .int w, .ref out] (fun H => CW Γ x σ ad H ∧ b0 ≤ H.size ∧ Aj cJ out v0 H) (fun H v H2 => WPo Γ cJ x out b0 σ (o_rune σ (36 * y.toInt.toNat + (3 * w.toInt.toNat + z.toInt.toNat)) (-1)) ad (cd2 (spotP σ y z w) (qg σ (y.toInt.toNat) = 0 ∧ ¬ rk σ (y.toInt.toNat) (3 * w.toInt.toNat + z.toInt.toNat) = -1)) (rk σ (y.toInt.toNat) (3 * w.toInt.toNat + z.toInt.toNat)) v0 H v H2) 4 24 := by
  refine Lw.of (cc := cL_scrape) (maxL := 6) (ret := some .int) (by decide) rfl (Nat.le_of_ble_eq_true rfl) ?_
  intro p e s m below meth c S hr hlk htab hK hT hE0 hJ hW ls hl
  obtain ⟨hx, hb, hml, hown, hts⟩ := id S
  obtain ⟨lc, elc⟩ : ∃ z : List Loc, z = [] := ⟨_, rfl⟩
  rw [← elc]
  have hlo : lo bs lc := by rw [elc]; exact lo.nil
  clear elc
  have hl : lv_has ls 6 [(0, .ref x), (1, .int y), (2, .int z), (3, .int w), (4, .ref out)] := hl
  obtain ⟨hC, hsz0, hA⟩ := hW
  have hA0 := hA
  refine lv_aload hx hb dL_scrape_0 (lv_at hl 4 rfl) ?_
  refine lv_iconst (v := nI 0) hx hb dL_scrape_2 (by decide +kernel) ?_
  refine lv_aload_n hx hb dL_scrape_3 rfl (lv_at hl 0 rfl) ?_
  refine lv_iload_n hx hb dL_scrape_4 rfl (lv_at hl 1 rfl) ?_
  refine lv_iload_n hx hb dL_scrape_5 rfl (lv_at hl 2 rfl) ?_
  refine lv_iload_n hx hb dL_scrape_6 rfl (lv_at hl 3 rfl) ?_
  refine w_V (rest := [.int (nI 0), .ref out]) S hK hT (c_X1_scrape l hfl Γ bs x σ ad hI b0 y z w hy (by omega) hbs) (cwV 3 hts gL_scrape_X1_scrape rfl rfl rfl (by decide +kernel) ⟨Nat.le_of_ble_eq_true rfl, Nat.le_of_ble_eq_true rfl⟩) (Ob.recv hK hC.1 rfl) hC rfl hl.1 rfl (Nat.le_of_ble_eq_true rfl) dL_scrape_7 ⟨Nat.le_of_ble_eq_true rfl, Nat.le_of_ble_eq_true rfl⟩ hlo (fun v H1 lc1 hp hlo => ?_) (fun E ce q H1 lc1 hEx hz9 ho9 hce hcv hcl hlo => ?_)
  · skip
    obtain ⟨hcd, rfl, ⟨ad2, hC2, hy2⟩, hF⟩ := hp
    have hA := hA.kept (hF.2 out hA.lt (by omega) (by omega) (by omega))
    refine W.eq (g2 := F0 m 10 ls [.int (rk σ (y.toInt.toNat) (3 * w.toInt.toNat + z.toInt.toNat)), .int (nI 0), .ref out]) rfl ?_
    refine lv_i2l hx hb dL_scrape_10 rfl ?_
    refine x_last (x := ((rk σ (y.toInt.toNat) (3 * w.toInt.toNat + z.toInt.toNat)).toInt64)) hx hb hJ hA hlo (by omega) dL_scrape_11 (fun H2 lc2 hA2 hz2 ho2 hlo => ?_)
    refine lv_goto (tgt := 23) hx hb dL_scrape_12 (by decide) ?_
    refine lv_iconst (v := nI 0) hx hb dL_scrape_23 (by decide +kernel) ?_
    refine W.widen (k := 4) (n := 24) (Nat.le_of_ble_eq_true rfl) (Nat.le_of_ble_eq_true rfl) ?_
    exact m_iret (Post := fun H v H2 => WPo Γ cJ x out b0 σ (o_rune σ (36 * y.toInt.toNat + (3 * w.toInt.toNat + z.toInt.toNat)) (-1)) ad (cd2 (spotP σ y z w) (qg σ (y.toInt.toNat) = 0 ∧ ¬ rk σ (y.toInt.toNat) (3 * w.toInt.toNat + z.toInt.toNat) = -1)) (rk σ (y.toInt.toNat) (3 * w.toInt.toNat + z.toInt.toNat)) v0 H v H2) hx hb hr hlk hlo dL_scrape_24 (WPo.ok hcd hC2 hy2 hF hb0 hob hA2 rfl hz2 ho2)
  · skip
    have hown9 : s.vm.findClass RL = some m.cls := hown
    obtain ⟨i, hi, hc⟩ := hEx
    rcases i with _ | _ | i
    · skip
      have hi : some eIO = some E := hi
      cases hi
      refine vx_catch (own := RL) (name := eIO) hown9 [] ⟨0, 12, 15, 21⟩ [⟨0, 12, 19, 15⟩] htab (fun z hz => by cases hz) rfl (by decide) (hts (.classLink RL 21 eIO) (by decide +kernel)) hE0.IO hce hcv hcl ?_
      refine lv_astore (lv' := [(5, .ref q), (0, .ref x), (1, .int y), (2, .int z), (3, .int w), (4, .ref out)]) hx hb dL_scrape_15 hl (by decide) rfl (fun ls hl => ?_)
      refine lv_iconst (v := nI 1) hx hb dL_scrape_17 (by decide +kernel) ?_
      refine W.widen (k := 4) (n := 24) (Nat.le_of_ble_eq_true rfl) (Nat.le_of_ble_eq_true rfl) ?_
      exact m_iret (Post := fun H v H2 => WPo Γ cJ x out b0 σ (o_rune σ (36 * y.toInt.toNat + (3 * w.toInt.toNat + z.toInt.toNat)) (-1)) ad (cd2 (spotP σ y z w) (qg σ (y.toInt.toNat) = 0 ∧ ¬ rk σ (y.toInt.toNat) (3 * w.toInt.toNat + z.toInt.toNat) = -1)) (rk σ (y.toInt.toNat) (3 * w.toInt.toNat + z.toInt.toNat)) v0 H v H2) hx hb hr hlk hlo dL_scrape_18 (WPo.no (i := 0) hc hC hA0 hz9 ho9)
    · skip
      have hi : some eIS = some E := hi
      cases hi
      refine vx_catch (own := RL) (name := eIS) hown9 [⟨0, 12, 15, 21⟩] ⟨0, 12, 19, 15⟩ [] htab (List.forall_mem_cons.mpr ⟨Or.inr ⟨by decide, eIO, hts (.classLink RL 21 eIO) (by decide +kernel), hE0.2.2.2.2.1⟩, fun z hz => by cases hz⟩) rfl (by decide) (hts (.classLink RL 15 eIS) (by decide +kernel)) hE0.IS hce hcv hcl ?_
      refine lv_astore (lv' := [(5, .ref q), (0, .ref x), (1, .int y), (2, .int z), (3, .int w), (4, .ref out)]) hx hb dL_scrape_19 hl (by decide) rfl (fun ls hl => ?_)
      refine lv_iconst (v := nI 2) hx hb dL_scrape_21 (by decide +kernel) ?_
      refine W.widen (k := 4) (n := 24) (Nat.le_of_ble_eq_true rfl) (Nat.le_of_ble_eq_true rfl) ?_
      exact m_iret (Post := fun H v H2 => WPo Γ cJ x out b0 σ (o_rune σ (36 * y.toInt.toNat + (3 * w.toInt.toNat + z.toInt.toNat)) (-1)) ad (cd2 (spotP σ y z w) (qg σ (y.toInt.toNat) = 0 ∧ ¬ rk σ (y.toInt.toNat) (3 * w.toInt.toNat + z.toInt.toNat) = -1)) (rk σ (y.toInt.toNat) (3 * w.toInt.toNat + z.toInt.toNat)) v0 H v H2) hx hb hr hlk hlo dL_scrape_22 (WPo.no (i := 1) hc hC hA0 hz9 ho9)
    · skip
      have hi : (none : Option String) = some E := hi
      cases hi
set_option maxHeartbeats 4000000 in
set_option maxRecDepth 100000 in
theorem c_L_roll (l : Launch) (hfl : l.stackTraces = false) (Γ : GG) (cJ : ClassId) (bs x out b0 : Nat) (σ : St) (ad : Nat → Nat) (hI : Iv σ) (y z : Int32) (hy : Ly b0 σ ad) (hb0 : x + 2 ≤ out) (hob : out + 1 ≤ b0) (hbs : bs ≤ x) (v0 : Int64) : Lw l yL_roll wsL_roll ({ frames := 8, cells := 3, slots := 18, locals := 127 }) Γ cJ bs [.ref x, .int y, .int z, .ref out] (fun H => CW Γ x σ ad H ∧ b0 ≤ H.size ∧ Aj cJ out v0 H) (fun H v H2 => WPo Γ cJ x out b0 σ (o_up σ (y.toInt.toNat) ((qu σ (y.toInt.toNat) + z.toInt.toNat) % 3)) ad (cd3 (inb y (qn σ)) (inb z 3) (qg σ (y.toInt.toNat) = 0)) (nI ((qu σ (y.toInt.toNat) + z.toInt.toNat) % 3)) v0 H v H2) 3 18 := by
  refine Lw.of (cc := cL_roll) (maxL := 5) (ret := some .int) (by decide) rfl (Nat.le_of_ble_eq_true rfl) ?_
  intro p e s m below meth c S hr hlk htab hK hT hE0 hJ hW ls hl
  obtain ⟨hx, hb, hml, hown, hts⟩ := id S
  obtain ⟨lc, elc⟩ : ∃ z : List Loc, z = [] := ⟨_, rfl⟩
  rw [← elc]
  have hlo : lo bs lc := by rw [elc]; exact lo.nil
  clear elc
  have hl : lv_has ls 5 [(0, .ref x), (1, .int y), (2, .int z), (3, .ref out)] := hl
  obtain ⟨hC, hsz0, hA⟩ := hW
  have hA0 := hA
  refine lv_aload_n hx hb dL_roll_0 rfl (lv_at hl 3 rfl) ?_
  refine lv_iconst (v := nI 0) hx hb dL_roll_1 (by decide +kernel) ?_
  refine lv_aload_n hx hb dL_roll_2 rfl (lv_at hl 0 rfl) ?_
  refine lv_iload_n hx hb dL_roll_3 rfl (lv_at hl 1 rfl) ?_
  refine lv_iload_n hx hb dL_roll_4 rfl (lv_at hl 2 rfl) ?_
  refine w_V (rest := [.int (nI 0), .ref out]) S hK hT (c_X1_roll l hfl Γ bs x σ ad hI b0 y z hy (by omega) hbs) (cwV 2 hts gL_roll_X1_roll rfl rfl rfl (by decide +kernel) ⟨Nat.le_of_ble_eq_true rfl, Nat.le_of_ble_eq_true rfl⟩) (Ob.recv hK hC.1 rfl) hC rfl hl.1 rfl (Nat.le_of_ble_eq_true rfl) dL_roll_5 ⟨Nat.le_of_ble_eq_true rfl, Nat.le_of_ble_eq_true rfl⟩ hlo (fun v H1 lc1 hp hlo => ?_) (fun E ce q H1 lc1 hEx hz9 ho9 hce hcv hcl hlo => ?_)
  · skip
    obtain ⟨hcd, rfl, ⟨ad2, hC2, hy2⟩, hF⟩ := hp
    have hA := hA.kept (hF.2 out hA.lt (by omega) (by omega) (by omega))
    refine W.eq (g2 := F0 m 8 ls [.int (nI ((qu σ (y.toInt.toNat) + z.toInt.toNat) % 3)), .int (nI 0), .ref out]) rfl ?_
    refine lv_i2l hx hb dL_roll_8 rfl ?_
    refine x_last (x := ((nI ((qu σ (y.toInt.toNat) + z.toInt.toNat) % 3)).toInt64)) hx hb hJ hA hlo (by omega) dL_roll_9 (fun H2 lc2 hA2 hz2 ho2 hlo => ?_)
    refine lv_goto (tgt := 25) hx hb dL_roll_10 (by decide) ?_
    refine lv_iconst (v := nI 0) hx hb dL_roll_25 (by decide +kernel) ?_
    refine W.widen (k := 3) (n := 18) (Nat.le_of_ble_eq_true rfl) (Nat.le_of_ble_eq_true rfl) ?_
    exact m_iret (Post := fun H v H2 => WPo Γ cJ x out b0 σ (o_up σ (y.toInt.toNat) ((qu σ (y.toInt.toNat) + z.toInt.toNat) % 3)) ad (cd3 (inb y (qn σ)) (inb z 3) (qg σ (y.toInt.toNat) = 0)) (nI ((qu σ (y.toInt.toNat) + z.toInt.toNat) % 3)) v0 H v H2) hx hb hr hlk hlo dL_roll_26 (WPo.ok hcd hC2 hy2 hF hb0 hob hA2 rfl hz2 ho2)
  · skip
    have hown9 : s.vm.findClass RL = some m.cls := hown
    obtain ⟨i, hi, hc⟩ := hEx
    rcases i with _ | _ | _ | i
    · skip
      have hi : some eIO = some E := hi
      cases hi
      refine vx_catch (own := RL) (name := eIO) hown9 [] ⟨0, 10, 13, 21⟩ [⟨0, 10, 17, 13⟩, ⟨0, 10, 21, 15⟩] htab (fun z hz => by cases hz) rfl (by decide) (hts (.classLink RL 21 eIO) (by decide +kernel)) hE0.IO hce hcv hcl ?_
      refine lv_astore (lv' := [(4, .ref q), (0, .ref x), (1, .int y), (2, .int z), (3, .ref out)]) hx hb dL_roll_13 hl (by decide) rfl (fun ls hl => ?_)
      refine lv_iconst (v := nI 1) hx hb dL_roll_15 (by decide +kernel) ?_
      refine W.widen (k := 3) (n := 18) (Nat.le_of_ble_eq_true rfl) (Nat.le_of_ble_eq_true rfl) ?_
      exact m_iret (Post := fun H v H2 => WPo Γ cJ x out b0 σ (o_up σ (y.toInt.toNat) ((qu σ (y.toInt.toNat) + z.toInt.toNat) % 3)) ad (cd3 (inb y (qn σ)) (inb z 3) (qg σ (y.toInt.toNat) = 0)) (nI ((qu σ (y.toInt.toNat) + z.toInt.toNat) % 3)) v0 H v H2) hx hb hr hlk hlo dL_roll_16 (WPo.no (i := 0) hc hC hA0 hz9 ho9)
    · skip
      have hi : some eIA = some E := hi
      cases hi
      refine vx_catch (own := RL) (name := eIA) hown9 [⟨0, 10, 13, 21⟩] ⟨0, 10, 17, 13⟩ [⟨0, 10, 21, 15⟩] htab (List.forall_mem_cons.mpr ⟨Or.inr ⟨by decide, eIO, hts (.classLink RL 21 eIO) (by decide +kernel), hE0.2.2.1⟩, fun z hz => by cases hz⟩) rfl (by decide) (hts (.classLink RL 13 eIA) (by decide +kernel)) hE0.IA hce hcv hcl ?_
      refine lv_astore (lv' := [(4, .ref q), (0, .ref x), (1, .int y), (2, .int z), (3, .ref out)]) hx hb dL_roll_17 hl (by decide) rfl (fun ls hl => ?_)
      refine lv_iconst (v := nI 2) hx hb dL_roll_19 (by decide +kernel) ?_
      refine W.widen (k := 3) (n := 18) (Nat.le_of_ble_eq_true rfl) (Nat.le_of_ble_eq_true rfl) ?_
      exact m_iret (Post := fun H v H2 => WPo Γ cJ x out b0 σ (o_up σ (y.toInt.toNat) ((qu σ (y.toInt.toNat) + z.toInt.toNat) % 3)) ad (cd3 (inb y (qn σ)) (inb z 3) (qg σ (y.toInt.toNat) = 0)) (nI ((qu σ (y.toInt.toNat) + z.toInt.toNat) % 3)) v0 H v H2) hx hb hr hlk hlo dL_roll_20 (WPo.no (i := 1) hc hC hA0 hz9 ho9)
    · skip
      have hi : some eIS = some E := hi
      cases hi
      refine vx_catch (own := RL) (name := eIS) hown9 [⟨0, 10, 13, 21⟩, ⟨0, 10, 17, 13⟩] ⟨0, 10, 21, 15⟩ [] htab (List.forall_mem_cons.mpr ⟨Or.inr ⟨by decide, eIO, hts (.classLink RL 21 eIO) (by decide +kernel), hE0.2.2.2.2.1⟩, List.forall_mem_cons.mpr ⟨Or.inr ⟨by decide, eIA, hts (.classLink RL 13 eIA) (by decide +kernel), hE0.2.2.2.1⟩, fun z hz => by cases hz⟩⟩) rfl (by decide) (hts (.classLink RL 15 eIS) (by decide +kernel)) hE0.IS hce hcv hcl ?_
      refine lv_astore (lv' := [(4, .ref q), (0, .ref x), (1, .int y), (2, .int z), (3, .ref out)]) hx hb dL_roll_21 hl (by decide) rfl (fun ls hl => ?_)
      refine lv_iconst (v := nI 3) hx hb dL_roll_23 (by decide +kernel) ?_
      refine W.widen (k := 3) (n := 18) (Nat.le_of_ble_eq_true rfl) (Nat.le_of_ble_eq_true rfl) ?_
      exact m_iret (Post := fun H v H2 => WPo Γ cJ x out b0 σ (o_up σ (y.toInt.toNat) ((qu σ (y.toInt.toNat) + z.toInt.toNat) % 3)) ad (cd3 (inb y (qn σ)) (inb z 3) (qg σ (y.toInt.toNat) = 0)) (nI ((qu σ (y.toInt.toNat) + z.toInt.toNat) % 3)) v0 H v H2) hx hb hr hlk hlo dL_roll_24 (WPo.no (i := 2) hc hC hA0 hz9 ho9)
    · skip
      have hi : (none : Option String) = some E := hi
      cases hi
set_option maxHeartbeats 4000000 in
set_option maxRecDepth 100000 in
theorem c_L_bend (l : Launch) (hfl : l.stackTraces = false) (Γ : GG) (cJ : ClassId) (bs x out b0 : Nat) (σ : St) (ad : Nat → Nat) (hI : Iv σ) (y z : Int32) (hy : Ly b0 σ ad) (hb0 : x + 2 ≤ out) (hob : out + 1 ≤ b0) (hbs : bs ≤ x) (v0 : Int64) : Lw l yL_bend wsL_bend ({ frames := 8, cells := 12, slots := 156, locals := 134 }) Γ cJ bs [.ref x, .int y, .int z, .ref out] (fun H => CW Γ x σ ad H ∧ b0 ≤ H.size ∧ Aj cJ out v0 H) (fun H v H2 => WPo Γ cJ x out b0 σ (bdS σ (y.toInt.toNat) z) ad (cd3 (inb y (qn σ)) (inR z (1 : Nat) (20 : Nat)) (qg σ (y.toInt.toNat) = 0 ∧ (bJ σ (y.toInt.toNat) z = none ∨ (thr σ (qn σ) < 12 ∧ qn σ ≤ 38)))) (bdV σ (y.toInt.toNat) z) v0 H v H2) 12 156 := by
  refine Lw.of (cc := cL_bend) (maxL := 5) (ret := some .int) (by decide) rfl (Nat.le_of_ble_eq_true rfl) ?_
  intro p e s m below meth c S hr hlk htab hK hT hE0 hJ hW ls hl
  obtain ⟨hx, hb, hml, hown, hts⟩ := id S
  obtain ⟨lc, elc⟩ : ∃ z : List Loc, z = [] := ⟨_, rfl⟩
  rw [← elc]
  have hlo : lo bs lc := by rw [elc]; exact lo.nil
  clear elc
  have hl : lv_has ls 5 [(0, .ref x), (1, .int y), (2, .int z), (3, .ref out)] := hl
  obtain ⟨hC, hsz0, hA⟩ := hW
  have hA0 := hA
  refine lv_aload_n hx hb dL_bend_0 rfl (lv_at hl 3 rfl) ?_
  refine lv_iconst (v := nI 0) hx hb dL_bend_1 (by decide +kernel) ?_
  refine lv_aload_n hx hb dL_bend_2 rfl (lv_at hl 0 rfl) ?_
  refine lv_iload_n hx hb dL_bend_3 rfl (lv_at hl 1 rfl) ?_
  refine lv_iload_n hx hb dL_bend_4 rfl (lv_at hl 2 rfl) ?_
  refine w_V (rest := [.int (nI 0), .ref out]) S hK hT (c_X1_bend l hfl Γ bs x σ ad hI b0 y z hy (by omega) hbs) (cwV 2 hts gL_bend_X1_bend rfl rfl rfl (by decide +kernel) ⟨Nat.le_of_ble_eq_true rfl, Nat.le_of_ble_eq_true rfl⟩) (Ob.recv hK hC.1 rfl) ⟨hC, hsz0⟩ rfl hl.1 rfl (Nat.le_of_ble_eq_true rfl) dL_bend_5 ⟨Nat.le_of_ble_eq_true rfl, Nat.le_of_ble_eq_true rfl⟩ hlo (fun v H1 lc1 hp hlo => ?_) (fun E ce q H1 lc1 hEx hz9 ho9 hce hcv hcl hlo => ?_)
  · skip
    obtain ⟨hcd, rfl, ⟨ad2, hC2, hy2⟩, hF⟩ := hp
    have hA := hA.kept (hF.2 out hA.lt (by omega) (by omega) (by omega))
    refine W.eq (g2 := F0 m 8 ls [.int (bdV σ (y.toInt.toNat) z), .int (nI 0), .ref out]) rfl ?_
    refine lv_i2l hx hb dL_bend_8 rfl ?_
    refine x_last (x := ((bdV σ (y.toInt.toNat) z).toInt64)) hx hb hJ hA hlo (by omega) dL_bend_9 (fun H2 lc2 hA2 hz2 ho2 hlo => ?_)
    refine lv_goto (tgt := 25) hx hb dL_bend_10 (by decide) ?_
    refine lv_iconst (v := nI 0) hx hb dL_bend_25 (by decide +kernel) ?_
    refine W.widen (k := 12) (n := 156) (Nat.le_of_ble_eq_true rfl) (Nat.le_of_ble_eq_true rfl) ?_
    exact m_iret (Post := fun H v H2 => WPo Γ cJ x out b0 σ (bdS σ (y.toInt.toNat) z) ad (cd3 (inb y (qn σ)) (inR z (1 : Nat) (20 : Nat)) (qg σ (y.toInt.toNat) = 0 ∧ (bJ σ (y.toInt.toNat) z = none ∨ (thr σ (qn σ) < 12 ∧ qn σ ≤ 38)))) (bdV σ (y.toInt.toNat) z) v0 H v H2) hx hb hr hlk hlo dL_bend_26 (WPo.ok hcd hC2 hy2 hF hb0 hob hA2 rfl hz2 ho2)
  · skip
    have hown9 : s.vm.findClass RL = some m.cls := hown
    obtain ⟨i, hi, hc⟩ := hEx
    rcases i with _ | _ | _ | i
    · skip
      have hi : some eIO = some E := hi
      cases hi
      refine vx_catch (own := RL) (name := eIO) hown9 [] ⟨0, 10, 13, 21⟩ [⟨0, 10, 17, 13⟩, ⟨0, 10, 21, 15⟩] htab (fun z hz => by cases hz) rfl (by decide) (hts (.classLink RL 21 eIO) (by decide +kernel)) hE0.IO hce hcv hcl ?_
      refine lv_astore (lv' := [(4, .ref q), (0, .ref x), (1, .int y), (2, .int z), (3, .ref out)]) hx hb dL_bend_13 hl (by decide) rfl (fun ls hl => ?_)
      refine lv_iconst (v := nI 1) hx hb dL_bend_15 (by decide +kernel) ?_
      refine W.widen (k := 12) (n := 156) (Nat.le_of_ble_eq_true rfl) (Nat.le_of_ble_eq_true rfl) ?_
      exact m_iret (Post := fun H v H2 => WPo Γ cJ x out b0 σ (bdS σ (y.toInt.toNat) z) ad (cd3 (inb y (qn σ)) (inR z (1 : Nat) (20 : Nat)) (qg σ (y.toInt.toNat) = 0 ∧ (bJ σ (y.toInt.toNat) z = none ∨ (thr σ (qn σ) < 12 ∧ qn σ ≤ 38)))) (bdV σ (y.toInt.toNat) z) v0 H v H2) hx hb hr hlk hlo dL_bend_16 (WPo.no (i := 0) hc hC hA0 hz9 ho9)
    · skip
      have hi : some eIA = some E := hi
      cases hi
      refine vx_catch (own := RL) (name := eIA) hown9 [⟨0, 10, 13, 21⟩] ⟨0, 10, 17, 13⟩ [⟨0, 10, 21, 15⟩] htab (List.forall_mem_cons.mpr ⟨Or.inr ⟨by decide, eIO, hts (.classLink RL 21 eIO) (by decide +kernel), hE0.2.2.1⟩, fun z hz => by cases hz⟩) rfl (by decide) (hts (.classLink RL 13 eIA) (by decide +kernel)) hE0.IA hce hcv hcl ?_
      refine lv_astore (lv' := [(4, .ref q), (0, .ref x), (1, .int y), (2, .int z), (3, .ref out)]) hx hb dL_bend_17 hl (by decide) rfl (fun ls hl => ?_)
      refine lv_iconst (v := nI 2) hx hb dL_bend_19 (by decide +kernel) ?_
      refine W.widen (k := 12) (n := 156) (Nat.le_of_ble_eq_true rfl) (Nat.le_of_ble_eq_true rfl) ?_
      exact m_iret (Post := fun H v H2 => WPo Γ cJ x out b0 σ (bdS σ (y.toInt.toNat) z) ad (cd3 (inb y (qn σ)) (inR z (1 : Nat) (20 : Nat)) (qg σ (y.toInt.toNat) = 0 ∧ (bJ σ (y.toInt.toNat) z = none ∨ (thr σ (qn σ) < 12 ∧ qn σ ≤ 38)))) (bdV σ (y.toInt.toNat) z) v0 H v H2) hx hb hr hlk hlo dL_bend_20 (WPo.no (i := 1) hc hC hA0 hz9 ho9)
    · skip
      have hi : some eIS = some E := hi
      cases hi
      refine vx_catch (own := RL) (name := eIS) hown9 [⟨0, 10, 13, 21⟩, ⟨0, 10, 17, 13⟩] ⟨0, 10, 21, 15⟩ [] htab (List.forall_mem_cons.mpr ⟨Or.inr ⟨by decide, eIO, hts (.classLink RL 21 eIO) (by decide +kernel), hE0.2.2.2.2.1⟩, List.forall_mem_cons.mpr ⟨Or.inr ⟨by decide, eIA, hts (.classLink RL 13 eIA) (by decide +kernel), hE0.2.2.2.1⟩, fun z hz => by cases hz⟩⟩) rfl (by decide) (hts (.classLink RL 15 eIS) (by decide +kernel)) hE0.IS hce hcv hcl ?_
      refine lv_astore (lv' := [(4, .ref q), (0, .ref x), (1, .int y), (2, .int z), (3, .ref out)]) hx hb dL_bend_21 hl (by decide) rfl (fun ls hl => ?_)
      refine lv_iconst (v := nI 3) hx hb dL_bend_23 (by decide +kernel) ?_
      refine W.widen (k := 12) (n := 156) (Nat.le_of_ble_eq_true rfl) (Nat.le_of_ble_eq_true rfl) ?_
      exact m_iret (Post := fun H v H2 => WPo Γ cJ x out b0 σ (bdS σ (y.toInt.toNat) z) ad (cd3 (inb y (qn σ)) (inR z (1 : Nat) (20 : Nat)) (qg σ (y.toInt.toNat) = 0 ∧ (bJ σ (y.toInt.toNat) z = none ∨ (thr σ (qn σ) < 12 ∧ qn σ ≤ 38)))) (bdV σ (y.toInt.toNat) z) v0 H v H2) hx hb hr hlk hlo dL_bend_24 (WPo.no (i := 2) hc hC hA0 hz9 ho9)
    · skip
      have hi : (none : Option String) = some E := hi
      cases hi
set_option maxHeartbeats 4000000 in
set_option maxRecDepth 100000 in
theorem c_L_glue (l : Launch) (hfl : l.stackTraces = false) (Γ : GG) (cJ : ClassId) (bs x out b0 : Nat) (σ : St) (ad : Nat → Nat) (hI : Iv σ) (y z w r : Int32) (hy : Ly b0 σ ad) (hb0 : x + 2 ≤ out) (hob : out + 1 ≤ b0) (hbs : bs ≤ x) (v0 : Int64) : Lw l yL_glue wsL_glue ({ frames := 8, cells := 9, slots := 96, locals := 130 }) Γ cJ bs [.ref x, .int y, .int z, .int w, .int r, .ref out] (fun H => CW Γ x σ ad H ∧ b0 ≤ H.size ∧ Aj cJ out v0 H) (fun H v H2 => WPo Γ cJ x out b0 σ (sGlue σ (y.toInt.toNat) (z.toInt.toNat) w.toInt.toNat r.toInt.toNat) ad (cd3 (inb y (qn σ) ∧ inb z (qn σ)) (inb w 3 ∧ inR r (1 : Nat) (9 : Nat)) (qg σ (y.toInt.toNat) = 0 ∧ qg σ (z.toInt.toNat) = 0 ∧ ¬ y.toInt.toNat = z.toInt.toNat ∧ qp σ (y.toInt.toNat) + qp σ (z.toInt.toNat) ≤ 12 ∧ qn σ < 40)) (nI (qn σ)) v0 H v H2) 9 96 := by
  refine Lw.of (cc := cL_glue) (maxL := 7) (ret := some .int) (by decide) rfl (Nat.le_of_ble_eq_true rfl) ?_
  intro p e s m below meth c S hr hlk htab hK hT hE0 hJ hW ls hl
  obtain ⟨hx, hb, hml, hown, hts⟩ := id S
  obtain ⟨lc, elc⟩ : ∃ z : List Loc, z = [] := ⟨_, rfl⟩
  rw [← elc]
  have hlo : lo bs lc := by rw [elc]; exact lo.nil
  clear elc
  have hl : lv_has ls 7 [(0, .ref x), (1, .int y), (2, .int z), (3, .int w), (4, .int r), (5, .ref out)] := hl
  obtain ⟨hC, hsz0, hA⟩ := hW
  have hA0 := hA
  refine lv_aload hx hb dL_glue_0 (lv_at hl 5 rfl) ?_
  refine lv_iconst (v := nI 0) hx hb dL_glue_2 (by decide +kernel) ?_
  refine lv_aload_n hx hb dL_glue_3 rfl (lv_at hl 0 rfl) ?_
  refine lv_iload_n hx hb dL_glue_4 rfl (lv_at hl 1 rfl) ?_
  refine lv_iload_n hx hb dL_glue_5 rfl (lv_at hl 2 rfl) ?_
  refine lv_iload_n hx hb dL_glue_6 rfl (lv_at hl 3 rfl) ?_
  refine lv_iload hx hb dL_glue_7 (lv_at hl 4 rfl) ?_
  refine w_V (rest := [.int (nI 0), .ref out]) S hK hT (c_X1_glue l hfl Γ bs x σ ad hI b0 y z w r hy (by omega) hbs) (cwV 4 hts gL_glue_X1_glue rfl rfl rfl (by decide +kernel) ⟨Nat.le_of_ble_eq_true rfl, Nat.le_of_ble_eq_true rfl⟩) (Ob.recv hK hC.1 rfl) ⟨hC, hsz0⟩ rfl hl.1 rfl (Nat.le_of_ble_eq_true rfl) dL_glue_9 ⟨Nat.le_of_ble_eq_true rfl, Nat.le_of_ble_eq_true rfl⟩ hlo (fun v H1 lc1 hp hlo => ?_) (fun E ce q H1 lc1 hEx hz9 ho9 hce hcv hcl hlo => ?_)
  · skip
    obtain ⟨hcd, rfl, ⟨ad2, hC2, hy2⟩, hF⟩ := hp
    have hA := hA.kept (hF.2 out hA.lt (by omega) (by omega) (by omega))
    refine W.eq (g2 := F0 m 12 ls [.int (nI (qn σ)), .int (nI 0), .ref out]) rfl ?_
    refine lv_i2l hx hb dL_glue_12 rfl ?_
    refine x_last (x := ((nI (qn σ)).toInt64)) hx hb hJ hA hlo (by omega) dL_glue_13 (fun H2 lc2 hA2 hz2 ho2 hlo => ?_)
    refine lv_goto (tgt := 29) hx hb dL_glue_14 (by decide) ?_
    refine lv_iconst (v := nI 0) hx hb dL_glue_29 (by decide +kernel) ?_
    refine W.widen (k := 9) (n := 96) (Nat.le_of_ble_eq_true rfl) (Nat.le_of_ble_eq_true rfl) ?_
    exact m_iret (Post := fun H v H2 => WPo Γ cJ x out b0 σ (sGlue σ (y.toInt.toNat) (z.toInt.toNat) w.toInt.toNat r.toInt.toNat) ad (cd3 (inb y (qn σ) ∧ inb z (qn σ)) (inb w 3 ∧ inR r (1 : Nat) (9 : Nat)) (qg σ (y.toInt.toNat) = 0 ∧ qg σ (z.toInt.toNat) = 0 ∧ ¬ y.toInt.toNat = z.toInt.toNat ∧ qp σ (y.toInt.toNat) + qp σ (z.toInt.toNat) ≤ 12 ∧ qn σ < 40)) (nI (qn σ)) v0 H v H2) hx hb hr hlk hlo dL_glue_30 (WPo.ok hcd hC2 hy2 hF hb0 hob hA2 rfl hz2 ho2)
  · skip
    have hown9 : s.vm.findClass RL = some m.cls := hown
    obtain ⟨i, hi, hc⟩ := hEx
    rcases i with _ | _ | _ | i
    · skip
      have hi : some eIO = some E := hi
      cases hi
      refine vx_catch (own := RL) (name := eIO) hown9 [] ⟨0, 14, 17, 21⟩ [⟨0, 14, 21, 13⟩, ⟨0, 14, 25, 15⟩] htab (fun z hz => by cases hz) rfl (by decide) (hts (.classLink RL 21 eIO) (by decide +kernel)) hE0.IO hce hcv hcl ?_
      refine lv_astore (lv' := [(6, .ref q), (0, .ref x), (1, .int y), (2, .int z), (3, .int w), (4, .int r), (5, .ref out)]) hx hb dL_glue_17 hl (by decide) rfl (fun ls hl => ?_)
      refine lv_iconst (v := nI 1) hx hb dL_glue_19 (by decide +kernel) ?_
      refine W.widen (k := 9) (n := 96) (Nat.le_of_ble_eq_true rfl) (Nat.le_of_ble_eq_true rfl) ?_
      exact m_iret (Post := fun H v H2 => WPo Γ cJ x out b0 σ (sGlue σ (y.toInt.toNat) (z.toInt.toNat) w.toInt.toNat r.toInt.toNat) ad (cd3 (inb y (qn σ) ∧ inb z (qn σ)) (inb w 3 ∧ inR r (1 : Nat) (9 : Nat)) (qg σ (y.toInt.toNat) = 0 ∧ qg σ (z.toInt.toNat) = 0 ∧ ¬ y.toInt.toNat = z.toInt.toNat ∧ qp σ (y.toInt.toNat) + qp σ (z.toInt.toNat) ≤ 12 ∧ qn σ < 40)) (nI (qn σ)) v0 H v H2) hx hb hr hlk hlo dL_glue_20 (WPo.no (i := 0) hc hC hA0 hz9 ho9)
    · skip
      have hi : some eIA = some E := hi
      cases hi
      refine vx_catch (own := RL) (name := eIA) hown9 [⟨0, 14, 17, 21⟩] ⟨0, 14, 21, 13⟩ [⟨0, 14, 25, 15⟩] htab (List.forall_mem_cons.mpr ⟨Or.inr ⟨by decide, eIO, hts (.classLink RL 21 eIO) (by decide +kernel), hE0.2.2.1⟩, fun z hz => by cases hz⟩) rfl (by decide) (hts (.classLink RL 13 eIA) (by decide +kernel)) hE0.IA hce hcv hcl ?_
      refine lv_astore (lv' := [(6, .ref q), (0, .ref x), (1, .int y), (2, .int z), (3, .int w), (4, .int r), (5, .ref out)]) hx hb dL_glue_21 hl (by decide) rfl (fun ls hl => ?_)
      refine lv_iconst (v := nI 2) hx hb dL_glue_23 (by decide +kernel) ?_
      refine W.widen (k := 9) (n := 96) (Nat.le_of_ble_eq_true rfl) (Nat.le_of_ble_eq_true rfl) ?_
      exact m_iret (Post := fun H v H2 => WPo Γ cJ x out b0 σ (sGlue σ (y.toInt.toNat) (z.toInt.toNat) w.toInt.toNat r.toInt.toNat) ad (cd3 (inb y (qn σ) ∧ inb z (qn σ)) (inb w 3 ∧ inR r (1 : Nat) (9 : Nat)) (qg σ (y.toInt.toNat) = 0 ∧ qg σ (z.toInt.toNat) = 0 ∧ ¬ y.toInt.toNat = z.toInt.toNat ∧ qp σ (y.toInt.toNat) + qp σ (z.toInt.toNat) ≤ 12 ∧ qn σ < 40)) (nI (qn σ)) v0 H v H2) hx hb hr hlk hlo dL_glue_24 (WPo.no (i := 1) hc hC hA0 hz9 ho9)
    · skip
      have hi : some eIS = some E := hi
      cases hi
      refine vx_catch (own := RL) (name := eIS) hown9 [⟨0, 14, 17, 21⟩, ⟨0, 14, 21, 13⟩] ⟨0, 14, 25, 15⟩ [] htab (List.forall_mem_cons.mpr ⟨Or.inr ⟨by decide, eIO, hts (.classLink RL 21 eIO) (by decide +kernel), hE0.2.2.2.2.1⟩, List.forall_mem_cons.mpr ⟨Or.inr ⟨by decide, eIA, hts (.classLink RL 13 eIA) (by decide +kernel), hE0.2.2.2.1⟩, fun z hz => by cases hz⟩⟩) rfl (by decide) (hts (.classLink RL 15 eIS) (by decide +kernel)) hE0.IS hce hcv hcl ?_
      refine lv_astore (lv' := [(6, .ref q), (0, .ref x), (1, .int y), (2, .int z), (3, .int w), (4, .int r), (5, .ref out)]) hx hb dL_glue_25 hl (by decide) rfl (fun ls hl => ?_)
      refine lv_iconst (v := nI 3) hx hb dL_glue_27 (by decide +kernel) ?_
      refine W.widen (k := 9) (n := 96) (Nat.le_of_ble_eq_true rfl) (Nat.le_of_ble_eq_true rfl) ?_
      exact m_iret (Post := fun H v H2 => WPo Γ cJ x out b0 σ (sGlue σ (y.toInt.toNat) (z.toInt.toNat) w.toInt.toNat r.toInt.toNat) ad (cd3 (inb y (qn σ) ∧ inb z (qn σ)) (inb w 3 ∧ inR r (1 : Nat) (9 : Nat)) (qg σ (y.toInt.toNat) = 0 ∧ qg σ (z.toInt.toNat) = 0 ∧ ¬ y.toInt.toNat = z.toInt.toNat ∧ qp σ (y.toInt.toNat) + qp σ (z.toInt.toNat) ≤ 12 ∧ qn σ < 40)) (nI (qn σ)) v0 H v H2) hx hb hr hlk hlo dL_glue_28 (WPo.no (i := 2) hc hC hA0 hz9 ho9)
    · skip
      have hi : (none : Option String) = some E := hi
      cases hi
set_option maxHeartbeats 4000000 in
set_option maxRecDepth 100000 in
theorem c_L_stick (l : Launch) (hfl : l.stackTraces = false) (Γ : GG) (cJ : ClassId) (bs x out b0 : Nat) (σ : St) (ad : Nat → Nat) (hI : Iv σ) (y z : Int32) (hy : Ly b0 σ ad) (hb0 : x + 2 ≤ out) (hob : out + 1 ≤ b0) (hbs : bs ≤ x) (v0 : Int64) : Lw l yL_stick wsL_stick ({ frames := 8, cells := 2, slots := 12, locals := 133 }) Γ cJ bs [.ref x, .int y, .int z, .ref out] (fun H => CW Γ x σ ad H ∧ b0 ≤ H.size ∧ Aj cJ out v0 H) (fun H v H2 => WPo Γ cJ x out b0 σ σ ad (cd1 (inb y (qn σ) ∧ inb z 7)) (fk σ (y.toInt.toNat) (z.toInt.toNat)) v0 H v H2) 2 12 := by
  refine Lw.of (cc := cL_stick) (maxL := 5) (ret := some .int) (by decide) rfl (Nat.le_of_ble_eq_true rfl) ?_
  intro p e s m below meth c S hr hlk htab hK hT hE0 hJ hW ls hl
  obtain ⟨hx, hb, hml, hown, hts⟩ := id S
  obtain ⟨lc, elc⟩ : ∃ z : List Loc, z = [] := ⟨_, rfl⟩
  rw [← elc]
  have hlo : lo bs lc := by rw [elc]; exact lo.nil
  clear elc
  have hl : lv_has ls 5 [(0, .ref x), (1, .int y), (2, .int z), (3, .ref out)] := hl
  obtain ⟨hC, hsz0, hA⟩ := hW
  have hA0 := hA
  refine lv_aload_n hx hb dL_stick_0 rfl (lv_at hl 3 rfl) ?_
  refine lv_iconst (v := nI 0) hx hb dL_stick_1 (by decide +kernel) ?_
  refine lv_aload_n hx hb dL_stick_2 rfl (lv_at hl 0 rfl) ?_
  refine lv_iload_n hx hb dL_stick_3 rfl (lv_at hl 1 rfl) ?_
  refine lv_iload_n hx hb dL_stick_4 rfl (lv_at hl 2 rfl) ?_
  refine w_V (rest := [.int (nI 0), .ref out]) S hK hT (c_X1_stick l hfl Γ bs x σ ad hI y z) (cwV 2 hts gL_stick_X1_stick rfl rfl rfl (by decide +kernel) ⟨Nat.le_of_ble_eq_true rfl, Nat.le_of_ble_eq_true rfl⟩) (Ob.recv hK hC.1 rfl) hC rfl hl.1 rfl (Nat.le_of_ble_eq_true rfl) dL_stick_5 ⟨Nat.le_of_ble_eq_true rfl, Nat.le_of_ble_eq_true rfl⟩ hlo (fun v H1 lc1 hp hlo => ?_) (fun E ce q H1 lc1 hEx hz9 ho9 hce hcv hcl hlo => ?_)
  · skip
    obtain ⟨hcd, rfl, rfl⟩ := hp
    have hC2 := hC
    have hy2 := hy
    have hF : FrC x b0 s.heap s.heap := FrC.rf
    refine W.eq (g2 := F0 m 8 ls [.int (fk σ (y.toInt.toNat) (z.toInt.toNat)), .int (nI 0), .ref out]) rfl ?_
    refine lv_i2l hx hb dL_stick_8 rfl ?_
    refine x_last (x := ((fk σ (y.toInt.toNat) (z.toInt.toNat)).toInt64)) hx hb hJ hA hlo (by omega) dL_stick_9 (fun H2 lc2 hA2 hz2 ho2 hlo => ?_)
    refine lv_goto (tgt := 17) hx hb dL_stick_10 (by decide) ?_
    refine lv_iconst (v := nI 0) hx hb dL_stick_17 (by decide +kernel) ?_
    refine W.widen (k := 2) (n := 12) (Nat.le_of_ble_eq_true rfl) (Nat.le_of_ble_eq_true rfl) ?_
    exact m_iret (Post := fun H v H2 => WPo Γ cJ x out b0 σ σ ad (cd1 (inb y (qn σ) ∧ inb z 7)) (fk σ (y.toInt.toNat) (z.toInt.toNat)) v0 H v H2) hx hb hr hlk hlo dL_stick_18 (WPo.ok hcd hC2 hy2 hF hb0 hob hA2 rfl hz2 ho2)
  · skip
    have hown9 : s.vm.findClass RL = some m.cls := hown
    obtain ⟨i, hi, hc⟩ := hEx
    rcases i with _ | i
    · skip
      have hi : some eIO = some E := hi
      cases hi
      refine vx_catch (own := RL) (name := eIO) hown9 [] ⟨0, 10, 13, 21⟩ [] htab (fun z hz => by cases hz) rfl (by decide) (hts (.classLink RL 21 eIO) (by decide +kernel)) hE0.IO hce hcv hcl ?_
      refine lv_astore (lv' := [(4, .ref q), (0, .ref x), (1, .int y), (2, .int z), (3, .ref out)]) hx hb dL_stick_13 hl (by decide) rfl (fun ls hl => ?_)
      refine lv_iconst (v := nI 1) hx hb dL_stick_15 (by decide +kernel) ?_
      refine W.widen (k := 2) (n := 12) (Nat.le_of_ble_eq_true rfl) (Nat.le_of_ble_eq_true rfl) ?_
      exact m_iret (Post := fun H v H2 => WPo Γ cJ x out b0 σ σ ad (cd1 (inb y (qn σ) ∧ inb z 7)) (fk σ (y.toInt.toNat) (z.toInt.toNat)) v0 H v H2) hx hb hr hlk hlo dL_stick_16 (WPo.no (i := 0) hc hC hA0 hz9 ho9)
    · skip
      have hi : (none : Option String) = some E := hi
      cases hi
set_option maxHeartbeats 4000000 in
set_option maxRecDepth 100000 in
theorem c_L_rune (l : Launch) (hfl : l.stackTraces = false) (Γ : GG) (cJ : ClassId) (bs x out b0 : Nat) (σ : St) (ad : Nat → Nat) (hI : Iv σ) (y z w : Int32) (hy : Ly b0 σ ad) (hb0 : x + 2 ≤ out) (hob : out + 1 ≤ b0) (hbs : bs ≤ x) (v0 : Int64) : Lw l yL_rune wsL_rune ({ frames := 8, cells := 2, slots := 12, locals := 128 }) Γ cJ bs [.ref x, .int y, .int z, .int w, .ref out] (fun H => CW Γ x σ ad H ∧ b0 ≤ H.size ∧ Aj cJ out v0 H) (fun H v H2 => WPo Γ cJ x out b0 σ σ ad (cd1 (spotP σ y z w)) (rk σ (y.toInt.toNat) (3 * w.toInt.toNat + z.toInt.toNat)) v0 H v H2) 2 12 := by
  refine Lw.of (cc := cL_rune) (maxL := 6) (ret := some .int) (by decide) rfl (Nat.le_of_ble_eq_true rfl) ?_
  intro p e s m below meth c S hr hlk htab hK hT hE0 hJ hW ls hl
  obtain ⟨hx, hb, hml, hown, hts⟩ := id S
  obtain ⟨lc, elc⟩ : ∃ z : List Loc, z = [] := ⟨_, rfl⟩
  rw [← elc]
  have hlo : lo bs lc := by rw [elc]; exact lo.nil
  clear elc
  have hl : lv_has ls 6 [(0, .ref x), (1, .int y), (2, .int z), (3, .int w), (4, .ref out)] := hl
  obtain ⟨hC, hsz0, hA⟩ := hW
  have hA0 := hA
  refine lv_aload hx hb dL_rune_0 (lv_at hl 4 rfl) ?_
  refine lv_iconst (v := nI 0) hx hb dL_rune_2 (by decide +kernel) ?_
  refine lv_aload_n hx hb dL_rune_3 rfl (lv_at hl 0 rfl) ?_
  refine lv_iload_n hx hb dL_rune_4 rfl (lv_at hl 1 rfl) ?_
  refine lv_iload_n hx hb dL_rune_5 rfl (lv_at hl 2 rfl) ?_
  refine lv_iload_n hx hb dL_rune_6 rfl (lv_at hl 3 rfl) ?_
  refine w_V (rest := [.int (nI 0), .ref out]) S hK hT (c_X1_rune l hfl Γ bs x σ ad hI y z w) (cwV 3 hts gL_rune_X1_rune rfl rfl rfl (by decide +kernel) ⟨Nat.le_of_ble_eq_true rfl, Nat.le_of_ble_eq_true rfl⟩) (Ob.recv hK hC.1 rfl) hC rfl hl.1 rfl (Nat.le_of_ble_eq_true rfl) dL_rune_7 ⟨Nat.le_of_ble_eq_true rfl, Nat.le_of_ble_eq_true rfl⟩ hlo (fun v H1 lc1 hp hlo => ?_) (fun E ce q H1 lc1 hEx hz9 ho9 hce hcv hcl hlo => ?_)
  · skip
    obtain ⟨hcd, rfl, rfl⟩ := hp
    have hC2 := hC
    have hy2 := hy
    have hF : FrC x b0 s.heap s.heap := FrC.rf
    refine W.eq (g2 := F0 m 10 ls [.int (rk σ (y.toInt.toNat) (3 * w.toInt.toNat + z.toInt.toNat)), .int (nI 0), .ref out]) rfl ?_
    refine lv_i2l hx hb dL_rune_10 rfl ?_
    refine x_last (x := ((rk σ (y.toInt.toNat) (3 * w.toInt.toNat + z.toInt.toNat)).toInt64)) hx hb hJ hA hlo (by omega) dL_rune_11 (fun H2 lc2 hA2 hz2 ho2 hlo => ?_)
    refine lv_goto (tgt := 19) hx hb dL_rune_12 (by decide) ?_
    refine lv_iconst (v := nI 0) hx hb dL_rune_19 (by decide +kernel) ?_
    refine W.widen (k := 2) (n := 12) (Nat.le_of_ble_eq_true rfl) (Nat.le_of_ble_eq_true rfl) ?_
    exact m_iret (Post := fun H v H2 => WPo Γ cJ x out b0 σ σ ad (cd1 (spotP σ y z w)) (rk σ (y.toInt.toNat) (3 * w.toInt.toNat + z.toInt.toNat)) v0 H v H2) hx hb hr hlk hlo dL_rune_20 (WPo.ok hcd hC2 hy2 hF hb0 hob hA2 rfl hz2 ho2)
  · skip
    have hown9 : s.vm.findClass RL = some m.cls := hown
    obtain ⟨i, hi, hc⟩ := hEx
    rcases i with _ | i
    · skip
      have hi : some eIO = some E := hi
      cases hi
      refine vx_catch (own := RL) (name := eIO) hown9 [] ⟨0, 12, 15, 21⟩ [] htab (fun z hz => by cases hz) rfl (by decide) (hts (.classLink RL 21 eIO) (by decide +kernel)) hE0.IO hce hcv hcl ?_
      refine lv_astore (lv' := [(5, .ref q), (0, .ref x), (1, .int y), (2, .int z), (3, .int w), (4, .ref out)]) hx hb dL_rune_15 hl (by decide) rfl (fun ls hl => ?_)
      refine lv_iconst (v := nI 1) hx hb dL_rune_17 (by decide +kernel) ?_
      refine W.widen (k := 2) (n := 12) (Nat.le_of_ble_eq_true rfl) (Nat.le_of_ble_eq_true rfl) ?_
      exact m_iret (Post := fun H v H2 => WPo Γ cJ x out b0 σ σ ad (cd1 (spotP σ y z w)) (rk σ (y.toInt.toNat) (3 * w.toInt.toNat + z.toInt.toNat)) v0 H v H2) hx hb hr hlk hlo dL_rune_18 (WPo.no (i := 0) hc hC hA0 hz9 ho9)
    · skip
      have hi : (none : Option String) = some E := hi
      cases hi
set_option maxHeartbeats 4000000 in
set_option maxRecDepth 100000 in
theorem c_L_strength (l : Launch) (hfl : l.stackTraces = false) (Γ : GG) (cJ : ClassId) (bs x out b0 : Nat) (σ : St) (ad : Nat → Nat) (hI : Iv σ) (y z : Int32) (hy : Ly b0 σ ad) (hb0 : x + 2 ≤ out) (hob : out + 1 ≤ b0) (hbs : bs ≤ x) (v0 : Int64) : Lw l yL_strength wsL_strength ({ frames := 8, cells := 2, slots := 12, locals := 127 }) Γ cJ bs [.ref x, .int y, .int z, .ref out] (fun H => CW Γ x σ ad H ∧ b0 ≤ H.size ∧ Aj cJ out v0 H) (fun H v H2 => WPo Γ cJ x out b0 σ σ ad (cd1 (inb y (qn σ) ∧ inb z (qp σ (y.toInt.toNat) - 1))) (stn (rk σ (y.toInt.toNat)) (ak σ (y.toInt.toNat)) (z.toInt.toNat)) v0 H v H2) 2 12 := by
  refine Lw.of (cc := cL_strength) (maxL := 5) (ret := some .int) (by decide) rfl (Nat.le_of_ble_eq_true rfl) ?_
  intro p e s m below meth c S hr hlk htab hK hT hE0 hJ hW ls hl
  obtain ⟨hx, hb, hml, hown, hts⟩ := id S
  obtain ⟨lc, elc⟩ : ∃ z : List Loc, z = [] := ⟨_, rfl⟩
  rw [← elc]
  have hlo : lo bs lc := by rw [elc]; exact lo.nil
  clear elc
  have hl : lv_has ls 5 [(0, .ref x), (1, .int y), (2, .int z), (3, .ref out)] := hl
  obtain ⟨hC, hsz0, hA⟩ := hW
  have hA0 := hA
  refine lv_aload_n hx hb dL_strength_0 rfl (lv_at hl 3 rfl) ?_
  refine lv_iconst (v := nI 0) hx hb dL_strength_1 (by decide +kernel) ?_
  refine lv_aload_n hx hb dL_strength_2 rfl (lv_at hl 0 rfl) ?_
  refine lv_iload_n hx hb dL_strength_3 rfl (lv_at hl 1 rfl) ?_
  refine lv_iload_n hx hb dL_strength_4 rfl (lv_at hl 2 rfl) ?_
  refine w_V (rest := [.int (nI 0), .ref out]) S hK hT (c_X1_strength l hfl Γ bs x σ ad hI y z) (cwV 2 hts gL_strength_X1_strength rfl rfl rfl (by decide +kernel) ⟨Nat.le_of_ble_eq_true rfl, Nat.le_of_ble_eq_true rfl⟩) (Ob.recv hK hC.1 rfl) hC rfl hl.1 rfl (Nat.le_of_ble_eq_true rfl) dL_strength_5 ⟨Nat.le_of_ble_eq_true rfl, Nat.le_of_ble_eq_true rfl⟩ hlo (fun v H1 lc1 hp hlo => ?_) (fun E ce q H1 lc1 hEx hz9 ho9 hce hcv hcl hlo => ?_)
  · skip
    obtain ⟨hcd, rfl, rfl⟩ := hp
    have hC2 := hC
    have hy2 := hy
    have hF : FrC x b0 s.heap s.heap := FrC.rf
    refine W.eq (g2 := F0 m 8 ls [.int (stn (rk σ (y.toInt.toNat)) (ak σ (y.toInt.toNat)) (z.toInt.toNat)), .int (nI 0), .ref out]) rfl ?_
    refine lv_i2l hx hb dL_strength_8 rfl ?_
    refine x_last (x := ((stn (rk σ (y.toInt.toNat)) (ak σ (y.toInt.toNat)) (z.toInt.toNat)).toInt64)) hx hb hJ hA hlo (by omega) dL_strength_9 (fun H2 lc2 hA2 hz2 ho2 hlo => ?_)
    refine lv_goto (tgt := 17) hx hb dL_strength_10 (by decide) ?_
    refine lv_iconst (v := nI 0) hx hb dL_strength_17 (by decide +kernel) ?_
    refine W.widen (k := 2) (n := 12) (Nat.le_of_ble_eq_true rfl) (Nat.le_of_ble_eq_true rfl) ?_
    exact m_iret (Post := fun H v H2 => WPo Γ cJ x out b0 σ σ ad (cd1 (inb y (qn σ) ∧ inb z (qp σ (y.toInt.toNat) - 1))) (stn (rk σ (y.toInt.toNat)) (ak σ (y.toInt.toNat)) (z.toInt.toNat)) v0 H v H2) hx hb hr hlk hlo dL_strength_18 (WPo.ok hcd hC2 hy2 hF hb0 hob hA2 rfl hz2 ho2)
  · skip
    have hown9 : s.vm.findClass RL = some m.cls := hown
    obtain ⟨i, hi, hc⟩ := hEx
    rcases i with _ | i
    · skip
      have hi : some eIO = some E := hi
      cases hi
      refine vx_catch (own := RL) (name := eIO) hown9 [] ⟨0, 10, 13, 21⟩ [] htab (fun z hz => by cases hz) rfl (by decide) (hts (.classLink RL 21 eIO) (by decide +kernel)) hE0.IO hce hcv hcl ?_
      refine lv_astore (lv' := [(4, .ref q), (0, .ref x), (1, .int y), (2, .int z), (3, .ref out)]) hx hb dL_strength_13 hl (by decide) rfl (fun ls hl => ?_)
      refine lv_iconst (v := nI 1) hx hb dL_strength_15 (by decide +kernel) ?_
      refine W.widen (k := 2) (n := 12) (Nat.le_of_ble_eq_true rfl) (Nat.le_of_ble_eq_true rfl) ?_
      exact m_iret (Post := fun H v H2 => WPo Γ cJ x out b0 σ σ ad (cd1 (inb y (qn σ) ∧ inb z (qp σ (y.toInt.toNat) - 1))) (stn (rk σ (y.toInt.toNat)) (ak σ (y.toInt.toNat)) (z.toInt.toNat)) v0 H v H2) hx hb hr hlk hlo dL_strength_16 (WPo.no (i := 0) hc hC hA0 hz9 ho9)
    · skip
      have hi : (none : Option String) = some E := hi
      cases hi
set_option maxHeartbeats 4000000 in
set_option maxRecDepth 100000 in
theorem c_L_count (l : Launch) (hfl : l.stackTraces = false) (Γ : GG) (cJ : ClassId) (bs x out b0 : Nat) (σ : St) (ad : Nat → Nat) (hI : Iv σ) (y : Int32) (hy : Ly b0 σ ad) (hb0 : x + 2 ≤ out) (hob : out + 1 ≤ b0) (hbs : bs ≤ x) (v0 : Int64) : Lw l yL_count wsL_count ({ frames := 8, cells := 1, slots := 6, locals := 176 }) Γ cJ bs [.ref x, .int y, .ref out] (fun H => CW Γ x σ ad H ∧ b0 ≤ H.size ∧ Aj cJ out v0 H) (fun H v H2 => WPo Γ cJ x out b0 σ σ ad (cd1 (inb y 7)) (tot σ (y.toInt.toNat)) v0 H v H2) 1 6 := by
  refine Lw.of (cc := cL_count) (maxL := 4) (ret := some .int) (by decide) rfl (Nat.le_of_ble_eq_true rfl) ?_
  intro p e s m below meth c S hr hlk htab hK hT hE0 hJ hW ls hl
  obtain ⟨hx, hb, hml, hown, hts⟩ := id S
  obtain ⟨lc, elc⟩ : ∃ z : List Loc, z = [] := ⟨_, rfl⟩
  rw [← elc]
  have hlo : lo bs lc := by rw [elc]; exact lo.nil
  clear elc
  have hl : lv_has ls 4 [(0, .ref x), (1, .int y), (2, .ref out)] := hl
  obtain ⟨hC, hsz0, hA⟩ := hW
  have hA0 := hA
  refine lv_aload_n hx hb dL_count_0 rfl (lv_at hl 2 rfl) ?_
  refine lv_iconst (v := nI 0) hx hb dL_count_1 (by decide +kernel) ?_
  refine lv_aload_n hx hb dL_count_2 rfl (lv_at hl 0 rfl) ?_
  refine lv_iload_n hx hb dL_count_3 rfl (lv_at hl 1 rfl) ?_
  refine w_V (rest := [.int (nI 0), .ref out]) S hK hT (c_X1_count l hfl Γ bs x σ ad hI b0 y hy) (cwV 1 hts gL_count_X1_count rfl rfl rfl (by decide +kernel) ⟨Nat.le_of_ble_eq_true rfl, Nat.le_of_ble_eq_true rfl⟩) (Ob.recv hK hC.1 rfl) hC rfl hl.1 rfl (Nat.le_of_ble_eq_true rfl) dL_count_4 ⟨Nat.le_of_ble_eq_true rfl, Nat.le_of_ble_eq_true rfl⟩ hlo (fun v H1 lc1 hp hlo => ?_) (fun E ce q H1 lc1 hEx hz9 ho9 hce hcv hcl hlo => ?_)
  · skip
    obtain ⟨hcd, rfl, rfl⟩ := hp
    have hC2 := hC
    have hy2 := hy
    have hF : FrC x b0 s.heap s.heap := FrC.rf
    refine W.eq (g2 := F0 m 7 ls [.int (tot σ (y.toInt.toNat)), .int (nI 0), .ref out]) rfl ?_
    refine lv_i2l hx hb dL_count_7 rfl ?_
    refine x_last (x := ((tot σ (y.toInt.toNat)).toInt64)) hx hb hJ hA hlo (by omega) dL_count_8 (fun H2 lc2 hA2 hz2 ho2 hlo => ?_)
    refine lv_goto (tgt := 15) hx hb dL_count_9 (by decide) ?_
    refine lv_iconst (v := nI 0) hx hb dL_count_15 (by decide +kernel) ?_
    refine W.widen (k := 1) (n := 6) (Nat.le_of_ble_eq_true rfl) (Nat.le_of_ble_eq_true rfl) ?_
    exact m_iret (Post := fun H v H2 => WPo Γ cJ x out b0 σ σ ad (cd1 (inb y 7)) (tot σ (y.toInt.toNat)) v0 H v H2) hx hb hr hlk hlo dL_count_16 (WPo.ok hcd hC2 hy2 hF hb0 hob hA2 rfl hz2 ho2)
  · skip
    have hown9 : s.vm.findClass RL = some m.cls := hown
    obtain ⟨i, hi, hc⟩ := hEx
    rcases i with _ | i
    · skip
      have hi : some eIO = some E := hi
      cases hi
      refine vx_catch (own := RL) (name := eIO) hown9 [] ⟨0, 9, 12, 21⟩ [] htab (fun z hz => by cases hz) rfl (by decide) (hts (.classLink RL 21 eIO) (by decide +kernel)) hE0.IO hce hcv hcl ?_
      refine lv_astore_n (lv' := [(3, .ref q), (0, .ref x), (1, .int y), (2, .ref out)]) hx hb dL_count_12 rfl hl (by decide) rfl (fun ls hl => ?_)
      refine lv_iconst (v := nI 1) hx hb dL_count_13 (by decide +kernel) ?_
      refine W.widen (k := 1) (n := 6) (Nat.le_of_ble_eq_true rfl) (Nat.le_of_ble_eq_true rfl) ?_
      exact m_iret (Post := fun H v H2 => WPo Γ cJ x out b0 σ σ ad (cd1 (inb y 7)) (tot σ (y.toInt.toNat)) v0 H v H2) hx hb hr hlk hlo dL_count_14 (WPo.no (i := 0) hc hC hA0 hz9 ho9)
    · skip
      have hi : (none : Option String) = some E := hi
      cases hi
set_option maxHeartbeats 4000000 in
set_option maxRecDepth 100000 in
theorem c_L_fits (l : Launch) (hfl : l.stackTraces = false) (Γ : GG) (cJ : ClassId) (bs x out b0 : Nat) (σ : St) (ad : Nat → Nat) (hI : Iv σ) (y z : Int32) (hy : Ly b0 σ ad) (hb0 : x + 2 ≤ out) (hob : out + 1 ≤ b0) (hbs : bs ≤ x) (v0 : Int64) : Lw l yL_fits wsL_fits ({ frames := 8, cells := 2, slots := 12, locals := 128 }) Γ cJ bs [.ref x, .int y, .int z, .ref out] (fun H => CW Γ x σ ad H ∧ b0 ≤ H.size ∧ Aj cJ out v0 H) (fun H v H2 => WPo Γ cJ x out b0 σ σ ad (cd1 (inb y (qn σ) ∧ inb z (qn σ))) (nI (bP (fitP σ (y.toInt.toNat) (z.toInt.toNat)))) v0 H v H2) 2 12 := by
  refine Lw.of (cc := cL_fits) (maxL := 5) (ret := some .int) (by decide) rfl (Nat.le_of_ble_eq_true rfl) ?_
  intro p e s m below meth c S hr hlk htab hK hT hE0 hJ hW ls hl
  obtain ⟨hx, hb, hml, hown, hts⟩ := id S
  obtain ⟨lc, elc⟩ : ∃ z : List Loc, z = [] := ⟨_, rfl⟩
  rw [← elc]
  have hlo : lo bs lc := by rw [elc]; exact lo.nil
  clear elc
  have hl : lv_has ls 5 [(0, .ref x), (1, .int y), (2, .int z), (3, .ref out)] := hl
  obtain ⟨hC, hsz0, hA⟩ := hW
  have hA0 := hA
  refine lv_aload_n hx hb dL_fits_0 rfl (lv_at hl 3 rfl) ?_
  refine lv_iconst (v := nI 0) hx hb dL_fits_1 (by decide +kernel) ?_
  refine lv_aload_n hx hb dL_fits_2 rfl (lv_at hl 0 rfl) ?_
  refine lv_iload_n hx hb dL_fits_3 rfl (lv_at hl 1 rfl) ?_
  refine lv_iload_n hx hb dL_fits_4 rfl (lv_at hl 2 rfl) ?_
  refine w_V (rest := [.int (nI 0), .ref out]) S hK hT (c_X1_fits l hfl Γ bs x σ ad hI b0 y z hy) (cwV 2 hts gL_fits_X1_fits rfl rfl rfl (by decide +kernel) ⟨Nat.le_of_ble_eq_true rfl, Nat.le_of_ble_eq_true rfl⟩) (Ob.recv hK hC.1 rfl) hC rfl hl.1 rfl (Nat.le_of_ble_eq_true rfl) dL_fits_5 ⟨Nat.le_of_ble_eq_true rfl, Nat.le_of_ble_eq_true rfl⟩ hlo (fun v H1 lc1 hp hlo => ?_) (fun E ce q H1 lc1 hEx hz9 ho9 hce hcv hcl hlo => ?_)
  · skip
    obtain ⟨hcd, rfl, rfl⟩ := hp
    have hC2 := hC
    have hy2 := hy
    have hF : FrC x b0 s.heap s.heap := FrC.rf
    refine W.eq (g2 := F0 m 8 ls [.int (nI (bP (fitP σ (y.toInt.toNat) (z.toInt.toNat)))), .int (nI 0), .ref out]) rfl ?_
    have hbb := bP_le (fitP σ (y.toInt.toNat) (z.toInt.toNat))
    refine x_ifeq hx hb (by omega) (tgt := 15) dL_fits_8 (by decide) (fun c_1 => ?_) (fun c_1 => ?_)
    · skip
      refine lv_lconst (v := 0) hx hb dL_fits_15 (by decide +kernel) ?_
      refine x_last (x := 0) hx hb hJ hA hlo (by omega) dL_fits_16 (fun H2 lc2 hA2 hz2 ho2 hlo => ?_)
      refine lv_goto (tgt := 24) hx hb dL_fits_17 (by decide) ?_
      refine lv_iconst (v := nI 0) hx hb dL_fits_24 (by decide +kernel) ?_
      refine W.widen (k := 2) (n := 12) (Nat.le_of_ble_eq_true rfl) (Nat.le_of_ble_eq_true rfl) ?_
      exact m_iret (Post := fun H v H2 => WPo Γ cJ x out b0 σ σ ad (cd1 (inb y (qn σ) ∧ inb z (qn σ))) (nI (bP (fitP σ (y.toInt.toNat) (z.toInt.toNat)))) v0 H v H2) hx hb hr hlk hlo dL_fits_25 (WPo.ok hcd hC2 hy2 hF hb0 hob hA2 (by rw [bP_f (bP_0 c_1)]; decide +kernel) hz2 ho2)
    · skip
      refine lv_lconst (v := 1) hx hb dL_fits_11 (by decide +kernel) ?_
      refine lv_goto (tgt := 16) hx hb dL_fits_12 (by decide) ?_
      refine x_last (x := 1) hx hb hJ hA hlo (by omega) dL_fits_16 (fun H2 lc2 hA2 hz2 ho2 hlo => ?_)
      refine lv_goto (tgt := 24) hx hb dL_fits_17 (by decide) ?_
      refine lv_iconst (v := nI 0) hx hb dL_fits_24 (by decide +kernel) ?_
      refine W.widen (k := 2) (n := 12) (Nat.le_of_ble_eq_true rfl) (Nat.le_of_ble_eq_true rfl) ?_
      exact m_iret (Post := fun H v H2 => WPo Γ cJ x out b0 σ σ ad (cd1 (inb y (qn σ) ∧ inb z (qn σ))) (nI (bP (fitP σ (y.toInt.toNat) (z.toInt.toNat)))) v0 H v H2) hx hb hr hlk hlo dL_fits_25 (WPo.ok hcd hC2 hy2 hF hb0 hob hA2 (by rw [bP_t (bP_1 c_1)]; decide +kernel) hz2 ho2)
  · skip
    have hown9 : s.vm.findClass RL = some m.cls := hown
    obtain ⟨i, hi, hc⟩ := hEx
    rcases i with _ | i
    · skip
      have hi : some eIO = some E := hi
      cases hi
      refine vx_catch (own := RL) (name := eIO) hown9 [] ⟨0, 17, 20, 21⟩ [] htab (fun z hz => by cases hz) rfl (by decide) (hts (.classLink RL 21 eIO) (by decide +kernel)) hE0.IO hce hcv hcl ?_
      refine lv_astore (lv' := [(4, .ref q), (0, .ref x), (1, .int y), (2, .int z), (3, .ref out)]) hx hb dL_fits_20 hl (by decide) rfl (fun ls hl => ?_)
      refine lv_iconst (v := nI 1) hx hb dL_fits_22 (by decide +kernel) ?_
      refine W.widen (k := 2) (n := 12) (Nat.le_of_ble_eq_true rfl) (Nat.le_of_ble_eq_true rfl) ?_
      exact m_iret (Post := fun H v H2 => WPo Γ cJ x out b0 σ σ ad (cd1 (inb y (qn σ) ∧ inb z (qn σ))) (nI (bP (fitP σ (y.toInt.toNat) (z.toInt.toNat)))) v0 H v H2) hx hb hr hlk hlo dL_fits_23 (WPo.no (i := 0) hc hC hA0 hz9 ho9)
    · skip
      have hi : (none : Option String) = some E := hi
      cases hi
set_option maxHeartbeats 4000000 in
set_option maxRecDepth 100000 in
theorem c_L_size (l : Launch) (hfl : l.stackTraces = false) (Γ : GG) (cJ : ClassId) (bs x out b0 : Nat) (σ : St) (ad : Nat → Nat) (hI : Iv σ) (y z : Int32) (hy : Ly b0 σ ad) (hb0 : x + 2 ≤ out) (hob : out + 1 ≤ b0) (hbs : bs ≤ x) (v0 : Int64) : Lw l yL_size wsL_size ({ frames := 8, cells := 2, slots := 12, locals := 127 }) Γ cJ bs [.ref x, .int y, .int z, .ref out] (fun H => CW Γ x σ ad H ∧ b0 ≤ H.size ∧ Aj cJ out v0 H) (fun H v H2 => WPo Γ cJ x out b0 σ σ ad (cd2 (inb y (qn σ)) (inb z 3)) (nI (cU (rd (rk σ (y.toInt.toNat)) (qu σ (y.toInt.toNat)) (z.toInt.toNat)) (qp σ (y.toInt.toNat)))) v0 H v H2) 2 12 := by
  refine Lw.of (cc := cL_size) (maxL := 5) (ret := some .int) (by decide) rfl (Nat.le_of_ble_eq_true rfl) ?_
  intro p e s m below meth c S hr hlk htab hK hT hE0 hJ hW ls hl
  obtain ⟨hx, hb, hml, hown, hts⟩ := id S
  obtain ⟨lc, elc⟩ : ∃ z : List Loc, z = [] := ⟨_, rfl⟩
  rw [← elc]
  have hlo : lo bs lc := by rw [elc]; exact lo.nil
  clear elc
  have hl : lv_has ls 5 [(0, .ref x), (1, .int y), (2, .int z), (3, .ref out)] := hl
  obtain ⟨hC, hsz0, hA⟩ := hW
  have hA0 := hA
  refine lv_aload_n hx hb dL_size_0 rfl (lv_at hl 3 rfl) ?_
  refine lv_iconst (v := nI 0) hx hb dL_size_1 (by decide +kernel) ?_
  refine lv_aload_n hx hb dL_size_2 rfl (lv_at hl 0 rfl) ?_
  refine lv_iload_n hx hb dL_size_3 rfl (lv_at hl 1 rfl) ?_
  refine lv_iload_n hx hb dL_size_4 rfl (lv_at hl 2 rfl) ?_
  refine w_V (rest := [.int (nI 0), .ref out]) S hK hT (c_X1_size l hfl Γ bs x σ ad hI y z) (cwV 2 hts gL_size_X1_size rfl rfl rfl (by decide +kernel) ⟨Nat.le_of_ble_eq_true rfl, Nat.le_of_ble_eq_true rfl⟩) (Ob.recv hK hC.1 rfl) hC rfl hl.1 rfl (Nat.le_of_ble_eq_true rfl) dL_size_5 ⟨Nat.le_of_ble_eq_true rfl, Nat.le_of_ble_eq_true rfl⟩ hlo (fun v H1 lc1 hp hlo => ?_) (fun E ce q H1 lc1 hEx hz9 ho9 hce hcv hcl hlo => ?_)
  · skip
    obtain ⟨hcd, rfl, rfl⟩ := hp
    have hC2 := hC
    have hy2 := hy
    have hF : FrC x b0 s.heap s.heap := FrC.rf
    refine W.eq (g2 := F0 m 8 ls [.int (nI (cU (rd (rk σ (y.toInt.toNat)) (qu σ (y.toInt.toNat)) (z.toInt.toNat)) (qp σ (y.toInt.toNat)))), .int (nI 0), .ref out]) rfl ?_
    refine lv_i2l hx hb dL_size_8 rfl ?_
    refine x_last (x := ((nI (cU (rd (rk σ (y.toInt.toNat)) (qu σ (y.toInt.toNat)) (z.toInt.toNat)) (qp σ (y.toInt.toNat)))).toInt64)) hx hb hJ hA hlo (by omega) dL_size_9 (fun H2 lc2 hA2 hz2 ho2 hlo => ?_)
    refine lv_goto (tgt := 21) hx hb dL_size_10 (by decide) ?_
    refine lv_iconst (v := nI 0) hx hb dL_size_21 (by decide +kernel) ?_
    refine W.widen (k := 2) (n := 12) (Nat.le_of_ble_eq_true rfl) (Nat.le_of_ble_eq_true rfl) ?_
    exact m_iret (Post := fun H v H2 => WPo Γ cJ x out b0 σ σ ad (cd2 (inb y (qn σ)) (inb z 3)) (nI (cU (rd (rk σ (y.toInt.toNat)) (qu σ (y.toInt.toNat)) (z.toInt.toNat)) (qp σ (y.toInt.toNat)))) v0 H v H2) hx hb hr hlk hlo dL_size_22 (WPo.ok hcd hC2 hy2 hF hb0 hob hA2 rfl hz2 ho2)
  · skip
    have hown9 : s.vm.findClass RL = some m.cls := hown
    obtain ⟨i, hi, hc⟩ := hEx
    rcases i with _ | _ | i
    · skip
      have hi : some eIO = some E := hi
      cases hi
      refine vx_catch (own := RL) (name := eIO) hown9 [] ⟨0, 10, 13, 21⟩ [⟨0, 10, 17, 13⟩] htab (fun z hz => by cases hz) rfl (by decide) (hts (.classLink RL 21 eIO) (by decide +kernel)) hE0.IO hce hcv hcl ?_
      refine lv_astore (lv' := [(4, .ref q), (0, .ref x), (1, .int y), (2, .int z), (3, .ref out)]) hx hb dL_size_13 hl (by decide) rfl (fun ls hl => ?_)
      refine lv_iconst (v := nI 1) hx hb dL_size_15 (by decide +kernel) ?_
      refine W.widen (k := 2) (n := 12) (Nat.le_of_ble_eq_true rfl) (Nat.le_of_ble_eq_true rfl) ?_
      exact m_iret (Post := fun H v H2 => WPo Γ cJ x out b0 σ σ ad (cd2 (inb y (qn σ)) (inb z 3)) (nI (cU (rd (rk σ (y.toInt.toNat)) (qu σ (y.toInt.toNat)) (z.toInt.toNat)) (qp σ (y.toInt.toNat)))) v0 H v H2) hx hb hr hlk hlo dL_size_16 (WPo.no (i := 0) hc hC hA0 hz9 ho9)
    · skip
      have hi : some eIA = some E := hi
      cases hi
      refine vx_catch (own := RL) (name := eIA) hown9 [⟨0, 10, 13, 21⟩] ⟨0, 10, 17, 13⟩ [] htab (List.forall_mem_cons.mpr ⟨Or.inr ⟨by decide, eIO, hts (.classLink RL 21 eIO) (by decide +kernel), hE0.2.2.1⟩, fun z hz => by cases hz⟩) rfl (by decide) (hts (.classLink RL 13 eIA) (by decide +kernel)) hE0.IA hce hcv hcl ?_
      refine lv_astore (lv' := [(4, .ref q), (0, .ref x), (1, .int y), (2, .int z), (3, .ref out)]) hx hb dL_size_17 hl (by decide) rfl (fun ls hl => ?_)
      refine lv_iconst (v := nI 2) hx hb dL_size_19 (by decide +kernel) ?_
      refine W.widen (k := 2) (n := 12) (Nat.le_of_ble_eq_true rfl) (Nat.le_of_ble_eq_true rfl) ?_
      exact m_iret (Post := fun H v H2 => WPo Γ cJ x out b0 σ σ ad (cd2 (inb y (qn σ)) (inb z 3)) (nI (cU (rd (rk σ (y.toInt.toNat)) (qu σ (y.toInt.toNat)) (z.toInt.toNat)) (qp σ (y.toInt.toNat)))) v0 H v H2) hx hb hr hlk hlo dL_size_20 (WPo.no (i := 1) hc hC hA0 hz9 ho9)
    · skip
      have hi : (none : Option String) = some E := hi
      cases hi
set_option maxHeartbeats 4000000 in
set_option maxRecDepth 100000 in
theorem c_L_reads (l : Launch) (hfl : l.stackTraces = false) (Γ : GG) (cJ : ClassId) (bs x out b0 : Nat) (σ : St) (ad : Nat → Nat) (hI : Iv σ) (y z w : Int32) (hy : Ly b0 σ ad) (hb0 : x + 2 ≤ out) (hob : out + 1 ≤ b0) (hbs : bs ≤ x) (v0 : Int64) : Lw l yL_reads wsL_reads ({ frames := 8, cells := 3, slots := 18, locals := 129 }) Γ cJ bs [.ref x, .int y, .int z, .int w, .ref out] (fun H => CW Γ x σ ad H ∧ b0 ≤ H.size ∧ Aj cJ out v0 H) (fun H v H2 => WPo Γ cJ x out b0 σ σ ad (cd2 (inb y (qn σ)) (inb z 3 ∧ inb w (cU (rd (rk σ (y.toInt.toNat)) (qu σ (y.toInt.toNat)) (z.toInt.toNat)) (qp σ (y.toInt.toNat))))) (nth (rd (rk σ (y.toInt.toNat)) (qu σ (y.toInt.toNat)) (z.toInt.toNat)) (qp σ (y.toInt.toNat)) w) v0 H v H2) 3 18 := by
  refine Lw.of (cc := cL_reads) (maxL := 6) (ret := some .int) (by decide) rfl (Nat.le_of_ble_eq_true rfl) ?_
  intro p e s m below meth c S hr hlk htab hK hT hE0 hJ hW ls hl
  obtain ⟨hx, hb, hml, hown, hts⟩ := id S
  obtain ⟨lc, elc⟩ : ∃ z : List Loc, z = [] := ⟨_, rfl⟩
  rw [← elc]
  have hlo : lo bs lc := by rw [elc]; exact lo.nil
  clear elc
  have hl : lv_has ls 6 [(0, .ref x), (1, .int y), (2, .int z), (3, .int w), (4, .ref out)] := hl
  obtain ⟨hC, hsz0, hA⟩ := hW
  have hA0 := hA
  refine lv_aload hx hb dL_reads_0 (lv_at hl 4 rfl) ?_
  refine lv_iconst (v := nI 0) hx hb dL_reads_2 (by decide +kernel) ?_
  refine lv_aload_n hx hb dL_reads_3 rfl (lv_at hl 0 rfl) ?_
  refine lv_iload_n hx hb dL_reads_4 rfl (lv_at hl 1 rfl) ?_
  refine lv_iload_n hx hb dL_reads_5 rfl (lv_at hl 2 rfl) ?_
  refine lv_iload_n hx hb dL_reads_6 rfl (lv_at hl 3 rfl) ?_
  refine w_V (rest := [.int (nI 0), .ref out]) S hK hT (c_X1_reads l hfl Γ bs x σ ad hI y z w) (cwV 3 hts gL_reads_X1_reads rfl rfl rfl (by decide +kernel) ⟨Nat.le_of_ble_eq_true rfl, Nat.le_of_ble_eq_true rfl⟩) (Ob.recv hK hC.1 rfl) hC rfl hl.1 rfl (Nat.le_of_ble_eq_true rfl) dL_reads_7 ⟨Nat.le_of_ble_eq_true rfl, Nat.le_of_ble_eq_true rfl⟩ hlo (fun v H1 lc1 hp hlo => ?_) (fun E ce q H1 lc1 hEx hz9 ho9 hce hcv hcl hlo => ?_)
  · skip
    obtain ⟨hcd, rfl, rfl⟩ := hp
    have hC2 := hC
    have hy2 := hy
    have hF : FrC x b0 s.heap s.heap := FrC.rf
    refine W.eq (g2 := F0 m 10 ls [.int (nth (rd (rk σ (y.toInt.toNat)) (qu σ (y.toInt.toNat)) (z.toInt.toNat)) (qp σ (y.toInt.toNat)) w), .int (nI 0), .ref out]) rfl ?_
    refine lv_i2l hx hb dL_reads_10 rfl ?_
    refine x_last (x := ((nth (rd (rk σ (y.toInt.toNat)) (qu σ (y.toInt.toNat)) (z.toInt.toNat)) (qp σ (y.toInt.toNat)) w).toInt64)) hx hb hJ hA hlo (by omega) dL_reads_11 (fun H2 lc2 hA2 hz2 ho2 hlo => ?_)
    refine lv_goto (tgt := 23) hx hb dL_reads_12 (by decide) ?_
    refine lv_iconst (v := nI 0) hx hb dL_reads_23 (by decide +kernel) ?_
    refine W.widen (k := 3) (n := 18) (Nat.le_of_ble_eq_true rfl) (Nat.le_of_ble_eq_true rfl) ?_
    exact m_iret (Post := fun H v H2 => WPo Γ cJ x out b0 σ σ ad (cd2 (inb y (qn σ)) (inb z 3 ∧ inb w (cU (rd (rk σ (y.toInt.toNat)) (qu σ (y.toInt.toNat)) (z.toInt.toNat)) (qp σ (y.toInt.toNat))))) (nth (rd (rk σ (y.toInt.toNat)) (qu σ (y.toInt.toNat)) (z.toInt.toNat)) (qp σ (y.toInt.toNat)) w) v0 H v H2) hx hb hr hlk hlo dL_reads_24 (WPo.ok hcd hC2 hy2 hF hb0 hob hA2 rfl hz2 ho2)
  · skip
    have hown9 : s.vm.findClass RL = some m.cls := hown
    obtain ⟨i, hi, hc⟩ := hEx
    rcases i with _ | _ | i
    · skip
      have hi : some eIO = some E := hi
      cases hi
      refine vx_catch (own := RL) (name := eIO) hown9 [] ⟨0, 12, 15, 21⟩ [⟨0, 12, 19, 13⟩] htab (fun z hz => by cases hz) rfl (by decide) (hts (.classLink RL 21 eIO) (by decide +kernel)) hE0.IO hce hcv hcl ?_
      refine lv_astore (lv' := [(5, .ref q), (0, .ref x), (1, .int y), (2, .int z), (3, .int w), (4, .ref out)]) hx hb dL_reads_15 hl (by decide) rfl (fun ls hl => ?_)
      refine lv_iconst (v := nI 1) hx hb dL_reads_17 (by decide +kernel) ?_
      refine W.widen (k := 3) (n := 18) (Nat.le_of_ble_eq_true rfl) (Nat.le_of_ble_eq_true rfl) ?_
      exact m_iret (Post := fun H v H2 => WPo Γ cJ x out b0 σ σ ad (cd2 (inb y (qn σ)) (inb z 3 ∧ inb w (cU (rd (rk σ (y.toInt.toNat)) (qu σ (y.toInt.toNat)) (z.toInt.toNat)) (qp σ (y.toInt.toNat))))) (nth (rd (rk σ (y.toInt.toNat)) (qu σ (y.toInt.toNat)) (z.toInt.toNat)) (qp σ (y.toInt.toNat)) w) v0 H v H2) hx hb hr hlk hlo dL_reads_18 (WPo.no (i := 0) hc hC hA0 hz9 ho9)
    · skip
      have hi : some eIA = some E := hi
      cases hi
      refine vx_catch (own := RL) (name := eIA) hown9 [⟨0, 12, 15, 21⟩] ⟨0, 12, 19, 13⟩ [] htab (List.forall_mem_cons.mpr ⟨Or.inr ⟨by decide, eIO, hts (.classLink RL 21 eIO) (by decide +kernel), hE0.2.2.1⟩, fun z hz => by cases hz⟩) rfl (by decide) (hts (.classLink RL 13 eIA) (by decide +kernel)) hE0.IA hce hcv hcl ?_
      refine lv_astore (lv' := [(5, .ref q), (0, .ref x), (1, .int y), (2, .int z), (3, .int w), (4, .ref out)]) hx hb dL_reads_19 hl (by decide) rfl (fun ls hl => ?_)
      refine lv_iconst (v := nI 2) hx hb dL_reads_21 (by decide +kernel) ?_
      refine W.widen (k := 3) (n := 18) (Nat.le_of_ble_eq_true rfl) (Nat.le_of_ble_eq_true rfl) ?_
      exact m_iret (Post := fun H v H2 => WPo Γ cJ x out b0 σ σ ad (cd2 (inb y (qn σ)) (inb z 3 ∧ inb w (cU (rd (rk σ (y.toInt.toNat)) (qu σ (y.toInt.toNat)) (z.toInt.toNat)) (qp σ (y.toInt.toNat))))) (nth (rd (rk σ (y.toInt.toNat)) (qu σ (y.toInt.toNat)) (z.toInt.toNat)) (qp σ (y.toInt.toNat)) w) v0 H v H2) hx hb hr hlk hlo dL_reads_22 (WPo.no (i := 1) hc hC hA0 hz9 ho9)
    · skip
      have hi : (none : Option String) = some E := hi
      cases hi
set_option maxHeartbeats 4000000 in
set_option maxRecDepth 100000 in
theorem c_L_has (l : Launch) (hfl : l.stackTraces = false) (Γ : GG) (cJ : ClassId) (bs x out b0 : Nat) (σ : St) (ad : Nat → Nat) (hI : Iv σ) (y z w : Int32) (hy : Ly b0 σ ad) (hb0 : x + 2 ≤ out) (hob : out + 1 ≤ b0) (hbs : bs ≤ x) (v0 : Int64) : Lw l yL_has wsL_has ({ frames := 8, cells := 3, slots := 18, locals := 131 }) Γ cJ bs [.ref x, .int y, .int z, .int w, .ref out] (fun H => CW Γ x σ ad H ∧ b0 ≤ H.size ∧ Aj cJ out v0 H) (fun H v H2 => WPo Γ cJ x out b0 σ σ ad (cd2 (inb y (qn σ)) (inb z 24 ∧ inb w 24)) (nI (hs σ (y.toInt.toNat) z w)) v0 H v H2) 3 18 := by
  refine Lw.of (cc := cL_has) (maxL := 6) (ret := some .int) (by decide) rfl (Nat.le_of_ble_eq_true rfl) ?_
  intro p e s m below meth c S hr hlk htab hK hT hE0 hJ hW ls hl
  obtain ⟨hx, hb, hml, hown, hts⟩ := id S
  obtain ⟨lc, elc⟩ : ∃ z : List Loc, z = [] := ⟨_, rfl⟩
  rw [← elc]
  have hlo : lo bs lc := by rw [elc]; exact lo.nil
  clear elc
  have hl : lv_has ls 6 [(0, .ref x), (1, .int y), (2, .int z), (3, .int w), (4, .ref out)] := hl
  obtain ⟨hC, hsz0, hA⟩ := hW
  have hA0 := hA
  refine lv_aload hx hb dL_has_0 (lv_at hl 4 rfl) ?_
  refine lv_iconst (v := nI 0) hx hb dL_has_2 (by decide +kernel) ?_
  refine lv_aload_n hx hb dL_has_3 rfl (lv_at hl 0 rfl) ?_
  refine lv_iload_n hx hb dL_has_4 rfl (lv_at hl 1 rfl) ?_
  refine lv_iload_n hx hb dL_has_5 rfl (lv_at hl 2 rfl) ?_
  refine lv_iload_n hx hb dL_has_6 rfl (lv_at hl 3 rfl) ?_
  refine w_V (rest := [.int (nI 0), .ref out]) S hK hT (c_X1_has l hfl Γ bs x σ ad hI y z w) (cwV 3 hts gL_has_X1_has rfl rfl rfl (by decide +kernel) ⟨Nat.le_of_ble_eq_true rfl, Nat.le_of_ble_eq_true rfl⟩) (Ob.recv hK hC.1 rfl) hC rfl hl.1 rfl (Nat.le_of_ble_eq_true rfl) dL_has_7 ⟨Nat.le_of_ble_eq_true rfl, Nat.le_of_ble_eq_true rfl⟩ hlo (fun v H1 lc1 hp hlo => ?_) (fun E ce q H1 lc1 hEx hz9 ho9 hce hcv hcl hlo => ?_)
  · skip
    obtain ⟨hcd, rfl, rfl⟩ := hp
    have hC2 := hC
    have hy2 := hy
    have hF : FrC x b0 s.heap s.heap := FrC.rf
    refine W.eq (g2 := F0 m 10 ls [.int (nI (hs σ (y.toInt.toNat) z w)), .int (nI 0), .ref out]) rfl ?_
    refine lv_i2l hx hb dL_has_10 rfl ?_
    refine x_last (x := ((nI (hs σ (y.toInt.toNat) z w)).toInt64)) hx hb hJ hA hlo (by omega) dL_has_11 (fun H2 lc2 hA2 hz2 ho2 hlo => ?_)
    refine lv_goto (tgt := 23) hx hb dL_has_12 (by decide) ?_
    refine lv_iconst (v := nI 0) hx hb dL_has_23 (by decide +kernel) ?_
    refine W.widen (k := 3) (n := 18) (Nat.le_of_ble_eq_true rfl) (Nat.le_of_ble_eq_true rfl) ?_
    exact m_iret (Post := fun H v H2 => WPo Γ cJ x out b0 σ σ ad (cd2 (inb y (qn σ)) (inb z 24 ∧ inb w 24)) (nI (hs σ (y.toInt.toNat) z w)) v0 H v H2) hx hb hr hlk hlo dL_has_24 (WPo.ok hcd hC2 hy2 hF hb0 hob hA2 rfl hz2 ho2)
  · skip
    have hown9 : s.vm.findClass RL = some m.cls := hown
    obtain ⟨i, hi, hc⟩ := hEx
    rcases i with _ | _ | i
    · skip
      have hi : some eIO = some E := hi
      cases hi
      refine vx_catch (own := RL) (name := eIO) hown9 [] ⟨0, 12, 15, 21⟩ [⟨0, 12, 19, 13⟩] htab (fun z hz => by cases hz) rfl (by decide) (hts (.classLink RL 21 eIO) (by decide +kernel)) hE0.IO hce hcv hcl ?_
      refine lv_astore (lv' := [(5, .ref q), (0, .ref x), (1, .int y), (2, .int z), (3, .int w), (4, .ref out)]) hx hb dL_has_15 hl (by decide) rfl (fun ls hl => ?_)
      refine lv_iconst (v := nI 1) hx hb dL_has_17 (by decide +kernel) ?_
      refine W.widen (k := 3) (n := 18) (Nat.le_of_ble_eq_true rfl) (Nat.le_of_ble_eq_true rfl) ?_
      exact m_iret (Post := fun H v H2 => WPo Γ cJ x out b0 σ σ ad (cd2 (inb y (qn σ)) (inb z 24 ∧ inb w 24)) (nI (hs σ (y.toInt.toNat) z w)) v0 H v H2) hx hb hr hlk hlo dL_has_18 (WPo.no (i := 0) hc hC hA0 hz9 ho9)
    · skip
      have hi : some eIA = some E := hi
      cases hi
      refine vx_catch (own := RL) (name := eIA) hown9 [⟨0, 12, 15, 21⟩] ⟨0, 12, 19, 13⟩ [] htab (List.forall_mem_cons.mpr ⟨Or.inr ⟨by decide, eIO, hts (.classLink RL 21 eIO) (by decide +kernel), hE0.2.2.1⟩, fun z hz => by cases hz⟩) rfl (by decide) (hts (.classLink RL 13 eIA) (by decide +kernel)) hE0.IA hce hcv hcl ?_
      refine lv_astore (lv' := [(5, .ref q), (0, .ref x), (1, .int y), (2, .int z), (3, .int w), (4, .ref out)]) hx hb dL_has_19 hl (by decide) rfl (fun ls hl => ?_)
      refine lv_iconst (v := nI 2) hx hb dL_has_21 (by decide +kernel) ?_
      refine W.widen (k := 3) (n := 18) (Nat.le_of_ble_eq_true rfl) (Nat.le_of_ble_eq_true rfl) ?_
      exact m_iret (Post := fun H v H2 => WPo Γ cJ x out b0 σ σ ad (cd2 (inb y (qn σ)) (inb z 24 ∧ inb w 24)) (nI (hs σ (y.toInt.toNat) z w)) v0 H v H2) hx hb hr hlk hlo dL_has_22 (WPo.no (i := 1) hc hC hA0 hz9 ho9)
    · skip
      have hi : (none : Option String) = some E := hi
      cases hi
set_option maxHeartbeats 4000000 in
set_option maxRecDepth 100000 in
theorem c_L_rhyme (l : Launch) (hfl : l.stackTraces = false) (Γ : GG) (cJ : ClassId) (bs x out b0 : Nat) (σ : St) (ad : Nat → Nat) (hI : Iv σ) (y z w : Int32) (hy : Ly b0 σ ad) (hb0 : x + 2 ≤ out) (hob : out + 1 ≤ b0) (hbs : bs ≤ x) (v0 : Int64) : Lw l yL_rhyme wsL_rhyme ({ frames := 8, cells := 3, slots := 18, locals := 144 }) Γ cJ bs [.ref x, .int y, .int z, .int w, .ref out] (fun H => CW Γ x σ ad H ∧ b0 ≤ H.size ∧ Aj cJ out v0 H) (fun H v H2 => WPo Γ cJ x out b0 σ σ ad (cd2 (inb y (qn σ) ∧ inb z (qn σ)) (inb w 3)) (nI (rhy σ (y.toInt.toNat) (qu σ (y.toInt.toNat)) (z.toInt.toNat) w.toInt.toNat)) v0 H v H2) 3 18 := by
  refine Lw.of (cc := cL_rhyme) (maxL := 6) (ret := some .int) (by decide) rfl (Nat.le_of_ble_eq_true rfl) ?_
  intro p e s m below meth c S hr hlk htab hK hT hE0 hJ hW ls hl
  obtain ⟨hx, hb, hml, hown, hts⟩ := id S
  obtain ⟨lc, elc⟩ : ∃ z : List Loc, z = [] := ⟨_, rfl⟩
  rw [← elc]
  have hlo : lo bs lc := by rw [elc]; exact lo.nil
  clear elc
  have hl : lv_has ls 6 [(0, .ref x), (1, .int y), (2, .int z), (3, .int w), (4, .ref out)] := hl
  obtain ⟨hC, hsz0, hA⟩ := hW
  have hA0 := hA
  refine lv_aload hx hb dL_rhyme_0 (lv_at hl 4 rfl) ?_
  refine lv_iconst (v := nI 0) hx hb dL_rhyme_2 (by decide +kernel) ?_
  refine lv_aload_n hx hb dL_rhyme_3 rfl (lv_at hl 0 rfl) ?_
  refine lv_iload_n hx hb dL_rhyme_4 rfl (lv_at hl 1 rfl) ?_
  refine lv_iload_n hx hb dL_rhyme_5 rfl (lv_at hl 2 rfl) ?_
  refine lv_iload_n hx hb dL_rhyme_6 rfl (lv_at hl 3 rfl) ?_
  refine w_V (rest := [.int (nI 0), .ref out]) S hK hT (c_X1_rhyme l hfl Γ bs x σ ad hI y z w) (cwV 3 hts gL_rhyme_X1_rhyme rfl rfl rfl (by decide +kernel) ⟨Nat.le_of_ble_eq_true rfl, Nat.le_of_ble_eq_true rfl⟩) (Ob.recv hK hC.1 rfl) hC rfl hl.1 rfl (Nat.le_of_ble_eq_true rfl) dL_rhyme_7 ⟨Nat.le_of_ble_eq_true rfl, Nat.le_of_ble_eq_true rfl⟩ hlo (fun v H1 lc1 hp hlo => ?_) (fun E ce q H1 lc1 hEx hz9 ho9 hce hcv hcl hlo => ?_)
  · skip
    obtain ⟨hcd, rfl, rfl⟩ := hp
    have hC2 := hC
    have hy2 := hy
    have hF : FrC x b0 s.heap s.heap := FrC.rf
    refine W.eq (g2 := F0 m 10 ls [.int (nI (rhy σ (y.toInt.toNat) (qu σ (y.toInt.toNat)) (z.toInt.toNat) w.toInt.toNat)), .int (nI 0), .ref out]) rfl ?_
    refine lv_i2l hx hb dL_rhyme_10 rfl ?_
    refine x_last (x := ((nI (rhy σ (y.toInt.toNat) (qu σ (y.toInt.toNat)) (z.toInt.toNat) w.toInt.toNat)).toInt64)) hx hb hJ hA hlo (by omega) dL_rhyme_11 (fun H2 lc2 hA2 hz2 ho2 hlo => ?_)
    refine lv_goto (tgt := 23) hx hb dL_rhyme_12 (by decide) ?_
    refine lv_iconst (v := nI 0) hx hb dL_rhyme_23 (by decide +kernel) ?_
    refine W.widen (k := 3) (n := 18) (Nat.le_of_ble_eq_true rfl) (Nat.le_of_ble_eq_true rfl) ?_
    exact m_iret (Post := fun H v H2 => WPo Γ cJ x out b0 σ σ ad (cd2 (inb y (qn σ) ∧ inb z (qn σ)) (inb w 3)) (nI (rhy σ (y.toInt.toNat) (qu σ (y.toInt.toNat)) (z.toInt.toNat) w.toInt.toNat)) v0 H v H2) hx hb hr hlk hlo dL_rhyme_24 (WPo.ok hcd hC2 hy2 hF hb0 hob hA2 rfl hz2 ho2)
  · skip
    have hown9 : s.vm.findClass RL = some m.cls := hown
    obtain ⟨i, hi, hc⟩ := hEx
    rcases i with _ | _ | i
    · skip
      have hi : some eIO = some E := hi
      cases hi
      refine vx_catch (own := RL) (name := eIO) hown9 [] ⟨0, 12, 15, 21⟩ [⟨0, 12, 19, 13⟩] htab (fun z hz => by cases hz) rfl (by decide) (hts (.classLink RL 21 eIO) (by decide +kernel)) hE0.IO hce hcv hcl ?_
      refine lv_astore (lv' := [(5, .ref q), (0, .ref x), (1, .int y), (2, .int z), (3, .int w), (4, .ref out)]) hx hb dL_rhyme_15 hl (by decide) rfl (fun ls hl => ?_)
      refine lv_iconst (v := nI 1) hx hb dL_rhyme_17 (by decide +kernel) ?_
      refine W.widen (k := 3) (n := 18) (Nat.le_of_ble_eq_true rfl) (Nat.le_of_ble_eq_true rfl) ?_
      exact m_iret (Post := fun H v H2 => WPo Γ cJ x out b0 σ σ ad (cd2 (inb y (qn σ) ∧ inb z (qn σ)) (inb w 3)) (nI (rhy σ (y.toInt.toNat) (qu σ (y.toInt.toNat)) (z.toInt.toNat) w.toInt.toNat)) v0 H v H2) hx hb hr hlk hlo dL_rhyme_18 (WPo.no (i := 0) hc hC hA0 hz9 ho9)
    · skip
      have hi : some eIA = some E := hi
      cases hi
      refine vx_catch (own := RL) (name := eIA) hown9 [⟨0, 12, 15, 21⟩] ⟨0, 12, 19, 13⟩ [] htab (List.forall_mem_cons.mpr ⟨Or.inr ⟨by decide, eIO, hts (.classLink RL 21 eIO) (by decide +kernel), hE0.2.2.1⟩, fun z hz => by cases hz⟩) rfl (by decide) (hts (.classLink RL 13 eIA) (by decide +kernel)) hE0.IA hce hcv hcl ?_
      refine lv_astore (lv' := [(5, .ref q), (0, .ref x), (1, .int y), (2, .int z), (3, .int w), (4, .ref out)]) hx hb dL_rhyme_19 hl (by decide) rfl (fun ls hl => ?_)
      refine lv_iconst (v := nI 2) hx hb dL_rhyme_21 (by decide +kernel) ?_
      refine W.widen (k := 3) (n := 18) (Nat.le_of_ble_eq_true rfl) (Nat.le_of_ble_eq_true rfl) ?_
      exact m_iret (Post := fun H v H2 => WPo Γ cJ x out b0 σ σ ad (cd2 (inb y (qn σ) ∧ inb z (qn σ)) (inb w 3)) (nI (rhy σ (y.toInt.toNat) (qu σ (y.toInt.toNat)) (z.toInt.toNat) w.toInt.toNat)) v0 H v H2) hx hb hr hlk hlo dL_rhyme_22 (WPo.no (i := 1) hc hC hA0 hz9 ho9)
    · skip
      have hi : (none : Option String) = some E := hi
      cases hi
set_option maxHeartbeats 4000000 in
set_option maxRecDepth 100000 in
theorem c_L_best (l : Launch) (hfl : l.stackTraces = false) (Γ : GG) (cJ : ClassId) (bs x out b0 : Nat) (σ : St) (ad : Nat → Nat) (hI : Iv σ) (y z w : Int32) (hy : Ly b0 σ ad) (hb0 : x + 2 ≤ out) (hob : out + 1 ≤ b0) (hbs : bs ≤ x) (v0 : Int64) : Lw l yL_best wsL_best ({ frames := 8, cells := 3, slots := 18, locals := 148 }) Γ cJ bs [.ref x, .int y, .int z, .int w, .ref out] (fun H => CW Γ x σ ad H ∧ b0 ≤ H.size ∧ Aj cJ out v0 H) (fun H v H2 => WPo Γ cJ x out b0 σ σ ad (cd2 (inb y (qn σ) ∧ inb z (qn σ)) (inb w 3)) (nI (rbest σ (y.toInt.toNat) (z.toInt.toNat) w.toInt.toNat)) v0 H v H2) 3 18 := by
  refine Lw.of (cc := cL_best) (maxL := 6) (ret := some .int) (by decide) rfl (Nat.le_of_ble_eq_true rfl) ?_
  intro p e s m below meth c S hr hlk htab hK hT hE0 hJ hW ls hl
  obtain ⟨hx, hb, hml, hown, hts⟩ := id S
  obtain ⟨lc, elc⟩ : ∃ z : List Loc, z = [] := ⟨_, rfl⟩
  rw [← elc]
  have hlo : lo bs lc := by rw [elc]; exact lo.nil
  clear elc
  have hl : lv_has ls 6 [(0, .ref x), (1, .int y), (2, .int z), (3, .int w), (4, .ref out)] := hl
  obtain ⟨hC, hsz0, hA⟩ := hW
  have hA0 := hA
  refine lv_aload hx hb dL_best_0 (lv_at hl 4 rfl) ?_
  refine lv_iconst (v := nI 0) hx hb dL_best_2 (by decide +kernel) ?_
  refine lv_aload_n hx hb dL_best_3 rfl (lv_at hl 0 rfl) ?_
  refine lv_iload_n hx hb dL_best_4 rfl (lv_at hl 1 rfl) ?_
  refine lv_iload_n hx hb dL_best_5 rfl (lv_at hl 2 rfl) ?_
  refine lv_iload_n hx hb dL_best_6 rfl (lv_at hl 3 rfl) ?_
  refine w_V (rest := [.int (nI 0), .ref out]) S hK hT (c_X1_best l hfl Γ bs x σ ad hI y z w) (cwV 3 hts gL_best_X1_best rfl rfl rfl (by decide +kernel) ⟨Nat.le_of_ble_eq_true rfl, Nat.le_of_ble_eq_true rfl⟩) (Ob.recv hK hC.1 rfl) hC rfl hl.1 rfl (Nat.le_of_ble_eq_true rfl) dL_best_7 ⟨Nat.le_of_ble_eq_true rfl, Nat.le_of_ble_eq_true rfl⟩ hlo (fun v H1 lc1 hp hlo => ?_) (fun E ce q H1 lc1 hEx hz9 ho9 hce hcv hcl hlo => ?_)
  · skip
    obtain ⟨hcd, rfl, rfl⟩ := hp
    have hC2 := hC
    have hy2 := hy
    have hF : FrC x b0 s.heap s.heap := FrC.rf
    refine W.eq (g2 := F0 m 10 ls [.int (nI (rbest σ (y.toInt.toNat) (z.toInt.toNat) w.toInt.toNat)), .int (nI 0), .ref out]) rfl ?_
    refine lv_i2l hx hb dL_best_10 rfl ?_
    refine x_last (x := ((nI (rbest σ (y.toInt.toNat) (z.toInt.toNat) w.toInt.toNat)).toInt64)) hx hb hJ hA hlo (by omega) dL_best_11 (fun H2 lc2 hA2 hz2 ho2 hlo => ?_)
    refine lv_goto (tgt := 23) hx hb dL_best_12 (by decide) ?_
    refine lv_iconst (v := nI 0) hx hb dL_best_23 (by decide +kernel) ?_
    refine W.widen (k := 3) (n := 18) (Nat.le_of_ble_eq_true rfl) (Nat.le_of_ble_eq_true rfl) ?_
    exact m_iret (Post := fun H v H2 => WPo Γ cJ x out b0 σ σ ad (cd2 (inb y (qn σ) ∧ inb z (qn σ)) (inb w 3)) (nI (rbest σ (y.toInt.toNat) (z.toInt.toNat) w.toInt.toNat)) v0 H v H2) hx hb hr hlk hlo dL_best_24 (WPo.ok hcd hC2 hy2 hF hb0 hob hA2 rfl hz2 ho2)
  · skip
    have hown9 : s.vm.findClass RL = some m.cls := hown
    obtain ⟨i, hi, hc⟩ := hEx
    rcases i with _ | _ | i
    · skip
      have hi : some eIO = some E := hi
      cases hi
      refine vx_catch (own := RL) (name := eIO) hown9 [] ⟨0, 12, 15, 21⟩ [⟨0, 12, 19, 13⟩] htab (fun z hz => by cases hz) rfl (by decide) (hts (.classLink RL 21 eIO) (by decide +kernel)) hE0.IO hce hcv hcl ?_
      refine lv_astore (lv' := [(5, .ref q), (0, .ref x), (1, .int y), (2, .int z), (3, .int w), (4, .ref out)]) hx hb dL_best_15 hl (by decide) rfl (fun ls hl => ?_)
      refine lv_iconst (v := nI 1) hx hb dL_best_17 (by decide +kernel) ?_
      refine W.widen (k := 3) (n := 18) (Nat.le_of_ble_eq_true rfl) (Nat.le_of_ble_eq_true rfl) ?_
      exact m_iret (Post := fun H v H2 => WPo Γ cJ x out b0 σ σ ad (cd2 (inb y (qn σ) ∧ inb z (qn σ)) (inb w 3)) (nI (rbest σ (y.toInt.toNat) (z.toInt.toNat) w.toInt.toNat)) v0 H v H2) hx hb hr hlk hlo dL_best_18 (WPo.no (i := 0) hc hC hA0 hz9 ho9)
    · skip
      have hi : some eIA = some E := hi
      cases hi
      refine vx_catch (own := RL) (name := eIA) hown9 [⟨0, 12, 15, 21⟩] ⟨0, 12, 19, 13⟩ [] htab (List.forall_mem_cons.mpr ⟨Or.inr ⟨by decide, eIO, hts (.classLink RL 21 eIO) (by decide +kernel), hE0.2.2.1⟩, fun z hz => by cases hz⟩) rfl (by decide) (hts (.classLink RL 13 eIA) (by decide +kernel)) hE0.IA hce hcv hcl ?_
      refine lv_astore (lv' := [(5, .ref q), (0, .ref x), (1, .int y), (2, .int z), (3, .int w), (4, .ref out)]) hx hb dL_best_19 hl (by decide) rfl (fun ls hl => ?_)
      refine lv_iconst (v := nI 2) hx hb dL_best_21 (by decide +kernel) ?_
      refine W.widen (k := 3) (n := 18) (Nat.le_of_ble_eq_true rfl) (Nat.le_of_ble_eq_true rfl) ?_
      exact m_iret (Post := fun H v H2 => WPo Γ cJ x out b0 σ σ ad (cd2 (inb y (qn σ) ∧ inb z (qn σ)) (inb w 3)) (nI (rbest σ (y.toInt.toNat) (z.toInt.toNat) w.toInt.toNat)) v0 H v H2) hx hb hr hlk hlo dL_best_22 (WPo.no (i := 1) hc hC hA0 hz9 ho9)
    · skip
      have hi : (none : Option String) = some E := hi
      cases hi
set_option maxHeartbeats 4000000 in
set_option maxRecDepth 100000 in
theorem c_L_pieces (l : Launch) (hfl : l.stackTraces = false) (Γ : GG) (cJ : ClassId) (bs x out b0 : Nat) (σ : St) (ad : Nat → Nat) (hI : Iv σ) (y z : Int32) (hy : Ly b0 σ ad) (hb0 : x + 2 ≤ out) (hob : out + 1 ≤ b0) (hbs : bs ≤ x) (v0 : Int64) : Lw l yL_pieces wsL_pieces ({ frames := 8, cells := 2, slots := 12, locals := 134 }) Γ cJ bs [.ref x, .int y, .int z, .ref out] (fun H => CW Γ x σ ad H ∧ b0 ≤ H.size ∧ Aj cJ out v0 H) (fun H v H2 => WPo Γ cJ x out b0 σ σ ad (cd2 (inb y (qn σ)) (inR z (1 : Nat) (20 : Nat))) (nI (cW (stn (rk σ (y.toInt.toNat)) (ak σ (y.toInt.toNat))) z (qp σ (y.toInt.toNat) - 1) + 1)) v0 H v H2) 2 12 := by
  refine Lw.of (cc := cL_pieces) (maxL := 5) (ret := some .int) (by decide) rfl (Nat.le_of_ble_eq_true rfl) ?_
  intro p e s m below meth c S hr hlk htab hK hT hE0 hJ hW ls hl
  obtain ⟨hx, hb, hml, hown, hts⟩ := id S
  obtain ⟨lc, elc⟩ : ∃ z : List Loc, z = [] := ⟨_, rfl⟩
  rw [← elc]
  have hlo : lo bs lc := by rw [elc]; exact lo.nil
  clear elc
  have hl : lv_has ls 5 [(0, .ref x), (1, .int y), (2, .int z), (3, .ref out)] := hl
  obtain ⟨hC, hsz0, hA⟩ := hW
  have hA0 := hA
  refine lv_aload_n hx hb dL_pieces_0 rfl (lv_at hl 3 rfl) ?_
  refine lv_iconst (v := nI 0) hx hb dL_pieces_1 (by decide +kernel) ?_
  refine lv_aload_n hx hb dL_pieces_2 rfl (lv_at hl 0 rfl) ?_
  refine lv_iload_n hx hb dL_pieces_3 rfl (lv_at hl 1 rfl) ?_
  refine lv_iload_n hx hb dL_pieces_4 rfl (lv_at hl 2 rfl) ?_
  refine w_V (rest := [.int (nI 0), .ref out]) S hK hT (c_X1_pieces l hfl Γ bs x σ ad hI y z) (cwV 2 hts gL_pieces_X1_pieces rfl rfl rfl (by decide +kernel) ⟨Nat.le_of_ble_eq_true rfl, Nat.le_of_ble_eq_true rfl⟩) (Ob.recv hK hC.1 rfl) hC rfl hl.1 rfl (Nat.le_of_ble_eq_true rfl) dL_pieces_5 ⟨Nat.le_of_ble_eq_true rfl, Nat.le_of_ble_eq_true rfl⟩ hlo (fun v H1 lc1 hp hlo => ?_) (fun E ce q H1 lc1 hEx hz9 ho9 hce hcv hcl hlo => ?_)
  · skip
    obtain ⟨hcd, rfl, rfl⟩ := hp
    have hC2 := hC
    have hy2 := hy
    have hF : FrC x b0 s.heap s.heap := FrC.rf
    refine W.eq (g2 := F0 m 8 ls [.int (nI (cW (stn (rk σ (y.toInt.toNat)) (ak σ (y.toInt.toNat))) z (qp σ (y.toInt.toNat) - 1) + 1)), .int (nI 0), .ref out]) rfl ?_
    refine lv_i2l hx hb dL_pieces_8 rfl ?_
    refine x_last (x := ((nI (cW (stn (rk σ (y.toInt.toNat)) (ak σ (y.toInt.toNat))) z (qp σ (y.toInt.toNat) - 1) + 1)).toInt64)) hx hb hJ hA hlo (by omega) dL_pieces_9 (fun H2 lc2 hA2 hz2 ho2 hlo => ?_)
    refine lv_goto (tgt := 21) hx hb dL_pieces_10 (by decide) ?_
    refine lv_iconst (v := nI 0) hx hb dL_pieces_21 (by decide +kernel) ?_
    refine W.widen (k := 2) (n := 12) (Nat.le_of_ble_eq_true rfl) (Nat.le_of_ble_eq_true rfl) ?_
    exact m_iret (Post := fun H v H2 => WPo Γ cJ x out b0 σ σ ad (cd2 (inb y (qn σ)) (inR z (1 : Nat) (20 : Nat))) (nI (cW (stn (rk σ (y.toInt.toNat)) (ak σ (y.toInt.toNat))) z (qp σ (y.toInt.toNat) - 1) + 1)) v0 H v H2) hx hb hr hlk hlo dL_pieces_22 (WPo.ok hcd hC2 hy2 hF hb0 hob hA2 rfl hz2 ho2)
  · skip
    have hown9 : s.vm.findClass RL = some m.cls := hown
    obtain ⟨i, hi, hc⟩ := hEx
    rcases i with _ | _ | i
    · skip
      have hi : some eIO = some E := hi
      cases hi
      refine vx_catch (own := RL) (name := eIO) hown9 [] ⟨0, 10, 13, 21⟩ [⟨0, 10, 17, 13⟩] htab (fun z hz => by cases hz) rfl (by decide) (hts (.classLink RL 21 eIO) (by decide +kernel)) hE0.IO hce hcv hcl ?_
      refine lv_astore (lv' := [(4, .ref q), (0, .ref x), (1, .int y), (2, .int z), (3, .ref out)]) hx hb dL_pieces_13 hl (by decide) rfl (fun ls hl => ?_)
      refine lv_iconst (v := nI 1) hx hb dL_pieces_15 (by decide +kernel) ?_
      refine W.widen (k := 2) (n := 12) (Nat.le_of_ble_eq_true rfl) (Nat.le_of_ble_eq_true rfl) ?_
      exact m_iret (Post := fun H v H2 => WPo Γ cJ x out b0 σ σ ad (cd2 (inb y (qn σ)) (inR z (1 : Nat) (20 : Nat))) (nI (cW (stn (rk σ (y.toInt.toNat)) (ak σ (y.toInt.toNat))) z (qp σ (y.toInt.toNat) - 1) + 1)) v0 H v H2) hx hb hr hlk hlo dL_pieces_16 (WPo.no (i := 0) hc hC hA0 hz9 ho9)
    · skip
      have hi : some eIA = some E := hi
      cases hi
      refine vx_catch (own := RL) (name := eIA) hown9 [⟨0, 10, 13, 21⟩] ⟨0, 10, 17, 13⟩ [] htab (List.forall_mem_cons.mpr ⟨Or.inr ⟨by decide, eIO, hts (.classLink RL 21 eIO) (by decide +kernel), hE0.2.2.1⟩, fun z hz => by cases hz⟩) rfl (by decide) (hts (.classLink RL 13 eIA) (by decide +kernel)) hE0.IA hce hcv hcl ?_
      refine lv_astore (lv' := [(4, .ref q), (0, .ref x), (1, .int y), (2, .int z), (3, .ref out)]) hx hb dL_pieces_17 hl (by decide) rfl (fun ls hl => ?_)
      refine lv_iconst (v := nI 2) hx hb dL_pieces_19 (by decide +kernel) ?_
      refine W.widen (k := 2) (n := 12) (Nat.le_of_ble_eq_true rfl) (Nat.le_of_ble_eq_true rfl) ?_
      exact m_iret (Post := fun H v H2 => WPo Γ cJ x out b0 σ σ ad (cd2 (inb y (qn σ)) (inR z (1 : Nat) (20 : Nat))) (nI (cW (stn (rk σ (y.toInt.toNat)) (ak σ (y.toInt.toNat))) z (qp σ (y.toInt.toNat) - 1) + 1)) v0 H v H2) hx hb hr hlk hlo dL_pieces_20 (WPo.no (i := 1) hc hC hA0 hz9 ho9)
    · skip
      have hi : (none : Option String) = some E := hi
      cases hi
set_option maxHeartbeats 4000000 in
set_option maxRecDepth 100000 in
theorem c_L_row (l : Launch) (hfl : l.stackTraces = false) (Γ : GG) (cJ : ClassId) (bs x out b0 : Nat) (σ : St) (ad : Nat → Nat) (hI : Iv σ) (y z : Int32) (hy : Ly b0 σ ad) (hb0 : x + 2 ≤ out) (hob : out + 1 ≤ b0) (hbs : bs ≤ x) (v0 : Int64) : Lw l yL_row wsL_row ({ frames := 8, cells := 3, slots := 18, locals := 145 }) Γ cJ bs [.ref x, .int y, .int z, .ref out] (fun H => CW Γ x σ ad H ∧ b0 ≤ H.size ∧ Aj cJ out v0 H) (fun H v H2 => WPo Γ cJ x out b0 σ σ ad (cd3 (inb y (qn σ)) (inb z 3) (qg σ (y.toInt.toNat) = 0)) (nI (rw_ σ (y.toInt.toNat) (z.toInt.toNat) (qn σ))) v0 H v H2) 3 18 := by
  refine Lw.of (cc := cL_row) (maxL := 5) (ret := some .int) (by decide) rfl (Nat.le_of_ble_eq_true rfl) ?_
  intro p e s m below meth c S hr hlk htab hK hT hE0 hJ hW ls hl
  obtain ⟨hx, hb, hml, hown, hts⟩ := id S
  obtain ⟨lc, elc⟩ : ∃ z : List Loc, z = [] := ⟨_, rfl⟩
  rw [← elc]
  have hlo : lo bs lc := by rw [elc]; exact lo.nil
  clear elc
  have hl : lv_has ls 5 [(0, .ref x), (1, .int y), (2, .int z), (3, .ref out)] := hl
  obtain ⟨hC, hsz0, hA⟩ := hW
  have hA0 := hA
  refine lv_aload_n hx hb dL_row_0 rfl (lv_at hl 3 rfl) ?_
  refine lv_iconst (v := nI 0) hx hb dL_row_1 (by decide +kernel) ?_
  refine lv_aload_n hx hb dL_row_2 rfl (lv_at hl 0 rfl) ?_
  refine lv_iload_n hx hb dL_row_3 rfl (lv_at hl 1 rfl) ?_
  refine lv_iload_n hx hb dL_row_4 rfl (lv_at hl 2 rfl) ?_
  refine w_V (rest := [.int (nI 0), .ref out]) S hK hT (c_X1_row l hfl Γ bs x σ ad hI b0 y z hy) (cwV 2 hts gL_row_X1_row rfl rfl rfl (by decide +kernel) ⟨Nat.le_of_ble_eq_true rfl, Nat.le_of_ble_eq_true rfl⟩) (Ob.recv hK hC.1 rfl) hC rfl hl.1 rfl (Nat.le_of_ble_eq_true rfl) dL_row_5 ⟨Nat.le_of_ble_eq_true rfl, Nat.le_of_ble_eq_true rfl⟩ hlo (fun v H1 lc1 hp hlo => ?_) (fun E ce q H1 lc1 hEx hz9 ho9 hce hcv hcl hlo => ?_)
  · skip
    obtain ⟨hcd, rfl, rfl⟩ := hp
    have hC2 := hC
    have hy2 := hy
    have hF : FrC x b0 s.heap s.heap := FrC.rf
    refine W.eq (g2 := F0 m 8 ls [.int (nI (rw_ σ (y.toInt.toNat) (z.toInt.toNat) (qn σ))), .int (nI 0), .ref out]) rfl ?_
    refine lv_i2l hx hb dL_row_8 rfl ?_
    refine x_last (x := ((nI (rw_ σ (y.toInt.toNat) (z.toInt.toNat) (qn σ))).toInt64)) hx hb hJ hA hlo (by omega) dL_row_9 (fun H2 lc2 hA2 hz2 ho2 hlo => ?_)
    refine lv_goto (tgt := 25) hx hb dL_row_10 (by decide) ?_
    refine lv_iconst (v := nI 0) hx hb dL_row_25 (by decide +kernel) ?_
    refine W.widen (k := 3) (n := 18) (Nat.le_of_ble_eq_true rfl) (Nat.le_of_ble_eq_true rfl) ?_
    exact m_iret (Post := fun H v H2 => WPo Γ cJ x out b0 σ σ ad (cd3 (inb y (qn σ)) (inb z 3) (qg σ (y.toInt.toNat) = 0)) (nI (rw_ σ (y.toInt.toNat) (z.toInt.toNat) (qn σ))) v0 H v H2) hx hb hr hlk hlo dL_row_26 (WPo.ok hcd hC2 hy2 hF hb0 hob hA2 rfl hz2 ho2)
  · skip
    have hown9 : s.vm.findClass RL = some m.cls := hown
    obtain ⟨i, hi, hc⟩ := hEx
    rcases i with _ | _ | _ | i
    · skip
      have hi : some eIO = some E := hi
      cases hi
      refine vx_catch (own := RL) (name := eIO) hown9 [] ⟨0, 10, 13, 21⟩ [⟨0, 10, 17, 13⟩, ⟨0, 10, 21, 15⟩] htab (fun z hz => by cases hz) rfl (by decide) (hts (.classLink RL 21 eIO) (by decide +kernel)) hE0.IO hce hcv hcl ?_
      refine lv_astore (lv' := [(4, .ref q), (0, .ref x), (1, .int y), (2, .int z), (3, .ref out)]) hx hb dL_row_13 hl (by decide) rfl (fun ls hl => ?_)
      refine lv_iconst (v := nI 1) hx hb dL_row_15 (by decide +kernel) ?_
      refine W.widen (k := 3) (n := 18) (Nat.le_of_ble_eq_true rfl) (Nat.le_of_ble_eq_true rfl) ?_
      exact m_iret (Post := fun H v H2 => WPo Γ cJ x out b0 σ σ ad (cd3 (inb y (qn σ)) (inb z 3) (qg σ (y.toInt.toNat) = 0)) (nI (rw_ σ (y.toInt.toNat) (z.toInt.toNat) (qn σ))) v0 H v H2) hx hb hr hlk hlo dL_row_16 (WPo.no (i := 0) hc hC hA0 hz9 ho9)
    · skip
      have hi : some eIA = some E := hi
      cases hi
      refine vx_catch (own := RL) (name := eIA) hown9 [⟨0, 10, 13, 21⟩] ⟨0, 10, 17, 13⟩ [⟨0, 10, 21, 15⟩] htab (List.forall_mem_cons.mpr ⟨Or.inr ⟨by decide, eIO, hts (.classLink RL 21 eIO) (by decide +kernel), hE0.2.2.1⟩, fun z hz => by cases hz⟩) rfl (by decide) (hts (.classLink RL 13 eIA) (by decide +kernel)) hE0.IA hce hcv hcl ?_
      refine lv_astore (lv' := [(4, .ref q), (0, .ref x), (1, .int y), (2, .int z), (3, .ref out)]) hx hb dL_row_17 hl (by decide) rfl (fun ls hl => ?_)
      refine lv_iconst (v := nI 2) hx hb dL_row_19 (by decide +kernel) ?_
      refine W.widen (k := 3) (n := 18) (Nat.le_of_ble_eq_true rfl) (Nat.le_of_ble_eq_true rfl) ?_
      exact m_iret (Post := fun H v H2 => WPo Γ cJ x out b0 σ σ ad (cd3 (inb y (qn σ)) (inb z 3) (qg σ (y.toInt.toNat) = 0)) (nI (rw_ σ (y.toInt.toNat) (z.toInt.toNat) (qn σ))) v0 H v H2) hx hb hr hlk hlo dL_row_20 (WPo.no (i := 1) hc hC hA0 hz9 ho9)
    · skip
      have hi : some eIS = some E := hi
      cases hi
      refine vx_catch (own := RL) (name := eIS) hown9 [⟨0, 10, 13, 21⟩, ⟨0, 10, 17, 13⟩] ⟨0, 10, 21, 15⟩ [] htab (List.forall_mem_cons.mpr ⟨Or.inr ⟨by decide, eIO, hts (.classLink RL 21 eIO) (by decide +kernel), hE0.2.2.2.2.1⟩, List.forall_mem_cons.mpr ⟨Or.inr ⟨by decide, eIA, hts (.classLink RL 13 eIA) (by decide +kernel), hE0.2.2.2.1⟩, fun z hz => by cases hz⟩⟩) rfl (by decide) (hts (.classLink RL 15 eIS) (by decide +kernel)) hE0.IS hce hcv hcl ?_
      refine lv_astore (lv' := [(4, .ref q), (0, .ref x), (1, .int y), (2, .int z), (3, .ref out)]) hx hb dL_row_21 hl (by decide) rfl (fun ls hl => ?_)
      refine lv_iconst (v := nI 3) hx hb dL_row_23 (by decide +kernel) ?_
      refine W.widen (k := 3) (n := 18) (Nat.le_of_ble_eq_true rfl) (Nat.le_of_ble_eq_true rfl) ?_
      exact m_iret (Post := fun H v H2 => WPo Γ cJ x out b0 σ σ ad (cd3 (inb y (qn σ)) (inb z 3) (qg σ (y.toInt.toNat) = 0)) (nI (rw_ σ (y.toInt.toNat) (z.toInt.toNat) (qn σ))) v0 H v H2) hx hb hr hlk hlo dL_row_24 (WPo.no (i := 2) hc hC hA0 hz9 ho9)
    · skip
      have hi : (none : Option String) = some E := hi
      cases hi
