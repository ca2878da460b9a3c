/-! the law's small methods: below, cell, bend, glue -/
def blo (v : Int32) : Nat := (v.toBitVec &&& 2147483647#32).toNat
theorem blo_lt (v : Int32) : blo v < 2 ^ 31 := by
  unfold blo
  rw [BitVec.toNat_and]
  exact Nat.lt_of_le_of_lt Nat.and_le_right (by decide)
theorem blo_eq (v : Int32) : v &&& nI 2147483647 = nI (blo v) := by
  apply Int32.toBitVec_inj.mp
  show v.toBitVec &&& 2147483647#32 = BitVec.ofNat 32 (v.toBitVec &&& 2147483647#32).toNat
  rw [BitVec.ofNat_toNat, BitVec.setWidth_eq]
def bl (v : Int32) (n : Nat) : Nat := blo v % n
theorem bl_lt (v : Int32) {n : Nat} (h : 0 < n) : bl v n < n := Nat.mod_lt _ h
set_option maxHeartbeats 4000000 in
set_option maxRecDepth 100000 in
theorem c_L_below (l : Launch) (Γ : GG) (v : Int32) (n : Nat) (h0 : 0 < n) (h1 : n < 2 ^ 31) : Ro l yL_below wsL_below ({ frames := 0, cells := 0, slots := 0, locals := 0 }) Γ [.int v, .int (nI n)] (fun _ => True) (some (.int (nI (bl v n)))) := by
  refine Ro.of (cc := cL_below) (maxL := 2) (ret := some .int) (by decide) rfl (Nat.le_of_ble_eq_true rfl) ?_
  intro p e s m below meth c S hr hlk hK hW ls hl
  obtain ⟨hx, hb, hml, hown, hts⟩ := id S
  have hl : lv_has ls 2 [(0, .int v), (1, .int (nI n))] := hl
  have h2 := blo_lt v
  refine lv_iload_n hx hb dL_below_0 rfl (lv_at hl 0 rfl) ?_
  refine lv_ldc hx hb hown (v := nI 2147483647) (hts _ (by decide +kernel)) dL_below_1 ?_
  refine lv_iand hx hb dL_below_3 ?_
  refine x_e (blo_eq v) ?_
  refine lv_iload_n hx hb dL_below_4 rfl (lv_at hl 1 rfl) ?_
  refine x_rem hx hb (by omega) h0 h1 dL_below_5 ?_
  exact ro_iret hx hb hr hlk dL_below_6
def cl (L : Nat) (xs : Nat → Int32) (k : Nat) : Int32 := if k < L then xs k else nI 790386105 * nI (k + 3)
set_option maxHeartbeats 4000000 in
set_option maxRecDepth 100000 in
theorem c_L_cell (l : Launch) (Γ : GG) (bs sb L : Nat) (xs : Nat → Int32) (k : Nat) (hk : k < 100) : Lx l yL_cell wsL_cell ({ frames := 0, cells := 0, slots := 0, locals := 0 }) Γ bs sb L xs [.ref sb, .int (nI k)] (fun _ => True) (fun H v H2 => v = some (.int (cl L xs k)) ∧ H2 = H) 0 0 := by
  refine Lx.of (cc := cL_cell) (maxL := 2) (ret := some .int) (by decide) rfl (Nat.le_of_ble_eq_true rfl) ?_
  intro p e s m below meth c S hr hlk hX hP ls hl
  obtain ⟨hx, hb, hml, hown, hts⟩ := id S
  have hl : lv_has ls 2 [(0, .ref sb), (1, .int (nI k))] := hl
  obtain ⟨-, -, -, -, -, hXX, hsb, hL⟩ := id hX
  have hsz : sb < s.heap.size := by
    obtain ⟨scr, h1, -⟩ := hXX
    exact (Array.getElem?_eq_some_iff.mp h1).1
  refine lv_iload_n hx hb dL_cell_0 rfl (lv_at hl 1 rfl) ?_
  refine lv_aload_n hx hb dL_cell_1 rfl (lv_at hl 0 rfl) ?_
  refine va_slen hx hb hXX hsz (A := fun q => bs ≤ q) (fun q => by have q2 : bs ≤ sb := q; omega) hS0 dL_cell_2 ?_
  refine x_icge (a := k) (b := L) hx hb (by omega) (by omega) (tgt := 12) dL_cell_3 (by decide) (fun c_1 => ?_) (fun c_1 => ?_)
  · refine lv_ldc hx hb hown (v := nI 790386105) (hts _ (by decide +kernel)) dL_cell_12 ?_
    refine lv_iload_n hx hb dL_cell_14 rfl (lv_at hl 1 rfl) ?_
    refine lv_iconst (v := nI 3) hx hb dL_cell_15 (by decide +kernel) ?_
    refine x_add hx hb dL_cell_16 ?_
    refine lv_imul hx hb dL_cell_17 ?_
    refine x_e (show nI 790386105 * nI (k + 3) = cl L xs k from (if_neg (by omega)).symm) ?_
    exact m_iret (Post := fun H v H2 => v = some (.int (cl L xs k)) ∧ H2 = H) hx hb hr hlk lo.nil dL_cell_18 ⟨rfl, rfl⟩
  · refine lv_aload_n hx hb dL_cell_6 rfl (lv_at hl 0 rfl) ?_
    refine lv_iload_n hx hb dL_cell_7 rfl (lv_at hl 1 rfl) ?_
    have hc : (nI k).toNatClampNeg = k := nI_clamp (by omega)
    refine va_sld hx hb hXX hsz (A := fun q => bs ≤ q) (fun q => by have q2 : bs ≤ sb := q; omega) hS0 (by intro q; rcases q with q | q; exact nI_pos (by omega) q; rw [hc] at q; omega) dL_cell_8 ?_
    rw [hc]
    refine x_e (show xs k = cl L xs k from (if_pos c_1).symm) ?_
    refine lv_goto (tgt := 18) hx hb dL_cell_9 (by decide) ?_
    exact m_iret (Post := fun H v H2 => v = some (.int (cl L xs k)) ∧ H2 = H) hx hb hr hlk lo.nil dL_cell_18 ⟨rfl, rfl⟩
/-- how the law's bend ends -/
def BPo (Γ : GG) (x b0 : Nat) (σ : St) (ad : Nat → Nat) (k f : Nat) (H : Heap) (v : Option Value) (H2 : Heap) : Prop :=
  (bJ σ k (nI f) = none ∨ (thr σ (qn σ) < 12 ∧ qn σ ≤ 38)) ∧ v = some (.int (bdV σ k (nI f))) ∧ (∃ ad2, CW Γ x (bdS σ k (nI f)) ad2 H2 ∧ Ly b0 (bdS σ k (nI f)) ad2) ∧ FrC x σ ad H H2 ∨
  ¬ (bJ σ k (nI f) = none ∨ (thr σ (qn σ) < 12 ∧ qn σ ≤ 38)) ∧ v = some (.int (-2)) ∧ H.size ≤ H2.size ∧ ∀ q : Nat, q < H.size → H2[q]? = H[q]?
set_option maxHeartbeats 4000000 in
set_option maxRecDepth 100000 in
theorem c_L_bend (l : Launch) (hfl : l.stackTraces = false) (Γ : GG) (bs sb L : Nat) (xs : Nat → Int32) (x : Nat) (σ : St) (ad : Nat → Nat) (hI : Iv σ) (b0 k f : Nat) (hk : k < qn σ) (hg : qg σ k = 0) (hf1 : 1 ≤ f) (hf2 : f ≤ 20) (hy : Ly b0 σ ad) (hb0 : x + 2 ≤ b0) (hbs : bs ≤ x) : Lx l yL_bend wsL_bend ({ frames := 8, cells := 12, slots := 156, locals := 134 }) Γ bs sb L xs [.ref x, .int (nI k), .int (nI f)] (fun H => CW Γ x σ ad H ∧ b0 ≤ H.size) (BPo Γ x b0 σ ad k f) 12 156 := by
  refine Lx.ofW (cc := cL_bend) (maxL := 4) (ret := some .int) (by decide) rfl (Nat.le_of_ble_eq_true rfl) ?_
  intro p e s m below meth c S hr hlk htab hX hW ls hl
  obtain ⟨hx, hb, hml, hown, hts⟩ := id S
  have h40 := hI.1
  have hC := hW.1
  have hl : lv_has ls 4 [(0, .ref x), (1, .int (nI k)), (2, .int (nI f))] := hl
  refine lv_aload_n hx hb dL_bend_0 rfl (lv_at hl 0 rfl) ?_
  refine lv_iload_n hx hb dL_bend_1 rfl (lv_at hl 1 rfl) ?_
  refine lv_iload_n hx hb dL_bend_2 rfl (lv_at hl 2 rfl) ?_
  refine q_X (rest := []) S hX (c_X1_bend l hfl Γ bs x σ ad hI b0 (nI k) (nI f) hy hb0 hbs) (cwV 2 hts gL_bend_X1_bend rfl rfl rfl (by decide +kernel) ⟨Nat.le_of_ble_eq_true rfl, Nat.le_of_ble_eq_true rfl⟩) (Ob.recv hX.1 hC.1 rfl) hW rfl hl.1 rfl (Nat.le_of_ble_eq_true rfl) dL_bend_3 ⟨Nat.le_of_ble_eq_true rfl, Nat.le_of_ble_eq_true rfl⟩ lo.nil (fun v H1 lc1 hp hlo => ?_) (fun E ce q H1 lc1 hEx hz9 ho9 hce hcv hcl hlo => ?_)
  · obtain ⟨hcd, rfl, h2, h3⟩ := hp
    rw [toN (by omega)] at hcd h2 ⊢
    have hc3 : bJ σ k (nI f) = none ∨ (thr σ (qn σ) < 12 ∧ qn σ ≤ 38) := by
      by_cases z : bJ σ k (nI f) = none ∨ (thr σ (qn σ) < 12 ∧ qn σ ≤ 38)
      · exact z
      · rw [cd3_3 ((inb_nI (by omega)).mpr hk) (inR_nI (by omega) hf1 hf2) (fun z9 => z z9.2)] at hcd
        omega
    refine W.eq (g2 := F0 m 6 ls [.int (bdV σ k (nI f))]) rfl ?_
    refine W.widen (k := 12) (n := 156) (Nat.le_of_ble_eq_true rfl) (Nat.le_of_ble_eq_true rfl) ?_
    exact m_iret (Post := BPo Γ x b0 σ ad k f) hx hb hr hlk hlo dL_bend_6 (Or.inl ⟨hc3, rfl, h2, h3⟩)
  · have hown9 : s.vm.findClass RL = some m.cls := hown
    obtain ⟨i, hi, hc⟩ := hEx
    rw [toN (by omega)] at hc
    have hc3 : ¬ (bJ σ k (nI f) = none ∨ (thr σ (qn σ) < 12 ∧ qn σ ≤ 38)) := fun z => by
      rw [cd3_0 ((inb_nI (by omega)).mpr hk) (inR_nI (by omega) hf1 hf2) ⟨hg, z⟩] at hc
      omega
    rw [cd3_3 ((inb_nI (by omega)).mpr hk) (inR_nI (by omega) hf1 hf2) (fun z9 => hc3 z9.2)] at hc
    have hi2 : i = 2 := by omega
    subst hi2
    have hi : some eIS = some E := hi
    cases hi
    refine vx_catch (own := RL) (name := eIS) hown9 [] ⟨0, 6, 7, 49⟩ [] htab (fun z hz => by cases hz) rfl (by decide) (hts (.classLink RL 49 eIS) (by decide +kernel)) hX.2.2.1.IS hce hcv hcl ?_
    refine lv_astore_n (lv' := [(3, .ref q), (0, .ref x), (1, .int (nI k)), (2, .int (nI f))]) hx hb dL_bend_7 rfl hl (by decide) rfl (fun ls hl => ?_)
    refine lv_bipush (v := -2) hx hb dL_bend_8 (by decide +kernel) ?_
    refine W.widen (k := 12) (n := 156) (Nat.le_of_ble_eq_true rfl) (Nat.le_of_ble_eq_true rfl) ?_
    exact m_iret (Post := BPo Γ x b0 σ ad k f) hx hb hr hlk hlo dL_bend_10 (Or.inr ⟨hc3, rfl, hz9, ho9⟩)
/-- when a gluing can be -/
def gC (σ : St) (k j : Nat) : Prop := qg σ j = 0 ∧ ¬ k = j ∧ qp σ k + qp σ j ≤ 12 ∧ qn σ < 40
def GPo (Γ : GG) (x b0 : Nat) (σ : St) (ad : Nat → Nat) (k j tw base : Nat) (H : Heap) (v : Option Value) (H2 : Heap) : Prop :=
  gC σ k j ∧ v = some (.int (nI (qn σ))) ∧ (∃ ad2, CW Γ x (sGlue σ k j tw base) ad2 H2 ∧ Ly b0 (sGlue σ k j tw base) ad2) ∧ FrC x σ ad H H2 ∨
  ¬ gC σ k j ∧ v = some (.int (-1)) ∧ H.size ≤ H2.size ∧ ∀ q : Nat, q < H.size → H2[q]? = H[q]?
set_option maxHeartbeats 4000000 in
set_option maxRecDepth 100000 in
theorem c_L_glue (l : Launch) (hfl : l.stackTraces = false) (Γ : GG) (bs sb L : Nat) (xs : Nat → Int32) (x : Nat) (σ : St) (ad : Nat → Nat) (hI : Iv σ) (b0 k j tw base : Nat) (hk : k < qn σ) (hj : j < qn σ) (hg : qg σ k = 0) (htw : tw < 3) (hf1 : 1 ≤ base) (hf2 : base ≤ 9) (hy : Ly b0 σ ad) (hb0 : x + 2 ≤ b0) (hbs : bs ≤ x) : Lx l yL_glue wsL_glue ({ frames := 8, cells := 9, slots := 96, locals := 130 }) Γ bs sb L xs [.ref x, .int (nI k), .int (nI j), .int (nI tw), .int (nI base)] (fun H => CW Γ x σ ad H ∧ b0 ≤ H.size) (GPo Γ x b0 σ ad k j tw base) 9 96 := by
  refine Lx.ofW (cc := cL_glue) (maxL := 6) (ret := some .int) (by decide) rfl (Nat.le_of_ble_eq_true rfl) ?_
  intro p e s m below meth c S hr hlk htab hX hW ls hl
  obtain ⟨hx, hb, hml, hown, hts⟩ := id S
  have h40 := hI.1
  have hC := hW.1
  have hl : lv_has ls 6 [(0, .ref x), (1, .int (nI k)), (2, .int (nI j)), (3, .int (nI tw)), (4, .int (nI base))] := hl
  refine lv_aload_n hx hb dL_glue_0 rfl (lv_at hl 0 rfl) ?_
  refine lv_iload_n hx hb dL_glue_1 rfl (lv_at hl 1 rfl) ?_
  refine lv_iload_n hx hb dL_glue_2 rfl (lv_at hl 2 rfl) ?_
  refine lv_iload_n hx hb dL_glue_3 rfl (lv_at hl 3 rfl) ?_
  refine lv_iload hx hb dL_glue_4 (lv_at hl 4 rfl) ?_
  have hA : inb (nI k) (qn σ) ∧ inb (nI j) (qn σ) := ⟨(inb_nI (by omega)).mpr hk, (inb_nI (by omega)).mpr hj⟩
  have hB : inb (nI tw) 3 ∧ inR (nI base) (1 : Nat) (9 : Nat) := ⟨(inb_nI (by omega)).mpr htw, inR_nI (by omega) hf1 hf2⟩
  have hCe : (qg σ ((nI k).toInt.toNat) = 0 ∧ qg σ ((nI j).toInt.toNat) = 0 ∧ ¬ (nI k).toInt.toNat = (nI j).toInt.toNat ∧ qp σ ((nI k).toInt.toNat) + qp σ ((nI j).toInt.toNat) ≤ 12 ∧ qn σ < 40) ↔ gC σ k j := by
    have e1 : (nI k).toInt.toNat = k := toN (by omega)
    have e2 : (nI j).toInt.toNat = j := toN (by omega)
    rw [e1, e2]
    exact ⟨fun z => z.2, fun z => ⟨hg, z⟩⟩
  refine q_X (rest := []) S hX (c_X1_glue l hfl Γ bs x σ ad hI b0 (nI k) (nI j) (nI tw) (nI base) hy hb0 hbs) (cwV 4 hts gL_glue_X1_glue rfl rfl rfl (by decide +kernel) ⟨Nat.le_of_ble_eq_true rfl, Nat.le_of_ble_eq_true rfl⟩) (Ob.recv hX.1 hC.1 rfl) hW rfl hl.1 rfl (Nat.le_of_ble_eq_true rfl) dL_glue_6 ⟨Nat.le_of_ble_eq_true rfl, Nat.le_of_ble_eq_true rfl⟩ lo.nil (fun v H1 lc1 hp hlo => ?_) (fun E ce q H1 lc1 hEx hz9 ho9 hce hcv hcl hlo => ?_)
  · obtain ⟨hcd, rfl, h2, h3⟩ := hp
    have hc3 : gC σ k j := by
      by_cases z : gC σ k j
      · exact z
      · rw [cd3_3 hA hB (fun z9 => z (hCe.mp z9))] at hcd
        omega
    have e1 : (nI k).toInt.toNat = k := toN (by omega)
    have e2 : (nI j).toInt.toNat = j := toN (by omega)
    have e3 : (nI tw).toInt.toNat = tw := toN (by omega)
    have e4 : (nI base).toInt.toNat = base := toN (by omega)
    rw [e1, e2, e3, e4] at h2
    refine W.eq (g2 := F0 m 9 ls [.int (nI (qn σ))]) rfl ?_
    refine W.widen (k := 9) (n := 96) (Nat.le_of_ble_eq_true rfl) (Nat.le_of_ble_eq_true rfl) ?_
    exact m_iret (Post := GPo Γ x b0 σ ad k j tw base) hx hb hr hlk hlo dL_glue_9 (Or.inl ⟨hc3, rfl, h2, h3⟩)
  · have hown9 : s.vm.findClass RL = some m.cls := hown
    obtain ⟨i, hi, hc⟩ := hEx
    have hc3 : ¬ gC σ k j := fun z => by
      rw [cd3_0 hA hB (hCe.mpr z)] at hc
      omega
    rw [cd3_3 hA hB (fun z9 => hc3 (hCe.mp z9))] at hc
    have hi2 : i = 2 := by omega
    subst hi2
    have hi : some eIS = some E := hi
    cases hi
    refine vx_catch (own := RL) (name := eIS) hown9 [] ⟨0, 9, 10, 49⟩ [] htab (fun z hz => by cases hz) rfl (by decide) (hts (.classLink RL 49 eIS) (by decide +kernel)) hX.2.2.1.IS hce hcv hcl ?_
    refine lv_astore (lv' := [(5, .ref q), (0, .ref x), (1, .int (nI k)), (2, .int (nI j)), (3, .int (nI tw)), (4, .int (nI base))]) hx hb dL_glue_10 hl (by decide) rfl (fun ls hl => ?_)
    refine lv_iconst (v := -1) hx hb dL_glue_12 (by decide +kernel) ?_
    refine W.widen (k := 9) (n := 96) (Nat.le_of_ble_eq_true rfl) (Nat.le_of_ble_eq_true rfl) ?_
    exact m_iret (Post := GPo Γ x b0 σ ad k j tw base) hx hb hr hlk hlo dL_glue_13 (Or.inr ⟨hc3, rfl, hz9, ho9⟩)
