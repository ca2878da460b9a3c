/-- is there a followed by b among the first n + 1 of a row -/
def hA (A : Nat → Int32) (a b : Int32) : Nat → Bool
  | 0 => false
  | n + 1 => hA A a b n || (decide (A n = a) && decide (A (n + 1) = b))
theorem hA_c {A B : Nat → Int32} {a b : Int32} : ∀ {n : Nat}, (∀ k, k ≤ n → A k = B k) → hA A a b n = hA B a b n
  | 0, _ => rfl
  | n + 1, h => by
    show (hA A a b n || (decide (A n = a) && decide (A (n + 1) = b))) = (hA B a b n || (decide (B n = a) && decide (B (n + 1) = b)))
    rw [h n (Nat.le_succ n), h (n + 1) (Nat.le_refl _), hA_c fun k hk => h k (Nat.le_succ_of_le hk)]
theorem pr_last {f g : Nat → Int32} {a b : Int32} (ha : ¬ a = -1) : ∀ n, pr f a b n = hA (rdA f g n) a b (cU f n - 1) ∧ lastv f n = if cU f n = 0 then -1 else rdA f g n (cU f n - 1)
  | 0 => ⟨rfl, rfl⟩
  | n + 1 => by
    obtain ⟨h1, h2⟩ := pr_last (f := f) (g := g) (b := b) ha n
    by_cases q : f n = -1
    · refine ⟨?_, ?_⟩
      · rw [pr_s, h1, cU_n q, rdA_n q, decide_eq_false (fun z => z q), Bool.false_and, Bool.or_false]
      · rw [lastv_n q, h2, cU_n q, rdA_n q]
    · rw [pr_s, h1, h2, cU_y q, rdA_y q, decide_eq_true q, Bool.true_and, Nat.add_sub_cancel, if_neg (Nat.succ_ne_zero _), upd_s]
      refine ⟨?_, lastv_y q⟩
      rcases Nat.eq_zero_or_pos (cU f n) with z | z
      · rw [if_pos z, z]
        show (false || _) = false
        rw [decide_eq_false (fun e => ha e.symm)]
        rfl
      · obtain ⟨c, hc⟩ : ∃ c, cU f n = c + 1 := ⟨cU f n - 1, by omega⟩
        rw [hc, if_neg (Nat.succ_ne_zero _), Nat.add_sub_cancel]
        show _ = (hA (upd (rdA f g n) (c + 1) (f n)) a b c || (decide (upd (rdA f g n) (c + 1) (f n) c = a) && decide (upd (rdA f g n) (c + 1) (f n) (c + 1) = b)))
        rw [upd_s, upd_n (by omega), hA_c (A := upd (rdA f g n) (c + 1) (f n)) (B := rdA f g n) (fun k hk => upd_n (by omega))]
theorem pr_hA {f g : Nat → Int32} {a b : Int32} (ha : ¬ a = -1) (n : Nat) : pr f a b n = hA (rdA f g n) a b (cU f n - 1) := (pr_last ha n).1
theorem hA_y {A : Nat → Int32} {a b : Int32} {n : Nat} (h : hA A a b n = true ∨ A n = a ∧ A (n + 1) = b) : hA A a b (n + 1) = (hA A a b n || true) := by
  show (hA A a b n || (decide (A n = a) && decide (A (n + 1) = b))) = _
  rcases h with h | ⟨h1, h2⟩
  · rw [h, Bool.true_or, Bool.true_or]
  · rw [decide_eq_true h1, decide_eq_true h2, Bool.true_and]
theorem hA_n {A : Nat → Int32} {a b : Int32} {n : Nat} (h : ¬ (A n = a ∧ A (n + 1) = b)) : hA A a b (n + 1) = (hA A a b n || false) := by
  show (hA A a b n || (decide (A n = a) && decide (A (n + 1) = b))) = _
  by_cases h1 : A n = a
  · rw [decide_eq_false (fun h2 => h ⟨h1, h2⟩), Bool.and_false]
  · rw [decide_eq_false h1, Bool.false_and]
theorem ior01 {p x q : Bool} (h : q = (p || x)) : nI (b01 p) ||| nI (b01 x) = nI (b01 q) := by
  subst h
  cases p <;> cases x <;> decide +kernel
theorem in_X2_has_X2 : ∀ w ∈ wsX20, w ∈ wsX2_has := by decide +kernel
set_option maxHeartbeats 4000000 in
set_option maxRecDepth 100000 in
theorem c_X2_has (l : Launch) (Γ : GG) (bs : Nat) (mo : Nat) (th : Int32) (σ : St) (hI : Iv σ) (hbm : bs ≤ mo) (y z w : Int32)  : Mt l yX2_has wsX2_has ({ frames := 2, cells := 0, slots := 0, locals := 49 }) Γ bs [.ref mo, .int y, .int z, .int w] (MX Γ mo th σ) (fun H v H2 => PM Γ mo (cd2 (inb y (qn σ)) (inb z 24 ∧ inb w 24)) σ (σ) (nI (hs σ (y.toInt.toNat) z w)) H v H2) 0 0 := by
  refine Mt.of (cc := cX2_has) (maxL := 9) (ret := (some .int)) (by decide) rfl (Nat.le_of_ble_eq_true rfl) ?_
  intro p e s m below meth c S hr hlk hin hK hW ls hl
  obtain ⟨hx, hb, hml, hown, hts⟩ := id S
  obtain ⟨lc, elc⟩ : ∃ z : List Loc, z = [] := ⟨_, rfl⟩
  rw [← elc]
  have hlo : lo bs lc := by rw [elc]; exact lo.nil
  clear elc
  have hl : lv_has ls 9 [(0, .ref mo), (1, .int y), (2, .int z), (3, .int w)] := hl
  have hn40 := hI.1
  have hFr : Fr mo (mo + 11) s.heap s.heap := Fr.rf
  obtain ⟨g1, g2, hW⟩ := hW
  refine lv_aload_n hx hb dX2_has_0 rfl (lv_at hl 0 rfl) ?_
  refine lv_iconst (v := nI 0) hx hb dX2_has_1 (by decide +kernel) ?_
  refine x_putX S in_X2_has_X2 tyX2 tyX2_ok nmX2 hK hW.1 rfl 0 (by decide) (by decide +kernel) rfl (Or.inl rfl) (tyX2_ok 0 (by decide)) rfl rfl (Nat.le_of_ble_eq_true rfl) hlo (by omega) dX2_has_2 (fun H1 lc1 hO1 hz1 ho1 hlo => ?_)
  have hO1 : Ob Γ 2 mo [.int (nI 0), .int (nI (qn σ)), .int (qb σ), .ref (mo + 1), .ref (mo + 2), .ref (mo + 3), .ref (mo + 4), .ref (mo + 5), .ref (mo + 6), .ref (mo + 7), .ref (mo + 8), .ref (mo + 9), .ref (mo + 10)] H1 := hO1
  have hFr := hFr.put hz1 ho1 (by omega) (by omega)
  have hW := MW.put (σ' := σ) hW hO1 ho1 rfl
  have hW : MW Γ mo (nI 0) σ g1 g2 H1 := hW
  refine lv_aload_n hx hb dX2_has_5 rfl (lv_at hl 0 rfl) ?_
  refine lv_iload_n hx hb dX2_has_6 rfl (lv_at hl 1 rfl) ?_
  refine ro_V (rest := []) S hK (c_X2_isStick l Γ mo (nI 0) σ g1 g2 hI y) (cwV 1 hts gX2_has_X2_isStick rfl rfl rfl (by decide +kernel) ⟨Nat.le_of_ble_eq_true rfl, Nat.le_of_ble_eq_true rfl⟩) (Ob.recv hK hW.1 rfl) hW rfl hl.1 rfl (Nat.le_of_ble_eq_true rfl) dX2_has_7 ⟨Nat.le_of_ble_eq_true rfl, Nat.le_of_ble_eq_true rfl⟩ ?_
  refine W.eq (g2 := F0 m 10 ls [.int (nI (bP (inb y (qn σ))))]) rfl ?_
  have hbb7 := bP_le (inb y (qn σ))
  refine x_ifne hx hb (by omega) (tgt := 19) dX2_has_10 (by decide) (fun c_1 => ?_) (fun c_1 => ?_)
  · skip
    obtain ⟨k, hk, rfl⟩ := inb_ex (bP_1 c_1)
    obtain ⟨hp0k, hp12k, hu3k, hg1k⟩ := hI.2.1 k hk
    refine lv_iload_n hx hb dX2_has_19 rfl (lv_at hl 2 rfl) ?_
    refine ro_S (rest := []) S hK (c_X2_isRune l Γ z) (cwS 1 hts gX2_has_X2_isRune rfl rfl rfl (by decide +kernel) ⟨Nat.le_of_ble_eq_true rfl, Nat.le_of_ble_eq_true rfl⟩) trivial rfl hl.1 rfl (Nat.le_of_ble_eq_true rfl) dX2_has_20 ⟨Nat.le_of_ble_eq_true rfl, Nat.le_of_ble_eq_true rfl⟩ ?_
    refine W.eq (g2 := F0 m 23 ls [.int (nI (bP (inb z 24)))]) rfl ?_
    have hbb20 := bP_le (inb z 24)
    refine x_ifeq hx hb (by omega) (tgt := 33) dX2_has_23 (by decide) (fun c_2 => ?_) (fun c_2 => ?_)
    · skip
      refine lv_aload_n hx hb dX2_has_33 rfl (lv_at hl 0 rfl) ?_
      refine lv_iconst (v := nI 2) hx hb dX2_has_34 (by decide +kernel) ?_
      refine m_V (rest := []) S hK (c_X2_no l Γ bs mo (nI 0) σ g1 g2 hI hbm 2) (cwV 1 hts gX2_has_X2_no rfl rfl rfl (by decide +kernel) ⟨Nat.le_of_ble_eq_true rfl, Nat.le_of_ble_eq_true rfl⟩) (Ob.recv hK hW.1 rfl) hW rfl hl.1 rfl (Nat.le_of_ble_eq_true rfl) dX2_has_35 ⟨Nat.le_of_ble_eq_true rfl, Nat.le_of_ble_eq_true rfl⟩ hlo (fun v H1 lc1 hp hlo => ?_)
      obtain ⟨rfl, hW, hFq, hzq⟩ := hp
      refine W.eq (g2 := F0 m 38 ls [.int (nI 0)]) rfl ?_
      have hFr := hFr.trans hFq
      refine W.widen (k := 0) (n := 0) (Nat.le_of_ble_eq_true rfl) (Nat.le_of_ble_eq_true rfl) ?_
      exact m_iret (Post := fun H v H2 => PM Γ mo (cd2 (inb (nI k) (qn σ)) (inb z 24 ∧ inb w 24)) σ (σ) (nI (hs σ ((nI k).toInt.toNat) z w)) H v H2) hx hb hr hlk hlo dX2_has_38 (PM.no (i := 1) (cd2_2 ((inb_nI (by omega)).mpr hk) (fun q => bP_0 c_2 q.1)) rfl ⟨_, _, hW⟩ hFr)
    · skip
      have hqj := bP_1 c_2
      refine lv_iload_n hx hb dX2_has_26 rfl (lv_at hl 3 rfl) ?_
      refine ro_S (rest := []) S hK (c_X2_isRune l Γ w) (cwS 1 hts gX2_has_X2_isRune rfl rfl rfl (by decide +kernel) ⟨Nat.le_of_ble_eq_true rfl, Nat.le_of_ble_eq_true rfl⟩) trivial rfl hl.1 rfl (Nat.le_of_ble_eq_true rfl) dX2_has_27 ⟨Nat.le_of_ble_eq_true rfl, Nat.le_of_ble_eq_true rfl⟩ ?_
      refine W.eq (g2 := F0 m 30 ls [.int (nI (bP (inb w 24)))]) rfl ?_
      have hbb27 := bP_le (inb w 24)
      refine x_ifne hx hb (by omega) (tgt := 39) dX2_has_30 (by decide) (fun c_3 => ?_) (fun c_3 => ?_)
      · skip
        have hqi2 := bP_1 c_3
        have hz1 : ¬ z = -1 := fun q => by rw [q] at hqj; exact absurd hqj.1 (by decide +kernel)
        refine lv_iconst (v := nI 0) hx hb dX2_has_39 (by decide +kernel) ?_
        refine lv_istore (lv' := [(4, .int (nI 0)), (0, .ref mo), (1, .int (nI k)), (2, .int z), (3, .int w)]) hx hb dX2_has_40 hl (by decide) rfl (fun ls hl => ?_)
        refine lv_iconst (v := nI 0) hx hb dX2_has_42 (by decide +kernel) ?_
        refine lv_istore (lv' := [(5, .int (nI 0)), (4, .int (nI 0)), (0, .ref mo), (1, .int (nI k)), (2, .int z), (3, .int w)]) hx hb dX2_has_43 hl (by decide) rfl (fun ls hl => ?_)
        refine x_loopH (σ := Nat) (fun u => [(0, .ref mo), (1, .int (nI k)), (2, .int z), (3, .int w), (4, .int (nI (sN (hsF σ k z w) u))), (5, .int (nI u))]) (fun u H locs => u ≤ 9 ∧ (∃ g1 g2, MW Γ mo (nI 0) σ g1 g2 H) ∧ Fr mo (mo + 11) s.heap H ∧ lo bs locs) (fun u => 9 - u) (fun u H locs hu ih ls hl => ?_) 0 ⟨Nat.zero_le _, ⟨_, _, hW⟩, hFr, hlo⟩ ls (x_hl (lv_sub (l' := [(0, .ref mo), (1, .int (nI k)), (2, .int z), (3, .int w), (4, .int (nI 0)), (5, .int (nI 0))]) hl [2, 3, 4, 5, 1, 0] rfl) rfl)
        obtain ⟨i, rfl⟩ : ∃ z, z = u := ⟨_, rfl⟩
        have hl : lv_has ls 9 [(0, .ref mo), (1, .int (nI k)), (2, .int z), (3, .int w), (4, .int (nI (sN (hsF σ k z w) i))), (5, .int (nI i))] := hl
        obtain ⟨hi9, ⟨g1, g2, hW⟩, hFr, hlo⟩ := hu
        refine lv_iload hx hb dX2_has_45 (lv_at hl 5 rfl) ?_
        refine lv_bipush (v := nI 9) hx hb dX2_has_47 (by decide +kernel) ?_
        refine x_icge hx hb (by omega) (by omega) (tgt := 145) dX2_has_49 (by decide) (fun c_4 => ?_) (fun c_4 => ?_)
        · skip
          refine lv_iload hx hb dX2_has_145 (lv_at hl 4 rfl) ?_
          refine W.widen (k := 0) (n := 0) (Nat.le_of_ble_eq_true rfl) (Nat.le_of_ble_eq_true rfl) ?_
          exact m_iret (Post := fun H v H2 => PM Γ mo (cd2 (inb (nI k) (qn σ)) (inb z 24 ∧ inb w 24)) σ (σ) (nI (hs σ ((nI k).toInt.toNat) z w)) H v H2) hx hb hr hlk hlo dX2_has_147 (PM.ok (cd2_0 ((inb_nI (by omega)).mpr hk) ⟨hqj, hqi2⟩) (by rw [toN (by omega), show i = 9 by omega]; rfl) ⟨_, _, hW⟩ hFr)
        · skip
          refine lv_aload_n hx hb dX2_has_52 rfl (lv_at hl 0 rfl) ?_
          refine lv_iload_n hx hb dX2_has_53 rfl (lv_at hl 1 rfl) ?_
          refine lv_iload hx hb dX2_has_54 (lv_at hl 5 rfl) ?_
          refine lv_iconst (v := nI 3) hx hb dX2_has_56 (by decide +kernel) ?_
          refine x_div hx hb (by omega) (by omega) (by omega) dX2_has_57 ?_
          refine lv_iload hx hb dX2_has_58 (lv_at hl 5 rfl) ?_
          refine lv_iconst (v := nI 3) hx hb dX2_has_60 (by decide +kernel) ?_
          refine x_rem hx hb (by omega) (by omega) (by omega) dX2_has_61 ?_
          refine lv_aload_n hx hb dX2_has_62 rfl (lv_at hl 0 rfl) ?_
          refine x_get S in_X2_has_X2 hK hW.1 rfl 11 (by decide) (by decide +kernel) rfl rfl dX2_has_63 ?_
          refine m_V (rest := []) S hK (c_X2_read1 l Γ bs mo (nI 0) σ g1 g2 hI hbm k (i / 3) (i % 3) (by omega) (by first | omega | exact (hI.2.1 _ (by omega)).2.2.1) (by omega)) (cwV 4 hts gX2_has_X2_read rfl rfl rfl (by decide +kernel) ⟨Nat.le_of_ble_eq_true rfl, Nat.le_of_ble_eq_true rfl⟩) (Ob.recv hK hW.1 rfl) hW rfl hl.1 rfl (Nat.le_of_ble_eq_true rfl) dX2_has_66 ⟨Nat.le_of_ble_eq_true rfl, Nat.le_of_ble_eq_true rfl⟩ hlo (fun v H1 lc1 hp hlo => ?_)
          obtain ⟨rfl, hW, hFq, hzq⟩ := hp
          refine W.eq (g2 := F0 m 69 ls [.int (nI (cU (rd (rk σ k) (i / 3) (i % 3)) (qp σ k)))]) rfl ?_
          have hFr := hFr.trans hFq
          have hcu1 := cU_le (rd (rk σ k) (i / 3) (i % 3)) (qp σ k)
          refine lv_istore (lv' := [(6, .int (nI (cU (rd (rk σ k) (i / 3) (i % 3)) (qp σ k)))), (0, .ref mo), (1, .int (nI k)), (2, .int z), (3, .int w), (4, .int (nI (sN (hsF σ k z w) i))), (5, .int (nI i))]) hx hb dX2_has_69 hl (by decide) rfl (fun ls hl => ?_)
          refine lv_iconst (v := nI 0) hx hb dX2_has_71 (by decide +kernel) ?_
          refine lv_istore (lv' := [(7, .int (nI 0)), (6, .int (nI (cU (rd (rk σ k) (i / 3) (i % 3)) (qp σ k)))), (0, .ref mo), (1, .int (nI k)), (2, .int z), (3, .int w), (4, .int (nI (sN (hsF σ k z w) i))), (5, .int (nI i))]) hx hb dX2_has_72 hl (by decide) rfl (fun ls hl => ?_)
          refine lv_iconst (v := nI 1) hx hb dX2_has_74 (by decide +kernel) ?_
          refine lv_istore (lv' := [(8, .int (nI 1)), (7, .int (nI 0)), (6, .int (nI (cU (rd (rk σ k) (i / 3) (i % 3)) (qp σ k)))), (0, .ref mo), (1, .int (nI k)), (2, .int z), (3, .int w), (4, .int (nI (sN (hsF σ k z w) i))), (5, .int (nI i))]) hx hb dX2_has_75 hl (by decide) rfl (fun ls hl => ?_)
          refine x_loop (σ := Nat) (fun u => [(0, .ref mo), (1, .int (nI k)), (2, .int z), (3, .int w), (4, .int (nI (sN (hsF σ k z w) i))), (5, .int (nI i)), (6, .int (nI (cU (rd (rk σ k) (i / 3) (i % 3)) (qp σ k)))), (7, .int (nI (b01 (hA (rdA (rd (rk σ k) (i / 3) (i % 3)) g1 (qp σ k)) z w u)))), (8, .int (nI (u + 1)))]) (fun u => u ≤ cU (rd (rk σ k) (i / 3) (i % 3)) (qp σ k) - 1) (fun u => cU (rd (rk σ k) (i / 3) (i % 3)) (qp σ k) - u) (fun u hu3 ih3 ls hl => ?_) 0 (Nat.zero_le _) ls (x_hl (lv_sub (l' := [(0, .ref mo), (1, .int (nI k)), (2, .int z), (3, .int w), (4, .int (nI (sN (hsF σ k z w) i))), (5, .int (nI i)), (6, .int (nI (cU (rd (rk σ k) (i / 3) (i % 3)) (qp σ k)))), (7, .int (nI 0)), (8, .int (nI 1))]) hl [3, 4, 5, 6, 7, 8, 2, 1, 0] rfl) rfl)
          obtain ⟨mm, rfl⟩ : ∃ z, z = u := ⟨_, rfl⟩
          have hu3 : mm ≤ cU (rd (rk σ k) (i / 3) (i % 3)) (qp σ k) - 1 := hu3
          have hl : lv_has ls 9 [(0, .ref mo), (1, .int (nI k)), (2, .int z), (3, .int w), (4, .int (nI (sN (hsF σ k z w) i))), (5, .int (nI i)), (6, .int (nI (cU (rd (rk σ k) (i / 3) (i % 3)) (qp σ k)))), (7, .int (nI (b01 (hA (rdA (rd (rk σ k) (i / 3) (i % 3)) g1 (qp σ k)) z w mm)))), (8, .int (nI (mm + 1)))] := hl
          refine lv_iload hx hb dX2_has_77 (lv_at hl 8 rfl) ?_
          refine lv_iload hx hb dX2_has_79 (lv_at hl 6 rfl) ?_
          refine x_icge hx hb (by omega) (by omega) (tgt := 124) dX2_has_81 (by decide) (fun c_5 => ?_) (fun c_5 => ?_)
          · skip
            refine lv_iload hx hb dX2_has_124 (lv_at hl 4 rfl) ?_
            have h01 := b01_le (hA (rdA (rd (rk σ k) (i / 3) (i % 3)) g1 (qp σ k)) z w mm)
            have hcu := cU_le (rd (rk σ k) (i / 3) (i % 3)) (qp σ k)
            refine lv_iload hx hb dX2_has_126 (lv_at hl 7 rfl) ?_
            refine x_ifeq hx hb (by omega) (tgt := 135) dX2_has_128 (by decide) (fun c_6 => ?_) (fun c_6 => ?_)
            · skip
              refine lv_iconst (v := nI 0) hx hb dX2_has_135 (by decide +kernel) ?_
              refine x_add hx hb dX2_has_136 ?_
              refine lv_istore (lv' := [(4, .int (nI ((sN (hsF σ k z w) i) + 0))), (0, .ref mo), (1, .int (nI k)), (2, .int z), (3, .int w), (5, .int (nI i)), (6, .int (nI (cU (rd (rk σ k) (i / 3) (i % 3)) (qp σ k)))), (7, .int (nI (b01 (hA (rdA (rd (rk σ k) (i / 3) (i % 3)) g1 (qp σ k)) z w mm)))), (8, .int (nI (mm + 1)))]) hx hb dX2_has_137 hl (by decide) rfl (fun ls hl => ?_)
              refine x_iinc (n := 1) (lv' := [(5, .int (nI (i + 1))), (4, .int (nI ((sN (hsF σ k z w) i) + 0))), (0, .ref mo), (1, .int (nI k)), (2, .int z), (3, .int w), (6, .int (nI (cU (rd (rk σ k) (i / 3) (i % 3)) (qp σ k)))), (7, .int (nI (b01 (hA (rdA (rd (rk σ k) (i / 3) (i % 3)) g1 (qp σ k)) z w mm)))), (8, .int (nI (mm + 1)))]) hx hb dX2_has_139 hl (k := 5) rfl (by decide) rfl (fun ls hl => ?_)
              refine lv_goto (tgt := 45) hx hb dX2_has_142 (by decide) ?_
              have e6 : hsF σ k z w i = b01 (hA (rdA (rd (rk σ k) (i / 3) (i % 3)) g1 (qp σ k)) z w mm) := by rw [show mm = cU (rd (rk σ k) (i / 3) (i % 3)) (qp σ k) - 1 by omega]; exact congrArg b01 (pr_hA (g := g1) hz1 (qp σ k))
              have hl : lv_has ls 9 [(5, .int (nI (i + 1))), (4, .int (nI (sN (hsF σ k z w) (i + 1)))), (0, .ref mo), (1, .int (nI k)), (2, .int z), (3, .int w), (6, .int (nI (cU (rd (rk σ k) (i / 3) (i % 3)) (qp σ k)))), (7, .int (nI (b01 (hA (rdA (rd (rk σ k) (i / 3) (i % 3)) g1 (qp σ k)) z w mm)))), (8, .int (nI (mm + 1)))] := x_hl hl (by rw [show sN (hsF σ k z w) i + 0 = sN (hsF σ k z w) (i + 1) from congrArg (sN (hsF σ k z w) i + ·) (show 0 = hsF σ k z w i by rw [e6]; omega)])
              exact ih (i + 1) _ _ ⟨by omega, ⟨_, _, hW⟩, hFr, hlo⟩ (by omega) ls (lv_sub hl [2, 3, 4, 5, 1, 0] rfl)
            · skip
              refine lv_iconst (v := nI 1) hx hb dX2_has_131 (by decide +kernel) ?_
              refine lv_goto (tgt := 136) hx hb dX2_has_132 (by decide) ?_
              refine x_add hx hb dX2_has_136 ?_
              refine lv_istore (lv' := [(4, .int (nI ((sN (hsF σ k z w) i) + 1))), (0, .ref mo), (1, .int (nI k)), (2, .int z), (3, .int w), (5, .int (nI i)), (6, .int (nI (cU (rd (rk σ k) (i / 3) (i % 3)) (qp σ k)))), (7, .int (nI (b01 (hA (rdA (rd (rk σ k) (i / 3) (i % 3)) g1 (qp σ k)) z w mm)))), (8, .int (nI (mm + 1)))]) hx hb dX2_has_137 hl (by decide) rfl (fun ls hl => ?_)
              refine x_iinc (n := 1) (lv' := [(5, .int (nI (i + 1))), (4, .int (nI ((sN (hsF σ k z w) i) + 1))), (0, .ref mo), (1, .int (nI k)), (2, .int z), (3, .int w), (6, .int (nI (cU (rd (rk σ k) (i / 3) (i % 3)) (qp σ k)))), (7, .int (nI (b01 (hA (rdA (rd (rk σ k) (i / 3) (i % 3)) g1 (qp σ k)) z w mm)))), (8, .int (nI (mm + 1)))]) hx hb dX2_has_139 hl (k := 5) rfl (by decide) rfl (fun ls hl => ?_)
              refine lv_goto (tgt := 45) hx hb dX2_has_142 (by decide) ?_
              have e6 : hsF σ k z w i = b01 (hA (rdA (rd (rk σ k) (i / 3) (i % 3)) g1 (qp σ k)) z w mm) := by rw [show mm = cU (rd (rk σ k) (i / 3) (i % 3)) (qp σ k) - 1 by omega]; exact congrArg b01 (pr_hA (g := g1) hz1 (qp σ k))
              have hl : lv_has ls 9 [(5, .int (nI (i + 1))), (4, .int (nI (sN (hsF σ k z w) (i + 1)))), (0, .ref mo), (1, .int (nI k)), (2, .int z), (3, .int w), (6, .int (nI (cU (rd (rk σ k) (i / 3) (i % 3)) (qp σ k)))), (7, .int (nI (b01 (hA (rdA (rd (rk σ k) (i / 3) (i % 3)) g1 (qp σ k)) z w mm)))), (8, .int (nI (mm + 1)))] := x_hl hl (by rw [show sN (hsF σ k z w) i + 1 = sN (hsF σ k z w) (i + 1) from congrArg (sN (hsF σ k z w) i + ·) (show 1 = hsF σ k z w i by rw [e6]; omega)])
              exact ih (i + 1) _ _ ⟨by omega, ⟨_, _, hW⟩, hFr, hlo⟩ (by omega) ls (lv_sub hl [2, 3, 4, 5, 1, 0] rfl)
          · skip
            have hcu := cU_le (rd (rk σ k) (i / 3) (i % 3)) (qp σ k)
            refine lv_iload hx hb dX2_has_84 (lv_at hl 7 rfl) ?_
            refine lv_aload_n hx hb dX2_has_86 rfl (lv_at hl 0 rfl) ?_
            refine x_get S in_X2_has_X2 hK hW.1 rfl 11 (by decide) (by decide +kernel) rfl rfl dX2_has_87 ?_
            refine lv_iload hx hb dX2_has_90 (lv_at hl 8 rfl) ?_
            refine lv_iconst (v := nI 1) hx hb dX2_has_92 (by decide +kernel) ?_
            refine x_sub hx hb (by omega) dX2_has_93 ?_
            refine x_iald hx hb hK hW.2.2.2.2.2.2.2.2.2.1 (by omega) (by omega) dX2_has_94 ?_
            refine lv_iload_n hx hb dX2_has_95 rfl (lv_at hl 2 rfl) ?_
            refine lv_icmp_ne (tgt := 114) hx hb dX2_has_96 (by decide) (fun c_7 => ?_) (fun c_7 => ?_)
            · skip
              refine lv_iconst (v := nI 0) hx hb dX2_has_114 (by decide +kernel) ?_
              refine lv_ior hx hb dX2_has_115 ?_
              refine x_e (ior01 (hA_n (fun q => c_7 q.1))) ?_
              refine lv_istore (lv' := [(7, .int (nI (b01 (hA (rdA (rd (rk σ k) (i / 3) (i % 3)) g1 (qp σ k)) z w (mm + 1))))), (0, .ref mo), (1, .int (nI k)), (2, .int z), (3, .int w), (4, .int (nI (sN (hsF σ k z w) i))), (5, .int (nI i)), (6, .int (nI (cU (rd (rk σ k) (i / 3) (i % 3)) (qp σ k)))), (8, .int (nI (mm + 1)))]) hx hb dX2_has_116 hl (by decide) rfl (fun ls hl => ?_)
              refine x_iinc (n := 1) (lv' := [(8, .int (nI (mm + 1 + 1))), (7, .int (nI (b01 (hA (rdA (rd (rk σ k) (i / 3) (i % 3)) g1 (qp σ k)) z w (mm + 1))))), (0, .ref mo), (1, .int (nI k)), (2, .int z), (3, .int w), (4, .int (nI (sN (hsF σ k z w) i))), (5, .int (nI i)), (6, .int (nI (cU (rd (rk σ k) (i / 3) (i % 3)) (qp σ k))))]) hx hb dX2_has_118 hl (k := 8) rfl (by decide) rfl (fun ls hl => ?_)
              refine lv_goto (tgt := 77) hx hb dX2_has_121 (by decide) ?_
              exact ih3 (mm + 1) (by omega) (by omega) ls (lv_sub hl [2, 3, 4, 5, 6, 7, 8, 1, 0] rfl)
            · skip
              refine lv_aload_n hx hb dX2_has_99 rfl (lv_at hl 0 rfl) ?_
              refine x_get S in_X2_has_X2 hK hW.1 rfl 11 (by decide) (by decide +kernel) rfl rfl dX2_has_100 ?_
              refine lv_iload hx hb dX2_has_103 (lv_at hl 8 rfl) ?_
              refine x_iald hx hb hK hW.2.2.2.2.2.2.2.2.2.1 (by omega) (by omega) dX2_has_105 ?_
              refine lv_iload_n hx hb dX2_has_106 rfl (lv_at hl 3 rfl) ?_
              refine lv_icmp_ne (tgt := 114) hx hb dX2_has_107 (by decide) (fun c_8 => ?_) (fun c_8 => ?_)
              · skip
                refine lv_iconst (v := nI 0) hx hb dX2_has_114 (by decide +kernel) ?_
                refine lv_ior hx hb dX2_has_115 ?_
                refine x_e (ior01 (hA_n (fun q => c_8 q.2))) ?_
                refine lv_istore (lv' := [(7, .int (nI (b01 (hA (rdA (rd (rk σ k) (i / 3) (i % 3)) g1 (qp σ k)) z w (mm + 1))))), (0, .ref mo), (1, .int (nI k)), (2, .int z), (3, .int w), (4, .int (nI (sN (hsF σ k z w) i))), (5, .int (nI i)), (6, .int (nI (cU (rd (rk σ k) (i / 3) (i % 3)) (qp σ k)))), (8, .int (nI (mm + 1)))]) hx hb dX2_has_116 hl (by decide) rfl (fun ls hl => ?_)
                refine x_iinc (n := 1) (lv' := [(8, .int (nI (mm + 1 + 1))), (7, .int (nI (b01 (hA (rdA (rd (rk σ k) (i / 3) (i % 3)) g1 (qp σ k)) z w (mm + 1))))), (0, .ref mo), (1, .int (nI k)), (2, .int z), (3, .int w), (4, .int (nI (sN (hsF σ k z w) i))), (5, .int (nI i)), (6, .int (nI (cU (rd (rk σ k) (i / 3) (i % 3)) (qp σ k))))]) hx hb dX2_has_118 hl (k := 8) rfl (by decide) rfl (fun ls hl => ?_)
                refine lv_goto (tgt := 77) hx hb dX2_has_121 (by decide) ?_
                exact ih3 (mm + 1) (by omega) (by omega) ls (lv_sub hl [2, 3, 4, 5, 6, 7, 8, 1, 0] rfl)
              · skip
                refine lv_iconst (v := nI 1) hx hb dX2_has_110 (by decide +kernel) ?_
                refine lv_goto (tgt := 115) hx hb dX2_has_111 (by decide) ?_
                refine lv_ior hx hb dX2_has_115 ?_
                refine x_e (ior01 (hA_y (Or.inr ⟨c_7, c_8⟩))) ?_
                refine lv_istore (lv' := [(7, .int (nI (b01 (hA (rdA (rd (rk σ k) (i / 3) (i % 3)) g1 (qp σ k)) z w (mm + 1))))), (0, .ref mo), (1, .int (nI k)), (2, .int z), (3, .int w), (4, .int (nI (sN (hsF σ k z w) i))), (5, .int (nI i)), (6, .int (nI (cU (rd (rk σ k) (i / 3) (i % 3)) (qp σ k)))), (8, .int (nI (mm + 1)))]) hx hb dX2_has_116 hl (by decide) rfl (fun ls hl => ?_)
                refine x_iinc (n := 1) (lv' := [(8, .int (nI (mm + 1 + 1))), (7, .int (nI (b01 (hA (rdA (rd (rk σ k) (i / 3) (i % 3)) g1 (qp σ k)) z w (mm + 1))))), (0, .ref mo), (1, .int (nI k)), (2, .int z), (3, .int w), (4, .int (nI (sN (hsF σ k z w) i))), (5, .int (nI i)), (6, .int (nI (cU (rd (rk σ k) (i / 3) (i % 3)) (qp σ k))))]) hx hb dX2_has_118 hl (k := 8) rfl (by decide) rfl (fun ls hl => ?_)
                refine lv_goto (tgt := 77) hx hb dX2_has_121 (by decide) ?_
                exact ih3 (mm + 1) (by omega) (by omega) ls (lv_sub hl [2, 3, 4, 5, 6, 7, 8, 1, 0] rfl)
      · skip
        refine lv_aload_n hx hb dX2_has_33 rfl (lv_at hl 0 rfl) ?_
        refine lv_iconst (v := nI 2) hx hb dX2_has_34 (by decide +kernel) ?_
        refine m_V (rest := []) S hK (c_X2_no l Γ bs mo (nI 0) σ g1 g2 hI hbm 2) (cwV 1 hts gX2_has_X2_no rfl rfl rfl (by decide +kernel) ⟨Nat.le_of_ble_eq_true rfl, Nat.le_of_ble_eq_true rfl⟩) (Ob.recv hK hW.1 rfl) hW rfl hl.1 rfl (Nat.le_of_ble_eq_true rfl) dX2_has_35 ⟨Nat.le_of_ble_eq_true rfl, Nat.le_of_ble_eq_true rfl⟩ hlo (fun v H1 lc1 hp hlo => ?_)
        obtain ⟨rfl, hW, hFq, hzq⟩ := hp
        refine W.eq (g2 := F0 m 38 ls [.int (nI 0)]) rfl ?_
        have hFr := hFr.trans hFq
        refine W.widen (k := 0) (n := 0) (Nat.le_of_ble_eq_true rfl) (Nat.le_of_ble_eq_true rfl) ?_
        exact m_iret (Post := fun H v H2 => PM Γ mo (cd2 (inb (nI k) (qn σ)) (inb z 24 ∧ inb w 24)) σ (σ) (nI (hs σ ((nI k).toInt.toNat) z w)) H v H2) hx hb hr hlk hlo dX2_has_38 (PM.no (i := 1) (cd2_2 ((inb_nI (by omega)).mpr hk) (fun q => bP_0 c_3 q.2)) rfl ⟨_, _, hW⟩ hFr)
  · skip
    refine lv_aload_n hx hb dX2_has_13 rfl (lv_at hl 0 rfl) ?_
    refine lv_iconst (v := nI 1) hx hb dX2_has_14 (by decide +kernel) ?_
    refine m_V (rest := []) S hK (c_X2_no l Γ bs mo (nI 0) σ g1 g2 hI hbm 1) (cwV 1 hts gX2_has_X2_no rfl rfl rfl (by decide +kernel) ⟨Nat.le_of_ble_eq_true rfl, Nat.le_of_ble_eq_true rfl⟩) (Ob.recv hK hW.1 rfl) hW rfl hl.1 rfl (Nat.le_of_ble_eq_true rfl) dX2_has_15 ⟨Nat.le_of_ble_eq_true rfl, Nat.le_of_ble_eq_true rfl⟩ hlo (fun v H1 lc1 hp hlo => ?_)
    obtain ⟨rfl, hW, hFq, hzq⟩ := hp
    refine W.eq (g2 := F0 m 18 ls [.int (nI 0)]) rfl ?_
    have hFr := hFr.trans hFq
    refine W.widen (k := 0) (n := 0) (Nat.le_of_ble_eq_true rfl) (Nat.le_of_ble_eq_true rfl) ?_
    exact m_iret (Post := fun H v H2 => PM Γ mo (cd2 (inb y (qn σ)) (inb z 24 ∧ inb w 24)) σ (σ) (nI (hs σ (y.toInt.toNat) z w)) H v H2) hx hb hr hlk hlo dX2_has_18 (PM.no (i := 0) (cd2_1 (bP_0 c_1)) rfl ⟨_, _, hW⟩ hFr)
