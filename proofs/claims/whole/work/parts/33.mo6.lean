/-- the first n of a row, the last first -/
def rvl (A : Nat → Int32) : Nat → List Int32
  | 0 => []
  | n + 1 => A n :: rvl A n
theorem rvl_c {A B : Nat → Int32} : ∀ {n : Nat}, (∀ k, k < n → A k = B k) → rvl A n = rvl B n
  | 0, _ => rfl
  | n + 1, h => by
    show A n :: rvl A n = B n :: rvl B n
    rw [h n (Nat.lt_succ_self n), rvl_c fun k hk => h k (Nat.lt_succ_of_lt hk)]
theorem rvl_lr (f g : Nat → Int32) : ∀ n, rvl (rdA f g n) (cU f n) = lr f n
  | 0 => rfl
  | n + 1 => by
    by_cases q : f n = -1
    · rw [cU_n q, rdA_n q, rvl_lr f g n]
      unfold lr
      rw [rl, if_pos q, List.append_nil]
    · rw [cU_y q, rdA_y q]
      show upd (rdA f g n) (cU f n) (f n) (cU f n) :: rvl (upd (rdA f g n) (cU f n) (f n)) (cU f n) = _
      rw [upd_s, rvl_c (B := rdA f g n) (fun k hk => upd_n (by omega)), rvl_lr f g n]
      unfold lr
      rw [rl, if_neg q, List.reverse_append]
      rfl
theorem pn_p {r : Nat} (h : ¬ pn r < 0) : ∃ q, r = q + 1 := by
  cases r with
  | zero => exact absurd (by decide +kernel) h
  | succ k => exact ⟨k, rfl⟩
theorem pn_0 {r : Nat} (hr : r < 2 ^ 31) (h : pn r < 0) : r = 0 := by
  cases r with
  | zero => rfl
  | succ k =>
    rw [pn_s] at h
    exact absurd ((nI_ltI (a := k) (b := 0) (by omega) (by decide)).mp h) (Nat.not_lt_zero k)
theorem pn_inc (q : Nat) : nI q + Int32.ofInt (-1) = pn q := by
  unfold pn
  rw [show Int32.ofInt (-1) = (-1 : Int32) by decide +kernel]
theorem pw_1 {x y : Int32} (h : ¬ x = y) (h2 : x / nI 8 = y / nI 8) : pw x y = 1 := by
  unfold pw
  rw [if_neg h, if_pos h2]
theorem pw_2 {x y : Int32} (h : x = y) : pw x y = 2 := if_pos h
theorem pw_n {x y : Int32} (h : ¬ x / nI 8 = y / nI 8) : pw x y = 0 := by
  unfold pw
  rw [if_neg (fun q => h (by rw [q])), if_neg h]
theorem in_X2_rhymeOf_X2 : ∀ w ∈ wsX20, w ∈ wsX2_rhymeOf := by decide +kernel
set_option maxHeartbeats 4000000 in
set_option maxRecDepth 100000 in
theorem c_X2_rhymeOf (l : Launch) (Γ : GG) (bs : Nat) (mo : Nat) (th : Int32) (σ : St) (g1 g2 : Nat → Int32) (hI : Iv σ) (hbm : bs ≤ mo) (a su b t : Nat) (ha : a < qn σ) (hb9 : b < qn σ) (hsu : su < 3) (ht : t < 3) : Mt l yX2_rhymeOf wsX2_rhymeOf ({ frames := 2, cells := 0, slots := 0, locals := 49 }) Γ bs [.ref mo, .int (nI a), .int (nI su), .int (nI b), .int (nI t)] (MW Γ mo th σ g1 g2) (fun H v H2 => v = some (.int (nI (rhy σ a su b t))) ∧ (∃ g3 g4, MW Γ mo th σ g3 g4 H2) ∧ Fr mo (mo + 11) H H2 ∧ H2.size = H.size) 0 0 := by
  refine Mt.of (cc := cX2_rhymeOf) (maxL := 8) (ret := (some .int)) (by decide) rfl (Nat.le_of_ble_eq_true rfl) ?_
  intro p e s m below meth c S hr hlk hin hK hW ls hl
  obtain ⟨hx, hb, hml, hown, hts⟩ := id S
  obtain ⟨lc, elc⟩ : ∃ z : List Loc, z = [] := ⟨_, rfl⟩
  rw [← elc]
  have hlo : lo bs lc := by rw [elc]; exact lo.nil
  clear elc
  have hl : lv_has ls 8 [(0, .ref mo), (1, .int (nI a)), (2, .int (nI su)), (3, .int (nI b)), (4, .int (nI t))] := hl
  have hn40 := hI.1
  have hFr : Fr mo (mo + 11) s.heap s.heap := Fr.rf
  obtain ⟨hPa0, hPa, hUa, hGa⟩ := hI.2.1 a (by omega)
  obtain ⟨hPb0, hPb, hUb, hGb⟩ := hI.2.1 b (by omega)
  refine lv_aload_n hx hb dX2_rhymeOf_0 rfl (lv_at hl 0 rfl) ?_
  refine lv_iload_n hx hb dX2_rhymeOf_1 rfl (lv_at hl 1 rfl) ?_
  refine lv_iload_n hx hb dX2_rhymeOf_2 rfl (lv_at hl 2 rfl) ?_
  refine lv_iload hx hb dX2_rhymeOf_3 (lv_at hl 4 rfl) ?_
  refine lv_aload_n hx hb dX2_rhymeOf_5 rfl (lv_at hl 0 rfl) ?_
  refine x_get S in_X2_rhymeOf_X2 hK hW.1 rfl 11 (by decide) (by decide +kernel) rfl rfl dX2_rhymeOf_6 ?_
  refine m_V (rest := []) S hK (c_X2_read1 l Γ bs mo th σ g1 g2 hI hbm a su t (by omega) (by first | omega | exact (hI.2.1 _ (by omega)).2.2.1) (by omega)) (cwV 4 hts gX2_rhymeOf_X2_read rfl rfl rfl (by decide +kernel) ⟨Nat.le_of_ble_eq_true rfl, Nat.le_of_ble_eq_true rfl⟩) (Ob.recv hK hW.1 rfl) hW rfl hl.1 rfl (Nat.le_of_ble_eq_true rfl) dX2_rhymeOf_9 ⟨Nat.le_of_ble_eq_true rfl, Nat.le_of_ble_eq_true rfl⟩ hlo (fun v H1 lc1 hp hlo => ?_)
  obtain ⟨rfl, hW, hFq, hzq⟩ := hp
  refine W.eq (g2 := F0 m 12 ls [.int (nI (cU (rd (rk σ a) su t) (qp σ a)))]) rfl ?_
  have hFr := hFr.trans hFq
  have hcu1 := cU_le (rd (rk σ a) su t) (qp σ a)
  have hzq1 := hzq
  refine lv_iconst (v := nI 1) hx hb dX2_rhymeOf_12 (by decide +kernel) ?_
  refine lv_isub hx hb dX2_rhymeOf_13 ?_
  refine x_e (pn_sub (cU (rd (rk σ a) su t) (qp σ a))) ?_
  refine lv_istore (lv' := [(5, .int (pn (cU (rd (rk σ a) su t) (qp σ a)))), (0, .ref mo), (1, .int (nI a)), (2, .int (nI su)), (3, .int (nI b)), (4, .int (nI t))]) hx hb dX2_rhymeOf_14 hl (by decide) rfl (fun ls hl => ?_)
  refine lv_aload_n hx hb dX2_rhymeOf_16 rfl (lv_at hl 1 rfl) ?_
  refine lv_iload_n hx hb dX2_rhymeOf_17 rfl (lv_at hl 4 rfl) ?_
  refine lv_aload_n hx hb dX2_rhymeOf_18 rfl (lv_at hl 1 rfl) ?_
  refine x_get S in_X2_rhymeOf_X2 hK hW.1 rfl 4 (by decide) (by decide +kernel) rfl rfl dX2_rhymeOf_19 ?_
  refine lv_iload_n hx hb dX2_rhymeOf_22 rfl (lv_at hl 4 rfl) ?_
  refine x_iald hx hb hK hW.2.2.1 (by omega) (by omega) dX2_rhymeOf_23 ?_
  refine lv_iload hx hb dX2_rhymeOf_24 (lv_at hl 5 rfl) ?_
  refine lv_aload_n hx hb dX2_rhymeOf_26 rfl (lv_at hl 1 rfl) ?_
  refine x_get S in_X2_rhymeOf_X2 hK hW.1 rfl 12 (by decide) (by decide +kernel) rfl rfl dX2_rhymeOf_27 ?_
  refine m_V (rest := []) S hK (c_X2_read2 l Γ bs mo th σ (rdA (rd (rk σ a) su t) g1 (qp σ a)) g2 hI hbm b (qu σ b) t (by omega) (by first | omega | exact (hI.2.1 _ (by omega)).2.2.1) (by omega)) (cwV 4 hts gX2_rhymeOf_X2_read rfl rfl rfl (by decide +kernel) ⟨Nat.le_of_ble_eq_true rfl, Nat.le_of_ble_eq_true rfl⟩) (Ob.recv hK hW.1 rfl) hW rfl hl.1 rfl (Nat.le_of_ble_eq_true rfl) dX2_rhymeOf_30 ⟨Nat.le_of_ble_eq_true rfl, Nat.le_of_ble_eq_true rfl⟩ hlo (fun v H1 lc1 hp hlo => ?_)
  obtain ⟨rfl, hW, hFq, hzq⟩ := hp
  refine W.eq (g2 := F0 m 33 ls [.int (nI (cU (rd (rk σ b) (qu σ b) t) (qp σ b)))]) rfl ?_
  have hFr := hFr.trans hFq
  have hcu2 := cU_le (rd (rk σ b) (qu σ b) t) (qp σ b)
  have hzq := hzq.trans hzq1
  refine lv_iconst (v := nI 1) hx hb dX2_rhymeOf_33 (by decide +kernel) ?_
  refine lv_isub hx hb dX2_rhymeOf_34 ?_
  refine x_e (pn_sub (cU (rd (rk σ b) (qu σ b) t) (qp σ b))) ?_
  refine lv_istore (lv' := [(6, .int (pn (cU (rd (rk σ b) (qu σ b) t) (qp σ b)))), (5, .int (pn (cU (rd (rk σ a) su t) (qp σ a)))), (0, .ref mo), (1, .int (nI a)), (2, .int (nI su)), (3, .int (nI b)), (4, .int (nI t))]) hx hb dX2_rhymeOf_35 hl (by decide) rfl (fun ls hl => ?_)
  refine lv_iconst (v := nI 0) hx hb dX2_rhymeOf_37 (by decide +kernel) ?_
  refine lv_istore (lv' := [(7, .int (nI 0)), (6, .int (pn (cU (rd (rk σ b) (qu σ b) t) (qp σ b)))), (5, .int (pn (cU (rd (rk σ a) su t) (qp σ a)))), (0, .ref mo), (1, .int (nI a)), (2, .int (nI su)), (3, .int (nI b)), (4, .int (nI t))]) hx hb dX2_rhymeOf_38 hl (by decide) rfl (fun ls hl => ?_)
  refine x_loop (σ := Nat × Nat × Nat) (fun u => [(0, .ref mo), (5, .int (pn (u.1))), (6, .int (pn (u.2.1))), (7, .int (nI ((u.2.2))))]) (fun u => (u.1) ≤ cU (rd (rk σ a) su t) (qp σ a) ∧ (u.2.1) ≤ cU (rd (rk σ b) (qu σ b) t) (qp σ b) ∧ (u.2.2) + rhR (rvl (rdA (rd (rk σ a) su t) g1 (qp σ a)) (u.1)) (rvl (rdA (rd (rk σ b) (qu σ b) t) g2 (qp σ b)) (u.2.1)) = rhy σ a su b t) (fun u => (u.1)) (fun u hu ih ls hl => ?_) (cU (rd (rk σ a) su t) (qp σ a), cU (rd (rk σ b) (qu σ b) t) (qp σ b), 0) ⟨Nat.le_refl _, Nat.le_refl _, by dsimp only; rw [Nat.zero_add, rvl_lr, rvl_lr]; rfl⟩ ls (x_hl (lv_sub (l' := [(0, .ref mo), (5, .int (pn (cU (rd (rk σ a) su t) (qp σ a)))), (6, .int (pn (cU (rd (rk σ b) (qu σ b) t) (qp σ b)))), (7, .int (nI 0))]) hl [3, 2, 1, 0] rfl) rfl)
  obtain ⟨r1, r2, sm⟩ := u
  have hu : r1 ≤ cU (rd (rk σ a) su t) (qp σ a) ∧ r2 ≤ cU (rd (rk σ b) (qu σ b) t) (qp σ b) ∧ sm + rhR (rvl (rdA (rd (rk σ a) su t) g1 (qp σ a)) r1) (rvl (rdA (rd (rk σ b) (qu σ b) t) g2 (qp σ b)) r2) = rhy σ a su b t := hu
  have hl : lv_has ls 8 [(0, .ref mo), (5, .int (pn r1)), (6, .int (pn r2)), (7, .int (nI sm))] := hl
  refine lv_iload hx hb dX2_rhymeOf_40 (lv_at hl 1 rfl) ?_
  refine lv_if_lt (tgt := 109) hx hb dX2_rhymeOf_42 (by decide) (fun c_1 => ?_) (fun c_1 => ?_)
  · skip
    refine lv_iload hx hb dX2_rhymeOf_109 (lv_at hl 3 rfl) ?_
    have e8 : sm = rhy σ a su b t := by have h6 := pn_0 (by omega) c_1; subst h6; have h7 := hu.2.2; exact h7
    refine x_e (congrArg nI e8) ?_
    refine W.widen (k := 0) (n := 0) (Nat.le_of_ble_eq_true rfl) (Nat.le_of_ble_eq_true rfl) ?_
    exact m_iret (Post := fun H v H2 => v = some (.int (nI (rhy σ a su b t))) ∧ (∃ g3 g4, MW Γ mo th σ g3 g4 H2) ∧ Fr mo (mo + 11) H H2 ∧ H2.size = H.size) hx hb hr hlk hlo dX2_rhymeOf_111 ⟨rfl, ⟨_, _, hW⟩, hFr, hzq⟩
  · skip
    obtain ⟨i, rfl⟩ := pn_p c_1
    have hl : lv_has ls 8 [(0, .ref mo), (5, .int (nI i)), (6, .int (pn r2)), (7, .int (nI sm))] := x_hl hl (by rw [pn_s])
    refine lv_iload hx hb dX2_rhymeOf_45 (lv_at hl 2 rfl) ?_
    refine lv_if_lt (tgt := 109) hx hb dX2_rhymeOf_47 (by decide) (fun c_2 => ?_) (fun c_2 => ?_)
    · skip
      refine lv_iload hx hb dX2_rhymeOf_109 (lv_at hl 3 rfl) ?_
      have e8 : sm = rhy σ a su b t := by have h6 := pn_0 (by omega) c_2; subst h6; have h7 := hu.2.2; rw [show rvl (rdA (rd (rk σ b) (qu σ b) t) g2 (qp σ b)) 0 = [] from rfl, rhR_nil] at h7; exact h7
      refine x_e (congrArg nI e8) ?_
      refine W.widen (k := 0) (n := 0) (Nat.le_of_ble_eq_true rfl) (Nat.le_of_ble_eq_true rfl) ?_
      exact m_iret (Post := fun H v H2 => v = some (.int (nI (rhy σ a su b t))) ∧ (∃ g3 g4, MW Γ mo th σ g3 g4 H2) ∧ Fr mo (mo + 11) H H2 ∧ H2.size = H.size) hx hb hr hlk hlo dX2_rhymeOf_111 ⟨rfl, ⟨_, _, hW⟩, hFr, hzq⟩
    · skip
      obtain ⟨j, rfl⟩ := pn_p c_2
      have hl : lv_has ls 8 [(0, .ref mo), (5, .int (nI i)), (6, .int (nI j)), (7, .int (nI sm))] := x_hl hl (by rw [pn_s])
      have e3 : rhR (rvl (rdA (rd (rk σ a) su t) g1 (qp σ a)) (i + 1)) (rvl (rdA (rd (rk σ b) (qu σ b) t) g2 (qp σ b)) (j + 1)) = if pw ((rdA (rd (rk σ a) su t) g1 (qp σ a)) i) ((rdA (rd (rk σ b) (qu σ b) t) g2 (qp σ b)) j) = 0 then 0 else pw ((rdA (rd (rk σ a) su t) g1 (qp σ a)) i) ((rdA (rd (rk σ b) (qu σ b) t) g2 (qp σ b)) j) + rhR (rvl (rdA (rd (rk σ a) su t) g1 (qp σ a)) i) (rvl (rdA (rd (rk σ b) (qu σ b) t) g2 (qp σ b)) j) := rfl
      refine lv_aload_n hx hb dX2_rhymeOf_50 rfl (lv_at hl 0 rfl) ?_
      refine x_get S in_X2_rhymeOf_X2 hK hW.1 rfl 11 (by decide) (by decide +kernel) rfl rfl dX2_rhymeOf_51 ?_
      refine lv_iload hx hb dX2_rhymeOf_54 (lv_at hl 1 rfl) ?_
      refine x_iald hx hb hK hW.2.2.2.2.2.2.2.2.2.1 (by omega) (by omega) dX2_rhymeOf_56 ?_
      refine lv_bipush (v := nI 8) hx hb dX2_rhymeOf_57 (by decide +kernel) ?_
      refine lv_idiv hx hb dX2_rhymeOf_59 (by decide +kernel) ?_
      refine lv_aload_n hx hb dX2_rhymeOf_60 rfl (lv_at hl 0 rfl) ?_
      refine x_get S in_X2_rhymeOf_X2 hK hW.1 rfl 12 (by decide) (by decide +kernel) rfl rfl dX2_rhymeOf_61 ?_
      refine lv_iload hx hb dX2_rhymeOf_64 (lv_at hl 2 rfl) ?_
      refine x_iald hx hb hK hW.2.2.2.2.2.2.2.2.2.2 (by omega) (by omega) dX2_rhymeOf_66 ?_
      refine lv_bipush (v := nI 8) hx hb dX2_rhymeOf_67 (by decide +kernel) ?_
      refine lv_idiv hx hb dX2_rhymeOf_69 (by decide +kernel) ?_
      refine lv_icmp_ne (tgt := 109) hx hb dX2_rhymeOf_70 (by decide) (fun c_3 => ?_) (fun c_3 => ?_)
      · skip
        refine lv_iload hx hb dX2_rhymeOf_109 (lv_at hl 3 rfl) ?_
        have e8 : sm = rhy σ a su b t := by have h7 := hu.2.2; rw [e3, pw_n c_3, if_pos rfl] at h7; exact h7
        refine x_e (congrArg nI e8) ?_
        refine W.widen (k := 0) (n := 0) (Nat.le_of_ble_eq_true rfl) (Nat.le_of_ble_eq_true rfl) ?_
        exact m_iret (Post := fun H v H2 => v = some (.int (nI (rhy σ a su b t))) ∧ (∃ g3 g4, MW Γ mo th σ g3 g4 H2) ∧ Fr mo (mo + 11) H H2 ∧ H2.size = H.size) hx hb hr hlk hlo dX2_rhymeOf_111 ⟨rfl, ⟨_, _, hW⟩, hFr, hzq⟩
      · skip
        refine lv_iload hx hb dX2_rhymeOf_73 (lv_at hl 3 rfl) ?_
        refine lv_aload_n hx hb dX2_rhymeOf_75 rfl (lv_at hl 0 rfl) ?_
        refine x_get S in_X2_rhymeOf_X2 hK hW.1 rfl 11 (by decide) (by decide +kernel) rfl rfl dX2_rhymeOf_76 ?_
        refine lv_iload hx hb dX2_rhymeOf_79 (lv_at hl 1 rfl) ?_
        refine x_iald hx hb hK hW.2.2.2.2.2.2.2.2.2.1 (by omega) (by omega) dX2_rhymeOf_81 ?_
        refine lv_aload_n hx hb dX2_rhymeOf_82 rfl (lv_at hl 0 rfl) ?_
        refine x_get S in_X2_rhymeOf_X2 hK hW.1 rfl 12 (by decide) (by decide +kernel) rfl rfl dX2_rhymeOf_83 ?_
        refine lv_iload hx hb dX2_rhymeOf_86 (lv_at hl 2 rfl) ?_
        refine x_iald hx hb hK hW.2.2.2.2.2.2.2.2.2.2 (by omega) (by omega) dX2_rhymeOf_88 ?_
        refine lv_icmp_ne (tgt := 96) hx hb dX2_rhymeOf_89 (by decide) (fun c_4 => ?_) (fun c_4 => ?_)
        · skip
          refine lv_iconst (v := nI 1) hx hb dX2_rhymeOf_96 (by decide +kernel) ?_
          refine x_add hx hb dX2_rhymeOf_97 ?_
          refine lv_istore (lv' := [(7, .int (nI (sm + 1))), (0, .ref mo), (5, .int (nI i)), (6, .int (nI j))]) hx hb dX2_rhymeOf_98 hl (by decide) rfl (fun ls hl => ?_)
          refine lv_iinc (lv' := [(5, .int (pn i)), (7, .int (nI (sm + 1))), (0, .ref mo), (6, .int (nI j))]) hx hb dX2_rhymeOf_100 hl (k := 2) rfl (pn_inc _) (by decide) rfl (fun ls hl => ?_)
          refine lv_iinc (lv' := [(6, .int (pn j)), (5, .int (pn i)), (7, .int (nI (sm + 1))), (0, .ref mo)]) hx hb dX2_rhymeOf_103 hl (k := 3) rfl (pn_inc _) (by decide) rfl (fun ls hl => ?_)
          refine lv_goto (tgt := 40) hx hb dX2_rhymeOf_106 (by decide) ?_
          exact ih (i, j, sm + 1) ⟨by dsimp only; omega, by dsimp only; omega, by have h7 := hu.2.2; rw [e3, pw_1 c_4 c_3, if_neg (by decide)] at h7; dsimp only; omega⟩ (by dsimp only; omega) ls (lv_sub hl [3, 1, 0, 2] rfl)
        · skip
          refine lv_iconst (v := nI 2) hx hb dX2_rhymeOf_92 (by decide +kernel) ?_
          refine lv_goto (tgt := 97) hx hb dX2_rhymeOf_93 (by decide) ?_
          refine x_add hx hb dX2_rhymeOf_97 ?_
          refine lv_istore (lv' := [(7, .int (nI (sm + 2))), (0, .ref mo), (5, .int (nI i)), (6, .int (nI j))]) hx hb dX2_rhymeOf_98 hl (by decide) rfl (fun ls hl => ?_)
          refine lv_iinc (lv' := [(5, .int (pn i)), (7, .int (nI (sm + 2))), (0, .ref mo), (6, .int (nI j))]) hx hb dX2_rhymeOf_100 hl (k := 2) rfl (pn_inc _) (by decide) rfl (fun ls hl => ?_)
          refine lv_iinc (lv' := [(6, .int (pn j)), (5, .int (pn i)), (7, .int (nI (sm + 2))), (0, .ref mo)]) hx hb dX2_rhymeOf_103 hl (k := 3) rfl (pn_inc _) (by decide) rfl (fun ls hl => ?_)
          refine lv_goto (tgt := 40) hx hb dX2_rhymeOf_106 (by decide) ?_
          exact ih (i, j, sm + 2) ⟨by dsimp only; omega, by dsimp only; omega, by have h7 := hu.2.2; rw [e3, pw_2 c_4, if_neg (by decide)] at h7; dsimp only; omega⟩ (by dsimp only; omega) ls (lv_sub hl [3, 1, 0, 2] rfl)
