set_option maxHeartbeats 4000000 in
set_option maxRecDepth 100000 in
theorem lawc_make {p : Program} {l : Launch} {e : Env} {s : State} {m : MethodId} {args : Array Value} {below : List Frame} {meth : Method} {c : Code} {H : Heap} {locs : List Loc} {Q : State → Prop} {Γ : GG} {cJ : ClassId} {bs sb L i C0 S0 : Nat} {xs : Nat → Int32} {σ : St} {ad : Nat → Nat} {th : Int32} {v0 : Int64}
    (hfl : l.stackTraces = false) (S : CallFix p m c cL_law 9 s args wsL_law RL) (hK : xK Γ s) (hT : xT bs s) (hE0 : xE s) (hJ : xJ cJ s) (hX : va_X sb L xs s s.heap) (hsb : sb < s.heap.size) (hbs : s.heap.size = bs) (hL : L ≤ 2560) (hi : i + 5 ≤ L) (hC0 : C0 + 300 ≤ 601024) (hS0 : S0 + 2100 ≤ 7293034) (hLI : LI Γ cJ bs s σ ad th v0 H locs)
    (k : ∀ (σ' : St) (ad' : Nat → Nat) (th' : Int32) (v' : Int64) (H' : Heap) (locs' : List Loc), LI Γ cJ bs s σ' ad' th' v' H' locs' → ∀ ls : Array Slot, lv_has ls 9 [(0, .ref sb), (1, .ref bs), (2, .ref (bs + 2)), (3, .ref (bs + 13)), (4, .int (nI i))] → W p l e room_1 s m args below meth c H' locs' (C0 + 300) (S0 + 2100) Q (F0 m 1514 ls []))
    (ls : Array Slot) (hl : lv_has ls 9 [(0, .ref sb), (1, .ref bs), (2, .ref (bs + 2)), (3, .ref (bs + 13)), (4, .int (nI i))]) : W p l e room_1 s m args below meth c H locs C0 S0 Q (F0 m 132 ls []) := by
  obtain ⟨hx, hb, hml, hown, hts⟩ := id S
  obtain ⟨hI, hy, hC, hM, hA, hlo, hsz, hlow⟩ := hLI
  have hS9 := LI.S hbs hlo hsz hlow
  refine lv_aload_n hx hb dL_law_132 rfl (lv_at hl 1 rfl) ?_
  refine lv_aload_n hx hb dL_law_133 rfl (lv_at hl 0 rfl) ?_
  refine lv_iload hx hb dL_law_134 (lv_at hl 4 rfl) ?_
  refine lv_iconst (v := nI 1) hx hb dL_law_136 (by decide +kernel) ?_
  refine x_add hx hb dL_law_137 ?_
  refine l_sld hx hb hX hsb (by omega) hS9 (by omega) hL dL_law_138 ?_
  refine lv_aload_n hx hb dL_law_139 rfl (lv_at hl 3 rfl) ?_
  refine l_S (rest := []) S hK hT hE0 hJ hlow (c_L_make l hfl Γ cJ bs bs (bs + 13) (bs + 14) σ ad hI (xs (i + 1)) hy (by omega) (by omega) (Nat.le_refl _) v0) (vx_cwSW 3 hts gL_law_L_make rfl rfl rfl (by decide +kernel) ⟨Nat.le_of_ble_eq_true rfl, Nat.le_of_ble_eq_true rfl⟩) ⟨hC, hsz, hA⟩ rfl hl.1 rfl (Nat.le_of_ble_eq_true rfl) dL_law_140 ⟨by show _ ≤ 601024; omega, by show _ ≤ 7293034; omega⟩ hlo (fun v H1 lc1 hp hlo => ?_)
  obtain ⟨hp, hz1, ho1⟩ := hp
  have hM1 : MX Γ (bs + 2) th σ H1 := hM.kept (fun q q1 q2 => ho1 q (by omega) (by omega) (by omega) (by omega) (by omega))
  have hlow1 : ∀ q : Nat, q < bs → H1[q]? = s.heap[q]? := fun q q1 => (ho1 q (by omega) (by omega) (by omega) (by omega) (by omega)).trans (hlow q q1)
  have hS1 := LI.S hbs hlo (show bs + 14 ≤ H1.size by omega) hlow1
  rcases hp with ⟨hcd, rfl, ⟨ad2, hC2, hy2⟩, hA2⟩ | ⟨hcd, rfl, hC2, hA2⟩
  · skip
    refine W.eq (g2 := F0 m 143 ls [.int (nI 0)]) rfl ?_
    refine lv_istore (lv' := [(5, .int (nI 0)), (0, .ref sb), (1, .ref bs), (2, .ref (bs + 2)), (3, .ref (bs + 13)), (4, .int (nI i))]) hx hb dL_law_143 hl (by decide) rfl (fun ls hl => ?_)
    refine lv_aload_n hx hb dL_law_145 rfl (lv_at hl 3 rfl) ?_
    refine lv_aload_n hx hb dL_law_146 rfl (lv_at hl 1 rfl) ?_
    refine lv_iload hx hb dL_law_147 (lv_at hl 5 rfl) ?_
    refine lv_iconst (v := nI 1) hx hb dL_law_149 (by decide +kernel) ?_
    refine x_add hx hb dL_law_150 ?_
    refine l_sld hx hb hX hsb (by omega) hS1 (by omega) hL dL_law_151 ?_
    obtain ⟨g1, g2, hW1⟩ := hM1
    refine m_V (rest := []) S hK (c_X2_make l Γ bs (bs + 2) th σ hI (by omega) (xs (i + 1))) (cwV 1 hts gL_law_X2_make rfl rfl rfl (by decide +kernel) ⟨Nat.le_of_ble_eq_true rfl, Nat.le_of_ble_eq_true rfl⟩) (Ob.recv hK hW1.1 rfl) ⟨g1, g2, hW1⟩ rfl hl.1 rfl (Nat.le_of_ble_eq_true rfl) dL_law_152 ⟨by show _ ≤ 601024; omega, by show _ ≤ 7293034; omega⟩ hlo (fun v H2 lc2 hp2 hlo => ?_)
    obtain ⟨hp2, hF2⟩ := hp2
    rcases hp2 with ⟨hcd2, rfl, g3, g4, hW⟩ | ⟨hcd2, rfl, g3, g4, hW⟩
    · skip
      have hI2 : Iv (sMake σ (xs (i + 1)).toInt.toNat) := Iv_mk hI hcd
      have hC3 := hC2.fr hy2 hF2 (by omega) (by omega)
      have hA3 := hA2.kept (hF2.2 _ hA2.lt (Or.inr (by omega)))
      have hlow2 : ∀ q : Nat, q < bs → H2[q]? = s.heap[q]? := fun q q1 => (hF2.2 q (by omega) (Or.inl (by omega))).trans (hlow1 q q1)
      refine W.eq (g2 := F0 m 155 ls [.int (nI (qn σ))]) rfl ?_
      refine lv_istore (lv' := [(6, .int (nI (qn σ))), (5, .int (nI 0)), (0, .ref sb), (1, .ref bs), (2, .ref (bs + 2)), (3, .ref (bs + 13)), (4, .int (nI i))]) hx hb dL_law_155 hl (by decide) rfl (fun ls hl => ?_)
      refine lv_aload_n hx hb dL_law_157 rfl (lv_at hl 4 rfl) ?_
      refine ro_V (rest := []) S hK (c_X2_thrown l Γ (bs + 2) (nI 0) _ g3 g4 hI2) (cwV 0 hts gL_law_X2_thrown rfl rfl rfl (by decide +kernel) ⟨Nat.le_of_ble_eq_true rfl, Nat.le_of_ble_eq_true rfl⟩) (Ob.recv hK hW.1 rfl) hW rfl hl.1 rfl (Nat.le_of_ble_eq_true rfl) dL_law_158 ⟨by show _ ≤ 601024; omega, by show _ ≤ 7293034; omega⟩ ?_
      refine W.eq (g2 := F0 m 161 ls [.int (nI 0)]) rfl ?_
      refine lv_iload hx hb dL_law_161 (lv_at hl 1 rfl) ?_
      refine x_iceq hx hb (by omega) (by omega) (tgt := 168) dL_law_163 (by decide) (fun c_1 => ?_) (fun c_1 => absurd c_1 (by decide))
      refine lv_iload hx hb dL_law_168 (lv_at hl 1 rfl) ?_
      refine x_ifne hx hb (by omega) (tgt := 185) dL_law_170 (by decide) (fun c_2 => absurd c_2 (by decide)) (fun c_2 => ?_)
      refine lv_aload_n hx hb dL_law_173 rfl (lv_at hl 5 rfl) ?_
      refine lv_iconst (v := nI 0) hx hb dL_law_174 (by decide +kernel) ?_
      refine x_lald hx hb hJ hA3 dL_law_175 ?_
      refine lv_iload hx hb dL_law_176 (lv_at hl 0 rfl) ?_
      refine lv_i2l hx hb dL_law_178 rfl ?_
      refine x_lcmp (v := nI 0) hx hb dL_law_179 (lcmp_eq _) ?_
      refine x_ifeq hx hb (by omega) (tgt := 185) dL_law_180 (by decide) (fun c_3 => ?_) (fun c_3 => absurd c_3 (by decide))
      refine lv_goto (tgt := 1514) hx hb dL_law_185 (by decide) ?_
      refine W.widen (k := C0 + 300) (n := S0 + 2100) (by omega) (by omega) ?_
      exact k (sMake σ (xs (i + 1)).toInt.toNat) ad2 _ _ _ _ ⟨hI2, hy2, hC3, ⟨_, _, hW⟩, hA3, hlo, by have := hF2.1; omega, hlow2⟩ ls (lv_sub hl [2, 3, 4, 5, 6] rfl)
    · skip
      exact absurd hcd2 (by omega)
  · skip
    refine W.eq (g2 := F0 m 143 ls [.int (nI (cd2 (inR (xs (i + 1)) (1 : Nat) (12 : Nat)) (thr σ (qn σ) < 12 ∧ qn σ < 40)))]) rfl ?_
    refine lv_istore (lv' := [(5, .int (nI (cd2 (inR (xs (i + 1)) (1 : Nat) (12 : Nat)) (thr σ (qn σ) < 12 ∧ qn σ < 40)))), (0, .ref sb), (1, .ref bs), (2, .ref (bs + 2)), (3, .ref (bs + 13)), (4, .int (nI i))]) hx hb dL_law_143 hl (by decide) rfl (fun ls hl => ?_)
    refine lv_aload_n hx hb dL_law_145 rfl (lv_at hl 3 rfl) ?_
    refine lv_aload_n hx hb dL_law_146 rfl (lv_at hl 1 rfl) ?_
    refine lv_iload hx hb dL_law_147 (lv_at hl 5 rfl) ?_
    refine lv_iconst (v := nI 1) hx hb dL_law_149 (by decide +kernel) ?_
    refine x_add hx hb dL_law_150 ?_
    refine l_sld hx hb hX hsb (by omega) hS1 (by omega) hL dL_law_151 ?_
    obtain ⟨g1, g2, hW1⟩ := hM1
    refine m_V (rest := []) S hK (c_X2_make l Γ bs (bs + 2) th σ hI (by omega) (xs (i + 1))) (cwV 1 hts gL_law_X2_make rfl rfl rfl (by decide +kernel) ⟨Nat.le_of_ble_eq_true rfl, Nat.le_of_ble_eq_true rfl⟩) (Ob.recv hK hW1.1 rfl) ⟨g1, g2, hW1⟩ rfl hl.1 rfl (Nat.le_of_ble_eq_true rfl) dL_law_152 ⟨by show _ ≤ 601024; omega, by show _ ≤ 7293034; omega⟩ hlo (fun v H2 lc2 hp2 hlo => ?_)
    obtain ⟨hp2, hF2⟩ := hp2
    rcases hp2 with ⟨hcd2, rfl, g3, g4, hW⟩ | ⟨hcd2, rfl, g3, g4, hW⟩
    · skip
      exact absurd hcd2 (by omega)
    · skip
      have hI2 := hI
      have hC3 := hC2.fr hy hF2 (by omega) (by omega)
      have hA3 := hA2.kept (hF2.2 _ hA2.lt (Or.inr (by omega)))
      have hlow2 : ∀ q : Nat, q < bs → H2[q]? = s.heap[q]? := fun q q1 => (hF2.2 q (by omega) (Or.inl (by omega))).trans (hlow1 q q1)
      refine W.eq (g2 := F0 m 155 ls [.int (nI 0)]) rfl ?_
      refine lv_istore (lv' := [(6, .int (nI 0)), (5, .int (nI (cd2 (inR (xs (i + 1)) (1 : Nat) (12 : Nat)) (thr σ (qn σ) < 12 ∧ qn σ < 40)))), (0, .ref sb), (1, .ref bs), (2, .ref (bs + 2)), (3, .ref (bs + 13)), (4, .int (nI i))]) hx hb dL_law_155 hl (by decide) rfl (fun ls hl => ?_)
      refine lv_aload_n hx hb dL_law_157 rfl (lv_at hl 4 rfl) ?_
      refine ro_V (rest := []) S hK (c_X2_thrown l Γ (bs + 2) (nI (cd2 (inR (xs (i + 1)) (1 : Nat) (12 : Nat)) (thr σ (qn σ) < 12 ∧ qn σ < 40))) _ g3 g4 hI2) (cwV 0 hts gL_law_X2_thrown rfl rfl rfl (by decide +kernel) ⟨Nat.le_of_ble_eq_true rfl, Nat.le_of_ble_eq_true rfl⟩) (Ob.recv hK hW.1 rfl) hW rfl hl.1 rfl (Nat.le_of_ble_eq_true rfl) dL_law_158 ⟨by show _ ≤ 601024; omega, by show _ ≤ 7293034; omega⟩ ?_
      refine W.eq (g2 := F0 m 161 ls [.int (nI (cd2 (inR (xs (i + 1)) (1 : Nat) (12 : Nat)) (thr σ (qn σ) < 12 ∧ qn σ < 40)))]) rfl ?_
      refine lv_iload hx hb dL_law_161 (lv_at hl 1 rfl) ?_
      refine lv_icmp_eq (tgt := 168) hx hb dL_law_163 (by decide) (fun c9 => ?_) (fun c9 => absurd rfl c9)
      refine lv_iload hx hb dL_law_168 (lv_at hl 1 rfl) ?_
      refine x_ifne hx hb (Nat.lt_of_le_of_lt (cd2_le _ _) (by decide)) (tgt := 185) dL_law_170 (by decide) (fun c9 => ?_) (fun c9 => absurd c9 (by omega))
      refine lv_goto (tgt := 1514) hx hb dL_law_185 (by decide) ?_
      refine W.widen (k := C0 + 300) (n := S0 + 2100) (by omega) (by omega) ?_
      exact k σ ad _ _ _ _ ⟨hI, hy, hC3, ⟨_, _, hW⟩, hA3, hlo, by have := hF2.1; omega, hlow2⟩ ls (lv_sub hl [2, 3, 4, 5, 6] rfl)
set_option maxHeartbeats 4000000 in
set_option maxRecDepth 100000 in
theorem lawc_carve {p : Program} {l : Launch} {e : Env} {s : State} {m : MethodId} {args : Array Value} {below : List Frame} {meth : Method} {c : Code} {H : Heap} {locs : List Loc} {Q : State → Prop} {Γ : GG} {cJ : ClassId} {bs sb L i C0 S0 : Nat} {xs : Nat → Int32} {σ : St} {ad : Nat → Nat} {th : Int32} {v0 : Int64}
    (hfl : l.stackTraces = false) (S : CallFix p m c cL_law 9 s args wsL_law RL) (hK : xK Γ s) (hT : xT bs s) (hE0 : xE s) (hJ : xJ cJ s) (hX : va_X sb L xs s s.heap) (hsb : sb < s.heap.size) (hbs : s.heap.size = bs) (hL : L ≤ 2560) (hi : i + 5 ≤ L) (hC0 : C0 + 300 ≤ 601024) (hS0 : S0 + 2100 ≤ 7293034) (hLI : LI Γ cJ bs s σ ad th v0 H locs)
    (k : ∀ (σ' : St) (ad' : Nat → Nat) (th' : Int32) (v' : Int64) (H' : Heap) (locs' : List Loc), LI Γ cJ bs s σ' ad' th' v' H' locs' → ∀ ls : Array Slot, lv_has ls 9 [(0, .ref sb), (1, .ref bs), (2, .ref (bs + 2)), (3, .ref (bs + 13)), (4, .int (nI i))] → W p l e room_1 s m args below meth c H' locs' (C0 + 300) (S0 + 2100) Q (F0 m 1514 ls []))
    (ls : Array Slot) (hl : lv_has ls 9 [(0, .ref sb), (1, .ref bs), (2, .ref (bs + 2)), (3, .ref (bs + 13)), (4, .int (nI i))]) : W p l e room_1 s m args below meth c H locs C0 S0 Q (F0 m 188 ls []) := by
  obtain ⟨hx, hb, hml, hown, hts⟩ := id S
  obtain ⟨hI, hy, hC, hM, hA, hlo, hsz, hlow⟩ := hLI
  have hS9 := LI.S hbs hlo hsz hlow
  refine lv_aload_n hx hb dL_law_188 rfl (lv_at hl 1 rfl) ?_
  refine lv_aload_n hx hb dL_law_189 rfl (lv_at hl 0 rfl) ?_
  refine lv_iload hx hb dL_law_190 (lv_at hl 4 rfl) ?_
  refine lv_iconst (v := nI 1) hx hb dL_law_192 (by decide +kernel) ?_
  refine x_add hx hb dL_law_193 ?_
  refine l_sld hx hb hX hsb (by omega) hS9 (by omega) hL dL_law_194 ?_
  refine lv_aload_n hx hb dL_law_195 rfl (lv_at hl 0 rfl) ?_
  refine lv_iload hx hb dL_law_196 (lv_at hl 4 rfl) ?_
  refine lv_iconst (v := nI 2) hx hb dL_law_198 (by decide +kernel) ?_
  refine x_add hx hb dL_law_199 ?_
  refine l_sld hx hb hX hsb (by omega) hS9 (by omega) hL dL_law_200 ?_
  refine lv_aload_n hx hb dL_law_201 rfl (lv_at hl 0 rfl) ?_
  refine lv_iload hx hb dL_law_202 (lv_at hl 4 rfl) ?_
  refine lv_iconst (v := nI 3) hx hb dL_law_204 (by decide +kernel) ?_
  refine x_add hx hb dL_law_205 ?_
  refine l_sld hx hb hX hsb (by omega) hS9 (by omega) hL dL_law_206 ?_
  refine lv_aload_n hx hb dL_law_207 rfl (lv_at hl 0 rfl) ?_
  refine lv_iload hx hb dL_law_208 (lv_at hl 4 rfl) ?_
  refine lv_iconst (v := nI 4) hx hb dL_law_210 (by decide +kernel) ?_
  refine x_add hx hb dL_law_211 ?_
  refine l_sld hx hb hX hsb (by omega) hS9 (by omega) hL dL_law_212 ?_
  refine lv_aload_n hx hb dL_law_213 rfl (lv_at hl 3 rfl) ?_
  refine l_S (rest := []) S hK hT hE0 hJ hlow (c_L_carve l hfl Γ cJ bs bs (bs + 13) (bs + 14) σ ad hI (xs (i + 1)) (xs (i + 2)) (xs (i + 3)) (xs (i + 4)) hy (by omega) (by omega) (Nat.le_refl _) v0) (vx_cwSW 6 hts gL_law_L_carve rfl rfl rfl (by decide +kernel) ⟨Nat.le_of_ble_eq_true rfl, Nat.le_of_ble_eq_true rfl⟩) ⟨hC, hsz, hA⟩ rfl hl.1 rfl (Nat.le_of_ble_eq_true rfl) dL_law_214 ⟨by show _ ≤ 601024; omega, by show _ ≤ 7293034; omega⟩ hlo (fun v H1 lc1 hp hlo => ?_)
  obtain ⟨hp, hz1, ho1⟩ := hp
  have hM1 : MX Γ (bs + 2) th σ H1 := hM.kept (fun q q1 q2 => ho1 q (by omega) (by omega) (by omega) (by omega) (by omega))
  have hlow1 : ∀ q : Nat, q < bs → H1[q]? = s.heap[q]? := fun q q1 => (ho1 q (by omega) (by omega) (by omega) (by omega) (by omega)).trans (hlow q q1)
  have hS1 := LI.S hbs hlo (show bs + 14 ≤ H1.size by omega) hlow1
  rcases hp with ⟨hcd, rfl, ⟨ad2, hC2, hy2⟩, hA2⟩ | ⟨hcd, rfl, hC2, hA2⟩
  · skip
    refine W.eq (g2 := F0 m 217 ls [.int (nI 0)]) rfl ?_
    refine lv_istore (lv' := [(5, .int (nI 0)), (0, .ref sb), (1, .ref bs), (2, .ref (bs + 2)), (3, .ref (bs + 13)), (4, .int (nI i))]) hx hb dL_law_217 hl (by decide) rfl (fun ls hl => ?_)
    refine lv_aload_n hx hb dL_law_219 rfl (lv_at hl 3 rfl) ?_
    refine lv_aload_n hx hb dL_law_220 rfl (lv_at hl 1 rfl) ?_
    refine lv_iload hx hb dL_law_221 (lv_at hl 5 rfl) ?_
    refine lv_iconst (v := nI 1) hx hb dL_law_223 (by decide +kernel) ?_
    refine x_add hx hb dL_law_224 ?_
    refine l_sld hx hb hX hsb (by omega) hS1 (by omega) hL dL_law_225 ?_
    refine lv_aload_n hx hb dL_law_226 rfl (lv_at hl 1 rfl) ?_
    refine lv_iload hx hb dL_law_227 (lv_at hl 5 rfl) ?_
    refine lv_iconst (v := nI 2) hx hb dL_law_229 (by decide +kernel) ?_
    refine x_add hx hb dL_law_230 ?_
    refine l_sld hx hb hX hsb (by omega) hS1 (by omega) hL dL_law_231 ?_
    refine lv_aload_n hx hb dL_law_232 rfl (lv_at hl 1 rfl) ?_
    refine lv_iload hx hb dL_law_233 (lv_at hl 5 rfl) ?_
    refine lv_iconst (v := nI 3) hx hb dL_law_235 (by decide +kernel) ?_
    refine x_add hx hb dL_law_236 ?_
    refine l_sld hx hb hX hsb (by omega) hS1 (by omega) hL dL_law_237 ?_
    refine lv_aload_n hx hb dL_law_238 rfl (lv_at hl 1 rfl) ?_
    refine lv_iload hx hb dL_law_239 (lv_at hl 5 rfl) ?_
    refine lv_iconst (v := nI 4) hx hb dL_law_241 (by decide +kernel) ?_
    refine x_add hx hb dL_law_242 ?_
    refine l_sld hx hb hX hsb (by omega) hS1 (by omega) hL dL_law_243 ?_
    obtain ⟨g1, g2, hW1⟩ := hM1
    refine m_V (rest := []) S hK (c_X2_carve l Γ bs (bs + 2) th σ hI (by omega) (xs (i + 1)) (xs (i + 2)) (xs (i + 3)) (xs (i + 4))) (cwV 4 hts gL_law_X2_carve rfl rfl rfl (by decide +kernel) ⟨Nat.le_of_ble_eq_true rfl, Nat.le_of_ble_eq_true rfl⟩) (Ob.recv hK hW1.1 rfl) ⟨g1, g2, hW1⟩ rfl hl.1 rfl (Nat.le_of_ble_eq_true rfl) dL_law_244 ⟨by show _ ≤ 601024; omega, by show _ ≤ 7293034; omega⟩ hlo (fun v H2 lc2 hp2 hlo => ?_)
    obtain ⟨hp2, hF2⟩ := hp2
    rcases hp2 with ⟨hcd2, rfl, g3, g4, hW⟩ | ⟨hcd2, rfl, g3, g4, hW⟩
    · skip
      have hI2 : Iv (o_rune σ (36 * (xs (i + 1)).toInt.toNat + (3 * (xs (i + 3)).toInt.toNat + (xs (i + 2)).toInt.toNat)) ((xs (i + 4)))) := Iv_cv hI hcd
      have hC3 := hC2.fr hy2 hF2 (by omega) (by omega)
      have hA3 := hA2.kept (hF2.2 _ hA2.lt (Or.inr (by omega)))
      have hlow2 : ∀ q : Nat, q < bs → H2[q]? = s.heap[q]? := fun q q1 => (hF2.2 q (by omega) (Or.inl (by omega))).trans (hlow1 q q1)
      refine W.eq (g2 := F0 m 247 ls [.int (rk σ ((xs (i + 1)).toInt.toNat) (3 * (xs (i + 3)).toInt.toNat + (xs (i + 2)).toInt.toNat))]) rfl ?_
      refine lv_istore (lv' := [(6, .int (rk σ ((xs (i + 1)).toInt.toNat) (3 * (xs (i + 3)).toInt.toNat + (xs (i + 2)).toInt.toNat))), (5, .int (nI 0)), (0, .ref sb), (1, .ref bs), (2, .ref (bs + 2)), (3, .ref (bs + 13)), (4, .int (nI i))]) hx hb dL_law_247 hl (by decide) rfl (fun ls hl => ?_)
      refine lv_aload_n hx hb dL_law_249 rfl (lv_at hl 4 rfl) ?_
      refine ro_V (rest := []) S hK (c_X2_thrown l Γ (bs + 2) (nI 0) _ g3 g4 hI2) (cwV 0 hts gL_law_X2_thrown rfl rfl rfl (by decide +kernel) ⟨Nat.le_of_ble_eq_true rfl, Nat.le_of_ble_eq_true rfl⟩) (Ob.recv hK hW.1 rfl) hW rfl hl.1 rfl (Nat.le_of_ble_eq_true rfl) dL_law_250 ⟨by show _ ≤ 601024; omega, by show _ ≤ 7293034; omega⟩ ?_
      refine W.eq (g2 := F0 m 253 ls [.int (nI 0)]) rfl ?_
      refine lv_iload hx hb dL_law_253 (lv_at hl 1 rfl) ?_
      refine x_iceq hx hb (by omega) (by omega) (tgt := 260) dL_law_255 (by decide) (fun c_1 => ?_) (fun c_1 => absurd c_1 (by decide))
      refine lv_iload hx hb dL_law_260 (lv_at hl 1 rfl) ?_
      refine x_ifne hx hb (by omega) (tgt := 277) dL_law_262 (by decide) (fun c_2 => absurd c_2 (by decide)) (fun c_2 => ?_)
      refine lv_aload_n hx hb dL_law_265 rfl (lv_at hl 5 rfl) ?_
      refine lv_iconst (v := nI 0) hx hb dL_law_266 (by decide +kernel) ?_
      refine x_lald hx hb hJ hA3 dL_law_267 ?_
      refine lv_iload hx hb dL_law_268 (lv_at hl 0 rfl) ?_
      refine lv_i2l hx hb dL_law_270 rfl ?_
      refine x_lcmp (v := nI 0) hx hb dL_law_271 (lcmp_eq _) ?_
      refine x_ifeq hx hb (by omega) (tgt := 277) dL_law_272 (by decide) (fun c_3 => ?_) (fun c_3 => absurd c_3 (by decide))
      refine lv_goto (tgt := 1514) hx hb dL_law_277 (by decide) ?_
      refine W.widen (k := C0 + 300) (n := S0 + 2100) (by omega) (by omega) ?_
      exact k (o_rune σ (36 * (xs (i + 1)).toInt.toNat + (3 * (xs (i + 3)).toInt.toNat + (xs (i + 2)).toInt.toNat)) ((xs (i + 4)))) ad2 _ _ _ _ ⟨hI2, hy2, hC3, ⟨_, _, hW⟩, hA3, hlo, by have := hF2.1; omega, hlow2⟩ ls (lv_sub hl [2, 3, 4, 5, 6] rfl)
    · skip
      exact absurd hcd2 (by omega)
  · skip
    refine W.eq (g2 := F0 m 217 ls [.int (nI (cd3 (spotP σ (xs (i + 1)) (xs (i + 2)) (xs (i + 3))) (inb (xs (i + 4)) 24) (qg σ ((xs (i + 1)).toInt.toNat) = 0)))]) rfl ?_
    refine lv_istore (lv' := [(5, .int (nI (cd3 (spotP σ (xs (i + 1)) (xs (i + 2)) (xs (i + 3))) (inb (xs (i + 4)) 24) (qg σ ((xs (i + 1)).toInt.toNat) = 0)))), (0, .ref sb), (1, .ref bs), (2, .ref (bs + 2)), (3, .ref (bs + 13)), (4, .int (nI i))]) hx hb dL_law_217 hl (by decide) rfl (fun ls hl => ?_)
    refine lv_aload_n hx hb dL_law_219 rfl (lv_at hl 3 rfl) ?_
    refine lv_aload_n hx hb dL_law_220 rfl (lv_at hl 1 rfl) ?_
    refine lv_iload hx hb dL_law_221 (lv_at hl 5 rfl) ?_
    refine lv_iconst (v := nI 1) hx hb dL_law_223 (by decide +kernel) ?_
    refine x_add hx hb dL_law_224 ?_
    refine l_sld hx hb hX hsb (by omega) hS1 (by omega) hL dL_law_225 ?_
    refine lv_aload_n hx hb dL_law_226 rfl (lv_at hl 1 rfl) ?_
    refine lv_iload hx hb dL_law_227 (lv_at hl 5 rfl) ?_
    refine lv_iconst (v := nI 2) hx hb dL_law_229 (by decide +kernel) ?_
    refine x_add hx hb dL_law_230 ?_
    refine l_sld hx hb hX hsb (by omega) hS1 (by omega) hL dL_law_231 ?_
    refine lv_aload_n hx hb dL_law_232 rfl (lv_at hl 1 rfl) ?_
    refine lv_iload hx hb dL_law_233 (lv_at hl 5 rfl) ?_
    refine lv_iconst (v := nI 3) hx hb dL_law_235 (by decide +kernel) ?_
    refine x_add hx hb dL_law_236 ?_
    refine l_sld hx hb hX hsb (by omega) hS1 (by omega) hL dL_law_237 ?_
    refine lv_aload_n hx hb dL_law_238 rfl (lv_at hl 1 rfl) ?_
    refine lv_iload hx hb dL_law_239 (lv_at hl 5 rfl) ?_
    refine lv_iconst (v := nI 4) hx hb dL_law_241 (by decide +kernel) ?_
    refine x_add hx hb dL_law_242 ?_
    refine l_sld hx hb hX hsb (by omega) hS1 (by omega) hL dL_law_243 ?_
    obtain ⟨g1, g2, hW1⟩ := hM1
    refine m_V (rest := []) S hK (c_X2_carve l Γ bs (bs + 2) th σ hI (by omega) (xs (i + 1)) (xs (i + 2)) (xs (i + 3)) (xs (i + 4))) (cwV 4 hts gL_law_X2_carve rfl rfl rfl (by decide +kernel) ⟨Nat.le_of_ble_eq_true rfl, Nat.le_of_ble_eq_true rfl⟩) (Ob.recv hK hW1.1 rfl) ⟨g1, g2, hW1⟩ rfl hl.1 rfl (Nat.le_of_ble_eq_true rfl) dL_law_244 ⟨by show _ ≤ 601024; omega, by show _ ≤ 7293034; omega⟩ hlo (fun v H2 lc2 hp2 hlo => ?_)
    obtain ⟨hp2, hF2⟩ := hp2
    rcases hp2 with ⟨hcd2, rfl, g3, g4, hW⟩ | ⟨hcd2, rfl, g3, g4, hW⟩
    · skip
      exact absurd hcd2 (by omega)
    · skip
      have hI2 := hI
      have hC3 := hC2.fr hy hF2 (by omega) (by omega)
      have hA3 := hA2.kept (hF2.2 _ hA2.lt (Or.inr (by omega)))
      have hlow2 : ∀ q : Nat, q < bs → H2[q]? = s.heap[q]? := fun q q1 => (hF2.2 q (by omega) (Or.inl (by omega))).trans (hlow1 q q1)
      refine W.eq (g2 := F0 m 247 ls [.int (nI 0)]) rfl ?_
      refine lv_istore (lv' := [(6, .int (nI 0)), (5, .int (nI (cd3 (spotP σ (xs (i + 1)) (xs (i + 2)) (xs (i + 3))) (inb (xs (i + 4)) 24) (qg σ ((xs (i + 1)).toInt.toNat) = 0)))), (0, .ref sb), (1, .ref bs), (2, .ref (bs + 2)), (3, .ref (bs + 13)), (4, .int (nI i))]) hx hb dL_law_247 hl (by decide) rfl (fun ls hl => ?_)
      refine lv_aload_n hx hb dL_law_249 rfl (lv_at hl 4 rfl) ?_
      refine ro_V (rest := []) S hK (c_X2_thrown l Γ (bs + 2) (nI (cd3 (spotP σ (xs (i + 1)) (xs (i + 2)) (xs (i + 3))) (inb (xs (i + 4)) 24) (qg σ ((xs (i + 1)).toInt.toNat) = 0))) _ g3 g4 hI2) (cwV 0 hts gL_law_X2_thrown rfl rfl rfl (by decide +kernel) ⟨Nat.le_of_ble_eq_true rfl, Nat.le_of_ble_eq_true rfl⟩) (Ob.recv hK hW.1 rfl) hW rfl hl.1 rfl (Nat.le_of_ble_eq_true rfl) dL_law_250 ⟨by show _ ≤ 601024; omega, by show _ ≤ 7293034; omega⟩ ?_
      refine W.eq (g2 := F0 m 253 ls [.int (nI (cd3 (spotP σ (xs (i + 1)) (xs (i + 2)) (xs (i + 3))) (inb (xs (i + 4)) 24) (qg σ ((xs (i + 1)).toInt.toNat) = 0)))]) rfl ?_
      refine lv_iload hx hb dL_law_253 (lv_at hl 1 rfl) ?_
      refine lv_icmp_eq (tgt := 260) hx hb dL_law_255 (by decide) (fun c9 => ?_) (fun c9 => absurd rfl c9)
      refine lv_iload hx hb dL_law_260 (lv_at hl 1 rfl) ?_
      refine x_ifne hx hb (Nat.lt_of_le_of_lt (cd3_le _ _ _) (by decide)) (tgt := 277) dL_law_262 (by decide) (fun c9 => ?_) (fun c9 => absurd c9 (by omega))
      refine lv_goto (tgt := 1514) hx hb dL_law_277 (by decide) ?_
      refine W.widen (k := C0 + 300) (n := S0 + 2100) (by omega) (by omega) ?_
      exact k σ ad _ _ _ _ ⟨hI, hy, hC3, ⟨_, _, hW⟩, hA3, hlo, by have := hF2.1; omega, hlow2⟩ ls (lv_sub hl [2, 3, 4, 5, 6] rfl)
set_option maxHeartbeats 4000000 in
set_option maxRecDepth 100000 in
theorem lawc_scrape {p : Program} {l : Launch} {e : Env} {s : State} {m : MethodId} {args : Array Value} {below : List Frame} {meth : Method} {c : Code} {H : Heap} {locs : List Loc} {Q : State → Prop} {Γ : GG} {cJ : ClassId} {bs sb L i C0 S0 : Nat} {xs : Nat → Int32} {σ : St} {ad : Nat → Nat} {th : Int32} {v0 : Int64}
    (hfl : l.stackTraces = false) (S : CallFix p m c cL_law 9 s args wsL_law RL) (hK : xK Γ s) (hT : xT bs s) (hE0 : xE s) (hJ : xJ cJ s) (hX : va_X sb L xs s s.heap) (hsb : sb < s.heap.size) (hbs : s.heap.size = bs) (hL : L ≤ 2560) (hi : i + 5 ≤ L) (hC0 : C0 + 300 ≤ 601024) (hS0 : S0 + 2100 ≤ 7293034) (hLI : LI Γ cJ bs s σ ad th v0 H locs)
    (k : ∀ (σ' : St) (ad' : Nat → Nat) (th' : Int32) (v' : Int64) (H' : Heap) (locs' : List Loc), LI Γ cJ bs s σ' ad' th' v' H' locs' → ∀ ls : Array Slot, lv_has ls 9 [(0, .ref sb), (1, .ref bs), (2, .ref (bs + 2)), (3, .ref (bs + 13)), (4, .int (nI i))] → W p l e room_1 s m args below meth c H' locs' (C0 + 300) (S0 + 2100) Q (F0 m 1514 ls []))
    (ls : Array Slot) (hl : lv_has ls 9 [(0, .ref sb), (1, .ref bs), (2, .ref (bs + 2)), (3, .ref (bs + 13)), (4, .int (nI i))]) : W p l e room_1 s m args below meth c H locs C0 S0 Q (F0 m 280 ls []) := by
  obtain ⟨hx, hb, hml, hown, hts⟩ := id S
  obtain ⟨hI, hy, hC, hM, hA, hlo, hsz, hlow⟩ := hLI
  have hS9 := LI.S hbs hlo hsz hlow
  refine lv_aload_n hx hb dL_law_280 rfl (lv_at hl 1 rfl) ?_
  refine lv_aload_n hx hb dL_law_281 rfl (lv_at hl 0 rfl) ?_
  refine lv_iload hx hb dL_law_282 (lv_at hl 4 rfl) ?_
  refine lv_iconst (v := nI 1) hx hb dL_law_284 (by decide +kernel) ?_
  refine x_add hx hb dL_law_285 ?_
  refine l_sld hx hb hX hsb (by omega) hS9 (by omega) hL dL_law_286 ?_
  refine lv_aload_n hx hb dL_law_287 rfl (lv_at hl 0 rfl) ?_
  refine lv_iload hx hb dL_law_288 (lv_at hl 4 rfl) ?_
  refine lv_iconst (v := nI 2) hx hb dL_law_290 (by decide +kernel) ?_
  refine x_add hx hb dL_law_291 ?_
  refine l_sld hx hb hX hsb (by omega) hS9 (by omega) hL dL_law_292 ?_
  refine lv_aload_n hx hb dL_law_293 rfl (lv_at hl 0 rfl) ?_
  refine lv_iload hx hb dL_law_294 (lv_at hl 4 rfl) ?_
  refine lv_iconst (v := nI 3) hx hb dL_law_296 (by decide +kernel) ?_
  refine x_add hx hb dL_law_297 ?_
  refine l_sld hx hb hX hsb (by omega) hS9 (by omega) hL dL_law_298 ?_
  refine lv_aload_n hx hb dL_law_299 rfl (lv_at hl 3 rfl) ?_
  refine l_S (rest := []) S hK hT hE0 hJ hlow (c_L_scrape l hfl Γ cJ bs bs (bs + 13) (bs + 14) σ ad hI (xs (i + 1)) (xs (i + 2)) (xs (i + 3)) hy (by omega) (by omega) (Nat.le_refl _) v0) (vx_cwSW 5 hts gL_law_L_scrape rfl rfl rfl (by decide +kernel) ⟨Nat.le_of_ble_eq_true rfl, Nat.le_of_ble_eq_true rfl⟩) ⟨hC, hsz, hA⟩ rfl hl.1 rfl (Nat.le_of_ble_eq_true rfl) dL_law_300 ⟨by show _ ≤ 601024; omega, by show _ ≤ 7293034; omega⟩ hlo (fun v H1 lc1 hp hlo => ?_)
  obtain ⟨hp, hz1, ho1⟩ := hp
  have hM1 : MX Γ (bs + 2) th σ H1 := hM.kept (fun q q1 q2 => ho1 q (by omega) (by omega) (by omega) (by omega) (by omega))
  have hlow1 : ∀ q : Nat, q < bs → H1[q]? = s.heap[q]? := fun q q1 => (ho1 q (by omega) (by omega) (by omega) (by omega) (by omega)).trans (hlow q q1)
  have hS1 := LI.S hbs hlo (show bs + 14 ≤ H1.size by omega) hlow1
  rcases hp with ⟨hcd, rfl, ⟨ad2, hC2, hy2⟩, hA2⟩ | ⟨hcd, rfl, hC2, hA2⟩
  · skip
    refine W.eq (g2 := F0 m 303 ls [.int (nI 0)]) rfl ?_
    refine lv_istore (lv' := [(5, .int (nI 0)), (0, .ref sb), (1, .ref bs), (2, .ref (bs + 2)), (3, .ref (bs + 13)), (4, .int (nI i))]) hx hb dL_law_303 hl (by decide) rfl (fun ls hl => ?_)
    refine lv_aload_n hx hb dL_law_305 rfl (lv_at hl 3 rfl) ?_
    refine lv_aload_n hx hb dL_law_306 rfl (lv_at hl 1 rfl) ?_
    refine lv_iload hx hb dL_law_307 (lv_at hl 5 rfl) ?_
    refine lv_iconst (v := nI 1) hx hb dL_law_309 (by decide +kernel) ?_
    refine x_add hx hb dL_law_310 ?_
    refine l_sld hx hb hX hsb (by omega) hS1 (by omega) hL dL_law_311 ?_
    refine lv_aload_n hx hb dL_law_312 rfl (lv_at hl 1 rfl) ?_
    refine lv_iload hx hb dL_law_313 (lv_at hl 5 rfl) ?_
    refine lv_iconst (v := nI 2) hx hb dL_law_315 (by decide +kernel) ?_
    refine x_add hx hb dL_law_316 ?_
    refine l_sld hx hb hX hsb (by omega) hS1 (by omega) hL dL_law_317 ?_
    refine lv_aload_n hx hb dL_law_318 rfl (lv_at hl 1 rfl) ?_
    refine lv_iload hx hb dL_law_319 (lv_at hl 5 rfl) ?_
    refine lv_iconst (v := nI 3) hx hb dL_law_321 (by decide +kernel) ?_
    refine x_add hx hb dL_law_322 ?_
    refine l_sld hx hb hX hsb (by omega) hS1 (by omega) hL dL_law_323 ?_
    obtain ⟨g1, g2, hW1⟩ := hM1
    refine m_V (rest := []) S hK (c_X2_scrape l Γ bs (bs + 2) th σ hI (by omega) (xs (i + 1)) (xs (i + 2)) (xs (i + 3))) (cwV 3 hts gL_law_X2_scrape rfl rfl rfl (by decide +kernel) ⟨Nat.le_of_ble_eq_true rfl, Nat.le_of_ble_eq_true rfl⟩) (Ob.recv hK hW1.1 rfl) ⟨g1, g2, hW1⟩ rfl hl.1 rfl (Nat.le_of_ble_eq_true rfl) dL_law_324 ⟨by show _ ≤ 601024; omega, by show _ ≤ 7293034; omega⟩ hlo (fun v H2 lc2 hp2 hlo => ?_)
    obtain ⟨hp2, hF2⟩ := hp2
    rcases hp2 with ⟨hcd2, rfl, g3, g4, hW⟩ | ⟨hcd2, rfl, g3, g4, hW⟩
    · skip
      have hI2 : Iv (o_rune σ (36 * (xs (i + 1)).toInt.toNat + (3 * (xs (i + 3)).toInt.toNat + (xs (i + 2)).toInt.toNat)) (-1)) := Iv_sc hI hcd
      have hC3 := hC2.fr hy2 hF2 (by omega) (by omega)
      have hA3 := hA2.kept (hF2.2 _ hA2.lt (Or.inr (by omega)))
      have hlow2 : ∀ q : Nat, q < bs → H2[q]? = s.heap[q]? := fun q q1 => (hF2.2 q (by omega) (Or.inl (by omega))).trans (hlow1 q q1)
      refine W.eq (g2 := F0 m 327 ls [.int (rk σ ((xs (i + 1)).toInt.toNat) (3 * (xs (i + 3)).toInt.toNat + (xs (i + 2)).toInt.toNat))]) rfl ?_
      refine lv_istore (lv' := [(6, .int (rk σ ((xs (i + 1)).toInt.toNat) (3 * (xs (i + 3)).toInt.toNat + (xs (i + 2)).toInt.toNat))), (5, .int (nI 0)), (0, .ref sb), (1, .ref bs), (2, .ref (bs + 2)), (3, .ref (bs + 13)), (4, .int (nI i))]) hx hb dL_law_327 hl (by decide) rfl (fun ls hl => ?_)
      refine lv_aload_n hx hb dL_law_329 rfl (lv_at hl 4 rfl) ?_
      refine ro_V (rest := []) S hK (c_X2_thrown l Γ (bs + 2) (nI 0) _ g3 g4 hI2) (cwV 0 hts gL_law_X2_thrown rfl rfl rfl (by decide +kernel) ⟨Nat.le_of_ble_eq_true rfl, Nat.le_of_ble_eq_true rfl⟩) (Ob.recv hK hW.1 rfl) hW rfl hl.1 rfl (Nat.le_of_ble_eq_true rfl) dL_law_330 ⟨by show _ ≤ 601024; omega, by show _ ≤ 7293034; omega⟩ ?_
      refine W.eq (g2 := F0 m 333 ls [.int (nI 0)]) rfl ?_
      refine lv_iload hx hb dL_law_333 (lv_at hl 1 rfl) ?_
      refine x_iceq hx hb (by omega) (by omega) (tgt := 340) dL_law_335 (by decide) (fun c_1 => ?_) (fun c_1 => absurd c_1 (by decide))
      refine lv_iload hx hb dL_law_340 (lv_at hl 1 rfl) ?_
      refine x_ifne hx hb (by omega) (tgt := 357) dL_law_342 (by decide) (fun c_2 => absurd c_2 (by decide)) (fun c_2 => ?_)
      refine lv_aload_n hx hb dL_law_345 rfl (lv_at hl 5 rfl) ?_
      refine lv_iconst (v := nI 0) hx hb dL_law_346 (by decide +kernel) ?_
      refine x_lald hx hb hJ hA3 dL_law_347 ?_
      refine lv_iload hx hb dL_law_348 (lv_at hl 0 rfl) ?_
      refine lv_i2l hx hb dL_law_350 rfl ?_
      refine x_lcmp (v := nI 0) hx hb dL_law_351 (lcmp_eq _) ?_
      refine x_ifeq hx hb (by omega) (tgt := 357) dL_law_352 (by decide) (fun c_3 => ?_) (fun c_3 => absurd c_3 (by decide))
      refine lv_goto (tgt := 1514) hx hb dL_law_357 (by decide) ?_
      refine W.widen (k := C0 + 300) (n := S0 + 2100) (by omega) (by omega) ?_
      exact k (o_rune σ (36 * (xs (i + 1)).toInt.toNat + (3 * (xs (i + 3)).toInt.toNat + (xs (i + 2)).toInt.toNat)) (-1)) ad2 _ _ _ _ ⟨hI2, hy2, hC3, ⟨_, _, hW⟩, hA3, hlo, by have := hF2.1; omega, hlow2⟩ ls (lv_sub hl [2, 3, 4, 5, 6] rfl)
    · skip
      exact absurd hcd2 (by omega)
  · skip
    refine W.eq (g2 := F0 m 303 ls [.int (nI (cd2 (spotP σ (xs (i + 1)) (xs (i + 2)) (xs (i + 3))) (qg σ ((xs (i + 1)).toInt.toNat) = 0 ∧ ¬ rk σ ((xs (i + 1)).toInt.toNat) (3 * (xs (i + 3)).toInt.toNat + (xs (i + 2)).toInt.toNat) = -1)))]) rfl ?_
    refine lv_istore (lv' := [(5, .int (nI (cd2 (spotP σ (xs (i + 1)) (xs (i + 2)) (xs (i + 3))) (qg σ ((xs (i + 1)).toInt.toNat) = 0 ∧ ¬ rk σ ((xs (i + 1)).toInt.toNat) (3 * (xs (i + 3)).toInt.toNat + (xs (i + 2)).toInt.toNat) = -1)))), (0, .ref sb), (1, .ref bs), (2, .ref (bs + 2)), (3, .ref (bs + 13)), (4, .int (nI i))]) hx hb dL_law_303 hl (by decide) rfl (fun ls hl => ?_)
    refine lv_aload_n hx hb dL_law_305 rfl (lv_at hl 3 rfl) ?_
    refine lv_aload_n hx hb dL_law_306 rfl (lv_at hl 1 rfl) ?_
    refine lv_iload hx hb dL_law_307 (lv_at hl 5 rfl) ?_
    refine lv_iconst (v := nI 1) hx hb dL_law_309 (by decide +kernel) ?_
    refine x_add hx hb dL_law_310 ?_
    refine l_sld hx hb hX hsb (by omega) hS1 (by omega) hL dL_law_311 ?_
    refine lv_aload_n hx hb dL_law_312 rfl (lv_at hl 1 rfl) ?_
    refine lv_iload hx hb dL_law_313 (lv_at hl 5 rfl) ?_
    refine lv_iconst (v := nI 2) hx hb dL_law_315 (by decide +kernel) ?_
    refine x_add hx hb dL_law_316 ?_
    refine l_sld hx hb hX hsb (by omega) hS1 (by omega) hL dL_law_317 ?_
    refine lv_aload_n hx hb dL_law_318 rfl (lv_at hl 1 rfl) ?_
    refine lv_iload hx hb dL_law_319 (lv_at hl 5 rfl) ?_
    refine lv_iconst (v := nI 3) hx hb dL_law_321 (by decide +kernel) ?_
    refine x_add hx hb dL_law_322 ?_
    refine l_sld hx hb hX hsb (by omega) hS1 (by omega) hL dL_law_323 ?_
    obtain ⟨g1, g2, hW1⟩ := hM1
    refine m_V (rest := []) S hK (c_X2_scrape l Γ bs (bs + 2) th σ hI (by omega) (xs (i + 1)) (xs (i + 2)) (xs (i + 3))) (cwV 3 hts gL_law_X2_scrape rfl rfl rfl (by decide +kernel) ⟨Nat.le_of_ble_eq_true rfl, Nat.le_of_ble_eq_true rfl⟩) (Ob.recv hK hW1.1 rfl) ⟨g1, g2, hW1⟩ rfl hl.1 rfl (Nat.le_of_ble_eq_true rfl) dL_law_324 ⟨by show _ ≤ 601024; omega, by show _ ≤ 7293034; omega⟩ hlo (fun v H2 lc2 hp2 hlo => ?_)
    obtain ⟨hp2, hF2⟩ := hp2
    rcases hp2 with ⟨hcd2, rfl, g3, g4, hW⟩ | ⟨hcd2, rfl, g3, g4, hW⟩
    · skip
      exact absurd hcd2 (by omega)
    · skip
      have hI2 := hI
      have hC3 := hC2.fr hy hF2 (by omega) (by omega)
      have hA3 := hA2.kept (hF2.2 _ hA2.lt (Or.inr (by omega)))
      have hlow2 : ∀ q : Nat, q < bs → H2[q]? = s.heap[q]? := fun q q1 => (hF2.2 q (by omega) (Or.inl (by omega))).trans (hlow1 q q1)
      refine W.eq (g2 := F0 m 327 ls [.int (nI 0)]) rfl ?_
      refine lv_istore (lv' := [(6, .int (nI 0)), (5, .int (nI (cd2 (spotP σ (xs (i + 1)) (xs (i + 2)) (xs (i + 3))) (qg σ ((xs (i + 1)).toInt.toNat) = 0 ∧ ¬ rk σ ((xs (i + 1)).toInt.toNat) (3 * (xs (i + 3)).toInt.toNat + (xs (i + 2)).toInt.toNat) = -1)))), (0, .ref sb), (1, .ref bs), (2, .ref (bs + 2)), (3, .ref (bs + 13)), (4, .int (nI i))]) hx hb dL_law_327 hl (by decide) rfl (fun ls hl => ?_)
      refine lv_aload_n hx hb dL_law_329 rfl (lv_at hl 4 rfl) ?_
      refine ro_V (rest := []) S hK (c_X2_thrown l Γ (bs + 2) (nI (cd2 (spotP σ (xs (i + 1)) (xs (i + 2)) (xs (i + 3))) (qg σ ((xs (i + 1)).toInt.toNat) = 0 ∧ ¬ rk σ ((xs (i + 1)).toInt.toNat) (3 * (xs (i + 3)).toInt.toNat + (xs (i + 2)).toInt.toNat) = -1))) _ g3 g4 hI2) (cwV 0 hts gL_law_X2_thrown rfl rfl rfl (by decide +kernel) ⟨Nat.le_of_ble_eq_true rfl, Nat.le_of_ble_eq_true rfl⟩) (Ob.recv hK hW.1 rfl) hW rfl hl.1 rfl (Nat.le_of_ble_eq_true rfl) dL_law_330 ⟨by show _ ≤ 601024; omega, by show _ ≤ 7293034; omega⟩ ?_
      refine W.eq (g2 := F0 m 333 ls [.int (nI (cd2 (spotP σ (xs (i + 1)) (xs (i + 2)) (xs (i + 3))) (qg σ ((xs (i + 1)).toInt.toNat) = 0 ∧ ¬ rk σ ((xs (i + 1)).toInt.toNat) (3 * (xs (i + 3)).toInt.toNat + (xs (i + 2)).toInt.toNat) = -1)))]) rfl ?_
      refine lv_iload hx hb dL_law_333 (lv_at hl 1 rfl) ?_
      refine lv_icmp_eq (tgt := 340) hx hb dL_law_335 (by decide) (fun c9 => ?_) (fun c9 => absurd rfl c9)
      refine lv_iload hx hb dL_law_340 (lv_at hl 1 rfl) ?_
      refine x_ifne hx hb (Nat.lt_of_le_of_lt (cd2_le _ _) (by decide)) (tgt := 357) dL_law_342 (by decide) (fun c9 => ?_) (fun c9 => absurd c9 (by omega))
      refine lv_goto (tgt := 1514) hx hb dL_law_357 (by decide) ?_
      refine W.widen (k := C0 + 300) (n := S0 + 2100) (by omega) (by omega) ?_
      exact k σ ad _ _ _ _ ⟨hI, hy, hC3, ⟨_, _, hW⟩, hA3, hlo, by have := hF2.1; omega, hlow2⟩ ls (lv_sub hl [2, 3, 4, 5, 6] rfl)
set_option maxHeartbeats 4000000 in
set_option maxRecDepth 100000 in
theorem lawc_roll {p : Program} {l : Launch} {e : Env} {s : State} {m : MethodId} {args : Array Value} {below : List Frame} {meth : Method} {c : Code} {H : Heap} {locs : List Loc} {Q : State → Prop} {Γ : GG} {cJ : ClassId} {bs sb L i C0 S0 : Nat} {xs : Nat → Int32} {σ : St} {ad : Nat → Nat} {th : Int32} {v0 : Int64}
    (hfl : l.stackTraces = false) (S : CallFix p m c cL_law 9 s args wsL_law RL) (hK : xK Γ s) (hT : xT bs s) (hE0 : xE s) (hJ : xJ cJ s) (hX : va_X sb L xs s s.heap) (hsb : sb < s.heap.size) (hbs : s.heap.size = bs) (hL : L ≤ 2560) (hi : i + 5 ≤ L) (hC0 : C0 + 300 ≤ 601024) (hS0 : S0 + 2100 ≤ 7293034) (hLI : LI Γ cJ bs s σ ad th v0 H locs)
    (k : ∀ (σ' : St) (ad' : Nat → Nat) (th' : Int32) (v' : Int64) (H' : Heap) (locs' : List Loc), LI Γ cJ bs s σ' ad' th' v' H' locs' → ∀ ls : Array Slot, lv_has ls 9 [(0, .ref sb), (1, .ref bs), (2, .ref (bs + 2)), (3, .ref (bs + 13)), (4, .int (nI i))] → W p l e room_1 s m args below meth c H' locs' (C0 + 300) (S0 + 2100) Q (F0 m 1514 ls []))
    (ls : Array Slot) (hl : lv_has ls 9 [(0, .ref sb), (1, .ref bs), (2, .ref (bs + 2)), (3, .ref (bs + 13)), (4, .int (nI i))]) : W p l e room_1 s m args below meth c H locs C0 S0 Q (F0 m 360 ls []) := by
  obtain ⟨hx, hb, hml, hown, hts⟩ := id S
  obtain ⟨hI, hy, hC, hM, hA, hlo, hsz, hlow⟩ := hLI
  have hS9 := LI.S hbs hlo hsz hlow
  refine lv_aload_n hx hb dL_law_360 rfl (lv_at hl 1 rfl) ?_
  refine lv_aload_n hx hb dL_law_361 rfl (lv_at hl 0 rfl) ?_
  refine lv_iload hx hb dL_law_362 (lv_at hl 4 rfl) ?_
  refine lv_iconst (v := nI 1) hx hb dL_law_364 (by decide +kernel) ?_
  refine x_add hx hb dL_law_365 ?_
  refine l_sld hx hb hX hsb (by omega) hS9 (by omega) hL dL_law_366 ?_
  refine lv_aload_n hx hb dL_law_367 rfl (lv_at hl 0 rfl) ?_
  refine lv_iload hx hb dL_law_368 (lv_at hl 4 rfl) ?_
  refine lv_iconst (v := nI 2) hx hb dL_law_370 (by decide +kernel) ?_
  refine x_add hx hb dL_law_371 ?_
  refine l_sld hx hb hX hsb (by omega) hS9 (by omega) hL dL_law_372 ?_
  refine lv_aload_n hx hb dL_law_373 rfl (lv_at hl 3 rfl) ?_
  refine l_S (rest := []) S hK hT hE0 hJ hlow (c_L_roll l hfl Γ cJ bs bs (bs + 13) (bs + 14) σ ad hI (xs (i + 1)) (xs (i + 2)) hy (by omega) (by omega) (Nat.le_refl _) v0) (vx_cwSW 4 hts gL_law_L_roll rfl rfl rfl (by decide +kernel) ⟨Nat.le_of_ble_eq_true rfl, Nat.le_of_ble_eq_true rfl⟩) ⟨hC, hsz, hA⟩ rfl hl.1 rfl (Nat.le_of_ble_eq_true rfl) dL_law_374 ⟨by show _ ≤ 601024; omega, by show _ ≤ 7293034; omega⟩ hlo (fun v H1 lc1 hp hlo => ?_)
  obtain ⟨hp, hz1, ho1⟩ := hp
  have hM1 : MX Γ (bs + 2) th σ H1 := hM.kept (fun q q1 q2 => ho1 q (by omega) (by omega) (by omega) (by omega) (by omega))
  have hlow1 : ∀ q : Nat, q < bs → H1[q]? = s.heap[q]? := fun q q1 => (ho1 q (by omega) (by omega) (by omega) (by omega) (by omega)).trans (hlow q q1)
  have hS1 := LI.S hbs hlo (show bs + 14 ≤ H1.size by omega) hlow1
  rcases hp with ⟨hcd, rfl, ⟨ad2, hC2, hy2⟩, hA2⟩ | ⟨hcd, rfl, hC2, hA2⟩
  · skip
    refine W.eq (g2 := F0 m 377 ls [.int (nI 0)]) rfl ?_
    refine lv_istore (lv' := [(5, .int (nI 0)), (0, .ref sb), (1, .ref bs), (2, .ref (bs + 2)), (3, .ref (bs + 13)), (4, .int (nI i))]) hx hb dL_law_377 hl (by decide) rfl (fun ls hl => ?_)
    refine lv_aload_n hx hb dL_law_379 rfl (lv_at hl 3 rfl) ?_
    refine lv_aload_n hx hb dL_law_380 rfl (lv_at hl 1 rfl) ?_
    refine lv_iload hx hb dL_law_381 (lv_at hl 5 rfl) ?_
    refine lv_iconst (v := nI 1) hx hb dL_law_383 (by decide +kernel) ?_
    refine x_add hx hb dL_law_384 ?_
    refine l_sld hx hb hX hsb (by omega) hS1 (by omega) hL dL_law_385 ?_
    refine lv_aload_n hx hb dL_law_386 rfl (lv_at hl 1 rfl) ?_
    refine lv_iload hx hb dL_law_387 (lv_at hl 5 rfl) ?_
    refine lv_iconst (v := nI 2) hx hb dL_law_389 (by decide +kernel) ?_
    refine x_add hx hb dL_law_390 ?_
    refine l_sld hx hb hX hsb (by omega) hS1 (by omega) hL dL_law_391 ?_
    obtain ⟨g1, g2, hW1⟩ := hM1
    refine m_V (rest := []) S hK (c_X2_roll l Γ bs (bs + 2) th σ hI (by omega) (xs (i + 1)) (xs (i + 2))) (cwV 2 hts gL_law_X2_roll rfl rfl rfl (by decide +kernel) ⟨Nat.le_of_ble_eq_true rfl, Nat.le_of_ble_eq_true rfl⟩) (Ob.recv hK hW1.1 rfl) ⟨g1, g2, hW1⟩ rfl hl.1 rfl (Nat.le_of_ble_eq_true rfl) dL_law_392 ⟨by show _ ≤ 601024; omega, by show _ ≤ 7293034; omega⟩ hlo (fun v H2 lc2 hp2 hlo => ?_)
    obtain ⟨hp2, hF2⟩ := hp2
    rcases hp2 with ⟨hcd2, rfl, g3, g4, hW⟩ | ⟨hcd2, rfl, g3, g4, hW⟩
    · skip
      have hI2 : Iv (o_up σ ((xs (i + 1)).toInt.toNat) ((qu σ ((xs (i + 1)).toInt.toNat) + (xs (i + 2)).toInt.toNat) % 3)) := Iv_up hI (Nat.mod_lt _ (by decide))
      have hC3 := hC2.fr hy2 hF2 (by omega) (by omega)
      have hA3 := hA2.kept (hF2.2 _ hA2.lt (Or.inr (by omega)))
      have hlow2 : ∀ q : Nat, q < bs → H2[q]? = s.heap[q]? := fun q q1 => (hF2.2 q (by omega) (Or.inl (by omega))).trans (hlow1 q q1)
      refine W.eq (g2 := F0 m 395 ls [.int (nI ((qu σ ((xs (i + 1)).toInt.toNat) + (xs (i + 2)).toInt.toNat) % 3))]) rfl ?_
      refine lv_istore (lv' := [(6, .int (nI ((qu σ ((xs (i + 1)).toInt.toNat) + (xs (i + 2)).toInt.toNat) % 3))), (5, .int (nI 0)), (0, .ref sb), (1, .ref bs), (2, .ref (bs + 2)), (3, .ref (bs + 13)), (4, .int (nI i))]) hx hb dL_law_395 hl (by decide) rfl (fun ls hl => ?_)
      refine lv_aload_n hx hb dL_law_397 rfl (lv_at hl 4 rfl) ?_
      refine ro_V (rest := []) S hK (c_X2_thrown l Γ (bs + 2) (nI 0) _ g3 g4 hI2) (cwV 0 hts gL_law_X2_thrown rfl rfl rfl (by decide +kernel) ⟨Nat.le_of_ble_eq_true rfl, Nat.le_of_ble_eq_true rfl⟩) (Ob.recv hK hW.1 rfl) hW rfl hl.1 rfl (Nat.le_of_ble_eq_true rfl) dL_law_398 ⟨by show _ ≤ 601024; omega, by show _ ≤ 7293034; omega⟩ ?_
      refine W.eq (g2 := F0 m 401 ls [.int (nI 0)]) rfl ?_
      refine lv_iload hx hb dL_law_401 (lv_at hl 1 rfl) ?_
      refine x_iceq hx hb (by omega) (by omega) (tgt := 408) dL_law_403 (by decide) (fun c_1 => ?_) (fun c_1 => absurd c_1 (by decide))
      refine lv_iload hx hb dL_law_408 (lv_at hl 1 rfl) ?_
      refine x_ifne hx hb (by omega) (tgt := 425) dL_law_410 (by decide) (fun c_2 => absurd c_2 (by decide)) (fun c_2 => ?_)
      refine lv_aload_n hx hb dL_law_413 rfl (lv_at hl 5 rfl) ?_
      refine lv_iconst (v := nI 0) hx hb dL_law_414 (by decide +kernel) ?_
      refine x_lald hx hb hJ hA3 dL_law_415 ?_
      refine lv_iload hx hb dL_law_416 (lv_at hl 0 rfl) ?_
      refine lv_i2l hx hb dL_law_418 rfl ?_
      refine x_lcmp (v := nI 0) hx hb dL_law_419 (lcmp_eq _) ?_
      refine x_ifeq hx hb (by omega) (tgt := 425) dL_law_420 (by decide) (fun c_3 => ?_) (fun c_3 => absurd c_3 (by decide))
      refine lv_goto (tgt := 1514) hx hb dL_law_425 (by decide) ?_
      refine W.widen (k := C0 + 300) (n := S0 + 2100) (by omega) (by omega) ?_
      exact k (o_up σ ((xs (i + 1)).toInt.toNat) ((qu σ ((xs (i + 1)).toInt.toNat) + (xs (i + 2)).toInt.toNat) % 3)) ad2 _ _ _ _ ⟨hI2, hy2, hC3, ⟨_, _, hW⟩, hA3, hlo, by have := hF2.1; omega, hlow2⟩ ls (lv_sub hl [2, 3, 4, 5, 6] rfl)
    · skip
      exact absurd hcd2 (by omega)
  · skip
    refine W.eq (g2 := F0 m 377 ls [.int (nI (cd3 (inb (xs (i + 1)) (qn σ)) (inb (xs (i + 2)) 3) (qg σ ((xs (i + 1)).toInt.toNat) = 0)))]) rfl ?_
    refine lv_istore (lv' := [(5, .int (nI (cd3 (inb (xs (i + 1)) (qn σ)) (inb (xs (i + 2)) 3) (qg σ ((xs (i + 1)).toInt.toNat) = 0)))), (0, .ref sb), (1, .ref bs), (2, .ref (bs + 2)), (3, .ref (bs + 13)), (4, .int (nI i))]) hx hb dL_law_377 hl (by decide) rfl (fun ls hl => ?_)
    refine lv_aload_n hx hb dL_law_379 rfl (lv_at hl 3 rfl) ?_
    refine lv_aload_n hx hb dL_law_380 rfl (lv_at hl 1 rfl) ?_
    refine lv_iload hx hb dL_law_381 (lv_at hl 5 rfl) ?_
    refine lv_iconst (v := nI 1) hx hb dL_law_383 (by decide +kernel) ?_
    refine x_add hx hb dL_law_384 ?_
    refine l_sld hx hb hX hsb (by omega) hS1 (by omega) hL dL_law_385 ?_
    refine lv_aload_n hx hb dL_law_386 rfl (lv_at hl 1 rfl) ?_
    refine lv_iload hx hb dL_law_387 (lv_at hl 5 rfl) ?_
    refine lv_iconst (v := nI 2) hx hb dL_law_389 (by decide +kernel) ?_
    refine x_add hx hb dL_law_390 ?_
    refine l_sld hx hb hX hsb (by omega) hS1 (by omega) hL dL_law_391 ?_
    obtain ⟨g1, g2, hW1⟩ := hM1
    refine m_V (rest := []) S hK (c_X2_roll l Γ bs (bs + 2) th σ hI (by omega) (xs (i + 1)) (xs (i + 2))) (cwV 2 hts gL_law_X2_roll rfl rfl rfl (by decide +kernel) ⟨Nat.le_of_ble_eq_true rfl, Nat.le_of_ble_eq_true rfl⟩) (Ob.recv hK hW1.1 rfl) ⟨g1, g2, hW1⟩ rfl hl.1 rfl (Nat.le_of_ble_eq_true rfl) dL_law_392 ⟨by show _ ≤ 601024; omega, by show _ ≤ 7293034; omega⟩ hlo (fun v H2 lc2 hp2 hlo => ?_)
    obtain ⟨hp2, hF2⟩ := hp2
    rcases hp2 with ⟨hcd2, rfl, g3, g4, hW⟩ | ⟨hcd2, rfl, g3, g4, hW⟩
    · skip
      exact absurd hcd2 (by omega)
    · skip
      have hI2 := hI
      have hC3 := hC2.fr hy hF2 (by omega) (by omega)
      have hA3 := hA2.kept (hF2.2 _ hA2.lt (Or.inr (by omega)))
      have hlow2 : ∀ q : Nat, q < bs → H2[q]? = s.heap[q]? := fun q q1 => (hF2.2 q (by omega) (Or.inl (by omega))).trans (hlow1 q q1)
      refine W.eq (g2 := F0 m 395 ls [.int (nI 0)]) rfl ?_
      refine lv_istore (lv' := [(6, .int (nI 0)), (5, .int (nI (cd3 (inb (xs (i + 1)) (qn σ)) (inb (xs (i + 2)) 3) (qg σ ((xs (i + 1)).toInt.toNat) = 0)))), (0, .ref sb), (1, .ref bs), (2, .ref (bs + 2)), (3, .ref (bs + 13)), (4, .int (nI i))]) hx hb dL_law_395 hl (by decide) rfl (fun ls hl => ?_)
      refine lv_aload_n hx hb dL_law_397 rfl (lv_at hl 4 rfl) ?_
      refine ro_V (rest := []) S hK (c_X2_thrown l Γ (bs + 2) (nI (cd3 (inb (xs (i + 1)) (qn σ)) (inb (xs (i + 2)) 3) (qg σ ((xs (i + 1)).toInt.toNat) = 0))) _ g3 g4 hI2) (cwV 0 hts gL_law_X2_thrown rfl rfl rfl (by decide +kernel) ⟨Nat.le_of_ble_eq_true rfl, Nat.le_of_ble_eq_true rfl⟩) (Ob.recv hK hW.1 rfl) hW rfl hl.1 rfl (Nat.le_of_ble_eq_true rfl) dL_law_398 ⟨by show _ ≤ 601024; omega, by show _ ≤ 7293034; omega⟩ ?_
      refine W.eq (g2 := F0 m 401 ls [.int (nI (cd3 (inb (xs (i + 1)) (qn σ)) (inb (xs (i + 2)) 3) (qg σ ((xs (i + 1)).toInt.toNat) = 0)))]) rfl ?_
      refine lv_iload hx hb dL_law_401 (lv_at hl 1 rfl) ?_
      refine lv_icmp_eq (tgt := 408) hx hb dL_law_403 (by decide) (fun c9 => ?_) (fun c9 => absurd rfl c9)
      refine lv_iload hx hb dL_law_408 (lv_at hl 1 rfl) ?_
      refine x_ifne hx hb (Nat.lt_of_le_of_lt (cd3_le _ _ _) (by decide)) (tgt := 425) dL_law_410 (by decide) (fun c9 => ?_) (fun c9 => absurd c9 (by omega))
      refine lv_goto (tgt := 1514) hx hb dL_law_425 (by decide) ?_
      refine W.widen (k := C0 + 300) (n := S0 + 2100) (by omega) (by omega) ?_
      exact k σ ad _ _ _ _ ⟨hI, hy, hC3, ⟨_, _, hW⟩, hA3, hlo, by have := hF2.1; omega, hlow2⟩ ls (lv_sub hl [2, 3, 4, 5, 6] rfl)
set_option maxHeartbeats 4000000 in
set_option maxRecDepth 100000 in
theorem lawc_bend {p : Program} {l : Launch} {e : Env} {s : State} {m : MethodId} {args : Array Value} {below : List Frame} {meth : Method} {c : Code} {H : Heap} {locs : List Loc} {Q : State → Prop} {Γ : GG} {cJ : ClassId} {bs sb L i C0 S0 : Nat} {xs : Nat → Int32} {σ : St} {ad : Nat → Nat} {th : Int32} {v0 : Int64}
    (hfl : l.stackTraces = false) (S : CallFix p m c cL_law 9 s args wsL_law RL) (hK : xK Γ s) (hT : xT bs s) (hE0 : xE s) (hJ : xJ cJ s) (hX : va_X sb L xs s s.heap) (hsb : sb < s.heap.size) (hbs : s.heap.size = bs) (hL : L ≤ 2560) (hi : i + 5 ≤ L) (hC0 : C0 + 300 ≤ 601024) (hS0 : S0 + 2100 ≤ 7293034) (hLI : LI Γ cJ bs s σ ad th v0 H locs)
    (k : ∀ (σ' : St) (ad' : Nat → Nat) (th' : Int32) (v' : Int64) (H' : Heap) (locs' : List Loc), LI Γ cJ bs s σ' ad' th' v' H' locs' → ∀ ls : Array Slot, lv_has ls 9 [(0, .ref sb), (1, .ref bs), (2, .ref (bs + 2)), (3, .ref (bs + 13)), (4, .int (nI i))] → W p l e room_1 s m args below meth c H' locs' (C0 + 300) (S0 + 2100) Q (F0 m 1514 ls []))
    (ls : Array Slot) (hl : lv_has ls 9 [(0, .ref sb), (1, .ref bs), (2, .ref (bs + 2)), (3, .ref (bs + 13)), (4, .int (nI i))]) : W p l e room_1 s m args below meth c H locs C0 S0 Q (F0 m 428 ls []) := by
  obtain ⟨hx, hb, hml, hown, hts⟩ := id S
  obtain ⟨hI, hy, hC, hM, hA, hlo, hsz, hlow⟩ := hLI
  have hS9 := LI.S hbs hlo hsz hlow
  refine lv_aload_n hx hb dL_law_428 rfl (lv_at hl 1 rfl) ?_
  refine lv_aload_n hx hb dL_law_429 rfl (lv_at hl 0 rfl) ?_
  refine lv_iload hx hb dL_law_430 (lv_at hl 4 rfl) ?_
  refine lv_iconst (v := nI 1) hx hb dL_law_432 (by decide +kernel) ?_
  refine x_add hx hb dL_law_433 ?_
  refine l_sld hx hb hX hsb (by omega) hS9 (by omega) hL dL_law_434 ?_
  refine lv_aload_n hx hb dL_law_435 rfl (lv_at hl 0 rfl) ?_
  refine lv_iload hx hb dL_law_436 (lv_at hl 4 rfl) ?_
  refine lv_iconst (v := nI 2) hx hb dL_law_438 (by decide +kernel) ?_
  refine x_add hx hb dL_law_439 ?_
  refine l_sld hx hb hX hsb (by omega) hS9 (by omega) hL dL_law_440 ?_
  refine lv_aload_n hx hb dL_law_441 rfl (lv_at hl 3 rfl) ?_
  refine l_S (rest := []) S hK hT hE0 hJ hlow (c_L_bend l hfl Γ cJ bs bs (bs + 13) (bs + 14) σ ad hI (xs (i + 1)) (xs (i + 2)) hy (by omega) (by omega) (Nat.le_refl _) v0) (vx_cwSW 4 hts gL_law_L_bend rfl rfl rfl (by decide +kernel) ⟨Nat.le_of_ble_eq_true rfl, Nat.le_of_ble_eq_true rfl⟩) ⟨hC, hsz, hA⟩ rfl hl.1 rfl (Nat.le_of_ble_eq_true rfl) dL_law_442 ⟨by show _ ≤ 601024; omega, by show _ ≤ 7293034; omega⟩ hlo (fun v H1 lc1 hp hlo => ?_)
  obtain ⟨hp, hz1, ho1⟩ := hp
  have hM1 : MX Γ (bs + 2) th σ H1 := hM.kept (fun q q1 q2 => ho1 q (by omega) (by omega) (by omega) (by omega) (by omega))
  have hlow1 : ∀ q : Nat, q < bs → H1[q]? = s.heap[q]? := fun q q1 => (ho1 q (by omega) (by omega) (by omega) (by omega) (by omega)).trans (hlow q q1)
  have hS1 := LI.S hbs hlo (show bs + 14 ≤ H1.size by omega) hlow1
  rcases hp with ⟨hcd, rfl, ⟨ad2, hC2, hy2⟩, hA2⟩ | ⟨hcd, rfl, hC2, hA2⟩
  · skip
    refine W.eq (g2 := F0 m 445 ls [.int (nI 0)]) rfl ?_
    refine lv_istore (lv' := [(5, .int (nI 0)), (0, .ref sb), (1, .ref bs), (2, .ref (bs + 2)), (3, .ref (bs + 13)), (4, .int (nI i))]) hx hb dL_law_445 hl (by decide) rfl (fun ls hl => ?_)
    refine lv_aload_n hx hb dL_law_447 rfl (lv_at hl 3 rfl) ?_
    refine lv_aload_n hx hb dL_law_448 rfl (lv_at hl 1 rfl) ?_
    refine lv_iload hx hb dL_law_449 (lv_at hl 5 rfl) ?_
    refine lv_iconst (v := nI 1) hx hb dL_law_451 (by decide +kernel) ?_
    refine x_add hx hb dL_law_452 ?_
    refine l_sld hx hb hX hsb (by omega) hS1 (by omega) hL dL_law_453 ?_
    refine lv_aload_n hx hb dL_law_454 rfl (lv_at hl 1 rfl) ?_
    refine lv_iload hx hb dL_law_455 (lv_at hl 5 rfl) ?_
    refine lv_iconst (v := nI 2) hx hb dL_law_457 (by decide +kernel) ?_
    refine x_add hx hb dL_law_458 ?_
    refine l_sld hx hb hX hsb (by omega) hS1 (by omega) hL dL_law_459 ?_
    obtain ⟨g1, g2, hW1⟩ := hM1
    refine m_V (rest := []) S hK (c_X2_bend l Γ bs (bs + 2) th σ hI (by omega) (xs (i + 1)) (xs (i + 2))) (cwV 2 hts gL_law_X2_bend rfl rfl rfl (by decide +kernel) ⟨Nat.le_of_ble_eq_true rfl, Nat.le_of_ble_eq_true rfl⟩) (Ob.recv hK hW1.1 rfl) ⟨g1, g2, hW1⟩ rfl hl.1 rfl (Nat.le_of_ble_eq_true rfl) dL_law_460 ⟨by show _ ≤ 601024; omega, by show _ ≤ 7293034; omega⟩ hlo (fun v H2 lc2 hp2 hlo => ?_)
    obtain ⟨hp2, hF2⟩ := hp2
    rcases hp2 with ⟨hcd2, rfl, g3, g4, hW⟩ | ⟨hcd2, rfl, g3, g4, hW⟩
    · skip
      have hI2 : Iv (bdS σ ((xs (i + 1)).toInt.toNat) (xs (i + 2))) := Iv_bd hI hcd
      have hC3 := hC2.fr hy2 hF2 (by omega) (by omega)
      have hA3 := hA2.kept (hF2.2 _ hA2.lt (Or.inr (by omega)))
      have hlow2 : ∀ q : Nat, q < bs → H2[q]? = s.heap[q]? := fun q q1 => (hF2.2 q (by omega) (Or.inl (by omega))).trans (hlow1 q q1)
      refine W.eq (g2 := F0 m 463 ls [.int (bdV σ ((xs (i + 1)).toInt.toNat) (xs (i + 2)))]) rfl ?_
      refine lv_istore (lv' := [(6, .int (bdV σ ((xs (i + 1)).toInt.toNat) (xs (i + 2)))), (5, .int (nI 0)), (0, .ref sb), (1, .ref bs), (2, .ref (bs + 2)), (3, .ref (bs + 13)), (4, .int (nI i))]) hx hb dL_law_463 hl (by decide) rfl (fun ls hl => ?_)
      refine lv_aload_n hx hb dL_law_465 rfl (lv_at hl 4 rfl) ?_
      refine ro_V (rest := []) S hK (c_X2_thrown l Γ (bs + 2) (nI 0) _ g3 g4 hI2) (cwV 0 hts gL_law_X2_thrown rfl rfl rfl (by decide +kernel) ⟨Nat.le_of_ble_eq_true rfl, Nat.le_of_ble_eq_true rfl⟩) (Ob.recv hK hW.1 rfl) hW rfl hl.1 rfl (Nat.le_of_ble_eq_true rfl) dL_law_466 ⟨by show _ ≤ 601024; omega, by show _ ≤ 7293034; omega⟩ ?_
      refine W.eq (g2 := F0 m 469 ls [.int (nI 0)]) rfl ?_
      refine lv_iload hx hb dL_law_469 (lv_at hl 1 rfl) ?_
      refine x_iceq hx hb (by omega) (by omega) (tgt := 476) dL_law_471 (by decide) (fun c_1 => ?_) (fun c_1 => absurd c_1 (by decide))
      refine lv_iload hx hb dL_law_476 (lv_at hl 1 rfl) ?_
      refine x_ifne hx hb (by omega) (tgt := 493) dL_law_478 (by decide) (fun c_2 => absurd c_2 (by decide)) (fun c_2 => ?_)
      refine lv_aload_n hx hb dL_law_481 rfl (lv_at hl 5 rfl) ?_
      refine lv_iconst (v := nI 0) hx hb dL_law_482 (by decide +kernel) ?_
      refine x_lald hx hb hJ hA3 dL_law_483 ?_
      refine lv_iload hx hb dL_law_484 (lv_at hl 0 rfl) ?_
      refine lv_i2l hx hb dL_law_486 rfl ?_
      refine x_lcmp (v := nI 0) hx hb dL_law_487 (lcmp_eq _) ?_
      refine x_ifeq hx hb (by omega) (tgt := 493) dL_law_488 (by decide) (fun c_3 => ?_) (fun c_3 => absurd c_3 (by decide))
      refine lv_goto (tgt := 1514) hx hb dL_law_493 (by decide) ?_
      refine W.widen (k := C0 + 300) (n := S0 + 2100) (by omega) (by omega) ?_
      exact k (bdS σ ((xs (i + 1)).toInt.toNat) (xs (i + 2))) ad2 _ _ _ _ ⟨hI2, hy2, hC3, ⟨_, _, hW⟩, hA3, hlo, by have := hF2.1; omega, hlow2⟩ ls (lv_sub hl [2, 3, 4, 5, 6] rfl)
    · skip
      exact absurd hcd2 (by omega)
  · skip
    refine W.eq (g2 := F0 m 445 ls [.int (nI (cd3 (inb (xs (i + 1)) (qn σ)) (inR (xs (i + 2)) (1 : Nat) (20 : Nat)) (qg σ ((xs (i + 1)).toInt.toNat) = 0 ∧ (bJ σ ((xs (i + 1)).toInt.toNat) (xs (i + 2)) = none ∨ (thr σ (qn σ) < 12 ∧ qn σ ≤ 38)))))]) rfl ?_
    refine lv_istore (lv' := [(5, .int (nI (cd3 (inb (xs (i + 1)) (qn σ)) (inR (xs (i + 2)) (1 : Nat) (20 : Nat)) (qg σ ((xs (i + 1)).toInt.toNat) = 0 ∧ (bJ σ ((xs (i + 1)).toInt.toNat) (xs (i + 2)) = none ∨ (thr σ (qn σ) < 12 ∧ qn σ ≤ 38)))))), (0, .ref sb), (1, .ref bs), (2, .ref (bs + 2)), (3, .ref (bs + 13)), (4, .int (nI i))]) hx hb dL_law_445 hl (by decide) rfl (fun ls hl => ?_)
    refine lv_aload_n hx hb dL_law_447 rfl (lv_at hl 3 rfl) ?_
    refine lv_aload_n hx hb dL_law_448 rfl (lv_at hl 1 rfl) ?_
    refine lv_iload hx hb dL_law_449 (lv_at hl 5 rfl) ?_
    refine lv_iconst (v := nI 1) hx hb dL_law_451 (by decide +kernel) ?_
    refine x_add hx hb dL_law_452 ?_
    refine l_sld hx hb hX hsb (by omega) hS1 (by omega) hL dL_law_453 ?_
    refine lv_aload_n hx hb dL_law_454 rfl (lv_at hl 1 rfl) ?_
    refine lv_iload hx hb dL_law_455 (lv_at hl 5 rfl) ?_
    refine lv_iconst (v := nI 2) hx hb dL_law_457 (by decide +kernel) ?_
    refine x_add hx hb dL_law_458 ?_
    refine l_sld hx hb hX hsb (by omega) hS1 (by omega) hL dL_law_459 ?_
    obtain ⟨g1, g2, hW1⟩ := hM1
    refine m_V (rest := []) S hK (c_X2_bend l Γ bs (bs + 2) th σ hI (by omega) (xs (i + 1)) (xs (i + 2))) (cwV 2 hts gL_law_X2_bend rfl rfl rfl (by decide +kernel) ⟨Nat.le_of_ble_eq_true rfl, Nat.le_of_ble_eq_true rfl⟩) (Ob.recv hK hW1.1 rfl) ⟨g1, g2, hW1⟩ rfl hl.1 rfl (Nat.le_of_ble_eq_true rfl) dL_law_460 ⟨by show _ ≤ 601024; omega, by show _ ≤ 7293034; omega⟩ hlo (fun v H2 lc2 hp2 hlo => ?_)
    obtain ⟨hp2, hF2⟩ := hp2
    rcases hp2 with ⟨hcd2, rfl, g3, g4, hW⟩ | ⟨hcd2, rfl, g3, g4, hW⟩
    · skip
      exact absurd hcd2 (by omega)
    · skip
      have hI2 := hI
      have hC3 := hC2.fr hy hF2 (by omega) (by omega)
      have hA3 := hA2.kept (hF2.2 _ hA2.lt (Or.inr (by omega)))
      have hlow2 : ∀ q : Nat, q < bs → H2[q]? = s.heap[q]? := fun q q1 => (hF2.2 q (by omega) (Or.inl (by omega))).trans (hlow1 q q1)
      refine W.eq (g2 := F0 m 463 ls [.int (nI 0)]) rfl ?_
      refine lv_istore (lv' := [(6, .int (nI 0)), (5, .int (nI (cd3 (inb (xs (i + 1)) (qn σ)) (inR (xs (i + 2)) (1 : Nat) (20 : Nat)) (qg σ ((xs (i + 1)).toInt.toNat) = 0 ∧ (bJ σ ((xs (i + 1)).toInt.toNat) (xs (i + 2)) = none ∨ (thr σ (qn σ) < 12 ∧ qn σ ≤ 38)))))), (0, .ref sb), (1, .ref bs), (2, .ref (bs + 2)), (3, .ref (bs + 13)), (4, .int (nI i))]) hx hb dL_law_463 hl (by decide) rfl (fun ls hl => ?_)
      refine lv_aload_n hx hb dL_law_465 rfl (lv_at hl 4 rfl) ?_
      refine ro_V (rest := []) S hK (c_X2_thrown l Γ (bs + 2) (nI (cd3 (inb (xs (i + 1)) (qn σ)) (inR (xs (i + 2)) (1 : Nat) (20 : Nat)) (qg σ ((xs (i + 1)).toInt.toNat) = 0 ∧ (bJ σ ((xs (i + 1)).toInt.toNat) (xs (i + 2)) = none ∨ (thr σ (qn σ) < 12 ∧ qn σ ≤ 38))))) _ g3 g4 hI2) (cwV 0 hts gL_law_X2_thrown rfl rfl rfl (by decide +kernel) ⟨Nat.le_of_ble_eq_true rfl, Nat.le_of_ble_eq_true rfl⟩) (Ob.recv hK hW.1 rfl) hW rfl hl.1 rfl (Nat.le_of_ble_eq_true rfl) dL_law_466 ⟨by show _ ≤ 601024; omega, by show _ ≤ 7293034; omega⟩ ?_
      refine W.eq (g2 := F0 m 469 ls [.int (nI (cd3 (inb (xs (i + 1)) (qn σ)) (inR (xs (i + 2)) (1 : Nat) (20 : Nat)) (qg σ ((xs (i + 1)).toInt.toNat) = 0 ∧ (bJ σ ((xs (i + 1)).toInt.toNat) (xs (i + 2)) = none ∨ (thr σ (qn σ) < 12 ∧ qn σ ≤ 38)))))]) rfl ?_
      refine lv_iload hx hb dL_law_469 (lv_at hl 1 rfl) ?_
      refine lv_icmp_eq (tgt := 476) hx hb dL_law_471 (by decide) (fun c9 => ?_) (fun c9 => absurd rfl c9)
      refine lv_iload hx hb dL_law_476 (lv_at hl 1 rfl) ?_
      refine x_ifne hx hb (Nat.lt_of_le_of_lt (cd3_le _ _ _) (by decide)) (tgt := 493) dL_law_478 (by decide) (fun c9 => ?_) (fun c9 => absurd c9 (by omega))
      refine lv_goto (tgt := 1514) hx hb dL_law_493 (by decide) ?_
      refine W.widen (k := C0 + 300) (n := S0 + 2100) (by omega) (by omega) ?_
      exact k σ ad _ _ _ _ ⟨hI, hy, hC3, ⟨_, _, hW⟩, hA3, hlo, by have := hF2.1; omega, hlow2⟩ ls (lv_sub hl [2, 3, 4, 5, 6] rfl)
set_option maxHeartbeats 4000000 in
set_option maxRecDepth 100000 in
theorem lawc_glue {p : Program} {l : Launch} {e : Env} {s : State} {m : MethodId} {args : Array Value} {below : List Frame} {meth : Method} {c : Code} {H : Heap} {locs : List Loc} {Q : State → Prop} {Γ : GG} {cJ : ClassId} {bs sb L i C0 S0 : Nat} {xs : Nat → Int32} {σ : St} {ad : Nat → Nat} {th : Int32} {v0 : Int64}
    (hfl : l.stackTraces = false) (S : CallFix p m c cL_law 9 s args wsL_law RL) (hK : xK Γ s) (hT : xT bs s) (hE0 : xE s) (hJ : xJ cJ s) (hX : va_X sb L xs s s.heap) (hsb : sb < s.heap.size) (hbs : s.heap.size = bs) (hL : L ≤ 2560) (hi : i + 5 ≤ L) (hC0 : C0 + 300 ≤ 601024) (hS0 : S0 + 2100 ≤ 7293034) (hLI : LI Γ cJ bs s σ ad th v0 H locs)
    (k : ∀ (σ' : St) (ad' : Nat → Nat) (th' : Int32) (v' : Int64) (H' : Heap) (locs' : List Loc), LI Γ cJ bs s σ' ad' th' v' H' locs' → ∀ ls : Array Slot, lv_has ls 9 [(0, .ref sb), (1, .ref bs), (2, .ref (bs + 2)), (3, .ref (bs + 13)), (4, .int (nI i))] → W p l e room_1 s m args below meth c H' locs' (C0 + 300) (S0 + 2100) Q (F0 m 1514 ls []))
    (ls : Array Slot) (hl : lv_has ls 9 [(0, .ref sb), (1, .ref bs), (2, .ref (bs + 2)), (3, .ref (bs + 13)), (4, .int (nI i))]) : W p l e room_1 s m args below meth c H locs C0 S0 Q (F0 m 496 ls []) := by
  obtain ⟨hx, hb, hml, hown, hts⟩ := id S
  obtain ⟨hI, hy, hC, hM, hA, hlo, hsz, hlow⟩ := hLI
  have hS9 := LI.S hbs hlo hsz hlow
  refine lv_aload_n hx hb dL_law_496 rfl (lv_at hl 1 rfl) ?_
  refine lv_aload_n hx hb dL_law_497 rfl (lv_at hl 0 rfl) ?_
  refine lv_iload hx hb dL_law_498 (lv_at hl 4 rfl) ?_
  refine lv_iconst (v := nI 1) hx hb dL_law_500 (by decide +kernel) ?_
  refine x_add hx hb dL_law_501 ?_
  refine l_sld hx hb hX hsb (by omega) hS9 (by omega) hL dL_law_502 ?_
  refine lv_aload_n hx hb dL_law_503 rfl (lv_at hl 0 rfl) ?_
  refine lv_iload hx hb dL_law_504 (lv_at hl 4 rfl) ?_
  refine lv_iconst (v := nI 2) hx hb dL_law_506 (by decide +kernel) ?_
  refine x_add hx hb dL_law_507 ?_
  refine l_sld hx hb hX hsb (by omega) hS9 (by omega) hL dL_law_508 ?_
  refine lv_aload_n hx hb dL_law_509 rfl (lv_at hl 0 rfl) ?_
  refine lv_iload hx hb dL_law_510 (lv_at hl 4 rfl) ?_
  refine lv_iconst (v := nI 3) hx hb dL_law_512 (by decide +kernel) ?_
  refine x_add hx hb dL_law_513 ?_
  refine l_sld hx hb hX hsb (by omega) hS9 (by omega) hL dL_law_514 ?_
  refine lv_aload_n hx hb dL_law_515 rfl (lv_at hl 0 rfl) ?_
  refine lv_iload hx hb dL_law_516 (lv_at hl 4 rfl) ?_
  refine lv_iconst (v := nI 4) hx hb dL_law_518 (by decide +kernel) ?_
  refine x_add hx hb dL_law_519 ?_
  refine l_sld hx hb hX hsb (by omega) hS9 (by omega) hL dL_law_520 ?_
  refine lv_aload_n hx hb dL_law_521 rfl (lv_at hl 3 rfl) ?_
  refine l_S (rest := []) S hK hT hE0 hJ hlow (c_L_glue l hfl Γ cJ bs bs (bs + 13) (bs + 14) σ ad hI (xs (i + 1)) (xs (i + 2)) (xs (i + 3)) (xs (i + 4)) hy (by omega) (by omega) (Nat.le_refl _) v0) (vx_cwSW 6 hts gL_law_L_glue rfl rfl rfl (by decide +kernel) ⟨Nat.le_of_ble_eq_true rfl, Nat.le_of_ble_eq_true rfl⟩) ⟨hC, hsz, hA⟩ rfl hl.1 rfl (Nat.le_of_ble_eq_true rfl) dL_law_522 ⟨by show _ ≤ 601024; omega, by show _ ≤ 7293034; omega⟩ hlo (fun v H1 lc1 hp hlo => ?_)
  obtain ⟨hp, hz1, ho1⟩ := hp
  have hM1 : MX Γ (bs + 2) th σ H1 := hM.kept (fun q q1 q2 => ho1 q (by omega) (by omega) (by omega) (by omega) (by omega))
  have hlow1 : ∀ q : Nat, q < bs → H1[q]? = s.heap[q]? := fun q q1 => (ho1 q (by omega) (by omega) (by omega) (by omega) (by omega)).trans (hlow q q1)
  have hS1 := LI.S hbs hlo (show bs + 14 ≤ H1.size by omega) hlow1
  rcases hp with ⟨hcd, rfl, ⟨ad2, hC2, hy2⟩, hA2⟩ | ⟨hcd, rfl, hC2, hA2⟩
  · skip
    refine W.eq (g2 := F0 m 525 ls [.int (nI 0)]) rfl ?_
    refine lv_istore (lv' := [(5, .int (nI 0)), (0, .ref sb), (1, .ref bs), (2, .ref (bs + 2)), (3, .ref (bs + 13)), (4, .int (nI i))]) hx hb dL_law_525 hl (by decide) rfl (fun ls hl => ?_)
    refine lv_aload_n hx hb dL_law_527 rfl (lv_at hl 3 rfl) ?_
    refine lv_aload_n hx hb dL_law_528 rfl (lv_at hl 1 rfl) ?_
    refine lv_iload hx hb dL_law_529 (lv_at hl 5 rfl) ?_
    refine lv_iconst (v := nI 1) hx hb dL_law_531 (by decide +kernel) ?_
    refine x_add hx hb dL_law_532 ?_
    refine l_sld hx hb hX hsb (by omega) hS1 (by omega) hL dL_law_533 ?_
    refine lv_aload_n hx hb dL_law_534 rfl (lv_at hl 1 rfl) ?_
    refine lv_iload hx hb dL_law_535 (lv_at hl 5 rfl) ?_
    refine lv_iconst (v := nI 2) hx hb dL_law_537 (by decide +kernel) ?_
    refine x_add hx hb dL_law_538 ?_
    refine l_sld hx hb hX hsb (by omega) hS1 (by omega) hL dL_law_539 ?_
    refine lv_aload_n hx hb dL_law_540 rfl (lv_at hl 1 rfl) ?_
    refine lv_iload hx hb dL_law_541 (lv_at hl 5 rfl) ?_
    refine lv_iconst (v := nI 3) hx hb dL_law_543 (by decide +kernel) ?_
    refine x_add hx hb dL_law_544 ?_
    refine l_sld hx hb hX hsb (by omega) hS1 (by omega) hL dL_law_545 ?_
    refine lv_aload_n hx hb dL_law_546 rfl (lv_at hl 1 rfl) ?_
    refine lv_iload hx hb dL_law_547 (lv_at hl 5 rfl) ?_
    refine lv_iconst (v := nI 4) hx hb dL_law_549 (by decide +kernel) ?_
    refine x_add hx hb dL_law_550 ?_
    refine l_sld hx hb hX hsb (by omega) hS1 (by omega) hL dL_law_551 ?_
    obtain ⟨g1, g2, hW1⟩ := hM1
    refine m_V (rest := []) S hK (c_X2_glue l Γ bs (bs + 2) th σ hI (by omega) (xs (i + 1)) (xs (i + 2)) (xs (i + 3)) (xs (i + 4))) (cwV 4 hts gL_law_X2_glue rfl rfl rfl (by decide +kernel) ⟨Nat.le_of_ble_eq_true rfl, Nat.le_of_ble_eq_true rfl⟩) (Ob.recv hK hW1.1 rfl) ⟨g1, g2, hW1⟩ rfl hl.1 rfl (Nat.le_of_ble_eq_true rfl) dL_law_552 ⟨by show _ ≤ 601024; omega, by show _ ≤ 7293034; omega⟩ hlo (fun v H2 lc2 hp2 hlo => ?_)
    obtain ⟨hp2, hF2⟩ := hp2
    rcases hp2 with ⟨hcd2, rfl, g3, g4, hW⟩ | ⟨hcd2, rfl, g3, g4, hW⟩
    · skip
      have hI2 : Iv (sGlue σ ((xs (i + 1)).toInt.toNat) ((xs (i + 2)).toInt.toNat) (xs (i + 3)).toInt.toNat (xs (i + 4)).toInt.toNat) := Iv_gl hI hcd
      have hC3 := hC2.fr hy2 hF2 (by omega) (by omega)
      have hA3 := hA2.kept (hF2.2 _ hA2.lt (Or.inr (by omega)))
      have hlow2 : ∀ q : Nat, q < bs → H2[q]? = s.heap[q]? := fun q q1 => (hF2.2 q (by omega) (Or.inl (by omega))).trans (hlow1 q q1)
      refine W.eq (g2 := F0 m 555 ls [.int (nI (qn σ))]) rfl ?_
      refine lv_istore (lv' := [(6, .int (nI (qn σ))), (5, .int (nI 0)), (0, .ref sb), (1, .ref bs), (2, .ref (bs + 2)), (3, .ref (bs + 13)), (4, .int (nI i))]) hx hb dL_law_555 hl (by decide) rfl (fun ls hl => ?_)
      refine lv_aload_n hx hb dL_law_557 rfl (lv_at hl 4 rfl) ?_
      refine ro_V (rest := []) S hK (c_X2_thrown l Γ (bs + 2) (nI 0) _ g3 g4 hI2) (cwV 0 hts gL_law_X2_thrown rfl rfl rfl (by decide +kernel) ⟨Nat.le_of_ble_eq_true rfl, Nat.le_of_ble_eq_true rfl⟩) (Ob.recv hK hW.1 rfl) hW rfl hl.1 rfl (Nat.le_of_ble_eq_true rfl) dL_law_558 ⟨by show _ ≤ 601024; omega, by show _ ≤ 7293034; omega⟩ ?_
      refine W.eq (g2 := F0 m 561 ls [.int (nI 0)]) rfl ?_
      refine lv_iload hx hb dL_law_561 (lv_at hl 1 rfl) ?_
      refine x_iceq hx hb (by omega) (by omega) (tgt := 568) dL_law_563 (by decide) (fun c_1 => ?_) (fun c_1 => absurd c_1 (by decide))
      refine lv_iload hx hb dL_law_568 (lv_at hl 1 rfl) ?_
      refine x_ifne hx hb (by omega) (tgt := 585) dL_law_570 (by decide) (fun c_2 => absurd c_2 (by decide)) (fun c_2 => ?_)
      refine lv_aload_n hx hb dL_law_573 rfl (lv_at hl 5 rfl) ?_
      refine lv_iconst (v := nI 0) hx hb dL_law_574 (by decide +kernel) ?_
      refine x_lald hx hb hJ hA3 dL_law_575 ?_
      refine lv_iload hx hb dL_law_576 (lv_at hl 0 rfl) ?_
      refine lv_i2l hx hb dL_law_578 rfl ?_
      refine x_lcmp (v := nI 0) hx hb dL_law_579 (lcmp_eq _) ?_
      refine x_ifeq hx hb (by omega) (tgt := 585) dL_law_580 (by decide) (fun c_3 => ?_) (fun c_3 => absurd c_3 (by decide))
      refine lv_goto (tgt := 1514) hx hb dL_law_585 (by decide) ?_
      refine W.widen (k := C0 + 300) (n := S0 + 2100) (by omega) (by omega) ?_
      exact k (sGlue σ ((xs (i + 1)).toInt.toNat) ((xs (i + 2)).toInt.toNat) (xs (i + 3)).toInt.toNat (xs (i + 4)).toInt.toNat) ad2 _ _ _ _ ⟨hI2, hy2, hC3, ⟨_, _, hW⟩, hA3, hlo, by have := hF2.1; omega, hlow2⟩ ls (lv_sub hl [2, 3, 4, 5, 6] rfl)
    · skip
      exact absurd hcd2 (by omega)
  · skip
    refine W.eq (g2 := F0 m 525 ls [.int (nI (cd3 (inb (xs (i + 1)) (qn σ) ∧ inb (xs (i + 2)) (qn σ)) (inb (xs (i + 3)) 3 ∧ inR (xs (i + 4)) (1 : Nat) (9 : Nat)) (qg σ ((xs (i + 1)).toInt.toNat) = 0 ∧ qg σ ((xs (i + 2)).toInt.toNat) = 0 ∧ ¬ (xs (i + 1)).toInt.toNat = (xs (i + 2)).toInt.toNat ∧ qp σ ((xs (i + 1)).toInt.toNat) + qp σ ((xs (i + 2)).toInt.toNat) ≤ 12 ∧ qn σ < 40)))]) rfl ?_
    refine lv_istore (lv' := [(5, .int (nI (cd3 (inb (xs (i + 1)) (qn σ) ∧ inb (xs (i + 2)) (qn σ)) (inb (xs (i + 3)) 3 ∧ inR (xs (i + 4)) (1 : Nat) (9 : Nat)) (qg σ ((xs (i + 1)).toInt.toNat) = 0 ∧ qg σ ((xs (i + 2)).toInt.toNat) = 0 ∧ ¬ (xs (i + 1)).toInt.toNat = (xs (i + 2)).toInt.toNat ∧ qp σ ((xs (i + 1)).toInt.toNat) + qp σ ((xs (i + 2)).toInt.toNat) ≤ 12 ∧ qn σ < 40)))), (0, .ref sb), (1, .ref bs), (2, .ref (bs + 2)), (3, .ref (bs + 13)), (4, .int (nI i))]) hx hb dL_law_525 hl (by decide) rfl (fun ls hl => ?_)
    refine lv_aload_n hx hb dL_law_527 rfl (lv_at hl 3 rfl) ?_
    refine lv_aload_n hx hb dL_law_528 rfl (lv_at hl 1 rfl) ?_
    refine lv_iload hx hb dL_law_529 (lv_at hl 5 rfl) ?_
    refine lv_iconst (v := nI 1) hx hb dL_law_531 (by decide +kernel) ?_
    refine x_add hx hb dL_law_532 ?_
    refine l_sld hx hb hX hsb (by omega) hS1 (by omega) hL dL_law_533 ?_
    refine lv_aload_n hx hb dL_law_534 rfl (lv_at hl 1 rfl) ?_
    refine lv_iload hx hb dL_law_535 (lv_at hl 5 rfl) ?_
    refine lv_iconst (v := nI 2) hx hb dL_law_537 (by decide +kernel) ?_
    refine x_add hx hb dL_law_538 ?_
    refine l_sld hx hb hX hsb (by omega) hS1 (by omega) hL dL_law_539 ?_
    refine lv_aload_n hx hb dL_law_540 rfl (lv_at hl 1 rfl) ?_
    refine lv_iload hx hb dL_law_541 (lv_at hl 5 rfl) ?_
    refine lv_iconst (v := nI 3) hx hb dL_law_543 (by decide +kernel) ?_
    refine x_add hx hb dL_law_544 ?_
    refine l_sld hx hb hX hsb (by omega) hS1 (by omega) hL dL_law_545 ?_
    refine lv_aload_n hx hb dL_law_546 rfl (lv_at hl 1 rfl) ?_
    refine lv_iload hx hb dL_law_547 (lv_at hl 5 rfl) ?_
    refine lv_iconst (v := nI 4) hx hb dL_law_549 (by decide +kernel) ?_
    refine x_add hx hb dL_law_550 ?_
    refine l_sld hx hb hX hsb (by omega) hS1 (by omega) hL dL_law_551 ?_
    obtain ⟨g1, g2, hW1⟩ := hM1
    refine m_V (rest := []) S hK (c_X2_glue l Γ bs (bs + 2) th σ hI (by omega) (xs (i + 1)) (xs (i + 2)) (xs (i + 3)) (xs (i + 4))) (cwV 4 hts gL_law_X2_glue rfl rfl rfl (by decide +kernel) ⟨Nat.le_of_ble_eq_true rfl, Nat.le_of_ble_eq_true rfl⟩) (Ob.recv hK hW1.1 rfl) ⟨g1, g2, hW1⟩ rfl hl.1 rfl (Nat.le_of_ble_eq_true rfl) dL_law_552 ⟨by show _ ≤ 601024; omega, by show _ ≤ 7293034; omega⟩ hlo (fun v H2 lc2 hp2 hlo => ?_)
    obtain ⟨hp2, hF2⟩ := hp2
    rcases hp2 with ⟨hcd2, rfl, g3, g4, hW⟩ | ⟨hcd2, rfl, g3, g4, hW⟩
    · skip
      exact absurd hcd2 (by omega)
    · skip
      have hI2 := hI
      have hC3 := hC2.fr hy hF2 (by omega) (by omega)
      have hA3 := hA2.kept (hF2.2 _ hA2.lt (Or.inr (by omega)))
      have hlow2 : ∀ q : Nat, q < bs → H2[q]? = s.heap[q]? := fun q q1 => (hF2.2 q (by omega) (Or.inl (by omega))).trans (hlow1 q q1)
      refine W.eq (g2 := F0 m 555 ls [.int (nI 0)]) rfl ?_
      refine lv_istore (lv' := [(6, .int (nI 0)), (5, .int (nI (cd3 (inb (xs (i + 1)) (qn σ) ∧ inb (xs (i + 2)) (qn σ)) (inb (xs (i + 3)) 3 ∧ inR (xs (i + 4)) (1 : Nat) (9 : Nat)) (qg σ ((xs (i + 1)).toInt.toNat) = 0 ∧ qg σ ((xs (i + 2)).toInt.toNat) = 0 ∧ ¬ (xs (i + 1)).toInt.toNat = (xs (i + 2)).toInt.toNat ∧ qp σ ((xs (i + 1)).toInt.toNat) + qp σ ((xs (i + 2)).toInt.toNat) ≤ 12 ∧ qn σ < 40)))), (0, .ref sb), (1, .ref bs), (2, .ref (bs + 2)), (3, .ref (bs + 13)), (4, .int (nI i))]) hx hb dL_law_555 hl (by decide) rfl (fun ls hl => ?_)
      refine lv_aload_n hx hb dL_law_557 rfl (lv_at hl 4 rfl) ?_
      refine ro_V (rest := []) S hK (c_X2_thrown l Γ (bs + 2) (nI (cd3 (inb (xs (i + 1)) (qn σ) ∧ inb (xs (i + 2)) (qn σ)) (inb (xs (i + 3)) 3 ∧ inR (xs (i + 4)) (1 : Nat) (9 : Nat)) (qg σ ((xs (i + 1)).toInt.toNat) = 0 ∧ qg σ ((xs (i + 2)).toInt.toNat) = 0 ∧ ¬ (xs (i + 1)).toInt.toNat = (xs (i + 2)).toInt.toNat ∧ qp σ ((xs (i + 1)).toInt.toNat) + qp σ ((xs (i + 2)).toInt.toNat) ≤ 12 ∧ qn σ < 40))) _ g3 g4 hI2) (cwV 0 hts gL_law_X2_thrown rfl rfl rfl (by decide +kernel) ⟨Nat.le_of_ble_eq_true rfl, Nat.le_of_ble_eq_true rfl⟩) (Ob.recv hK hW.1 rfl) hW rfl hl.1 rfl (Nat.le_of_ble_eq_true rfl) dL_law_558 ⟨by show _ ≤ 601024; omega, by show _ ≤ 7293034; omega⟩ ?_
      refine W.eq (g2 := F0 m 561 ls [.int (nI (cd3 (inb (xs (i + 1)) (qn σ) ∧ inb (xs (i + 2)) (qn σ)) (inb (xs (i + 3)) 3 ∧ inR (xs (i + 4)) (1 : Nat) (9 : Nat)) (qg σ ((xs (i + 1)).toInt.toNat) = 0 ∧ qg σ ((xs (i + 2)).toInt.toNat) = 0 ∧ ¬ (xs (i + 1)).toInt.toNat = (xs (i + 2)).toInt.toNat ∧ qp σ ((xs (i + 1)).toInt.toNat) + qp σ ((xs (i + 2)).toInt.toNat) ≤ 12 ∧ qn σ < 40)))]) rfl ?_
      refine lv_iload hx hb dL_law_561 (lv_at hl 1 rfl) ?_
      refine lv_icmp_eq (tgt := 568) hx hb dL_law_563 (by decide) (fun c9 => ?_) (fun c9 => absurd rfl c9)
      refine lv_iload hx hb dL_law_568 (lv_at hl 1 rfl) ?_
      refine x_ifne hx hb (Nat.lt_of_le_of_lt (cd3_le _ _ _) (by decide)) (tgt := 585) dL_law_570 (by decide) (fun c9 => ?_) (fun c9 => absurd c9 (by omega))
      refine lv_goto (tgt := 1514) hx hb dL_law_585 (by decide) ?_
      refine W.widen (k := C0 + 300) (n := S0 + 2100) (by omega) (by omega) ?_
      exact k σ ad _ _ _ _ ⟨hI, hy, hC3, ⟨_, _, hW⟩, hA3, hlo, by have := hF2.1; omega, hlow2⟩ ls (lv_sub hl [2, 3, 4, 5, 6] rfl)
set_option maxHeartbeats 4000000 in
set_option maxRecDepth 100000 in
theorem lawc_stick {p : Program} {l : Launch} {e : Env} {s : State} {m : MethodId} {args : Array Value} {below : List Frame} {meth : Method} {c : Code} {H : Heap} {locs : List Loc} {Q : State → Prop} {Γ : GG} {cJ : ClassId} {bs sb L i C0 S0 : Nat} {xs : Nat → Int32} {σ : St} {ad : Nat → Nat} {th : Int32} {v0 : Int64}
    (hfl : l.stackTraces = false) (S : CallFix p m c cL_law 9 s args wsL_law RL) (hK : xK Γ s) (hT : xT bs s) (hE0 : xE s) (hJ : xJ cJ s) (hX : va_X sb L xs s s.heap) (hsb : sb < s.heap.size) (hbs : s.heap.size = bs) (hL : L ≤ 2560) (hi : i + 5 ≤ L) (hC0 : C0 + 300 ≤ 601024) (hS0 : S0 + 2100 ≤ 7293034) (hLI : LI Γ cJ bs s σ ad th v0 H locs)
    (k : ∀ (σ' : St) (ad' : Nat → Nat) (th' : Int32) (v' : Int64) (H' : Heap) (locs' : List Loc), LI Γ cJ bs s σ' ad' th' v' H' locs' → ∀ ls : Array Slot, lv_has ls 9 [(0, .ref sb), (1, .ref bs), (2, .ref (bs + 2)), (3, .ref (bs + 13)), (4, .int (nI i))] → W p l e room_1 s m args below meth c H' locs' (C0 + 300) (S0 + 2100) Q (F0 m 1514 ls []))
    (ls : Array Slot) (hl : lv_has ls 9 [(0, .ref sb), (1, .ref bs), (2, .ref (bs + 2)), (3, .ref (bs + 13)), (4, .int (nI i))]) : W p l e room_1 s m args below meth c H locs C0 S0 Q (F0 m 588 ls []) := by
  obtain ⟨hx, hb, hml, hown, hts⟩ := id S
  obtain ⟨hI, hy, hC, hM, hA, hlo, hsz, hlow⟩ := hLI
  have hS9 := LI.S hbs hlo hsz hlow
  refine lv_aload_n hx hb dL_law_588 rfl (lv_at hl 1 rfl) ?_
  refine lv_aload_n hx hb dL_law_589 rfl (lv_at hl 0 rfl) ?_
  refine lv_iload hx hb dL_law_590 (lv_at hl 4 rfl) ?_
  refine lv_iconst (v := nI 1) hx hb dL_law_592 (by decide +kernel) ?_
  refine x_add hx hb dL_law_593 ?_
  refine l_sld hx hb hX hsb (by omega) hS9 (by omega) hL dL_law_594 ?_
  refine lv_aload_n hx hb dL_law_595 rfl (lv_at hl 0 rfl) ?_
  refine lv_iload hx hb dL_law_596 (lv_at hl 4 rfl) ?_
  refine lv_iconst (v := nI 2) hx hb dL_law_598 (by decide +kernel) ?_
  refine x_add hx hb dL_law_599 ?_
  refine l_sld hx hb hX hsb (by omega) hS9 (by omega) hL dL_law_600 ?_
  refine lv_aload_n hx hb dL_law_601 rfl (lv_at hl 3 rfl) ?_
  refine l_S (rest := []) S hK hT hE0 hJ hlow (c_L_stick l hfl Γ cJ bs bs (bs + 13) (bs + 14) σ ad hI (xs (i + 1)) (xs (i + 2)) hy (by omega) (by omega) (Nat.le_refl _) v0) (vx_cwSW 4 hts gL_law_L_stick rfl rfl rfl (by decide +kernel) ⟨Nat.le_of_ble_eq_true rfl, Nat.le_of_ble_eq_true rfl⟩) ⟨hC, hsz, hA⟩ rfl hl.1 rfl (Nat.le_of_ble_eq_true rfl) dL_law_602 ⟨by show _ ≤ 601024; omega, by show _ ≤ 7293034; omega⟩ hlo (fun v H1 lc1 hp hlo => ?_)
  obtain ⟨hp, hz1, ho1⟩ := hp
  have hM1 : MX Γ (bs + 2) th σ H1 := hM.kept (fun q q1 q2 => ho1 q (by omega) (by omega) (by omega) (by omega) (by omega))
  have hlow1 : ∀ q : Nat, q < bs → H1[q]? = s.heap[q]? := fun q q1 => (ho1 q (by omega) (by omega) (by omega) (by omega) (by omega)).trans (hlow q q1)
  have hS1 := LI.S hbs hlo (show bs + 14 ≤ H1.size by omega) hlow1
  rcases hp with ⟨hcd, rfl, ⟨ad2, hC2, hy2⟩, hA2⟩ | ⟨hcd, rfl, hC2, hA2⟩
  · skip
    refine W.eq (g2 := F0 m 605 ls [.int (nI 0)]) rfl ?_
    refine lv_istore (lv' := [(5, .int (nI 0)), (0, .ref sb), (1, .ref bs), (2, .ref (bs + 2)), (3, .ref (bs + 13)), (4, .int (nI i))]) hx hb dL_law_605 hl (by decide) rfl (fun ls hl => ?_)
    refine lv_aload_n hx hb dL_law_607 rfl (lv_at hl 3 rfl) ?_
    refine lv_aload_n hx hb dL_law_608 rfl (lv_at hl 1 rfl) ?_
    refine lv_iload hx hb dL_law_609 (lv_at hl 5 rfl) ?_
    refine lv_iconst (v := nI 1) hx hb dL_law_611 (by decide +kernel) ?_
    refine x_add hx hb dL_law_612 ?_
    refine l_sld hx hb hX hsb (by omega) hS1 (by omega) hL dL_law_613 ?_
    refine lv_aload_n hx hb dL_law_614 rfl (lv_at hl 1 rfl) ?_
    refine lv_iload hx hb dL_law_615 (lv_at hl 5 rfl) ?_
    refine lv_iconst (v := nI 2) hx hb dL_law_617 (by decide +kernel) ?_
    refine x_add hx hb dL_law_618 ?_
    refine l_sld hx hb hX hsb (by omega) hS1 (by omega) hL dL_law_619 ?_
    obtain ⟨g1, g2, hW1⟩ := hM1
    refine m_V (rest := []) S hK (c_X2_stick l Γ bs (bs + 2) th σ hI (by omega) (xs (i + 1)) (xs (i + 2))) (cwV 2 hts gL_law_X2_stick rfl rfl rfl (by decide +kernel) ⟨Nat.le_of_ble_eq_true rfl, Nat.le_of_ble_eq_true rfl⟩) (Ob.recv hK hW1.1 rfl) ⟨g1, g2, hW1⟩ rfl hl.1 rfl (Nat.le_of_ble_eq_true rfl) dL_law_620 ⟨by show _ ≤ 601024; omega, by show _ ≤ 7293034; omega⟩ hlo (fun v H2 lc2 hp2 hlo => ?_)
    obtain ⟨hp2, hF2⟩ := hp2
    rcases hp2 with ⟨hcd2, rfl, g3, g4, hW⟩ | ⟨hcd2, rfl, g3, g4, hW⟩
    · skip
      have hI2 : Iv σ := hI
      have hC3 := hC2.fr hy2 hF2 (by omega) (by omega)
      have hA3 := hA2.kept (hF2.2 _ hA2.lt (Or.inr (by omega)))
      have hlow2 : ∀ q : Nat, q < bs → H2[q]? = s.heap[q]? := fun q q1 => (hF2.2 q (by omega) (Or.inl (by omega))).trans (hlow1 q q1)
      refine W.eq (g2 := F0 m 623 ls [.int (fk σ ((xs (i + 1)).toInt.toNat) ((xs (i + 2)).toInt.toNat))]) rfl ?_
      refine lv_istore (lv' := [(6, .int (fk σ ((xs (i + 1)).toInt.toNat) ((xs (i + 2)).toInt.toNat))), (5, .int (nI 0)), (0, .ref sb), (1, .ref bs), (2, .ref (bs + 2)), (3, .ref (bs + 13)), (4, .int (nI i))]) hx hb dL_law_623 hl (by decide) rfl (fun ls hl => ?_)
      refine lv_aload_n hx hb dL_law_625 rfl (lv_at hl 4 rfl) ?_
      refine ro_V (rest := []) S hK (c_X2_thrown l Γ (bs + 2) (nI 0) _ g3 g4 hI2) (cwV 0 hts gL_law_X2_thrown rfl rfl rfl (by decide +kernel) ⟨Nat.le_of_ble_eq_true rfl, Nat.le_of_ble_eq_true rfl⟩) (Ob.recv hK hW.1 rfl) hW rfl hl.1 rfl (Nat.le_of_ble_eq_true rfl) dL_law_626 ⟨by show _ ≤ 601024; omega, by show _ ≤ 7293034; omega⟩ ?_
      refine W.eq (g2 := F0 m 629 ls [.int (nI 0)]) rfl ?_
      refine lv_iload hx hb dL_law_629 (lv_at hl 1 rfl) ?_
      refine x_iceq hx hb (by omega) (by omega) (tgt := 636) dL_law_631 (by decide) (fun c_1 => ?_) (fun c_1 => absurd c_1 (by decide))
      refine lv_iload hx hb dL_law_636 (lv_at hl 1 rfl) ?_
      refine x_ifne hx hb (by omega) (tgt := 653) dL_law_638 (by decide) (fun c_2 => absurd c_2 (by decide)) (fun c_2 => ?_)
      refine lv_aload_n hx hb dL_law_641 rfl (lv_at hl 5 rfl) ?_
      refine lv_iconst (v := nI 0) hx hb dL_law_642 (by decide +kernel) ?_
      refine x_lald hx hb hJ hA3 dL_law_643 ?_
      refine lv_iload hx hb dL_law_644 (lv_at hl 0 rfl) ?_
      refine lv_i2l hx hb dL_law_646 rfl ?_
      refine x_lcmp (v := nI 0) hx hb dL_law_647 (lcmp_eq _) ?_
      refine x_ifeq hx hb (by omega) (tgt := 653) dL_law_648 (by decide) (fun c_3 => ?_) (fun c_3 => absurd c_3 (by decide))
      refine lv_goto (tgt := 1514) hx hb dL_law_653 (by decide) ?_
      refine W.widen (k := C0 + 300) (n := S0 + 2100) (by omega) (by omega) ?_
      exact k σ ad2 _ _ _ _ ⟨hI2, hy2, hC3, ⟨_, _, hW⟩, hA3, hlo, by have := hF2.1; omega, hlow2⟩ ls (lv_sub hl [2, 3, 4, 5, 6] rfl)
    · skip
      exact absurd hcd2 (by omega)
  · skip
    refine W.eq (g2 := F0 m 605 ls [.int (nI (cd1 (inb (xs (i + 1)) (qn σ) ∧ inb (xs (i + 2)) 7)))]) rfl ?_
    refine lv_istore (lv' := [(5, .int (nI (cd1 (inb (xs (i + 1)) (qn σ) ∧ inb (xs (i + 2)) 7)))), (0, .ref sb), (1, .ref bs), (2, .ref (bs + 2)), (3, .ref (bs + 13)), (4, .int (nI i))]) hx hb dL_law_605 hl (by decide) rfl (fun ls hl => ?_)
    refine lv_aload_n hx hb dL_law_607 rfl (lv_at hl 3 rfl) ?_
    refine lv_aload_n hx hb dL_law_608 rfl (lv_at hl 1 rfl) ?_
    refine lv_iload hx hb dL_law_609 (lv_at hl 5 rfl) ?_
    refine lv_iconst (v := nI 1) hx hb dL_law_611 (by decide +kernel) ?_
    refine x_add hx hb dL_law_612 ?_
    refine l_sld hx hb hX hsb (by omega) hS1 (by omega) hL dL_law_613 ?_
    refine lv_aload_n hx hb dL_law_614 rfl (lv_at hl 1 rfl) ?_
    refine lv_iload hx hb dL_law_615 (lv_at hl 5 rfl) ?_
    refine lv_iconst (v := nI 2) hx hb dL_law_617 (by decide +kernel) ?_
    refine x_add hx hb dL_law_618 ?_
    refine l_sld hx hb hX hsb (by omega) hS1 (by omega) hL dL_law_619 ?_
    obtain ⟨g1, g2, hW1⟩ := hM1
    refine m_V (rest := []) S hK (c_X2_stick l Γ bs (bs + 2) th σ hI (by omega) (xs (i + 1)) (xs (i + 2))) (cwV 2 hts gL_law_X2_stick rfl rfl rfl (by decide +kernel) ⟨Nat.le_of_ble_eq_true rfl, Nat.le_of_ble_eq_true rfl⟩) (Ob.recv hK hW1.1 rfl) ⟨g1, g2, hW1⟩ rfl hl.1 rfl (Nat.le_of_ble_eq_true rfl) dL_law_620 ⟨by show _ ≤ 601024; omega, by show _ ≤ 7293034; omega⟩ hlo (fun v H2 lc2 hp2 hlo => ?_)
    obtain ⟨hp2, hF2⟩ := hp2
    rcases hp2 with ⟨hcd2, rfl, g3, g4, hW⟩ | ⟨hcd2, rfl, g3, g4, hW⟩
    · skip
      exact absurd hcd2 (by omega)
    · skip
      have hI2 := hI
      have hC3 := hC2.fr hy hF2 (by omega) (by omega)
      have hA3 := hA2.kept (hF2.2 _ hA2.lt (Or.inr (by omega)))
      have hlow2 : ∀ q : Nat, q < bs → H2[q]? = s.heap[q]? := fun q q1 => (hF2.2 q (by omega) (Or.inl (by omega))).trans (hlow1 q q1)
      refine W.eq (g2 := F0 m 623 ls [.int (nI 0)]) rfl ?_
      refine lv_istore (lv' := [(6, .int (nI 0)), (5, .int (nI (cd1 (inb (xs (i + 1)) (qn σ) ∧ inb (xs (i + 2)) 7)))), (0, .ref sb), (1, .ref bs), (2, .ref (bs + 2)), (3, .ref (bs + 13)), (4, .int (nI i))]) hx hb dL_law_623 hl (by decide) rfl (fun ls hl => ?_)
      refine lv_aload_n hx hb dL_law_625 rfl (lv_at hl 4 rfl) ?_
      refine ro_V (rest := []) S hK (c_X2_thrown l Γ (bs + 2) (nI (cd1 (inb (xs (i + 1)) (qn σ) ∧ inb (xs (i + 2)) 7))) _ g3 g4 hI2) (cwV 0 hts gL_law_X2_thrown rfl rfl rfl (by decide +kernel) ⟨Nat.le_of_ble_eq_true rfl, Nat.le_of_ble_eq_true rfl⟩) (Ob.recv hK hW.1 rfl) hW rfl hl.1 rfl (Nat.le_of_ble_eq_true rfl) dL_law_626 ⟨by show _ ≤ 601024; omega, by show _ ≤ 7293034; omega⟩ ?_
      refine W.eq (g2 := F0 m 629 ls [.int (nI (cd1 (inb (xs (i + 1)) (qn σ) ∧ inb (xs (i + 2)) 7)))]) rfl ?_
      refine lv_iload hx hb dL_law_629 (lv_at hl 1 rfl) ?_
      refine lv_icmp_eq (tgt := 636) hx hb dL_law_631 (by decide) (fun c9 => ?_) (fun c9 => absurd rfl c9)
      refine lv_iload hx hb dL_law_636 (lv_at hl 1 rfl) ?_
      refine x_ifne hx hb (Nat.lt_of_le_of_lt (cd1_le _) (by decide)) (tgt := 653) dL_law_638 (by decide) (fun c9 => ?_) (fun c9 => absurd c9 (by omega))
      refine lv_goto (tgt := 1514) hx hb dL_law_653 (by decide) ?_
      refine W.widen (k := C0 + 300) (n := S0 + 2100) (by omega) (by omega) ?_
      exact k σ ad _ _ _ _ ⟨hI, hy, hC3, ⟨_, _, hW⟩, hA3, hlo, by have := hF2.1; omega, hlow2⟩ ls (lv_sub hl [2, 3, 4, 5, 6] rfl)
set_option maxHeartbeats 4000000 in
set_option maxRecDepth 100000 in
theorem lawc_rune {p : Program} {l : Launch} {e : Env} {s : State} {m : MethodId} {args : Array Value} {below : List Frame} {meth : Method} {c : Code} {H : Heap} {locs : List Loc} {Q : State → Prop} {Γ : GG} {cJ : ClassId} {bs sb L i C0 S0 : Nat} {xs : Nat → Int32} {σ : St} {ad : Nat → Nat} {th : Int32} {v0 : Int64}
    (hfl : l.stackTraces = false) (S : CallFix p m c cL_law 9 s args wsL_law RL) (hK : xK Γ s) (hT : xT bs s) (hE0 : xE s) (hJ : xJ cJ s) (hX : va_X sb L xs s s.heap) (hsb : sb < s.heap.size) (hbs : s.heap.size = bs) (hL : L ≤ 2560) (hi : i + 5 ≤ L) (hC0 : C0 + 300 ≤ 601024) (hS0 : S0 + 2100 ≤ 7293034) (hLI : LI Γ cJ bs s σ ad th v0 H locs)
    (k : ∀ (σ' : St) (ad' : Nat → Nat) (th' : Int32) (v' : Int64) (H' : Heap) (locs' : List Loc), LI Γ cJ bs s σ' ad' th' v' H' locs' → ∀ ls : Array Slot, lv_has ls 9 [(0, .ref sb), (1, .ref bs), (2, .ref (bs + 2)), (3, .ref (bs + 13)), (4, .int (nI i))] → W p l e room_1 s m args below meth c H' locs' (C0 + 300) (S0 + 2100) Q (F0 m 1514 ls []))
    (ls : Array Slot) (hl : lv_has ls 9 [(0, .ref sb), (1, .ref bs), (2, .ref (bs + 2)), (3, .ref (bs + 13)), (4, .int (nI i))]) : W p l e room_1 s m args below meth c H locs C0 S0 Q (F0 m 656 ls []) := by
  obtain ⟨hx, hb, hml, hown, hts⟩ := id S
  obtain ⟨hI, hy, hC, hM, hA, hlo, hsz, hlow⟩ := hLI
  have hS9 := LI.S hbs hlo hsz hlow
  refine lv_aload_n hx hb dL_law_656 rfl (lv_at hl 1 rfl) ?_
  refine lv_aload_n hx hb dL_law_657 rfl (lv_at hl 0 rfl) ?_
  refine lv_iload hx hb dL_law_658 (lv_at hl 4 rfl) ?_
  refine lv_iconst (v := nI 1) hx hb dL_law_660 (by decide +kernel) ?_
  refine x_add hx hb dL_law_661 ?_
  refine l_sld hx hb hX hsb (by omega) hS9 (by omega) hL dL_law_662 ?_
  refine lv_aload_n hx hb dL_law_663 rfl (lv_at hl 0 rfl) ?_
  refine lv_iload hx hb dL_law_664 (lv_at hl 4 rfl) ?_
  refine lv_iconst (v := nI 2) hx hb dL_law_666 (by decide +kernel) ?_
  refine x_add hx hb dL_law_667 ?_
  refine l_sld hx hb hX hsb (by omega) hS9 (by omega) hL dL_law_668 ?_
  refine lv_aload_n hx hb dL_law_669 rfl (lv_at hl 0 rfl) ?_
  refine lv_iload hx hb dL_law_670 (lv_at hl 4 rfl) ?_
  refine lv_iconst (v := nI 3) hx hb dL_law_672 (by decide +kernel) ?_
  refine x_add hx hb dL_law_673 ?_
  refine l_sld hx hb hX hsb (by omega) hS9 (by omega) hL dL_law_674 ?_
  refine lv_aload_n hx hb dL_law_675 rfl (lv_at hl 3 rfl) ?_
  refine l_S (rest := []) S hK hT hE0 hJ hlow (c_L_rune l hfl Γ cJ bs bs (bs + 13) (bs + 14) σ ad hI (xs (i + 1)) (xs (i + 2)) (xs (i + 3)) hy (by omega) (by omega) (Nat.le_refl _) v0) (vx_cwSW 5 hts gL_law_L_rune rfl rfl rfl (by decide +kernel) ⟨Nat.le_of_ble_eq_true rfl, Nat.le_of_ble_eq_true rfl⟩) ⟨hC, hsz, hA⟩ rfl hl.1 rfl (Nat.le_of_ble_eq_true rfl) dL_law_676 ⟨by show _ ≤ 601024; omega, by show _ ≤ 7293034; omega⟩ hlo (fun v H1 lc1 hp hlo => ?_)
  obtain ⟨hp, hz1, ho1⟩ := hp
  have hM1 : MX Γ (bs + 2) th σ H1 := hM.kept (fun q q1 q2 => ho1 q (by omega) (by omega) (by omega) (by omega) (by omega))
  have hlow1 : ∀ q : Nat, q < bs → H1[q]? = s.heap[q]? := fun q q1 => (ho1 q (by omega) (by omega) (by omega) (by omega) (by omega)).trans (hlow q q1)
  have hS1 := LI.S hbs hlo (show bs + 14 ≤ H1.size by omega) hlow1
  rcases hp with ⟨hcd, rfl, ⟨ad2, hC2, hy2⟩, hA2⟩ | ⟨hcd, rfl, hC2, hA2⟩
  · skip
    refine W.eq (g2 := F0 m 679 ls [.int (nI 0)]) rfl ?_
    refine lv_istore (lv' := [(5, .int (nI 0)), (0, .ref sb), (1, .ref bs), (2, .ref (bs + 2)), (3, .ref (bs + 13)), (4, .int (nI i))]) hx hb dL_law_679 hl (by decide) rfl (fun ls hl => ?_)
    refine lv_aload_n hx hb dL_law_681 rfl (lv_at hl 3 rfl) ?_
    refine lv_aload_n hx hb dL_law_682 rfl (lv_at hl 1 rfl) ?_
    refine lv_iload hx hb dL_law_683 (lv_at hl 5 rfl) ?_
    refine lv_iconst (v := nI 1) hx hb dL_law_685 (by decide +kernel) ?_
    refine x_add hx hb dL_law_686 ?_
    refine l_sld hx hb hX hsb (by omega) hS1 (by omega) hL dL_law_687 ?_
    refine lv_aload_n hx hb dL_law_688 rfl (lv_at hl 1 rfl) ?_
    refine lv_iload hx hb dL_law_689 (lv_at hl 5 rfl) ?_
    refine lv_iconst (v := nI 2) hx hb dL_law_691 (by decide +kernel) ?_
    refine x_add hx hb dL_law_692 ?_
    refine l_sld hx hb hX hsb (by omega) hS1 (by omega) hL dL_law_693 ?_
    refine lv_aload_n hx hb dL_law_694 rfl (lv_at hl 1 rfl) ?_
    refine lv_iload hx hb dL_law_695 (lv_at hl 5 rfl) ?_
    refine lv_iconst (v := nI 3) hx hb dL_law_697 (by decide +kernel) ?_
    refine x_add hx hb dL_law_698 ?_
    refine l_sld hx hb hX hsb (by omega) hS1 (by omega) hL dL_law_699 ?_
    obtain ⟨g1, g2, hW1⟩ := hM1
    refine m_V (rest := []) S hK (c_X2_rune l Γ bs (bs + 2) th σ hI (by omega) (xs (i + 1)) (xs (i + 2)) (xs (i + 3))) (cwV 3 hts gL_law_X2_rune rfl rfl rfl (by decide +kernel) ⟨Nat.le_of_ble_eq_true rfl, Nat.le_of_ble_eq_true rfl⟩) (Ob.recv hK hW1.1 rfl) ⟨g1, g2, hW1⟩ rfl hl.1 rfl (Nat.le_of_ble_eq_true rfl) dL_law_700 ⟨by show _ ≤ 601024; omega, by show _ ≤ 7293034; omega⟩ hlo (fun v H2 lc2 hp2 hlo => ?_)
    obtain ⟨hp2, hF2⟩ := hp2
    rcases hp2 with ⟨hcd2, rfl, g3, g4, hW⟩ | ⟨hcd2, rfl, g3, g4, hW⟩
    · skip
      have hI2 : Iv σ := hI
      have hC3 := hC2.fr hy2 hF2 (by omega) (by omega)
      have hA3 := hA2.kept (hF2.2 _ hA2.lt (Or.inr (by omega)))
      have hlow2 : ∀ q : Nat, q < bs → H2[q]? = s.heap[q]? := fun q q1 => (hF2.2 q (by omega) (Or.inl (by omega))).trans (hlow1 q q1)
      refine W.eq (g2 := F0 m 703 ls [.int (rk σ ((xs (i + 1)).toInt.toNat) (3 * (xs (i + 3)).toInt.toNat + (xs (i + 2)).toInt.toNat))]) rfl ?_
      refine lv_istore (lv' := [(6, .int (rk σ ((xs (i + 1)).toInt.toNat) (3 * (xs (i + 3)).toInt.toNat + (xs (i + 2)).toInt.toNat))), (5, .int (nI 0)), (0, .ref sb), (1, .ref bs), (2, .ref (bs + 2)), (3, .ref (bs + 13)), (4, .int (nI i))]) hx hb dL_law_703 hl (by decide) rfl (fun ls hl => ?_)
      refine lv_aload_n hx hb dL_law_705 rfl (lv_at hl 4 rfl) ?_
      refine ro_V (rest := []) S hK (c_X2_thrown l Γ (bs + 2) (nI 0) _ g3 g4 hI2) (cwV 0 hts gL_law_X2_thrown rfl rfl rfl (by decide +kernel) ⟨Nat.le_of_ble_eq_true rfl, Nat.le_of_ble_eq_true rfl⟩) (Ob.recv hK hW.1 rfl) hW rfl hl.1 rfl (Nat.le_of_ble_eq_true rfl) dL_law_706 ⟨by show _ ≤ 601024; omega, by show _ ≤ 7293034; omega⟩ ?_
      refine W.eq (g2 := F0 m 709 ls [.int (nI 0)]) rfl ?_
      refine lv_iload hx hb dL_law_709 (lv_at hl 1 rfl) ?_
      refine x_iceq hx hb (by omega) (by omega) (tgt := 716) dL_law_711 (by decide) (fun c_1 => ?_) (fun c_1 => absurd c_1 (by decide))
      refine lv_iload hx hb dL_law_716 (lv_at hl 1 rfl) ?_
      refine x_ifne hx hb (by omega) (tgt := 733) dL_law_718 (by decide) (fun c_2 => absurd c_2 (by decide)) (fun c_2 => ?_)
      refine lv_aload_n hx hb dL_law_721 rfl (lv_at hl 5 rfl) ?_
      refine lv_iconst (v := nI 0) hx hb dL_law_722 (by decide +kernel) ?_
      refine x_lald hx hb hJ hA3 dL_law_723 ?_
      refine lv_iload hx hb dL_law_724 (lv_at hl 0 rfl) ?_
      refine lv_i2l hx hb dL_law_726 rfl ?_
      refine x_lcmp (v := nI 0) hx hb dL_law_727 (lcmp_eq _) ?_
      refine x_ifeq hx hb (by omega) (tgt := 733) dL_law_728 (by decide) (fun c_3 => ?_) (fun c_3 => absurd c_3 (by decide))
      refine lv_goto (tgt := 1514) hx hb dL_law_733 (by decide) ?_
      refine W.widen (k := C0 + 300) (n := S0 + 2100) (by omega) (by omega) ?_
      exact k σ ad2 _ _ _ _ ⟨hI2, hy2, hC3, ⟨_, _, hW⟩, hA3, hlo, by have := hF2.1; omega, hlow2⟩ ls (lv_sub hl [2, 3, 4, 5, 6] rfl)
    · skip
      exact absurd hcd2 (by omega)
  · skip
    refine W.eq (g2 := F0 m 679 ls [.int (nI (cd1 (spotP σ (xs (i + 1)) (xs (i + 2)) (xs (i + 3)))))]) rfl ?_
    refine lv_istore (lv' := [(5, .int (nI (cd1 (spotP σ (xs (i + 1)) (xs (i + 2)) (xs (i + 3)))))), (0, .ref sb), (1, .ref bs), (2, .ref (bs + 2)), (3, .ref (bs + 13)), (4, .int (nI i))]) hx hb dL_law_679 hl (by decide) rfl (fun ls hl => ?_)
    refine lv_aload_n hx hb dL_law_681 rfl (lv_at hl 3 rfl) ?_
    refine lv_aload_n hx hb dL_law_682 rfl (lv_at hl 1 rfl) ?_
    refine lv_iload hx hb dL_law_683 (lv_at hl 5 rfl) ?_
    refine lv_iconst (v := nI 1) hx hb dL_law_685 (by decide +kernel) ?_
    refine x_add hx hb dL_law_686 ?_
    refine l_sld hx hb hX hsb (by omega) hS1 (by omega) hL dL_law_687 ?_
    refine lv_aload_n hx hb dL_law_688 rfl (lv_at hl 1 rfl) ?_
    refine lv_iload hx hb dL_law_689 (lv_at hl 5 rfl) ?_
    refine lv_iconst (v := nI 2) hx hb dL_law_691 (by decide +kernel) ?_
    refine x_add hx hb dL_law_692 ?_
    refine l_sld hx hb hX hsb (by omega) hS1 (by omega) hL dL_law_693 ?_
    refine lv_aload_n hx hb dL_law_694 rfl (lv_at hl 1 rfl) ?_
    refine lv_iload hx hb dL_law_695 (lv_at hl 5 rfl) ?_
    refine lv_iconst (v := nI 3) hx hb dL_law_697 (by decide +kernel) ?_
    refine x_add hx hb dL_law_698 ?_
    refine l_sld hx hb hX hsb (by omega) hS1 (by omega) hL dL_law_699 ?_
    obtain ⟨g1, g2, hW1⟩ := hM1
    refine m_V (rest := []) S hK (c_X2_rune l Γ bs (bs + 2) th σ hI (by omega) (xs (i + 1)) (xs (i + 2)) (xs (i + 3))) (cwV 3 hts gL_law_X2_rune rfl rfl rfl (by decide +kernel) ⟨Nat.le_of_ble_eq_true rfl, Nat.le_of_ble_eq_true rfl⟩) (Ob.recv hK hW1.1 rfl) ⟨g1, g2, hW1⟩ rfl hl.1 rfl (Nat.le_of_ble_eq_true rfl) dL_law_700 ⟨by show _ ≤ 601024; omega, by show _ ≤ 7293034; omega⟩ hlo (fun v H2 lc2 hp2 hlo => ?_)
    obtain ⟨hp2, hF2⟩ := hp2
    rcases hp2 with ⟨hcd2, rfl, g3, g4, hW⟩ | ⟨hcd2, rfl, g3, g4, hW⟩
    · skip
      exact absurd hcd2 (by omega)
    · skip
      have hI2 := hI
      have hC3 := hC2.fr hy hF2 (by omega) (by omega)
      have hA3 := hA2.kept (hF2.2 _ hA2.lt (Or.inr (by omega)))
      have hlow2 : ∀ q : Nat, q < bs → H2[q]? = s.heap[q]? := fun q q1 => (hF2.2 q (by omega) (Or.inl (by omega))).trans (hlow1 q q1)
      refine W.eq (g2 := F0 m 703 ls [.int (nI 0)]) rfl ?_
      refine lv_istore (lv' := [(6, .int (nI 0)), (5, .int (nI (cd1 (spotP σ (xs (i + 1)) (xs (i + 2)) (xs (i + 3)))))), (0, .ref sb), (1, .ref bs), (2, .ref (bs + 2)), (3, .ref (bs + 13)), (4, .int (nI i))]) hx hb dL_law_703 hl (by decide) rfl (fun ls hl => ?_)
      refine lv_aload_n hx hb dL_law_705 rfl (lv_at hl 4 rfl) ?_
      refine ro_V (rest := []) S hK (c_X2_thrown l Γ (bs + 2) (nI (cd1 (spotP σ (xs (i + 1)) (xs (i + 2)) (xs (i + 3))))) _ g3 g4 hI2) (cwV 0 hts gL_law_X2_thrown rfl rfl rfl (by decide +kernel) ⟨Nat.le_of_ble_eq_true rfl, Nat.le_of_ble_eq_true rfl⟩) (Ob.recv hK hW.1 rfl) hW rfl hl.1 rfl (Nat.le_of_ble_eq_true rfl) dL_law_706 ⟨by show _ ≤ 601024; omega, by show _ ≤ 7293034; omega⟩ ?_
      refine W.eq (g2 := F0 m 709 ls [.int (nI (cd1 (spotP σ (xs (i + 1)) (xs (i + 2)) (xs (i + 3)))))]) rfl ?_
      refine lv_iload hx hb dL_law_709 (lv_at hl 1 rfl) ?_
      refine lv_icmp_eq (tgt := 716) hx hb dL_law_711 (by decide) (fun c9 => ?_) (fun c9 => absurd rfl c9)
      refine lv_iload hx hb dL_law_716 (lv_at hl 1 rfl) ?_
      refine x_ifne hx hb (Nat.lt_of_le_of_lt (cd1_le _) (by decide)) (tgt := 733) dL_law_718 (by decide) (fun c9 => ?_) (fun c9 => absurd c9 (by omega))
      refine lv_goto (tgt := 1514) hx hb dL_law_733 (by decide) ?_
      refine W.widen (k := C0 + 300) (n := S0 + 2100) (by omega) (by omega) ?_
      exact k σ ad _ _ _ _ ⟨hI, hy, hC3, ⟨_, _, hW⟩, hA3, hlo, by have := hF2.1; omega, hlow2⟩ ls (lv_sub hl [2, 3, 4, 5, 6] rfl)
set_option maxHeartbeats 4000000 in
set_option maxRecDepth 100000 in
theorem lawc_strength {p : Program} {l : Launch} {e : Env} {s : State} {m : MethodId} {args : Array Value} {below : List Frame} {meth : Method} {c : Code} {H : Heap} {locs : List Loc} {Q : State → Prop} {Γ : GG} {cJ : ClassId} {bs sb L i C0 S0 : Nat} {xs : Nat → Int32} {σ : St} {ad : Nat → Nat} {th : Int32} {v0 : Int64}
    (hfl : l.stackTraces = false) (S : CallFix p m c cL_law 9 s args wsL_law RL) (hK : xK Γ s) (hT : xT bs s) (hE0 : xE s) (hJ : xJ cJ s) (hX : va_X sb L xs s s.heap) (hsb : sb < s.heap.size) (hbs : s.heap.size = bs) (hL : L ≤ 2560) (hi : i + 5 ≤ L) (hC0 : C0 + 300 ≤ 601024) (hS0 : S0 + 2100 ≤ 7293034) (hLI : LI Γ cJ bs s σ ad th v0 H locs)
    (k : ∀ (σ' : St) (ad' : Nat → Nat) (th' : Int32) (v' : Int64) (H' : Heap) (locs' : List Loc), LI Γ cJ bs s σ' ad' th' v' H' locs' → ∀ ls : Array Slot, lv_has ls 9 [(0, .ref sb), (1, .ref bs), (2, .ref (bs + 2)), (3, .ref (bs + 13)), (4, .int (nI i))] → W p l e room_1 s m args below meth c H' locs' (C0 + 300) (S0 + 2100) Q (F0 m 1514 ls []))
    (ls : Array Slot) (hl : lv_has ls 9 [(0, .ref sb), (1, .ref bs), (2, .ref (bs + 2)), (3, .ref (bs + 13)), (4, .int (nI i))]) : W p l e room_1 s m args below meth c H locs C0 S0 Q (F0 m 736 ls []) := by
  obtain ⟨hx, hb, hml, hown, hts⟩ := id S
  obtain ⟨hI, hy, hC, hM, hA, hlo, hsz, hlow⟩ := hLI
  have hS9 := LI.S hbs hlo hsz hlow
  refine lv_aload_n hx hb dL_law_736 rfl (lv_at hl 1 rfl) ?_
  refine lv_aload_n hx hb dL_law_737 rfl (lv_at hl 0 rfl) ?_
  refine lv_iload hx hb dL_law_738 (lv_at hl 4 rfl) ?_
  refine lv_iconst (v := nI 1) hx hb dL_law_740 (by decide +kernel) ?_
  refine x_add hx hb dL_law_741 ?_
  refine l_sld hx hb hX hsb (by omega) hS9 (by omega) hL dL_law_742 ?_
  refine lv_aload_n hx hb dL_law_743 rfl (lv_at hl 0 rfl) ?_
  refine lv_iload hx hb dL_law_744 (lv_at hl 4 rfl) ?_
  refine lv_iconst (v := nI 2) hx hb dL_law_746 (by decide +kernel) ?_
  refine x_add hx hb dL_law_747 ?_
  refine l_sld hx hb hX hsb (by omega) hS9 (by omega) hL dL_law_748 ?_
  refine lv_aload_n hx hb dL_law_749 rfl (lv_at hl 3 rfl) ?_
  refine l_S (rest := []) S hK hT hE0 hJ hlow (c_L_strength l hfl Γ cJ bs bs (bs + 13) (bs + 14) σ ad hI (xs (i + 1)) (xs (i + 2)) hy (by omega) (by omega) (Nat.le_refl _) v0) (vx_cwSW 4 hts gL_law_L_strength rfl rfl rfl (by decide +kernel) ⟨Nat.le_of_ble_eq_true rfl, Nat.le_of_ble_eq_true rfl⟩) ⟨hC, hsz, hA⟩ rfl hl.1 rfl (Nat.le_of_ble_eq_true rfl) dL_law_750 ⟨by show _ ≤ 601024; omega, by show _ ≤ 7293034; omega⟩ hlo (fun v H1 lc1 hp hlo => ?_)
  obtain ⟨hp, hz1, ho1⟩ := hp
  have hM1 : MX Γ (bs + 2) th σ H1 := hM.kept (fun q q1 q2 => ho1 q (by omega) (by omega) (by omega) (by omega) (by omega))
  have hlow1 : ∀ q : Nat, q < bs → H1[q]? = s.heap[q]? := fun q q1 => (ho1 q (by omega) (by omega) (by omega) (by omega) (by omega)).trans (hlow q q1)
  have hS1 := LI.S hbs hlo (show bs + 14 ≤ H1.size by omega) hlow1
  rcases hp with ⟨hcd, rfl, ⟨ad2, hC2, hy2⟩, hA2⟩ | ⟨hcd, rfl, hC2, hA2⟩
  · skip
    refine W.eq (g2 := F0 m 753 ls [.int (nI 0)]) rfl ?_
    refine lv_istore (lv' := [(5, .int (nI 0)), (0, .ref sb), (1, .ref bs), (2, .ref (bs + 2)), (3, .ref (bs + 13)), (4, .int (nI i))]) hx hb dL_law_753 hl (by decide) rfl (fun ls hl => ?_)
    refine lv_aload_n hx hb dL_law_755 rfl (lv_at hl 3 rfl) ?_
    refine lv_aload_n hx hb dL_law_756 rfl (lv_at hl 1 rfl) ?_
    refine lv_iload hx hb dL_law_757 (lv_at hl 5 rfl) ?_
    refine lv_iconst (v := nI 1) hx hb dL_law_759 (by decide +kernel) ?_
    refine x_add hx hb dL_law_760 ?_
    refine l_sld hx hb hX hsb (by omega) hS1 (by omega) hL dL_law_761 ?_
    refine lv_aload_n hx hb dL_law_762 rfl (lv_at hl 1 rfl) ?_
    refine lv_iload hx hb dL_law_763 (lv_at hl 5 rfl) ?_
    refine lv_iconst (v := nI 2) hx hb dL_law_765 (by decide +kernel) ?_
    refine x_add hx hb dL_law_766 ?_
    refine l_sld hx hb hX hsb (by omega) hS1 (by omega) hL dL_law_767 ?_
    obtain ⟨g1, g2, hW1⟩ := hM1
    refine m_V (rest := []) S hK (c_X2_strength l Γ bs (bs + 2) th σ hI (by omega) (xs (i + 1)) (xs (i + 2))) (cwV 2 hts gL_law_X2_strength rfl rfl rfl (by decide +kernel) ⟨Nat.le_of_ble_eq_true rfl, Nat.le_of_ble_eq_true rfl⟩) (Ob.recv hK hW1.1 rfl) ⟨g1, g2, hW1⟩ rfl hl.1 rfl (Nat.le_of_ble_eq_true rfl) dL_law_768 ⟨by show _ ≤ 601024; omega, by show _ ≤ 7293034; omega⟩ hlo (fun v H2 lc2 hp2 hlo => ?_)
    obtain ⟨hp2, hF2⟩ := hp2
    rcases hp2 with ⟨hcd2, rfl, g3, g4, hW⟩ | ⟨hcd2, rfl, g3, g4, hW⟩
    · skip
      have hI2 : Iv σ := hI
      have hC3 := hC2.fr hy2 hF2 (by omega) (by omega)
      have hA3 := hA2.kept (hF2.2 _ hA2.lt (Or.inr (by omega)))
      have hlow2 : ∀ q : Nat, q < bs → H2[q]? = s.heap[q]? := fun q q1 => (hF2.2 q (by omega) (Or.inl (by omega))).trans (hlow1 q q1)
      refine W.eq (g2 := F0 m 771 ls [.int (stn (rk σ ((xs (i + 1)).toInt.toNat)) (ak σ ((xs (i + 1)).toInt.toNat)) ((xs (i + 2)).toInt.toNat))]) rfl ?_
      refine lv_istore (lv' := [(6, .int (stn (rk σ ((xs (i + 1)).toInt.toNat)) (ak σ ((xs (i + 1)).toInt.toNat)) ((xs (i + 2)).toInt.toNat))), (5, .int (nI 0)), (0, .ref sb), (1, .ref bs), (2, .ref (bs + 2)), (3, .ref (bs + 13)), (4, .int (nI i))]) hx hb dL_law_771 hl (by decide) rfl (fun ls hl => ?_)
      refine lv_aload_n hx hb dL_law_773 rfl (lv_at hl 4 rfl) ?_
      refine ro_V (rest := []) S hK (c_X2_thrown l Γ (bs + 2) (nI 0) _ g3 g4 hI2) (cwV 0 hts gL_law_X2_thrown rfl rfl rfl (by decide +kernel) ⟨Nat.le_of_ble_eq_true rfl, Nat.le_of_ble_eq_true rfl⟩) (Ob.recv hK hW.1 rfl) hW rfl hl.1 rfl (Nat.le_of_ble_eq_true rfl) dL_law_774 ⟨by show _ ≤ 601024; omega, by show _ ≤ 7293034; omega⟩ ?_
      refine W.eq (g2 := F0 m 777 ls [.int (nI 0)]) rfl ?_
      refine lv_iload hx hb dL_law_777 (lv_at hl 1 rfl) ?_
      refine x_iceq hx hb (by omega) (by omega) (tgt := 784) dL_law_779 (by decide) (fun c_1 => ?_) (fun c_1 => absurd c_1 (by decide))
      refine lv_iload hx hb dL_law_784 (lv_at hl 1 rfl) ?_
      refine x_ifne hx hb (by omega) (tgt := 801) dL_law_786 (by decide) (fun c_2 => absurd c_2 (by decide)) (fun c_2 => ?_)
      refine lv_aload_n hx hb dL_law_789 rfl (lv_at hl 5 rfl) ?_
      refine lv_iconst (v := nI 0) hx hb dL_law_790 (by decide +kernel) ?_
      refine x_lald hx hb hJ hA3 dL_law_791 ?_
      refine lv_iload hx hb dL_law_792 (lv_at hl 0 rfl) ?_
      refine lv_i2l hx hb dL_law_794 rfl ?_
      refine x_lcmp (v := nI 0) hx hb dL_law_795 (lcmp_eq _) ?_
      refine x_ifeq hx hb (by omega) (tgt := 801) dL_law_796 (by decide) (fun c_3 => ?_) (fun c_3 => absurd c_3 (by decide))
      refine lv_goto (tgt := 1514) hx hb dL_law_801 (by decide) ?_
      refine W.widen (k := C0 + 300) (n := S0 + 2100) (by omega) (by omega) ?_
      exact k σ ad2 _ _ _ _ ⟨hI2, hy2, hC3, ⟨_, _, hW⟩, hA3, hlo, by have := hF2.1; omega, hlow2⟩ ls (lv_sub hl [2, 3, 4, 5, 6] rfl)
    · skip
      exact absurd hcd2 (by omega)
  · skip
    refine W.eq (g2 := F0 m 753 ls [.int (nI (cd1 (inb (xs (i + 1)) (qn σ) ∧ inb (xs (i + 2)) (qp σ ((xs (i + 1)).toInt.toNat) - 1))))]) rfl ?_
    refine lv_istore (lv' := [(5, .int (nI (cd1 (inb (xs (i + 1)) (qn σ) ∧ inb (xs (i + 2)) (qp σ ((xs (i + 1)).toInt.toNat) - 1))))), (0, .ref sb), (1, .ref bs), (2, .ref (bs + 2)), (3, .ref (bs + 13)), (4, .int (nI i))]) hx hb dL_law_753 hl (by decide) rfl (fun ls hl => ?_)
    refine lv_aload_n hx hb dL_law_755 rfl (lv_at hl 3 rfl) ?_
    refine lv_aload_n hx hb dL_law_756 rfl (lv_at hl 1 rfl) ?_
    refine lv_iload hx hb dL_law_757 (lv_at hl 5 rfl) ?_
    refine lv_iconst (v := nI 1) hx hb dL_law_759 (by decide +kernel) ?_
    refine x_add hx hb dL_law_760 ?_
    refine l_sld hx hb hX hsb (by omega) hS1 (by omega) hL dL_law_761 ?_
    refine lv_aload_n hx hb dL_law_762 rfl (lv_at hl 1 rfl) ?_
    refine lv_iload hx hb dL_law_763 (lv_at hl 5 rfl) ?_
    refine lv_iconst (v := nI 2) hx hb dL_law_765 (by decide +kernel) ?_
    refine x_add hx hb dL_law_766 ?_
    refine l_sld hx hb hX hsb (by omega) hS1 (by omega) hL dL_law_767 ?_
    obtain ⟨g1, g2, hW1⟩ := hM1
    refine m_V (rest := []) S hK (c_X2_strength l Γ bs (bs + 2) th σ hI (by omega) (xs (i + 1)) (xs (i + 2))) (cwV 2 hts gL_law_X2_strength rfl rfl rfl (by decide +kernel) ⟨Nat.le_of_ble_eq_true rfl, Nat.le_of_ble_eq_true rfl⟩) (Ob.recv hK hW1.1 rfl) ⟨g1, g2, hW1⟩ rfl hl.1 rfl (Nat.le_of_ble_eq_true rfl) dL_law_768 ⟨by show _ ≤ 601024; omega, by show _ ≤ 7293034; omega⟩ hlo (fun v H2 lc2 hp2 hlo => ?_)
    obtain ⟨hp2, hF2⟩ := hp2
    rcases hp2 with ⟨hcd2, rfl, g3, g4, hW⟩ | ⟨hcd2, rfl, g3, g4, hW⟩
    · skip
      exact absurd hcd2 (by omega)
    · skip
      have hI2 := hI
      have hC3 := hC2.fr hy hF2 (by omega) (by omega)
      have hA3 := hA2.kept (hF2.2 _ hA2.lt (Or.inr (by omega)))
      have hlow2 : ∀ q : Nat, q < bs → H2[q]? = s.heap[q]? := fun q q1 => (hF2.2 q (by omega) (Or.inl (by omega))).trans (hlow1 q q1)
      refine W.eq (g2 := F0 m 771 ls [.int (nI 0)]) rfl ?_
      refine lv_istore (lv' := [(6, .int (nI 0)), (5, .int (nI (cd1 (inb (xs (i + 1)) (qn σ) ∧ inb (xs (i + 2)) (qp σ ((xs (i + 1)).toInt.toNat) - 1))))), (0, .ref sb), (1, .ref bs), (2, .ref (bs + 2)), (3, .ref (bs + 13)), (4, .int (nI i))]) hx hb dL_law_771 hl (by decide) rfl (fun ls hl => ?_)
      refine lv_aload_n hx hb dL_law_773 rfl (lv_at hl 4 rfl) ?_
      refine ro_V (rest := []) S hK (c_X2_thrown l Γ (bs + 2) (nI (cd1 (inb (xs (i + 1)) (qn σ) ∧ inb (xs (i + 2)) (qp σ ((xs (i + 1)).toInt.toNat) - 1)))) _ g3 g4 hI2) (cwV 0 hts gL_law_X2_thrown rfl rfl rfl (by decide +kernel) ⟨Nat.le_of_ble_eq_true rfl, Nat.le_of_ble_eq_true rfl⟩) (Ob.recv hK hW.1 rfl) hW rfl hl.1 rfl (Nat.le_of_ble_eq_true rfl) dL_law_774 ⟨by show _ ≤ 601024; omega, by show _ ≤ 7293034; omega⟩ ?_
      refine W.eq (g2 := F0 m 777 ls [.int (nI (cd1 (inb (xs (i + 1)) (qn σ) ∧ inb (xs (i + 2)) (qp σ ((xs (i + 1)).toInt.toNat) - 1))))]) rfl ?_
      refine lv_iload hx hb dL_law_777 (lv_at hl 1 rfl) ?_
      refine lv_icmp_eq (tgt := 784) hx hb dL_law_779 (by decide) (fun c9 => ?_) (fun c9 => absurd rfl c9)
      refine lv_iload hx hb dL_law_784 (lv_at hl 1 rfl) ?_
      refine x_ifne hx hb (Nat.lt_of_le_of_lt (cd1_le _) (by decide)) (tgt := 801) dL_law_786 (by decide) (fun c9 => ?_) (fun c9 => absurd c9 (by omega))
      refine lv_goto (tgt := 1514) hx hb dL_law_801 (by decide) ?_
      refine W.widen (k := C0 + 300) (n := S0 + 2100) (by omega) (by omega) ?_
      exact k σ ad _ _ _ _ ⟨hI, hy, hC3, ⟨_, _, hW⟩, hA3, hlo, by have := hF2.1; omega, hlow2⟩ ls (lv_sub hl [2, 3, 4, 5, 6] rfl)
set_option maxHeartbeats 4000000 in
set_option maxRecDepth 100000 in
theorem lawc_count {p : Program} {l : Launch} {e : Env} {s : State} {m : MethodId} {args : Array Value} {below : List Frame} {meth : Method} {c : Code} {H : Heap} {locs : List Loc} {Q : State → Prop} {Γ : GG} {cJ : ClassId} {bs sb L i C0 S0 : Nat} {xs : Nat → Int32} {σ : St} {ad : Nat → Nat} {th : Int32} {v0 : Int64}
    (hfl : l.stackTraces = false) (S : CallFix p m c cL_law 9 s args wsL_law RL) (hK : xK Γ s) (hT : xT bs s) (hE0 : xE s) (hJ : xJ cJ s) (hX : va_X sb L xs s s.heap) (hsb : sb < s.heap.size) (hbs : s.heap.size = bs) (hL : L ≤ 2560) (hi : i + 5 ≤ L) (hC0 : C0 + 300 ≤ 601024) (hS0 : S0 + 2100 ≤ 7293034) (hLI : LI Γ cJ bs s σ ad th v0 H locs)
    (k : ∀ (σ' : St) (ad' : Nat → Nat) (th' : Int32) (v' : Int64) (H' : Heap) (locs' : List Loc), LI Γ cJ bs s σ' ad' th' v' H' locs' → ∀ ls : Array Slot, lv_has ls 9 [(0, .ref sb), (1, .ref bs), (2, .ref (bs + 2)), (3, .ref (bs + 13)), (4, .int (nI i))] → W p l e room_1 s m args below meth c H' locs' (C0 + 300) (S0 + 2100) Q (F0 m 1514 ls []))
    (ls : Array Slot) (hl : lv_has ls 9 [(0, .ref sb), (1, .ref bs), (2, .ref (bs + 2)), (3, .ref (bs + 13)), (4, .int (nI i))]) : W p l e room_1 s m args below meth c H locs C0 S0 Q (F0 m 804 ls []) := by
  obtain ⟨hx, hb, hml, hown, hts⟩ := id S
  obtain ⟨hI, hy, hC, hM, hA, hlo, hsz, hlow⟩ := hLI
  have hS9 := LI.S hbs hlo hsz hlow
  refine lv_aload_n hx hb dL_law_804 rfl (lv_at hl 1 rfl) ?_
  refine lv_aload_n hx hb dL_law_805 rfl (lv_at hl 0 rfl) ?_
  refine lv_iload hx hb dL_law_806 (lv_at hl 4 rfl) ?_
  refine lv_iconst (v := nI 1) hx hb dL_law_808 (by decide +kernel) ?_
  refine x_add hx hb dL_law_809 ?_
  refine l_sld hx hb hX hsb (by omega) hS9 (by omega) hL dL_law_810 ?_
  refine lv_aload_n hx hb dL_law_811 rfl (lv_at hl 3 rfl) ?_
  refine l_S (rest := []) S hK hT hE0 hJ hlow (c_L_count l hfl Γ cJ bs bs (bs + 13) (bs + 14) σ ad hI (xs (i + 1)) hy (by omega) (by omega) (Nat.le_refl _) v0) (vx_cwSW 3 hts gL_law_L_count rfl rfl rfl (by decide +kernel) ⟨Nat.le_of_ble_eq_true rfl, Nat.le_of_ble_eq_true rfl⟩) ⟨hC, hsz, hA⟩ rfl hl.1 rfl (Nat.le_of_ble_eq_true rfl) dL_law_812 ⟨by show _ ≤ 601024; omega, by show _ ≤ 7293034; omega⟩ hlo (fun v H1 lc1 hp hlo => ?_)
  obtain ⟨hp, hz1, ho1⟩ := hp
  have hM1 : MX Γ (bs + 2) th σ H1 := hM.kept (fun q q1 q2 => ho1 q (by omega) (by omega) (by omega) (by omega) (by omega))
  have hlow1 : ∀ q : Nat, q < bs → H1[q]? = s.heap[q]? := fun q q1 => (ho1 q (by omega) (by omega) (by omega) (by omega) (by omega)).trans (hlow q q1)
  have hS1 := LI.S hbs hlo (show bs + 14 ≤ H1.size by omega) hlow1
  rcases hp with ⟨hcd, rfl, ⟨ad2, hC2, hy2⟩, hA2⟩ | ⟨hcd, rfl, hC2, hA2⟩
  · skip
    refine W.eq (g2 := F0 m 815 ls [.int (nI 0)]) rfl ?_
    refine lv_istore (lv' := [(5, .int (nI 0)), (0, .ref sb), (1, .ref bs), (2, .ref (bs + 2)), (3, .ref (bs + 13)), (4, .int (nI i))]) hx hb dL_law_815 hl (by decide) rfl (fun ls hl => ?_)
    refine lv_aload_n hx hb dL_law_817 rfl (lv_at hl 3 rfl) ?_
    refine lv_aload_n hx hb dL_law_818 rfl (lv_at hl 1 rfl) ?_
    refine lv_iload hx hb dL_law_819 (lv_at hl 5 rfl) ?_
    refine lv_iconst (v := nI 1) hx hb dL_law_821 (by decide +kernel) ?_
    refine x_add hx hb dL_law_822 ?_
    refine l_sld hx hb hX hsb (by omega) hS1 (by omega) hL dL_law_823 ?_
    obtain ⟨g1, g2, hW1⟩ := hM1
    refine m_V (rest := []) S hK (c_X2_count l Γ bs (bs + 2) th σ hI (by omega) (xs (i + 1))) (cwV 1 hts gL_law_X2_count rfl rfl rfl (by decide +kernel) ⟨Nat.le_of_ble_eq_true rfl, Nat.le_of_ble_eq_true rfl⟩) (Ob.recv hK hW1.1 rfl) ⟨g1, g2, hW1⟩ rfl hl.1 rfl (Nat.le_of_ble_eq_true rfl) dL_law_824 ⟨by show _ ≤ 601024; omega, by show _ ≤ 7293034; omega⟩ hlo (fun v H2 lc2 hp2 hlo => ?_)
    obtain ⟨hp2, hF2⟩ := hp2
    rcases hp2 with ⟨hcd2, rfl, g3, g4, hW⟩ | ⟨hcd2, rfl, g3, g4, hW⟩
    · skip
      have hI2 : Iv σ := hI
      have hC3 := hC2.fr hy2 hF2 (by omega) (by omega)
      have hA3 := hA2.kept (hF2.2 _ hA2.lt (Or.inr (by omega)))
      have hlow2 : ∀ q : Nat, q < bs → H2[q]? = s.heap[q]? := fun q q1 => (hF2.2 q (by omega) (Or.inl (by omega))).trans (hlow1 q q1)
      refine W.eq (g2 := F0 m 827 ls [.int (tot σ ((xs (i + 1)).toInt.toNat))]) rfl ?_
      refine lv_istore (lv' := [(6, .int (tot σ ((xs (i + 1)).toInt.toNat))), (5, .int (nI 0)), (0, .ref sb), (1, .ref bs), (2, .ref (bs + 2)), (3, .ref (bs + 13)), (4, .int (nI i))]) hx hb dL_law_827 hl (by decide) rfl (fun ls hl => ?_)
      refine lv_aload_n hx hb dL_law_829 rfl (lv_at hl 4 rfl) ?_
      refine ro_V (rest := []) S hK (c_X2_thrown l Γ (bs + 2) (nI 0) _ g3 g4 hI2) (cwV 0 hts gL_law_X2_thrown rfl rfl rfl (by decide +kernel) ⟨Nat.le_of_ble_eq_true rfl, Nat.le_of_ble_eq_true rfl⟩) (Ob.recv hK hW.1 rfl) hW rfl hl.1 rfl (Nat.le_of_ble_eq_true rfl) dL_law_830 ⟨by show _ ≤ 601024; omega, by show _ ≤ 7293034; omega⟩ ?_
      refine W.eq (g2 := F0 m 833 ls [.int (nI 0)]) rfl ?_
      refine lv_iload hx hb dL_law_833 (lv_at hl 1 rfl) ?_
      refine x_iceq hx hb (by omega) (by omega) (tgt := 840) dL_law_835 (by decide) (fun c_1 => ?_) (fun c_1 => absurd c_1 (by decide))
      refine lv_iload hx hb dL_law_840 (lv_at hl 1 rfl) ?_
      refine x_ifne hx hb (by omega) (tgt := 857) dL_law_842 (by decide) (fun c_2 => absurd c_2 (by decide)) (fun c_2 => ?_)
      refine lv_aload_n hx hb dL_law_845 rfl (lv_at hl 5 rfl) ?_
      refine lv_iconst (v := nI 0) hx hb dL_law_846 (by decide +kernel) ?_
      refine x_lald hx hb hJ hA3 dL_law_847 ?_
      refine lv_iload hx hb dL_law_848 (lv_at hl 0 rfl) ?_
      refine lv_i2l hx hb dL_law_850 rfl ?_
      refine x_lcmp (v := nI 0) hx hb dL_law_851 (lcmp_eq _) ?_
      refine x_ifeq hx hb (by omega) (tgt := 857) dL_law_852 (by decide) (fun c_3 => ?_) (fun c_3 => absurd c_3 (by decide))
      refine lv_goto (tgt := 1514) hx hb dL_law_857 (by decide) ?_
      refine W.widen (k := C0 + 300) (n := S0 + 2100) (by omega) (by omega) ?_
      exact k σ ad2 _ _ _ _ ⟨hI2, hy2, hC3, ⟨_, _, hW⟩, hA3, hlo, by have := hF2.1; omega, hlow2⟩ ls (lv_sub hl [2, 3, 4, 5, 6] rfl)
    · skip
      exact absurd hcd2 (by omega)
  · skip
    refine W.eq (g2 := F0 m 815 ls [.int (nI (cd1 (inb (xs (i + 1)) 7)))]) rfl ?_
    refine lv_istore (lv' := [(5, .int (nI (cd1 (inb (xs (i + 1)) 7)))), (0, .ref sb), (1, .ref bs), (2, .ref (bs + 2)), (3, .ref (bs + 13)), (4, .int (nI i))]) hx hb dL_law_815 hl (by decide) rfl (fun ls hl => ?_)
    refine lv_aload_n hx hb dL_law_817 rfl (lv_at hl 3 rfl) ?_
    refine lv_aload_n hx hb dL_law_818 rfl (lv_at hl 1 rfl) ?_
    refine lv_iload hx hb dL_law_819 (lv_at hl 5 rfl) ?_
    refine lv_iconst (v := nI 1) hx hb dL_law_821 (by decide +kernel) ?_
    refine x_add hx hb dL_law_822 ?_
    refine l_sld hx hb hX hsb (by omega) hS1 (by omega) hL dL_law_823 ?_
    obtain ⟨g1, g2, hW1⟩ := hM1
    refine m_V (rest := []) S hK (c_X2_count l Γ bs (bs + 2) th σ hI (by omega) (xs (i + 1))) (cwV 1 hts gL_law_X2_count rfl rfl rfl (by decide +kernel) ⟨Nat.le_of_ble_eq_true rfl, Nat.le_of_ble_eq_true rfl⟩) (Ob.recv hK hW1.1 rfl) ⟨g1, g2, hW1⟩ rfl hl.1 rfl (Nat.le_of_ble_eq_true rfl) dL_law_824 ⟨by show _ ≤ 601024; omega, by show _ ≤ 7293034; omega⟩ hlo (fun v H2 lc2 hp2 hlo => ?_)
    obtain ⟨hp2, hF2⟩ := hp2
    rcases hp2 with ⟨hcd2, rfl, g3, g4, hW⟩ | ⟨hcd2, rfl, g3, g4, hW⟩
    · skip
      exact absurd hcd2 (by omega)
    · skip
      have hI2 := hI
      have hC3 := hC2.fr hy hF2 (by omega) (by omega)
      have hA3 := hA2.kept (hF2.2 _ hA2.lt (Or.inr (by omega)))
      have hlow2 : ∀ q : Nat, q < bs → H2[q]? = s.heap[q]? := fun q q1 => (hF2.2 q (by omega) (Or.inl (by omega))).trans (hlow1 q q1)
      refine W.eq (g2 := F0 m 827 ls [.int (nI 0)]) rfl ?_
      refine lv_istore (lv' := [(6, .int (nI 0)), (5, .int (nI (cd1 (inb (xs (i + 1)) 7)))), (0, .ref sb), (1, .ref bs), (2, .ref (bs + 2)), (3, .ref (bs + 13)), (4, .int (nI i))]) hx hb dL_law_827 hl (by decide) rfl (fun ls hl => ?_)
      refine lv_aload_n hx hb dL_law_829 rfl (lv_at hl 4 rfl) ?_
      refine ro_V (rest := []) S hK (c_X2_thrown l Γ (bs + 2) (nI (cd1 (inb (xs (i + 1)) 7))) _ g3 g4 hI2) (cwV 0 hts gL_law_X2_thrown rfl rfl rfl (by decide +kernel) ⟨Nat.le_of_ble_eq_true rfl, Nat.le_of_ble_eq_true rfl⟩) (Ob.recv hK hW.1 rfl) hW rfl hl.1 rfl (Nat.le_of_ble_eq_true rfl) dL_law_830 ⟨by show _ ≤ 601024; omega, by show _ ≤ 7293034; omega⟩ ?_
      refine W.eq (g2 := F0 m 833 ls [.int (nI (cd1 (inb (xs (i + 1)) 7)))]) rfl ?_
      refine lv_iload hx hb dL_law_833 (lv_at hl 1 rfl) ?_
      refine lv_icmp_eq (tgt := 840) hx hb dL_law_835 (by decide) (fun c9 => ?_) (fun c9 => absurd rfl c9)
      refine lv_iload hx hb dL_law_840 (lv_at hl 1 rfl) ?_
      refine x_ifne hx hb (Nat.lt_of_le_of_lt (cd1_le _) (by decide)) (tgt := 857) dL_law_842 (by decide) (fun c9 => ?_) (fun c9 => absurd c9 (by omega))
      refine lv_goto (tgt := 1514) hx hb dL_law_857 (by decide) ?_
      refine W.widen (k := C0 + 300) (n := S0 + 2100) (by omega) (by omega) ?_
      exact k σ ad _ _ _ _ ⟨hI, hy, hC3, ⟨_, _, hW⟩, hA3, hlo, by have := hF2.1; omega, hlow2⟩ ls (lv_sub hl [2, 3, 4, 5, 6] rfl)
set_option maxHeartbeats 4000000 in
set_option maxRecDepth 100000 in
theorem lawc_fits {p : Program} {l : Launch} {e : Env} {s : State} {m : MethodId} {args : Array Value} {below : List Frame} {meth : Method} {c : Code} {H : Heap} {locs : List Loc} {Q : State → Prop} {Γ : GG} {cJ : ClassId} {bs sb L i C0 S0 : Nat} {xs : Nat → Int32} {σ : St} {ad : Nat → Nat} {th : Int32} {v0 : Int64}
    (hfl : l.stackTraces = false) (S : CallFix p m c cL_law 9 s args wsL_law RL) (hK : xK Γ s) (hT : xT bs s) (hE0 : xE s) (hJ : xJ cJ s) (hX : va_X sb L xs s s.heap) (hsb : sb < s.heap.size) (hbs : s.heap.size = bs) (hL : L ≤ 2560) (hi : i + 5 ≤ L) (hC0 : C0 + 300 ≤ 601024) (hS0 : S0 + 2100 ≤ 7293034) (hLI : LI Γ cJ bs s σ ad th v0 H locs)
    (k : ∀ (σ' : St) (ad' : Nat → Nat) (th' : Int32) (v' : Int64) (H' : Heap) (locs' : List Loc), LI Γ cJ bs s σ' ad' th' v' H' locs' → ∀ ls : Array Slot, lv_has ls 9 [(0, .ref sb), (1, .ref bs), (2, .ref (bs + 2)), (3, .ref (bs + 13)), (4, .int (nI i))] → W p l e room_1 s m args below meth c H' locs' (C0 + 300) (S0 + 2100) Q (F0 m 1514 ls []))
    (ls : Array Slot) (hl : lv_has ls 9 [(0, .ref sb), (1, .ref bs), (2, .ref (bs + 2)), (3, .ref (bs + 13)), (4, .int (nI i))]) : W p l e room_1 s m args below meth c H locs C0 S0 Q (F0 m 860 ls []) := by
  obtain ⟨hx, hb, hml, hown, hts⟩ := id S
  obtain ⟨hI, hy, hC, hM, hA, hlo, hsz, hlow⟩ := hLI
  have hS9 := LI.S hbs hlo hsz hlow
  refine lv_aload_n hx hb dL_law_860 rfl (lv_at hl 1 rfl) ?_
  refine lv_aload_n hx hb dL_law_861 rfl (lv_at hl 0 rfl) ?_
  refine lv_iload hx hb dL_law_862 (lv_at hl 4 rfl) ?_
  refine lv_iconst (v := nI 1) hx hb dL_law_864 (by decide +kernel) ?_
  refine x_add hx hb dL_law_865 ?_
  refine l_sld hx hb hX hsb (by omega) hS9 (by omega) hL dL_law_866 ?_
  refine lv_aload_n hx hb dL_law_867 rfl (lv_at hl 0 rfl) ?_
  refine lv_iload hx hb dL_law_868 (lv_at hl 4 rfl) ?_
  refine lv_iconst (v := nI 2) hx hb dL_law_870 (by decide +kernel) ?_
  refine x_add hx hb dL_law_871 ?_
  refine l_sld hx hb hX hsb (by omega) hS9 (by omega) hL dL_law_872 ?_
  refine lv_aload_n hx hb dL_law_873 rfl (lv_at hl 3 rfl) ?_
  refine l_S (rest := []) S hK hT hE0 hJ hlow (c_L_fits l hfl Γ cJ bs bs (bs + 13) (bs + 14) σ ad hI (xs (i + 1)) (xs (i + 2)) hy (by omega) (by omega) (Nat.le_refl _) v0) (vx_cwSW 4 hts gL_law_L_fits rfl rfl rfl (by decide +kernel) ⟨Nat.le_of_ble_eq_true rfl, Nat.le_of_ble_eq_true rfl⟩) ⟨hC, hsz, hA⟩ rfl hl.1 rfl (Nat.le_of_ble_eq_true rfl) dL_law_874 ⟨by show _ ≤ 601024; omega, by show _ ≤ 7293034; omega⟩ hlo (fun v H1 lc1 hp hlo => ?_)
  obtain ⟨hp, hz1, ho1⟩ := hp
  have hM1 : MX Γ (bs + 2) th σ H1 := hM.kept (fun q q1 q2 => ho1 q (by omega) (by omega) (by omega) (by omega) (by omega))
  have hlow1 : ∀ q : Nat, q < bs → H1[q]? = s.heap[q]? := fun q q1 => (ho1 q (by omega) (by omega) (by omega) (by omega) (by omega)).trans (hlow q q1)
  have hS1 := LI.S hbs hlo (show bs + 14 ≤ H1.size by omega) hlow1
  rcases hp with ⟨hcd, rfl, ⟨ad2, hC2, hy2⟩, hA2⟩ | ⟨hcd, rfl, hC2, hA2⟩
  · skip
    refine W.eq (g2 := F0 m 877 ls [.int (nI 0)]) rfl ?_
    refine lv_istore (lv' := [(5, .int (nI 0)), (0, .ref sb), (1, .ref bs), (2, .ref (bs + 2)), (3, .ref (bs + 13)), (4, .int (nI i))]) hx hb dL_law_877 hl (by decide) rfl (fun ls hl => ?_)
    refine lv_aload_n hx hb dL_law_879 rfl (lv_at hl 3 rfl) ?_
    refine lv_aload_n hx hb dL_law_880 rfl (lv_at hl 1 rfl) ?_
    refine lv_iload hx hb dL_law_881 (lv_at hl 5 rfl) ?_
    refine lv_iconst (v := nI 1) hx hb dL_law_883 (by decide +kernel) ?_
    refine x_add hx hb dL_law_884 ?_
    refine l_sld hx hb hX hsb (by omega) hS1 (by omega) hL dL_law_885 ?_
    refine lv_aload_n hx hb dL_law_886 rfl (lv_at hl 1 rfl) ?_
    refine lv_iload hx hb dL_law_887 (lv_at hl 5 rfl) ?_
    refine lv_iconst (v := nI 2) hx hb dL_law_889 (by decide +kernel) ?_
    refine x_add hx hb dL_law_890 ?_
    refine l_sld hx hb hX hsb (by omega) hS1 (by omega) hL dL_law_891 ?_
    obtain ⟨g1, g2, hW1⟩ := hM1
    refine m_V (rest := []) S hK (c_X2_fits l Γ bs (bs + 2) th σ hI (by omega) (xs (i + 1)) (xs (i + 2))) (cwV 2 hts gL_law_X2_fits rfl rfl rfl (by decide +kernel) ⟨Nat.le_of_ble_eq_true rfl, Nat.le_of_ble_eq_true rfl⟩) (Ob.recv hK hW1.1 rfl) ⟨g1, g2, hW1⟩ rfl hl.1 rfl (Nat.le_of_ble_eq_true rfl) dL_law_892 ⟨by show _ ≤ 601024; omega, by show _ ≤ 7293034; omega⟩ hlo (fun v H2 lc2 hp2 hlo => ?_)
    obtain ⟨hp2, hF2⟩ := hp2
    rcases hp2 with ⟨hcd2, rfl, g3, g4, hW⟩ | ⟨hcd2, rfl, g3, g4, hW⟩
    · skip
      have hI2 : Iv σ := hI
      have hC3 := hC2.fr hy2 hF2 (by omega) (by omega)
      have hA3 := hA2.kept (hF2.2 _ hA2.lt (Or.inr (by omega)))
      have hlow2 : ∀ q : Nat, q < bs → H2[q]? = s.heap[q]? := fun q q1 => (hF2.2 q (by omega) (Or.inl (by omega))).trans (hlow1 q q1)
      refine W.eq (g2 := F0 m 895 ls [.int (nI (bP (fitP σ ((xs (i + 1)).toInt.toNat) ((xs (i + 2)).toInt.toNat))))]) rfl ?_
      refine lv_istore (lv' := [(6, .int (nI (bP (fitP σ ((xs (i + 1)).toInt.toNat) ((xs (i + 2)).toInt.toNat))))), (5, .int (nI 0)), (0, .ref sb), (1, .ref bs), (2, .ref (bs + 2)), (3, .ref (bs + 13)), (4, .int (nI i))]) hx hb dL_law_895 hl (by decide) rfl (fun ls hl => ?_)
      refine lv_aload_n hx hb dL_law_897 rfl (lv_at hl 4 rfl) ?_
      refine ro_V (rest := []) S hK (c_X2_thrown l Γ (bs + 2) (nI 0) _ g3 g4 hI2) (cwV 0 hts gL_law_X2_thrown rfl rfl rfl (by decide +kernel) ⟨Nat.le_of_ble_eq_true rfl, Nat.le_of_ble_eq_true rfl⟩) (Ob.recv hK hW.1 rfl) hW rfl hl.1 rfl (Nat.le_of_ble_eq_true rfl) dL_law_898 ⟨by show _ ≤ 601024; omega, by show _ ≤ 7293034; omega⟩ ?_
      refine W.eq (g2 := F0 m 901 ls [.int (nI 0)]) rfl ?_
      refine lv_iload hx hb dL_law_901 (lv_at hl 1 rfl) ?_
      refine x_iceq hx hb (by omega) (by omega) (tgt := 908) dL_law_903 (by decide) (fun c_1 => ?_) (fun c_1 => absurd c_1 (by decide))
      refine lv_iload hx hb dL_law_908 (lv_at hl 1 rfl) ?_
      refine x_ifne hx hb (by omega) (tgt := 932) dL_law_910 (by decide) (fun c_2 => absurd c_2 (by decide)) (fun c_2 => ?_)
      refine lv_aload_n hx hb dL_law_913 rfl (lv_at hl 5 rfl) ?_
      refine lv_iconst (v := nI 0) hx hb dL_law_914 (by decide +kernel) ?_
      refine x_lald hx hb hJ hA3 dL_law_915 ?_
      refine lv_iload hx hb dL_law_916 (lv_at hl 0 rfl) ?_
      have hbb := bP_le (fitP σ ((xs (i + 1)).toInt.toNat) ((xs (i + 2)).toInt.toNat))
      refine x_ifeq hx hb (by omega) (tgt := 925) dL_law_918 (by decide) (fun c_3 => ?_) (fun c_3 => ?_)
      · skip
        refine lv_lconst (v := 0) hx hb dL_law_925 (by decide +kernel) ?_
        refine x_eL (show _ = (nI (bP (fitP σ ((xs (i + 1)).toInt.toNat) ((xs (i + 2)).toInt.toNat)))).toInt64 by rw [bP_f (bP_0 c_3)]; decide +kernel) ?_
        refine x_lcmp (v := nI 0) hx hb dL_law_926 (lcmp_eq _) ?_
        refine x_ifeq hx hb (by omega) (tgt := 932) dL_law_927 (by decide) (fun c_4 => ?_) (fun c_4 => absurd c_4 (by decide))
        refine lv_goto (tgt := 1514) hx hb dL_law_932 (by decide) ?_
        refine W.widen (k := C0 + 300) (n := S0 + 2100) (by omega) (by omega) ?_
        exact k σ ad2 _ _ _ _ ⟨hI2, hy2, hC3, ⟨_, _, hW⟩, hA3, hlo, by have := hF2.1; omega, hlow2⟩ ls (lv_sub hl [2, 3, 4, 5, 6] rfl)
      · skip
        refine lv_lconst (v := 1) hx hb dL_law_921 (by decide +kernel) ?_
        refine lv_goto (tgt := 926) hx hb dL_law_922 (by decide) ?_
        refine x_eL (show _ = (nI (bP (fitP σ ((xs (i + 1)).toInt.toNat) ((xs (i + 2)).toInt.toNat)))).toInt64 by rw [bP_t (bP_1 c_3)]; decide +kernel) ?_
        refine x_lcmp (v := nI 0) hx hb dL_law_926 (lcmp_eq _) ?_
        refine x_ifeq hx hb (by omega) (tgt := 932) dL_law_927 (by decide) (fun c_5 => ?_) (fun c_5 => absurd c_5 (by decide))
        refine lv_goto (tgt := 1514) hx hb dL_law_932 (by decide) ?_
        refine W.widen (k := C0 + 300) (n := S0 + 2100) (by omega) (by omega) ?_
        exact k σ ad2 _ _ _ _ ⟨hI2, hy2, hC3, ⟨_, _, hW⟩, hA3, hlo, by have := hF2.1; omega, hlow2⟩ ls (lv_sub hl [2, 3, 4, 5, 6] rfl)
    · skip
      exact absurd hcd2 (by omega)
  · skip
    refine W.eq (g2 := F0 m 877 ls [.int (nI (cd1 (inb (xs (i + 1)) (qn σ) ∧ inb (xs (i + 2)) (qn σ))))]) rfl ?_
    refine lv_istore (lv' := [(5, .int (nI (cd1 (inb (xs (i + 1)) (qn σ) ∧ inb (xs (i + 2)) (qn σ))))), (0, .ref sb), (1, .ref bs), (2, .ref (bs + 2)), (3, .ref (bs + 13)), (4, .int (nI i))]) hx hb dL_law_877 hl (by decide) rfl (fun ls hl => ?_)
    refine lv_aload_n hx hb dL_law_879 rfl (lv_at hl 3 rfl) ?_
    refine lv_aload_n hx hb dL_law_880 rfl (lv_at hl 1 rfl) ?_
    refine lv_iload hx hb dL_law_881 (lv_at hl 5 rfl) ?_
    refine lv_iconst (v := nI 1) hx hb dL_law_883 (by decide +kernel) ?_
    refine x_add hx hb dL_law_884 ?_
    refine l_sld hx hb hX hsb (by omega) hS1 (by omega) hL dL_law_885 ?_
    refine lv_aload_n hx hb dL_law_886 rfl (lv_at hl 1 rfl) ?_
    refine lv_iload hx hb dL_law_887 (lv_at hl 5 rfl) ?_
    refine lv_iconst (v := nI 2) hx hb dL_law_889 (by decide +kernel) ?_
    refine x_add hx hb dL_law_890 ?_
    refine l_sld hx hb hX hsb (by omega) hS1 (by omega) hL dL_law_891 ?_
    obtain ⟨g1, g2, hW1⟩ := hM1
    refine m_V (rest := []) S hK (c_X2_fits l Γ bs (bs + 2) th σ hI (by omega) (xs (i + 1)) (xs (i + 2))) (cwV 2 hts gL_law_X2_fits rfl rfl rfl (by decide +kernel) ⟨Nat.le_of_ble_eq_true rfl, Nat.le_of_ble_eq_true rfl⟩) (Ob.recv hK hW1.1 rfl) ⟨g1, g2, hW1⟩ rfl hl.1 rfl (Nat.le_of_ble_eq_true rfl) dL_law_892 ⟨by show _ ≤ 601024; omega, by show _ ≤ 7293034; omega⟩ hlo (fun v H2 lc2 hp2 hlo => ?_)
    obtain ⟨hp2, hF2⟩ := hp2
    rcases hp2 with ⟨hcd2, rfl, g3, g4, hW⟩ | ⟨hcd2, rfl, g3, g4, hW⟩
    · skip
      exact absurd hcd2 (by omega)
    · skip
      have hI2 := hI
      have hC3 := hC2.fr hy hF2 (by omega) (by omega)
      have hA3 := hA2.kept (hF2.2 _ hA2.lt (Or.inr (by omega)))
      have hlow2 : ∀ q : Nat, q < bs → H2[q]? = s.heap[q]? := fun q q1 => (hF2.2 q (by omega) (Or.inl (by omega))).trans (hlow1 q q1)
      refine W.eq (g2 := F0 m 895 ls [.int (nI 0)]) rfl ?_
      refine lv_istore (lv' := [(6, .int (nI 0)), (5, .int (nI (cd1 (inb (xs (i + 1)) (qn σ) ∧ inb (xs (i + 2)) (qn σ))))), (0, .ref sb), (1, .ref bs), (2, .ref (bs + 2)), (3, .ref (bs + 13)), (4, .int (nI i))]) hx hb dL_law_895 hl (by decide) rfl (fun ls hl => ?_)
      refine lv_aload_n hx hb dL_law_897 rfl (lv_at hl 4 rfl) ?_
      refine ro_V (rest := []) S hK (c_X2_thrown l Γ (bs + 2) (nI (cd1 (inb (xs (i + 1)) (qn σ) ∧ inb (xs (i + 2)) (qn σ)))) _ g3 g4 hI2) (cwV 0 hts gL_law_X2_thrown rfl rfl rfl (by decide +kernel) ⟨Nat.le_of_ble_eq_true rfl, Nat.le_of_ble_eq_true rfl⟩) (Ob.recv hK hW.1 rfl) hW rfl hl.1 rfl (Nat.le_of_ble_eq_true rfl) dL_law_898 ⟨by show _ ≤ 601024; omega, by show _ ≤ 7293034; omega⟩ ?_
      refine W.eq (g2 := F0 m 901 ls [.int (nI (cd1 (inb (xs (i + 1)) (qn σ) ∧ inb (xs (i + 2)) (qn σ))))]) rfl ?_
      refine lv_iload hx hb dL_law_901 (lv_at hl 1 rfl) ?_
      refine lv_icmp_eq (tgt := 908) hx hb dL_law_903 (by decide) (fun c9 => ?_) (fun c9 => absurd rfl c9)
      refine lv_iload hx hb dL_law_908 (lv_at hl 1 rfl) ?_
      refine x_ifne hx hb (Nat.lt_of_le_of_lt (cd1_le _) (by decide)) (tgt := 932) dL_law_910 (by decide) (fun c9 => ?_) (fun c9 => absurd c9 (by omega))
      refine lv_goto (tgt := 1514) hx hb dL_law_932 (by decide) ?_
      refine W.widen (k := C0 + 300) (n := S0 + 2100) (by omega) (by omega) ?_
      exact k σ ad _ _ _ _ ⟨hI, hy, hC3, ⟨_, _, hW⟩, hA3, hlo, by have := hF2.1; omega, hlow2⟩ ls (lv_sub hl [2, 3, 4, 5, 6] rfl)
set_option maxHeartbeats 4000000 in
set_option maxRecDepth 100000 in
theorem lawc_size {p : Program} {l : Launch} {e : Env} {s : State} {m : MethodId} {args : Array Value} {below : List Frame} {meth : Method} {c : Code} {H : Heap} {locs : List Loc} {Q : State → Prop} {Γ : GG} {cJ : ClassId} {bs sb L i C0 S0 : Nat} {xs : Nat → Int32} {σ : St} {ad : Nat → Nat} {th : Int32} {v0 : Int64}
    (hfl : l.stackTraces = false) (S : CallFix p m c cL_law 9 s args wsL_law RL) (hK : xK Γ s) (hT : xT bs s) (hE0 : xE s) (hJ : xJ cJ s) (hX : va_X sb L xs s s.heap) (hsb : sb < s.heap.size) (hbs : s.heap.size = bs) (hL : L ≤ 2560) (hi : i + 5 ≤ L) (hC0 : C0 + 300 ≤ 601024) (hS0 : S0 + 2100 ≤ 7293034) (hLI : LI Γ cJ bs s σ ad th v0 H locs)
    (k : ∀ (σ' : St) (ad' : Nat → Nat) (th' : Int32) (v' : Int64) (H' : Heap) (locs' : List Loc), LI Γ cJ bs s σ' ad' th' v' H' locs' → ∀ ls : Array Slot, lv_has ls 9 [(0, .ref sb), (1, .ref bs), (2, .ref (bs + 2)), (3, .ref (bs + 13)), (4, .int (nI i))] → W p l e room_1 s m args below meth c H' locs' (C0 + 300) (S0 + 2100) Q (F0 m 1514 ls []))
    (ls : Array Slot) (hl : lv_has ls 9 [(0, .ref sb), (1, .ref bs), (2, .ref (bs + 2)), (3, .ref (bs + 13)), (4, .int (nI i))]) : W p l e room_1 s m args below meth c H locs C0 S0 Q (F0 m 935 ls []) := by
  obtain ⟨hx, hb, hml, hown, hts⟩ := id S
  obtain ⟨hI, hy, hC, hM, hA, hlo, hsz, hlow⟩ := hLI
  have hS9 := LI.S hbs hlo hsz hlow
  refine lv_aload_n hx hb dL_law_935 rfl (lv_at hl 1 rfl) ?_
  refine lv_aload_n hx hb dL_law_936 rfl (lv_at hl 0 rfl) ?_
  refine lv_iload hx hb dL_law_937 (lv_at hl 4 rfl) ?_
  refine lv_iconst (v := nI 1) hx hb dL_law_939 (by decide +kernel) ?_
  refine x_add hx hb dL_law_940 ?_
  refine l_sld hx hb hX hsb (by omega) hS9 (by omega) hL dL_law_941 ?_
  refine lv_aload_n hx hb dL_law_942 rfl (lv_at hl 0 rfl) ?_
  refine lv_iload hx hb dL_law_943 (lv_at hl 4 rfl) ?_
  refine lv_iconst (v := nI 2) hx hb dL_law_945 (by decide +kernel) ?_
  refine x_add hx hb dL_law_946 ?_
  refine l_sld hx hb hX hsb (by omega) hS9 (by omega) hL dL_law_947 ?_
  refine lv_aload_n hx hb dL_law_948 rfl (lv_at hl 3 rfl) ?_
  refine l_S (rest := []) S hK hT hE0 hJ hlow (c_L_size l hfl Γ cJ bs bs (bs + 13) (bs + 14) σ ad hI (xs (i + 1)) (xs (i + 2)) hy (by omega) (by omega) (Nat.le_refl _) v0) (vx_cwSW 4 hts gL_law_L_size rfl rfl rfl (by decide +kernel) ⟨Nat.le_of_ble_eq_true rfl, Nat.le_of_ble_eq_true rfl⟩) ⟨hC, hsz, hA⟩ rfl hl.1 rfl (Nat.le_of_ble_eq_true rfl) dL_law_949 ⟨by show _ ≤ 601024; omega, by show _ ≤ 7293034; omega⟩ hlo (fun v H1 lc1 hp hlo => ?_)
  obtain ⟨hp, hz1, ho1⟩ := hp
  have hM1 : MX Γ (bs + 2) th σ H1 := hM.kept (fun q q1 q2 => ho1 q (by omega) (by omega) (by omega) (by omega) (by omega))
  have hlow1 : ∀ q : Nat, q < bs → H1[q]? = s.heap[q]? := fun q q1 => (ho1 q (by omega) (by omega) (by omega) (by omega) (by omega)).trans (hlow q q1)
  have hS1 := LI.S hbs hlo (show bs + 14 ≤ H1.size by omega) hlow1
  rcases hp with ⟨hcd, rfl, ⟨ad2, hC2, hy2⟩, hA2⟩ | ⟨hcd, rfl, hC2, hA2⟩
  · skip
    refine W.eq (g2 := F0 m 952 ls [.int (nI 0)]) rfl ?_
    refine lv_istore (lv' := [(5, .int (nI 0)), (0, .ref sb), (1, .ref bs), (2, .ref (bs + 2)), (3, .ref (bs + 13)), (4, .int (nI i))]) hx hb dL_law_952 hl (by decide) rfl (fun ls hl => ?_)
    refine lv_aload_n hx hb dL_law_954 rfl (lv_at hl 3 rfl) ?_
    refine lv_aload_n hx hb dL_law_955 rfl (lv_at hl 1 rfl) ?_
    refine lv_iload hx hb dL_law_956 (lv_at hl 5 rfl) ?_
    refine lv_iconst (v := nI 1) hx hb dL_law_958 (by decide +kernel) ?_
    refine x_add hx hb dL_law_959 ?_
    refine l_sld hx hb hX hsb (by omega) hS1 (by omega) hL dL_law_960 ?_
    refine lv_aload_n hx hb dL_law_961 rfl (lv_at hl 1 rfl) ?_
    refine lv_iload hx hb dL_law_962 (lv_at hl 5 rfl) ?_
    refine lv_iconst (v := nI 2) hx hb dL_law_964 (by decide +kernel) ?_
    refine x_add hx hb dL_law_965 ?_
    refine l_sld hx hb hX hsb (by omega) hS1 (by omega) hL dL_law_966 ?_
    obtain ⟨g1, g2, hW1⟩ := hM1
    refine m_V (rest := []) S hK (c_X2_size l Γ bs (bs + 2) th σ hI (by omega) (xs (i + 1)) (xs (i + 2))) (cwV 2 hts gL_law_X2_size rfl rfl rfl (by decide +kernel) ⟨Nat.le_of_ble_eq_true rfl, Nat.le_of_ble_eq_true rfl⟩) (Ob.recv hK hW1.1 rfl) ⟨g1, g2, hW1⟩ rfl hl.1 rfl (Nat.le_of_ble_eq_true rfl) dL_law_967 ⟨by show _ ≤ 601024; omega, by show _ ≤ 7293034; omega⟩ hlo (fun v H2 lc2 hp2 hlo => ?_)
    obtain ⟨hp2, hF2⟩ := hp2
    rcases hp2 with ⟨hcd2, rfl, g3, g4, hW⟩ | ⟨hcd2, rfl, g3, g4, hW⟩
    · skip
      have hI2 : Iv σ := hI
      have hC3 := hC2.fr hy2 hF2 (by omega) (by omega)
      have hA3 := hA2.kept (hF2.2 _ hA2.lt (Or.inr (by omega)))
      have hlow2 : ∀ q : Nat, q < bs → H2[q]? = s.heap[q]? := fun q q1 => (hF2.2 q (by omega) (Or.inl (by omega))).trans (hlow1 q q1)
      refine W.eq (g2 := F0 m 970 ls [.int (nI (cU (rd (rk σ ((xs (i + 1)).toInt.toNat)) (qu σ ((xs (i + 1)).toInt.toNat)) ((xs (i + 2)).toInt.toNat)) (qp σ ((xs (i + 1)).toInt.toNat))))]) rfl ?_
      refine lv_istore (lv' := [(6, .int (nI (cU (rd (rk σ ((xs (i + 1)).toInt.toNat)) (qu σ ((xs (i + 1)).toInt.toNat)) ((xs (i + 2)).toInt.toNat)) (qp σ ((xs (i + 1)).toInt.toNat))))), (5, .int (nI 0)), (0, .ref sb), (1, .ref bs), (2, .ref (bs + 2)), (3, .ref (bs + 13)), (4, .int (nI i))]) hx hb dL_law_970 hl (by decide) rfl (fun ls hl => ?_)
      refine lv_aload_n hx hb dL_law_972 rfl (lv_at hl 4 rfl) ?_
      refine ro_V (rest := []) S hK (c_X2_thrown l Γ (bs + 2) (nI 0) _ g3 g4 hI2) (cwV 0 hts gL_law_X2_thrown rfl rfl rfl (by decide +kernel) ⟨Nat.le_of_ble_eq_true rfl, Nat.le_of_ble_eq_true rfl⟩) (Ob.recv hK hW.1 rfl) hW rfl hl.1 rfl (Nat.le_of_ble_eq_true rfl) dL_law_973 ⟨by show _ ≤ 601024; omega, by show _ ≤ 7293034; omega⟩ ?_
      refine W.eq (g2 := F0 m 976 ls [.int (nI 0)]) rfl ?_
      refine lv_iload hx hb dL_law_976 (lv_at hl 1 rfl) ?_
      refine x_iceq hx hb (by omega) (by omega) (tgt := 983) dL_law_978 (by decide) (fun c_1 => ?_) (fun c_1 => absurd c_1 (by decide))
      refine lv_iload hx hb dL_law_983 (lv_at hl 1 rfl) ?_
      refine x_ifne hx hb (by omega) (tgt := 1000) dL_law_985 (by decide) (fun c_2 => absurd c_2 (by decide)) (fun c_2 => ?_)
      refine lv_aload_n hx hb dL_law_988 rfl (lv_at hl 5 rfl) ?_
      refine lv_iconst (v := nI 0) hx hb dL_law_989 (by decide +kernel) ?_
      refine x_lald hx hb hJ hA3 dL_law_990 ?_
      refine lv_iload hx hb dL_law_991 (lv_at hl 0 rfl) ?_
      refine lv_i2l hx hb dL_law_993 rfl ?_
      refine x_lcmp (v := nI 0) hx hb dL_law_994 (lcmp_eq _) ?_
      refine x_ifeq hx hb (by omega) (tgt := 1000) dL_law_995 (by decide) (fun c_3 => ?_) (fun c_3 => absurd c_3 (by decide))
      refine lv_goto (tgt := 1514) hx hb dL_law_1000 (by decide) ?_
      refine W.widen (k := C0 + 300) (n := S0 + 2100) (by omega) (by omega) ?_
      exact k σ ad2 _ _ _ _ ⟨hI2, hy2, hC3, ⟨_, _, hW⟩, hA3, hlo, by have := hF2.1; omega, hlow2⟩ ls (lv_sub hl [2, 3, 4, 5, 6] rfl)
    · skip
      exact absurd hcd2 (by omega)
  · skip
    refine W.eq (g2 := F0 m 952 ls [.int (nI (cd2 (inb (xs (i + 1)) (qn σ)) (inb (xs (i + 2)) 3)))]) rfl ?_
    refine lv_istore (lv' := [(5, .int (nI (cd2 (inb (xs (i + 1)) (qn σ)) (inb (xs (i + 2)) 3)))), (0, .ref sb), (1, .ref bs), (2, .ref (bs + 2)), (3, .ref (bs + 13)), (4, .int (nI i))]) hx hb dL_law_952 hl (by decide) rfl (fun ls hl => ?_)
    refine lv_aload_n hx hb dL_law_954 rfl (lv_at hl 3 rfl) ?_
    refine lv_aload_n hx hb dL_law_955 rfl (lv_at hl 1 rfl) ?_
    refine lv_iload hx hb dL_law_956 (lv_at hl 5 rfl) ?_
    refine lv_iconst (v := nI 1) hx hb dL_law_958 (by decide +kernel) ?_
    refine x_add hx hb dL_law_959 ?_
    refine l_sld hx hb hX hsb (by omega) hS1 (by omega) hL dL_law_960 ?_
    refine lv_aload_n hx hb dL_law_961 rfl (lv_at hl 1 rfl) ?_
    refine lv_iload hx hb dL_law_962 (lv_at hl 5 rfl) ?_
    refine lv_iconst (v := nI 2) hx hb dL_law_964 (by decide +kernel) ?_
    refine x_add hx hb dL_law_965 ?_
    refine l_sld hx hb hX hsb (by omega) hS1 (by omega) hL dL_law_966 ?_
    obtain ⟨g1, g2, hW1⟩ := hM1
    refine m_V (rest := []) S hK (c_X2_size l Γ bs (bs + 2) th σ hI (by omega) (xs (i + 1)) (xs (i + 2))) (cwV 2 hts gL_law_X2_size rfl rfl rfl (by decide +kernel) ⟨Nat.le_of_ble_eq_true rfl, Nat.le_of_ble_eq_true rfl⟩) (Ob.recv hK hW1.1 rfl) ⟨g1, g2, hW1⟩ rfl hl.1 rfl (Nat.le_of_ble_eq_true rfl) dL_law_967 ⟨by show _ ≤ 601024; omega, by show _ ≤ 7293034; omega⟩ hlo (fun v H2 lc2 hp2 hlo => ?_)
    obtain ⟨hp2, hF2⟩ := hp2
    rcases hp2 with ⟨hcd2, rfl, g3, g4, hW⟩ | ⟨hcd2, rfl, g3, g4, hW⟩
    · skip
      exact absurd hcd2 (by omega)
    · skip
      have hI2 := hI
      have hC3 := hC2.fr hy hF2 (by omega) (by omega)
      have hA3 := hA2.kept (hF2.2 _ hA2.lt (Or.inr (by omega)))
      have hlow2 : ∀ q : Nat, q < bs → H2[q]? = s.heap[q]? := fun q q1 => (hF2.2 q (by omega) (Or.inl (by omega))).trans (hlow1 q q1)
      refine W.eq (g2 := F0 m 970 ls [.int (nI 0)]) rfl ?_
      refine lv_istore (lv' := [(6, .int (nI 0)), (5, .int (nI (cd2 (inb (xs (i + 1)) (qn σ)) (inb (xs (i + 2)) 3)))), (0, .ref sb), (1, .ref bs), (2, .ref (bs + 2)), (3, .ref (bs + 13)), (4, .int (nI i))]) hx hb dL_law_970 hl (by decide) rfl (fun ls hl => ?_)
      refine lv_aload_n hx hb dL_law_972 rfl (lv_at hl 4 rfl) ?_
      refine ro_V (rest := []) S hK (c_X2_thrown l Γ (bs + 2) (nI (cd2 (inb (xs (i + 1)) (qn σ)) (inb (xs (i + 2)) 3))) _ g3 g4 hI2) (cwV 0 hts gL_law_X2_thrown rfl rfl rfl (by decide +kernel) ⟨Nat.le_of_ble_eq_true rfl, Nat.le_of_ble_eq_true rfl⟩) (Ob.recv hK hW.1 rfl) hW rfl hl.1 rfl (Nat.le_of_ble_eq_true rfl) dL_law_973 ⟨by show _ ≤ 601024; omega, by show _ ≤ 7293034; omega⟩ ?_
      refine W.eq (g2 := F0 m 976 ls [.int (nI (cd2 (inb (xs (i + 1)) (qn σ)) (inb (xs (i + 2)) 3)))]) rfl ?_
      refine lv_iload hx hb dL_law_976 (lv_at hl 1 rfl) ?_
      refine lv_icmp_eq (tgt := 983) hx hb dL_law_978 (by decide) (fun c9 => ?_) (fun c9 => absurd rfl c9)
      refine lv_iload hx hb dL_law_983 (lv_at hl 1 rfl) ?_
      refine x_ifne hx hb (Nat.lt_of_le_of_lt (cd2_le _ _) (by decide)) (tgt := 1000) dL_law_985 (by decide) (fun c9 => ?_) (fun c9 => absurd c9 (by omega))
      refine lv_goto (tgt := 1514) hx hb dL_law_1000 (by decide) ?_
      refine W.widen (k := C0 + 300) (n := S0 + 2100) (by omega) (by omega) ?_
      exact k σ ad _ _ _ _ ⟨hI, hy, hC3, ⟨_, _, hW⟩, hA3, hlo, by have := hF2.1; omega, hlow2⟩ ls (lv_sub hl [2, 3, 4, 5, 6] rfl)
set_option maxHeartbeats 4000000 in
set_option maxRecDepth 100000 in
theorem lawc_reads {p : Program} {l : Launch} {e : Env} {s : State} {m : MethodId} {args : Array Value} {below : List Frame} {meth : Method} {c : Code} {H : Heap} {locs : List Loc} {Q : State → Prop} {Γ : GG} {cJ : ClassId} {bs sb L i C0 S0 : Nat} {xs : Nat → Int32} {σ : St} {ad : Nat → Nat} {th : Int32} {v0 : Int64}
    (hfl : l.stackTraces = false) (S : CallFix p m c cL_law 9 s args wsL_law RL) (hK : xK Γ s) (hT : xT bs s) (hE0 : xE s) (hJ : xJ cJ s) (hX : va_X sb L xs s s.heap) (hsb : sb < s.heap.size) (hbs : s.heap.size = bs) (hL : L ≤ 2560) (hi : i + 5 ≤ L) (hC0 : C0 + 300 ≤ 601024) (hS0 : S0 + 2100 ≤ 7293034) (hLI : LI Γ cJ bs s σ ad th v0 H locs)
    (k : ∀ (σ' : St) (ad' : Nat → Nat) (th' : Int32) (v' : Int64) (H' : Heap) (locs' : List Loc), LI Γ cJ bs s σ' ad' th' v' H' locs' → ∀ ls : Array Slot, lv_has ls 9 [(0, .ref sb), (1, .ref bs), (2, .ref (bs + 2)), (3, .ref (bs + 13)), (4, .int (nI i))] → W p l e room_1 s m args below meth c H' locs' (C0 + 300) (S0 + 2100) Q (F0 m 1514 ls []))
    (ls : Array Slot) (hl : lv_has ls 9 [(0, .ref sb), (1, .ref bs), (2, .ref (bs + 2)), (3, .ref (bs + 13)), (4, .int (nI i))]) : W p l e room_1 s m args below meth c H locs C0 S0 Q (F0 m 1003 ls []) := by
  obtain ⟨hx, hb, hml, hown, hts⟩ := id S
  obtain ⟨hI, hy, hC, hM, hA, hlo, hsz, hlow⟩ := hLI
  have hS9 := LI.S hbs hlo hsz hlow
  refine lv_aload_n hx hb dL_law_1003 rfl (lv_at hl 1 rfl) ?_
  refine lv_aload_n hx hb dL_law_1004 rfl (lv_at hl 0 rfl) ?_
  refine lv_iload hx hb dL_law_1005 (lv_at hl 4 rfl) ?_
  refine lv_iconst (v := nI 1) hx hb dL_law_1007 (by decide +kernel) ?_
  refine x_add hx hb dL_law_1008 ?_
  refine l_sld hx hb hX hsb (by omega) hS9 (by omega) hL dL_law_1009 ?_
  refine lv_aload_n hx hb dL_law_1010 rfl (lv_at hl 0 rfl) ?_
  refine lv_iload hx hb dL_law_1011 (lv_at hl 4 rfl) ?_
  refine lv_iconst (v := nI 2) hx hb dL_law_1013 (by decide +kernel) ?_
  refine x_add hx hb dL_law_1014 ?_
  refine l_sld hx hb hX hsb (by omega) hS9 (by omega) hL dL_law_1015 ?_
  refine lv_aload_n hx hb dL_law_1016 rfl (lv_at hl 0 rfl) ?_
  refine lv_iload hx hb dL_law_1017 (lv_at hl 4 rfl) ?_
  refine lv_iconst (v := nI 3) hx hb dL_law_1019 (by decide +kernel) ?_
  refine x_add hx hb dL_law_1020 ?_
  refine l_sld hx hb hX hsb (by omega) hS9 (by omega) hL dL_law_1021 ?_
  refine lv_aload_n hx hb dL_law_1022 rfl (lv_at hl 3 rfl) ?_
  refine l_S (rest := []) S hK hT hE0 hJ hlow (c_L_reads l hfl Γ cJ bs bs (bs + 13) (bs + 14) σ ad hI (xs (i + 1)) (xs (i + 2)) (xs (i + 3)) hy (by omega) (by omega) (Nat.le_refl _) v0) (vx_cwSW 5 hts gL_law_L_reads rfl rfl rfl (by decide +kernel) ⟨Nat.le_of_ble_eq_true rfl, Nat.le_of_ble_eq_true rfl⟩) ⟨hC, hsz, hA⟩ rfl hl.1 rfl (Nat.le_of_ble_eq_true rfl) dL_law_1023 ⟨by show _ ≤ 601024; omega, by show _ ≤ 7293034; omega⟩ hlo (fun v H1 lc1 hp hlo => ?_)
  obtain ⟨hp, hz1, ho1⟩ := hp
  have hM1 : MX Γ (bs + 2) th σ H1 := hM.kept (fun q q1 q2 => ho1 q (by omega) (by omega) (by omega) (by omega) (by omega))
  have hlow1 : ∀ q : Nat, q < bs → H1[q]? = s.heap[q]? := fun q q1 => (ho1 q (by omega) (by omega) (by omega) (by omega) (by omega)).trans (hlow q q1)
  have hS1 := LI.S hbs hlo (show bs + 14 ≤ H1.size by omega) hlow1
  rcases hp with ⟨hcd, rfl, ⟨ad2, hC2, hy2⟩, hA2⟩ | ⟨hcd, rfl, hC2, hA2⟩
  · skip
    refine W.eq (g2 := F0 m 1026 ls [.int (nI 0)]) rfl ?_
    refine lv_istore (lv' := [(5, .int (nI 0)), (0, .ref sb), (1, .ref bs), (2, .ref (bs + 2)), (3, .ref (bs + 13)), (4, .int (nI i))]) hx hb dL_law_1026 hl (by decide) rfl (fun ls hl => ?_)
    refine lv_aload_n hx hb dL_law_1028 rfl (lv_at hl 3 rfl) ?_
    refine lv_aload_n hx hb dL_law_1029 rfl (lv_at hl 1 rfl) ?_
    refine lv_iload hx hb dL_law_1030 (lv_at hl 5 rfl) ?_
    refine lv_iconst (v := nI 1) hx hb dL_law_1032 (by decide +kernel) ?_
    refine x_add hx hb dL_law_1033 ?_
    refine l_sld hx hb hX hsb (by omega) hS1 (by omega) hL dL_law_1034 ?_
    refine lv_aload_n hx hb dL_law_1035 rfl (lv_at hl 1 rfl) ?_
    refine lv_iload hx hb dL_law_1036 (lv_at hl 5 rfl) ?_
    refine lv_iconst (v := nI 2) hx hb dL_law_1038 (by decide +kernel) ?_
    refine x_add hx hb dL_law_1039 ?_
    refine l_sld hx hb hX hsb (by omega) hS1 (by omega) hL dL_law_1040 ?_
    refine lv_aload_n hx hb dL_law_1041 rfl (lv_at hl 1 rfl) ?_
    refine lv_iload hx hb dL_law_1042 (lv_at hl 5 rfl) ?_
    refine lv_iconst (v := nI 3) hx hb dL_law_1044 (by decide +kernel) ?_
    refine x_add hx hb dL_law_1045 ?_
    refine l_sld hx hb hX hsb (by omega) hS1 (by omega) hL dL_law_1046 ?_
    obtain ⟨g1, g2, hW1⟩ := hM1
    refine m_V (rest := []) S hK (c_X2_reads l Γ bs (bs + 2) th σ hI (by omega) (xs (i + 1)) (xs (i + 2)) (xs (i + 3))) (cwV 3 hts gL_law_X2_reads rfl rfl rfl (by decide +kernel) ⟨Nat.le_of_ble_eq_true rfl, Nat.le_of_ble_eq_true rfl⟩) (Ob.recv hK hW1.1 rfl) ⟨g1, g2, hW1⟩ rfl hl.1 rfl (Nat.le_of_ble_eq_true rfl) dL_law_1047 ⟨by show _ ≤ 601024; omega, by show _ ≤ 7293034; omega⟩ hlo (fun v H2 lc2 hp2 hlo => ?_)
    obtain ⟨hp2, hF2⟩ := hp2
    rcases hp2 with ⟨hcd2, rfl, g3, g4, hW⟩ | ⟨hcd2, rfl, g3, g4, hW⟩
    · skip
      have hI2 : Iv σ := hI
      have hC3 := hC2.fr hy2 hF2 (by omega) (by omega)
      have hA3 := hA2.kept (hF2.2 _ hA2.lt (Or.inr (by omega)))
      have hlow2 : ∀ q : Nat, q < bs → H2[q]? = s.heap[q]? := fun q q1 => (hF2.2 q (by omega) (Or.inl (by omega))).trans (hlow1 q q1)
      refine W.eq (g2 := F0 m 1050 ls [.int (nth (rd (rk σ ((xs (i + 1)).toInt.toNat)) (qu σ ((xs (i + 1)).toInt.toNat)) ((xs (i + 2)).toInt.toNat)) (qp σ ((xs (i + 1)).toInt.toNat)) (xs (i + 3)))]) rfl ?_
      refine lv_istore (lv' := [(6, .int (nth (rd (rk σ ((xs (i + 1)).toInt.toNat)) (qu σ ((xs (i + 1)).toInt.toNat)) ((xs (i + 2)).toInt.toNat)) (qp σ ((xs (i + 1)).toInt.toNat)) (xs (i + 3)))), (5, .int (nI 0)), (0, .ref sb), (1, .ref bs), (2, .ref (bs + 2)), (3, .ref (bs + 13)), (4, .int (nI i))]) hx hb dL_law_1050 hl (by decide) rfl (fun ls hl => ?_)
      refine lv_aload_n hx hb dL_law_1052 rfl (lv_at hl 4 rfl) ?_
      refine ro_V (rest := []) S hK (c_X2_thrown l Γ (bs + 2) (nI 0) _ g3 g4 hI2) (cwV 0 hts gL_law_X2_thrown rfl rfl rfl (by decide +kernel) ⟨Nat.le_of_ble_eq_true rfl, Nat.le_of_ble_eq_true rfl⟩) (Ob.recv hK hW.1 rfl) hW rfl hl.1 rfl (Nat.le_of_ble_eq_true rfl) dL_law_1053 ⟨by show _ ≤ 601024; omega, by show _ ≤ 7293034; omega⟩ ?_
      refine W.eq (g2 := F0 m 1056 ls [.int (nI 0)]) rfl ?_
      refine lv_iload hx hb dL_law_1056 (lv_at hl 1 rfl) ?_
      refine x_iceq hx hb (by omega) (by omega) (tgt := 1063) dL_law_1058 (by decide) (fun c_1 => ?_) (fun c_1 => absurd c_1 (by decide))
      refine lv_iload hx hb dL_law_1063 (lv_at hl 1 rfl) ?_
      refine x_ifne hx hb (by omega) (tgt := 1080) dL_law_1065 (by decide) (fun c_2 => absurd c_2 (by decide)) (fun c_2 => ?_)
      refine lv_aload_n hx hb dL_law_1068 rfl (lv_at hl 5 rfl) ?_
      refine lv_iconst (v := nI 0) hx hb dL_law_1069 (by decide +kernel) ?_
      refine x_lald hx hb hJ hA3 dL_law_1070 ?_
      refine lv_iload hx hb dL_law_1071 (lv_at hl 0 rfl) ?_
      refine lv_i2l hx hb dL_law_1073 rfl ?_
      refine x_lcmp (v := nI 0) hx hb dL_law_1074 (lcmp_eq _) ?_
      refine x_ifeq hx hb (by omega) (tgt := 1080) dL_law_1075 (by decide) (fun c_3 => ?_) (fun c_3 => absurd c_3 (by decide))
      refine lv_goto (tgt := 1514) hx hb dL_law_1080 (by decide) ?_
      refine W.widen (k := C0 + 300) (n := S0 + 2100) (by omega) (by omega) ?_
      exact k σ ad2 _ _ _ _ ⟨hI2, hy2, hC3, ⟨_, _, hW⟩, hA3, hlo, by have := hF2.1; omega, hlow2⟩ ls (lv_sub hl [2, 3, 4, 5, 6] rfl)
    · skip
      exact absurd hcd2 (by omega)
  · skip
    refine W.eq (g2 := F0 m 1026 ls [.int (nI (cd2 (inb (xs (i + 1)) (qn σ)) (inb (xs (i + 2)) 3 ∧ inb (xs (i + 3)) (cU (rd (rk σ ((xs (i + 1)).toInt.toNat)) (qu σ ((xs (i + 1)).toInt.toNat)) ((xs (i + 2)).toInt.toNat)) (qp σ ((xs (i + 1)).toInt.toNat))))))]) rfl ?_
    refine lv_istore (lv' := [(5, .int (nI (cd2 (inb (xs (i + 1)) (qn σ)) (inb (xs (i + 2)) 3 ∧ inb (xs (i + 3)) (cU (rd (rk σ ((xs (i + 1)).toInt.toNat)) (qu σ ((xs (i + 1)).toInt.toNat)) ((xs (i + 2)).toInt.toNat)) (qp σ ((xs (i + 1)).toInt.toNat))))))), (0, .ref sb), (1, .ref bs), (2, .ref (bs + 2)), (3, .ref (bs + 13)), (4, .int (nI i))]) hx hb dL_law_1026 hl (by decide) rfl (fun ls hl => ?_)
    refine lv_aload_n hx hb dL_law_1028 rfl (lv_at hl 3 rfl) ?_
    refine lv_aload_n hx hb dL_law_1029 rfl (lv_at hl 1 rfl) ?_
    refine lv_iload hx hb dL_law_1030 (lv_at hl 5 rfl) ?_
    refine lv_iconst (v := nI 1) hx hb dL_law_1032 (by decide +kernel) ?_
    refine x_add hx hb dL_law_1033 ?_
    refine l_sld hx hb hX hsb (by omega) hS1 (by omega) hL dL_law_1034 ?_
    refine lv_aload_n hx hb dL_law_1035 rfl (lv_at hl 1 rfl) ?_
    refine lv_iload hx hb dL_law_1036 (lv_at hl 5 rfl) ?_
    refine lv_iconst (v := nI 2) hx hb dL_law_1038 (by decide +kernel) ?_
    refine x_add hx hb dL_law_1039 ?_
    refine l_sld hx hb hX hsb (by omega) hS1 (by omega) hL dL_law_1040 ?_
    refine lv_aload_n hx hb dL_law_1041 rfl (lv_at hl 1 rfl) ?_
    refine lv_iload hx hb dL_law_1042 (lv_at hl 5 rfl) ?_
    refine lv_iconst (v := nI 3) hx hb dL_law_1044 (by decide +kernel) ?_
    refine x_add hx hb dL_law_1045 ?_
    refine l_sld hx hb hX hsb (by omega) hS1 (by omega) hL dL_law_1046 ?_
    obtain ⟨g1, g2, hW1⟩ := hM1
    refine m_V (rest := []) S hK (c_X2_reads l Γ bs (bs + 2) th σ hI (by omega) (xs (i + 1)) (xs (i + 2)) (xs (i + 3))) (cwV 3 hts gL_law_X2_reads rfl rfl rfl (by decide +kernel) ⟨Nat.le_of_ble_eq_true rfl, Nat.le_of_ble_eq_true rfl⟩) (Ob.recv hK hW1.1 rfl) ⟨g1, g2, hW1⟩ rfl hl.1 rfl (Nat.le_of_ble_eq_true rfl) dL_law_1047 ⟨by show _ ≤ 601024; omega, by show _ ≤ 7293034; omega⟩ hlo (fun v H2 lc2 hp2 hlo => ?_)
    obtain ⟨hp2, hF2⟩ := hp2
    rcases hp2 with ⟨hcd2, rfl, g3, g4, hW⟩ | ⟨hcd2, rfl, g3, g4, hW⟩
    · skip
      exact absurd hcd2 (by omega)
    · skip
      have hI2 := hI
      have hC3 := hC2.fr hy hF2 (by omega) (by omega)
      have hA3 := hA2.kept (hF2.2 _ hA2.lt (Or.inr (by omega)))
      have hlow2 : ∀ q : Nat, q < bs → H2[q]? = s.heap[q]? := fun q q1 => (hF2.2 q (by omega) (Or.inl (by omega))).trans (hlow1 q q1)
      refine W.eq (g2 := F0 m 1050 ls [.int (nI 0)]) rfl ?_
      refine lv_istore (lv' := [(6, .int (nI 0)), (5, .int (nI (cd2 (inb (xs (i + 1)) (qn σ)) (inb (xs (i + 2)) 3 ∧ inb (xs (i + 3)) (cU (rd (rk σ ((xs (i + 1)).toInt.toNat)) (qu σ ((xs (i + 1)).toInt.toNat)) ((xs (i + 2)).toInt.toNat)) (qp σ ((xs (i + 1)).toInt.toNat))))))), (0, .ref sb), (1, .ref bs), (2, .ref (bs + 2)), (3, .ref (bs + 13)), (4, .int (nI i))]) hx hb dL_law_1050 hl (by decide) rfl (fun ls hl => ?_)
      refine lv_aload_n hx hb dL_law_1052 rfl (lv_at hl 4 rfl) ?_
      refine ro_V (rest := []) S hK (c_X2_thrown l Γ (bs + 2) (nI (cd2 (inb (xs (i + 1)) (qn σ)) (inb (xs (i + 2)) 3 ∧ inb (xs (i + 3)) (cU (rd (rk σ ((xs (i + 1)).toInt.toNat)) (qu σ ((xs (i + 1)).toInt.toNat)) ((xs (i + 2)).toInt.toNat)) (qp σ ((xs (i + 1)).toInt.toNat)))))) _ g3 g4 hI2) (cwV 0 hts gL_law_X2_thrown rfl rfl rfl (by decide +kernel) ⟨Nat.le_of_ble_eq_true rfl, Nat.le_of_ble_eq_true rfl⟩) (Ob.recv hK hW.1 rfl) hW rfl hl.1 rfl (Nat.le_of_ble_eq_true rfl) dL_law_1053 ⟨by show _ ≤ 601024; omega, by show _ ≤ 7293034; omega⟩ ?_
      refine W.eq (g2 := F0 m 1056 ls [.int (nI (cd2 (inb (xs (i + 1)) (qn σ)) (inb (xs (i + 2)) 3 ∧ inb (xs (i + 3)) (cU (rd (rk σ ((xs (i + 1)).toInt.toNat)) (qu σ ((xs (i + 1)).toInt.toNat)) ((xs (i + 2)).toInt.toNat)) (qp σ ((xs (i + 1)).toInt.toNat))))))]) rfl ?_
      refine lv_iload hx hb dL_law_1056 (lv_at hl 1 rfl) ?_
      refine lv_icmp_eq (tgt := 1063) hx hb dL_law_1058 (by decide) (fun c9 => ?_) (fun c9 => absurd rfl c9)
      refine lv_iload hx hb dL_law_1063 (lv_at hl 1 rfl) ?_
      refine x_ifne hx hb (Nat.lt_of_le_of_lt (cd2_le _ _) (by decide)) (tgt := 1080) dL_law_1065 (by decide) (fun c9 => ?_) (fun c9 => absurd c9 (by omega))
      refine lv_goto (tgt := 1514) hx hb dL_law_1080 (by decide) ?_
      refine W.widen (k := C0 + 300) (n := S0 + 2100) (by omega) (by omega) ?_
      exact k σ ad _ _ _ _ ⟨hI, hy, hC3, ⟨_, _, hW⟩, hA3, hlo, by have := hF2.1; omega, hlow2⟩ ls (lv_sub hl [2, 3, 4, 5, 6] rfl)
set_option maxHeartbeats 4000000 in
set_option maxRecDepth 100000 in
theorem lawc_has {p : Program} {l : Launch} {e : Env} {s : State} {m : MethodId} {args : Array Value} {below : List Frame} {meth : Method} {c : Code} {H : Heap} {locs : List Loc} {Q : State → Prop} {Γ : GG} {cJ : ClassId} {bs sb L i C0 S0 : Nat} {xs : Nat → Int32} {σ : St} {ad : Nat → Nat} {th : Int32} {v0 : Int64}
    (hfl : l.stackTraces = false) (S : CallFix p m c cL_law 9 s args wsL_law RL) (hK : xK Γ s) (hT : xT bs s) (hE0 : xE s) (hJ : xJ cJ s) (hX : va_X sb L xs s s.heap) (hsb : sb < s.heap.size) (hbs : s.heap.size = bs) (hL : L ≤ 2560) (hi : i + 5 ≤ L) (hC0 : C0 + 300 ≤ 601024) (hS0 : S0 + 2100 ≤ 7293034) (hLI : LI Γ cJ bs s σ ad th v0 H locs)
    (k : ∀ (σ' : St) (ad' : Nat → Nat) (th' : Int32) (v' : Int64) (H' : Heap) (locs' : List Loc), LI Γ cJ bs s σ' ad' th' v' H' locs' → ∀ ls : Array Slot, lv_has ls 9 [(0, .ref sb), (1, .ref bs), (2, .ref (bs + 2)), (3, .ref (bs + 13)), (4, .int (nI i))] → W p l e room_1 s m args below meth c H' locs' (C0 + 300) (S0 + 2100) Q (F0 m 1514 ls []))
    (ls : Array Slot) (hl : lv_has ls 9 [(0, .ref sb), (1, .ref bs), (2, .ref (bs + 2)), (3, .ref (bs + 13)), (4, .int (nI i))]) : W p l e room_1 s m args below meth c H locs C0 S0 Q (F0 m 1083 ls []) := by
  obtain ⟨hx, hb, hml, hown, hts⟩ := id S
  obtain ⟨hI, hy, hC, hM, hA, hlo, hsz, hlow⟩ := hLI
  have hS9 := LI.S hbs hlo hsz hlow
  refine lv_aload_n hx hb dL_law_1083 rfl (lv_at hl 1 rfl) ?_
  refine lv_aload_n hx hb dL_law_1084 rfl (lv_at hl 0 rfl) ?_
  refine lv_iload hx hb dL_law_1085 (lv_at hl 4 rfl) ?_
  refine lv_iconst (v := nI 1) hx hb dL_law_1087 (by decide +kernel) ?_
  refine x_add hx hb dL_law_1088 ?_
  refine l_sld hx hb hX hsb (by omega) hS9 (by omega) hL dL_law_1089 ?_
  refine lv_aload_n hx hb dL_law_1090 rfl (lv_at hl 0 rfl) ?_
  refine lv_iload hx hb dL_law_1091 (lv_at hl 4 rfl) ?_
  refine lv_iconst (v := nI 2) hx hb dL_law_1093 (by decide +kernel) ?_
  refine x_add hx hb dL_law_1094 ?_
  refine l_sld hx hb hX hsb (by omega) hS9 (by omega) hL dL_law_1095 ?_
  refine lv_aload_n hx hb dL_law_1096 rfl (lv_at hl 0 rfl) ?_
  refine lv_iload hx hb dL_law_1097 (lv_at hl 4 rfl) ?_
  refine lv_iconst (v := nI 3) hx hb dL_law_1099 (by decide +kernel) ?_
  refine x_add hx hb dL_law_1100 ?_
  refine l_sld hx hb hX hsb (by omega) hS9 (by omega) hL dL_law_1101 ?_
  refine lv_aload_n hx hb dL_law_1102 rfl (lv_at hl 3 rfl) ?_
  refine l_S (rest := []) S hK hT hE0 hJ hlow (c_L_has l hfl Γ cJ bs bs (bs + 13) (bs + 14) σ ad hI (xs (i + 1)) (xs (i + 2)) (xs (i + 3)) hy (by omega) (by omega) (Nat.le_refl _) v0) (vx_cwSW 5 hts gL_law_L_has rfl rfl rfl (by decide +kernel) ⟨Nat.le_of_ble_eq_true rfl, Nat.le_of_ble_eq_true rfl⟩) ⟨hC, hsz, hA⟩ rfl hl.1 rfl (Nat.le_of_ble_eq_true rfl) dL_law_1103 ⟨by show _ ≤ 601024; omega, by show _ ≤ 7293034; omega⟩ hlo (fun v H1 lc1 hp hlo => ?_)
  obtain ⟨hp, hz1, ho1⟩ := hp
  have hM1 : MX Γ (bs + 2) th σ H1 := hM.kept (fun q q1 q2 => ho1 q (by omega) (by omega) (by omega) (by omega) (by omega))
  have hlow1 : ∀ q : Nat, q < bs → H1[q]? = s.heap[q]? := fun q q1 => (ho1 q (by omega) (by omega) (by omega) (by omega) (by omega)).trans (hlow q q1)
  have hS1 := LI.S hbs hlo (show bs + 14 ≤ H1.size by omega) hlow1
  rcases hp with ⟨hcd, rfl, ⟨ad2, hC2, hy2⟩, hA2⟩ | ⟨hcd, rfl, hC2, hA2⟩
  · skip
    refine W.eq (g2 := F0 m 1106 ls [.int (nI 0)]) rfl ?_
    refine lv_istore (lv' := [(5, .int (nI 0)), (0, .ref sb), (1, .ref bs), (2, .ref (bs + 2)), (3, .ref (bs + 13)), (4, .int (nI i))]) hx hb dL_law_1106 hl (by decide) rfl (fun ls hl => ?_)
    refine lv_aload_n hx hb dL_law_1108 rfl (lv_at hl 3 rfl) ?_
    refine lv_aload_n hx hb dL_law_1109 rfl (lv_at hl 1 rfl) ?_
    refine lv_iload hx hb dL_law_1110 (lv_at hl 5 rfl) ?_
    refine lv_iconst (v := nI 1) hx hb dL_law_1112 (by decide +kernel) ?_
    refine x_add hx hb dL_law_1113 ?_
    refine l_sld hx hb hX hsb (by omega) hS1 (by omega) hL dL_law_1114 ?_
    refine lv_aload_n hx hb dL_law_1115 rfl (lv_at hl 1 rfl) ?_
    refine lv_iload hx hb dL_law_1116 (lv_at hl 5 rfl) ?_
    refine lv_iconst (v := nI 2) hx hb dL_law_1118 (by decide +kernel) ?_
    refine x_add hx hb dL_law_1119 ?_
    refine l_sld hx hb hX hsb (by omega) hS1 (by omega) hL dL_law_1120 ?_
    refine lv_aload_n hx hb dL_law_1121 rfl (lv_at hl 1 rfl) ?_
    refine lv_iload hx hb dL_law_1122 (lv_at hl 5 rfl) ?_
    refine lv_iconst (v := nI 3) hx hb dL_law_1124 (by decide +kernel) ?_
    refine x_add hx hb dL_law_1125 ?_
    refine l_sld hx hb hX hsb (by omega) hS1 (by omega) hL dL_law_1126 ?_
    obtain ⟨g1, g2, hW1⟩ := hM1
    refine m_V (rest := []) S hK (c_X2_has l Γ bs (bs + 2) th σ hI (by omega) (xs (i + 1)) (xs (i + 2)) (xs (i + 3))) (cwV 3 hts gL_law_X2_has rfl rfl rfl (by decide +kernel) ⟨Nat.le_of_ble_eq_true rfl, Nat.le_of_ble_eq_true rfl⟩) (Ob.recv hK hW1.1 rfl) ⟨g1, g2, hW1⟩ rfl hl.1 rfl (Nat.le_of_ble_eq_true rfl) dL_law_1127 ⟨by show _ ≤ 601024; omega, by show _ ≤ 7293034; omega⟩ hlo (fun v H2 lc2 hp2 hlo => ?_)
    obtain ⟨hp2, hF2⟩ := hp2
    rcases hp2 with ⟨hcd2, rfl, g3, g4, hW⟩ | ⟨hcd2, rfl, g3, g4, hW⟩
    · skip
      have hI2 : Iv σ := hI
      have hC3 := hC2.fr hy2 hF2 (by omega) (by omega)
      have hA3 := hA2.kept (hF2.2 _ hA2.lt (Or.inr (by omega)))
      have hlow2 : ∀ q : Nat, q < bs → H2[q]? = s.heap[q]? := fun q q1 => (hF2.2 q (by omega) (Or.inl (by omega))).trans (hlow1 q q1)
      refine W.eq (g2 := F0 m 1130 ls [.int (nI (hs σ ((xs (i + 1)).toInt.toNat) (xs (i + 2)) (xs (i + 3))))]) rfl ?_
      refine lv_istore (lv' := [(6, .int (nI (hs σ ((xs (i + 1)).toInt.toNat) (xs (i + 2)) (xs (i + 3))))), (5, .int (nI 0)), (0, .ref sb), (1, .ref bs), (2, .ref (bs + 2)), (3, .ref (bs + 13)), (4, .int (nI i))]) hx hb dL_law_1130 hl (by decide) rfl (fun ls hl => ?_)
      refine lv_aload_n hx hb dL_law_1132 rfl (lv_at hl 4 rfl) ?_
      refine ro_V (rest := []) S hK (c_X2_thrown l Γ (bs + 2) (nI 0) _ g3 g4 hI2) (cwV 0 hts gL_law_X2_thrown rfl rfl rfl (by decide +kernel) ⟨Nat.le_of_ble_eq_true rfl, Nat.le_of_ble_eq_true rfl⟩) (Ob.recv hK hW.1 rfl) hW rfl hl.1 rfl (Nat.le_of_ble_eq_true rfl) dL_law_1133 ⟨by show _ ≤ 601024; omega, by show _ ≤ 7293034; omega⟩ ?_
      refine W.eq (g2 := F0 m 1136 ls [.int (nI 0)]) rfl ?_
      refine lv_iload hx hb dL_law_1136 (lv_at hl 1 rfl) ?_
      refine x_iceq hx hb (by omega) (by omega) (tgt := 1143) dL_law_1138 (by decide) (fun c_1 => ?_) (fun c_1 => absurd c_1 (by decide))
      refine lv_iload hx hb dL_law_1143 (lv_at hl 1 rfl) ?_
      refine x_ifne hx hb (by omega) (tgt := 1160) dL_law_1145 (by decide) (fun c_2 => absurd c_2 (by decide)) (fun c_2 => ?_)
      refine lv_aload_n hx hb dL_law_1148 rfl (lv_at hl 5 rfl) ?_
      refine lv_iconst (v := nI 0) hx hb dL_law_1149 (by decide +kernel) ?_
      refine x_lald hx hb hJ hA3 dL_law_1150 ?_
      refine lv_iload hx hb dL_law_1151 (lv_at hl 0 rfl) ?_
      refine lv_i2l hx hb dL_law_1153 rfl ?_
      refine x_lcmp (v := nI 0) hx hb dL_law_1154 (lcmp_eq _) ?_
      refine x_ifeq hx hb (by omega) (tgt := 1160) dL_law_1155 (by decide) (fun c_3 => ?_) (fun c_3 => absurd c_3 (by decide))
      refine lv_goto (tgt := 1514) hx hb dL_law_1160 (by decide) ?_
      refine W.widen (k := C0 + 300) (n := S0 + 2100) (by omega) (by omega) ?_
      exact k σ ad2 _ _ _ _ ⟨hI2, hy2, hC3, ⟨_, _, hW⟩, hA3, hlo, by have := hF2.1; omega, hlow2⟩ ls (lv_sub hl [2, 3, 4, 5, 6] rfl)
    · skip
      exact absurd hcd2 (by omega)
  · skip
    refine W.eq (g2 := F0 m 1106 ls [.int (nI (cd2 (inb (xs (i + 1)) (qn σ)) (inb (xs (i + 2)) 24 ∧ inb (xs (i + 3)) 24)))]) rfl ?_
    refine lv_istore (lv' := [(5, .int (nI (cd2 (inb (xs (i + 1)) (qn σ)) (inb (xs (i + 2)) 24 ∧ inb (xs (i + 3)) 24)))), (0, .ref sb), (1, .ref bs), (2, .ref (bs + 2)), (3, .ref (bs + 13)), (4, .int (nI i))]) hx hb dL_law_1106 hl (by decide) rfl (fun ls hl => ?_)
    refine lv_aload_n hx hb dL_law_1108 rfl (lv_at hl 3 rfl) ?_
    refine lv_aload_n hx hb dL_law_1109 rfl (lv_at hl 1 rfl) ?_
    refine lv_iload hx hb dL_law_1110 (lv_at hl 5 rfl) ?_
    refine lv_iconst (v := nI 1) hx hb dL_law_1112 (by decide +kernel) ?_
    refine x_add hx hb dL_law_1113 ?_
    refine l_sld hx hb hX hsb (by omega) hS1 (by omega) hL dL_law_1114 ?_
    refine lv_aload_n hx hb dL_law_1115 rfl (lv_at hl 1 rfl) ?_
    refine lv_iload hx hb dL_law_1116 (lv_at hl 5 rfl) ?_
    refine lv_iconst (v := nI 2) hx hb dL_law_1118 (by decide +kernel) ?_
    refine x_add hx hb dL_law_1119 ?_
    refine l_sld hx hb hX hsb (by omega) hS1 (by omega) hL dL_law_1120 ?_
    refine lv_aload_n hx hb dL_law_1121 rfl (lv_at hl 1 rfl) ?_
    refine lv_iload hx hb dL_law_1122 (lv_at hl 5 rfl) ?_
    refine lv_iconst (v := nI 3) hx hb dL_law_1124 (by decide +kernel) ?_
    refine x_add hx hb dL_law_1125 ?_
    refine l_sld hx hb hX hsb (by omega) hS1 (by omega) hL dL_law_1126 ?_
    obtain ⟨g1, g2, hW1⟩ := hM1
    refine m_V (rest := []) S hK (c_X2_has l Γ bs (bs + 2) th σ hI (by omega) (xs (i + 1)) (xs (i + 2)) (xs (i + 3))) (cwV 3 hts gL_law_X2_has rfl rfl rfl (by decide +kernel) ⟨Nat.le_of_ble_eq_true rfl, Nat.le_of_ble_eq_true rfl⟩) (Ob.recv hK hW1.1 rfl) ⟨g1, g2, hW1⟩ rfl hl.1 rfl (Nat.le_of_ble_eq_true rfl) dL_law_1127 ⟨by show _ ≤ 601024; omega, by show _ ≤ 7293034; omega⟩ hlo (fun v H2 lc2 hp2 hlo => ?_)
    obtain ⟨hp2, hF2⟩ := hp2
    rcases hp2 with ⟨hcd2, rfl, g3, g4, hW⟩ | ⟨hcd2, rfl, g3, g4, hW⟩
    · skip
      exact absurd hcd2 (by omega)
    · skip
      have hI2 := hI
      have hC3 := hC2.fr hy hF2 (by omega) (by omega)
      have hA3 := hA2.kept (hF2.2 _ hA2.lt (Or.inr (by omega)))
      have hlow2 : ∀ q : Nat, q < bs → H2[q]? = s.heap[q]? := fun q q1 => (hF2.2 q (by omega) (Or.inl (by omega))).trans (hlow1 q q1)
      refine W.eq (g2 := F0 m 1130 ls [.int (nI 0)]) rfl ?_
      refine lv_istore (lv' := [(6, .int (nI 0)), (5, .int (nI (cd2 (inb (xs (i + 1)) (qn σ)) (inb (xs (i + 2)) 24 ∧ inb (xs (i + 3)) 24)))), (0, .ref sb), (1, .ref bs), (2, .ref (bs + 2)), (3, .ref (bs + 13)), (4, .int (nI i))]) hx hb dL_law_1130 hl (by decide) rfl (fun ls hl => ?_)
      refine lv_aload_n hx hb dL_law_1132 rfl (lv_at hl 4 rfl) ?_
      refine ro_V (rest := []) S hK (c_X2_thrown l Γ (bs + 2) (nI (cd2 (inb (xs (i + 1)) (qn σ)) (inb (xs (i + 2)) 24 ∧ inb (xs (i + 3)) 24))) _ g3 g4 hI2) (cwV 0 hts gL_law_X2_thrown rfl rfl rfl (by decide +kernel) ⟨Nat.le_of_ble_eq_true rfl, Nat.le_of_ble_eq_true rfl⟩) (Ob.recv hK hW.1 rfl) hW rfl hl.1 rfl (Nat.le_of_ble_eq_true rfl) dL_law_1133 ⟨by show _ ≤ 601024; omega, by show _ ≤ 7293034; omega⟩ ?_
      refine W.eq (g2 := F0 m 1136 ls [.int (nI (cd2 (inb (xs (i + 1)) (qn σ)) (inb (xs (i + 2)) 24 ∧ inb (xs (i + 3)) 24)))]) rfl ?_
      refine lv_iload hx hb dL_law_1136 (lv_at hl 1 rfl) ?_
      refine lv_icmp_eq (tgt := 1143) hx hb dL_law_1138 (by decide) (fun c9 => ?_) (fun c9 => absurd rfl c9)
      refine lv_iload hx hb dL_law_1143 (lv_at hl 1 rfl) ?_
      refine x_ifne hx hb (Nat.lt_of_le_of_lt (cd2_le _ _) (by decide)) (tgt := 1160) dL_law_1145 (by decide) (fun c9 => ?_) (fun c9 => absurd c9 (by omega))
      refine lv_goto (tgt := 1514) hx hb dL_law_1160 (by decide) ?_
      refine W.widen (k := C0 + 300) (n := S0 + 2100) (by omega) (by omega) ?_
      exact k σ ad _ _ _ _ ⟨hI, hy, hC3, ⟨_, _, hW⟩, hA3, hlo, by have := hF2.1; omega, hlow2⟩ ls (lv_sub hl [2, 3, 4, 5, 6] rfl)
set_option maxHeartbeats 4000000 in
set_option maxRecDepth 100000 in
theorem lawc_rhyme {p : Program} {l : Launch} {e : Env} {s : State} {m : MethodId} {args : Array Value} {below : List Frame} {meth : Method} {c : Code} {H : Heap} {locs : List Loc} {Q : State → Prop} {Γ : GG} {cJ : ClassId} {bs sb L i C0 S0 : Nat} {xs : Nat → Int32} {σ : St} {ad : Nat → Nat} {th : Int32} {v0 : Int64}
    (hfl : l.stackTraces = false) (S : CallFix p m c cL_law 9 s args wsL_law RL) (hK : xK Γ s) (hT : xT bs s) (hE0 : xE s) (hJ : xJ cJ s) (hX : va_X sb L xs s s.heap) (hsb : sb < s.heap.size) (hbs : s.heap.size = bs) (hL : L ≤ 2560) (hi : i + 5 ≤ L) (hC0 : C0 + 300 ≤ 601024) (hS0 : S0 + 2100 ≤ 7293034) (hLI : LI Γ cJ bs s σ ad th v0 H locs)
    (k : ∀ (σ' : St) (ad' : Nat → Nat) (th' : Int32) (v' : Int64) (H' : Heap) (locs' : List Loc), LI Γ cJ bs s σ' ad' th' v' H' locs' → ∀ ls : Array Slot, lv_has ls 9 [(0, .ref sb), (1, .ref bs), (2, .ref (bs + 2)), (3, .ref (bs + 13)), (4, .int (nI i))] → W p l e room_1 s m args below meth c H' locs' (C0 + 300) (S0 + 2100) Q (F0 m 1514 ls []))
    (ls : Array Slot) (hl : lv_has ls 9 [(0, .ref sb), (1, .ref bs), (2, .ref (bs + 2)), (3, .ref (bs + 13)), (4, .int (nI i))]) : W p l e room_1 s m args below meth c H locs C0 S0 Q (F0 m 1163 ls []) := by
  obtain ⟨hx, hb, hml, hown, hts⟩ := id S
  obtain ⟨hI, hy, hC, hM, hA, hlo, hsz, hlow⟩ := hLI
  have hS9 := LI.S hbs hlo hsz hlow
  refine lv_aload_n hx hb dL_law_1163 rfl (lv_at hl 1 rfl) ?_
  refine lv_aload_n hx hb dL_law_1164 rfl (lv_at hl 0 rfl) ?_
  refine lv_iload hx hb dL_law_1165 (lv_at hl 4 rfl) ?_
  refine lv_iconst (v := nI 1) hx hb dL_law_1167 (by decide +kernel) ?_
  refine x_add hx hb dL_law_1168 ?_
  refine l_sld hx hb hX hsb (by omega) hS9 (by omega) hL dL_law_1169 ?_
  refine lv_aload_n hx hb dL_law_1170 rfl (lv_at hl 0 rfl) ?_
  refine lv_iload hx hb dL_law_1171 (lv_at hl 4 rfl) ?_
  refine lv_iconst (v := nI 2) hx hb dL_law_1173 (by decide +kernel) ?_
  refine x_add hx hb dL_law_1174 ?_
  refine l_sld hx hb hX hsb (by omega) hS9 (by omega) hL dL_law_1175 ?_
  refine lv_aload_n hx hb dL_law_1176 rfl (lv_at hl 0 rfl) ?_
  refine lv_iload hx hb dL_law_1177 (lv_at hl 4 rfl) ?_
  refine lv_iconst (v := nI 3) hx hb dL_law_1179 (by decide +kernel) ?_
  refine x_add hx hb dL_law_1180 ?_
  refine l_sld hx hb hX hsb (by omega) hS9 (by omega) hL dL_law_1181 ?_
  refine lv_aload_n hx hb dL_law_1182 rfl (lv_at hl 3 rfl) ?_
  refine l_S (rest := []) S hK hT hE0 hJ hlow (c_L_rhyme l hfl Γ cJ bs bs (bs + 13) (bs + 14) σ ad hI (xs (i + 1)) (xs (i + 2)) (xs (i + 3)) hy (by omega) (by omega) (Nat.le_refl _) v0) (vx_cwSW 5 hts gL_law_L_rhyme rfl rfl rfl (by decide +kernel) ⟨Nat.le_of_ble_eq_true rfl, Nat.le_of_ble_eq_true rfl⟩) ⟨hC, hsz, hA⟩ rfl hl.1 rfl (Nat.le_of_ble_eq_true rfl) dL_law_1183 ⟨by show _ ≤ 601024; omega, by show _ ≤ 7293034; omega⟩ hlo (fun v H1 lc1 hp hlo => ?_)
  obtain ⟨hp, hz1, ho1⟩ := hp
  have hM1 : MX Γ (bs + 2) th σ H1 := hM.kept (fun q q1 q2 => ho1 q (by omega) (by omega) (by omega) (by omega) (by omega))
  have hlow1 : ∀ q : Nat, q < bs → H1[q]? = s.heap[q]? := fun q q1 => (ho1 q (by omega) (by omega) (by omega) (by omega) (by omega)).trans (hlow q q1)
  have hS1 := LI.S hbs hlo (show bs + 14 ≤ H1.size by omega) hlow1
  rcases hp with ⟨hcd, rfl, ⟨ad2, hC2, hy2⟩, hA2⟩ | ⟨hcd, rfl, hC2, hA2⟩
  · skip
    refine W.eq (g2 := F0 m 1186 ls [.int (nI 0)]) rfl ?_
    refine lv_istore (lv' := [(5, .int (nI 0)), (0, .ref sb), (1, .ref bs), (2, .ref (bs + 2)), (3, .ref (bs + 13)), (4, .int (nI i))]) hx hb dL_law_1186 hl (by decide) rfl (fun ls hl => ?_)
    refine lv_aload_n hx hb dL_law_1188 rfl (lv_at hl 3 rfl) ?_
    refine lv_aload_n hx hb dL_law_1189 rfl (lv_at hl 1 rfl) ?_
    refine lv_iload hx hb dL_law_1190 (lv_at hl 5 rfl) ?_
    refine lv_iconst (v := nI 1) hx hb dL_law_1192 (by decide +kernel) ?_
    refine x_add hx hb dL_law_1193 ?_
    refine l_sld hx hb hX hsb (by omega) hS1 (by omega) hL dL_law_1194 ?_
    refine lv_aload_n hx hb dL_law_1195 rfl (lv_at hl 1 rfl) ?_
    refine lv_iload hx hb dL_law_1196 (lv_at hl 5 rfl) ?_
    refine lv_iconst (v := nI 2) hx hb dL_law_1198 (by decide +kernel) ?_
    refine x_add hx hb dL_law_1199 ?_
    refine l_sld hx hb hX hsb (by omega) hS1 (by omega) hL dL_law_1200 ?_
    refine lv_aload_n hx hb dL_law_1201 rfl (lv_at hl 1 rfl) ?_
    refine lv_iload hx hb dL_law_1202 (lv_at hl 5 rfl) ?_
    refine lv_iconst (v := nI 3) hx hb dL_law_1204 (by decide +kernel) ?_
    refine x_add hx hb dL_law_1205 ?_
    refine l_sld hx hb hX hsb (by omega) hS1 (by omega) hL dL_law_1206 ?_
    obtain ⟨g1, g2, hW1⟩ := hM1
    refine m_V (rest := []) S hK (c_X2_rhyme l Γ bs (bs + 2) th σ hI (by omega) (xs (i + 1)) (xs (i + 2)) (xs (i + 3))) (cwV 3 hts gL_law_X2_rhyme rfl rfl rfl (by decide +kernel) ⟨Nat.le_of_ble_eq_true rfl, Nat.le_of_ble_eq_true rfl⟩) (Ob.recv hK hW1.1 rfl) ⟨g1, g2, hW1⟩ rfl hl.1 rfl (Nat.le_of_ble_eq_true rfl) dL_law_1207 ⟨by show _ ≤ 601024; omega, by show _ ≤ 7293034; omega⟩ hlo (fun v H2 lc2 hp2 hlo => ?_)
    obtain ⟨hp2, hF2⟩ := hp2
    rcases hp2 with ⟨hcd2, rfl, g3, g4, hW⟩ | ⟨hcd2, rfl, g3, g4, hW⟩
    · skip
      have hI2 : Iv σ := hI
      have hC3 := hC2.fr hy2 hF2 (by omega) (by omega)
      have hA3 := hA2.kept (hF2.2 _ hA2.lt (Or.inr (by omega)))
      have hlow2 : ∀ q : Nat, q < bs → H2[q]? = s.heap[q]? := fun q q1 => (hF2.2 q (by omega) (Or.inl (by omega))).trans (hlow1 q q1)
      refine W.eq (g2 := F0 m 1210 ls [.int (nI (rhy σ ((xs (i + 1)).toInt.toNat) (qu σ ((xs (i + 1)).toInt.toNat)) ((xs (i + 2)).toInt.toNat) (xs (i + 3)).toInt.toNat))]) rfl ?_
      refine lv_istore (lv' := [(6, .int (nI (rhy σ ((xs (i + 1)).toInt.toNat) (qu σ ((xs (i + 1)).toInt.toNat)) ((xs (i + 2)).toInt.toNat) (xs (i + 3)).toInt.toNat))), (5, .int (nI 0)), (0, .ref sb), (1, .ref bs), (2, .ref (bs + 2)), (3, .ref (bs + 13)), (4, .int (nI i))]) hx hb dL_law_1210 hl (by decide) rfl (fun ls hl => ?_)
      refine lv_aload_n hx hb dL_law_1212 rfl (lv_at hl 4 rfl) ?_
      refine ro_V (rest := []) S hK (c_X2_thrown l Γ (bs + 2) (nI 0) _ g3 g4 hI2) (cwV 0 hts gL_law_X2_thrown rfl rfl rfl (by decide +kernel) ⟨Nat.le_of_ble_eq_true rfl, Nat.le_of_ble_eq_true rfl⟩) (Ob.recv hK hW.1 rfl) hW rfl hl.1 rfl (Nat.le_of_ble_eq_true rfl) dL_law_1213 ⟨by show _ ≤ 601024; omega, by show _ ≤ 7293034; omega⟩ ?_
      refine W.eq (g2 := F0 m 1216 ls [.int (nI 0)]) rfl ?_
      refine lv_iload hx hb dL_law_1216 (lv_at hl 1 rfl) ?_
      refine x_iceq hx hb (by omega) (by omega) (tgt := 1223) dL_law_1218 (by decide) (fun c_1 => ?_) (fun c_1 => absurd c_1 (by decide))
      refine lv_iload hx hb dL_law_1223 (lv_at hl 1 rfl) ?_
      refine x_ifne hx hb (by omega) (tgt := 1240) dL_law_1225 (by decide) (fun c_2 => absurd c_2 (by decide)) (fun c_2 => ?_)
      refine lv_aload_n hx hb dL_law_1228 rfl (lv_at hl 5 rfl) ?_
      refine lv_iconst (v := nI 0) hx hb dL_law_1229 (by decide +kernel) ?_
      refine x_lald hx hb hJ hA3 dL_law_1230 ?_
      refine lv_iload hx hb dL_law_1231 (lv_at hl 0 rfl) ?_
      refine lv_i2l hx hb dL_law_1233 rfl ?_
      refine x_lcmp (v := nI 0) hx hb dL_law_1234 (lcmp_eq _) ?_
      refine x_ifeq hx hb (by omega) (tgt := 1240) dL_law_1235 (by decide) (fun c_3 => ?_) (fun c_3 => absurd c_3 (by decide))
      refine lv_goto (tgt := 1514) hx hb dL_law_1240 (by decide) ?_
      refine W.widen (k := C0 + 300) (n := S0 + 2100) (by omega) (by omega) ?_
      exact k σ ad2 _ _ _ _ ⟨hI2, hy2, hC3, ⟨_, _, hW⟩, hA3, hlo, by have := hF2.1; omega, hlow2⟩ ls (lv_sub hl [2, 3, 4, 5, 6] rfl)
    · skip
      exact absurd hcd2 (by omega)
  · skip
    refine W.eq (g2 := F0 m 1186 ls [.int (nI (cd2 (inb (xs (i + 1)) (qn σ) ∧ inb (xs (i + 2)) (qn σ)) (inb (xs (i + 3)) 3)))]) rfl ?_
    refine lv_istore (lv' := [(5, .int (nI (cd2 (inb (xs (i + 1)) (qn σ) ∧ inb (xs (i + 2)) (qn σ)) (inb (xs (i + 3)) 3)))), (0, .ref sb), (1, .ref bs), (2, .ref (bs + 2)), (3, .ref (bs + 13)), (4, .int (nI i))]) hx hb dL_law_1186 hl (by decide) rfl (fun ls hl => ?_)
    refine lv_aload_n hx hb dL_law_1188 rfl (lv_at hl 3 rfl) ?_
    refine lv_aload_n hx hb dL_law_1189 rfl (lv_at hl 1 rfl) ?_
    refine lv_iload hx hb dL_law_1190 (lv_at hl 5 rfl) ?_
    refine lv_iconst (v := nI 1) hx hb dL_law_1192 (by decide +kernel) ?_
    refine x_add hx hb dL_law_1193 ?_
    refine l_sld hx hb hX hsb (by omega) hS1 (by omega) hL dL_law_1194 ?_
    refine lv_aload_n hx hb dL_law_1195 rfl (lv_at hl 1 rfl) ?_
    refine lv_iload hx hb dL_law_1196 (lv_at hl 5 rfl) ?_
    refine lv_iconst (v := nI 2) hx hb dL_law_1198 (by decide +kernel) ?_
    refine x_add hx hb dL_law_1199 ?_
    refine l_sld hx hb hX hsb (by omega) hS1 (by omega) hL dL_law_1200 ?_
    refine lv_aload_n hx hb dL_law_1201 rfl (lv_at hl 1 rfl) ?_
    refine lv_iload hx hb dL_law_1202 (lv_at hl 5 rfl) ?_
    refine lv_iconst (v := nI 3) hx hb dL_law_1204 (by decide +kernel) ?_
    refine x_add hx hb dL_law_1205 ?_
    refine l_sld hx hb hX hsb (by omega) hS1 (by omega) hL dL_law_1206 ?_
    obtain ⟨g1, g2, hW1⟩ := hM1
    refine m_V (rest := []) S hK (c_X2_rhyme l Γ bs (bs + 2) th σ hI (by omega) (xs (i + 1)) (xs (i + 2)) (xs (i + 3))) (cwV 3 hts gL_law_X2_rhyme rfl rfl rfl (by decide +kernel) ⟨Nat.le_of_ble_eq_true rfl, Nat.le_of_ble_eq_true rfl⟩) (Ob.recv hK hW1.1 rfl) ⟨g1, g2, hW1⟩ rfl hl.1 rfl (Nat.le_of_ble_eq_true rfl) dL_law_1207 ⟨by show _ ≤ 601024; omega, by show _ ≤ 7293034; omega⟩ hlo (fun v H2 lc2 hp2 hlo => ?_)
    obtain ⟨hp2, hF2⟩ := hp2
    rcases hp2 with ⟨hcd2, rfl, g3, g4, hW⟩ | ⟨hcd2, rfl, g3, g4, hW⟩
    · skip
      exact absurd hcd2 (by omega)
    · skip
      have hI2 := hI
      have hC3 := hC2.fr hy hF2 (by omega) (by omega)
      have hA3 := hA2.kept (hF2.2 _ hA2.lt (Or.inr (by omega)))
      have hlow2 : ∀ q : Nat, q < bs → H2[q]? = s.heap[q]? := fun q q1 => (hF2.2 q (by omega) (Or.inl (by omega))).trans (hlow1 q q1)
      refine W.eq (g2 := F0 m 1210 ls [.int (nI 0)]) rfl ?_
      refine lv_istore (lv' := [(6, .int (nI 0)), (5, .int (nI (cd2 (inb (xs (i + 1)) (qn σ) ∧ inb (xs (i + 2)) (qn σ)) (inb (xs (i + 3)) 3)))), (0, .ref sb), (1, .ref bs), (2, .ref (bs + 2)), (3, .ref (bs + 13)), (4, .int (nI i))]) hx hb dL_law_1210 hl (by decide) rfl (fun ls hl => ?_)
      refine lv_aload_n hx hb dL_law_1212 rfl (lv_at hl 4 rfl) ?_
      refine ro_V (rest := []) S hK (c_X2_thrown l Γ (bs + 2) (nI (cd2 (inb (xs (i + 1)) (qn σ) ∧ inb (xs (i + 2)) (qn σ)) (inb (xs (i + 3)) 3))) _ g3 g4 hI2) (cwV 0 hts gL_law_X2_thrown rfl rfl rfl (by decide +kernel) ⟨Nat.le_of_ble_eq_true rfl, Nat.le_of_ble_eq_true rfl⟩) (Ob.recv hK hW.1 rfl) hW rfl hl.1 rfl (Nat.le_of_ble_eq_true rfl) dL_law_1213 ⟨by show _ ≤ 601024; omega, by show _ ≤ 7293034; omega⟩ ?_
      refine W.eq (g2 := F0 m 1216 ls [.int (nI (cd2 (inb (xs (i + 1)) (qn σ) ∧ inb (xs (i + 2)) (qn σ)) (inb (xs (i + 3)) 3)))]) rfl ?_
      refine lv_iload hx hb dL_law_1216 (lv_at hl 1 rfl) ?_
      refine lv_icmp_eq (tgt := 1223) hx hb dL_law_1218 (by decide) (fun c9 => ?_) (fun c9 => absurd rfl c9)
      refine lv_iload hx hb dL_law_1223 (lv_at hl 1 rfl) ?_
      refine x_ifne hx hb (Nat.lt_of_le_of_lt (cd2_le _ _) (by decide)) (tgt := 1240) dL_law_1225 (by decide) (fun c9 => ?_) (fun c9 => absurd c9 (by omega))
      refine lv_goto (tgt := 1514) hx hb dL_law_1240 (by decide) ?_
      refine W.widen (k := C0 + 300) (n := S0 + 2100) (by omega) (by omega) ?_
      exact k σ ad _ _ _ _ ⟨hI, hy, hC3, ⟨_, _, hW⟩, hA3, hlo, by have := hF2.1; omega, hlow2⟩ ls (lv_sub hl [2, 3, 4, 5, 6] rfl)
set_option maxHeartbeats 4000000 in
set_option maxRecDepth 100000 in
theorem lawc_best {p : Program} {l : Launch} {e : Env} {s : State} {m : MethodId} {args : Array Value} {below : List Frame} {meth : Method} {c : Code} {H : Heap} {locs : List Loc} {Q : State → Prop} {Γ : GG} {cJ : ClassId} {bs sb L i C0 S0 : Nat} {xs : Nat → Int32} {σ : St} {ad : Nat → Nat} {th : Int32} {v0 : Int64}
    (hfl : l.stackTraces = false) (S : CallFix p m c cL_law 9 s args wsL_law RL) (hK : xK Γ s) (hT : xT bs s) (hE0 : xE s) (hJ : xJ cJ s) (hX : va_X sb L xs s s.heap) (hsb : sb < s.heap.size) (hbs : s.heap.size = bs) (hL : L ≤ 2560) (hi : i + 5 ≤ L) (hC0 : C0 + 300 ≤ 601024) (hS0 : S0 + 2100 ≤ 7293034) (hLI : LI Γ cJ bs s σ ad th v0 H locs)
    (k : ∀ (σ' : St) (ad' : Nat → Nat) (th' : Int32) (v' : Int64) (H' : Heap) (locs' : List Loc), LI Γ cJ bs s σ' ad' th' v' H' locs' → ∀ ls : Array Slot, lv_has ls 9 [(0, .ref sb), (1, .ref bs), (2, .ref (bs + 2)), (3, .ref (bs + 13)), (4, .int (nI i))] → W p l e room_1 s m args below meth c H' locs' (C0 + 300) (S0 + 2100) Q (F0 m 1514 ls []))
    (ls : Array Slot) (hl : lv_has ls 9 [(0, .ref sb), (1, .ref bs), (2, .ref (bs + 2)), (3, .ref (bs + 13)), (4, .int (nI i))]) : W p l e room_1 s m args below meth c H locs C0 S0 Q (F0 m 1243 ls []) := by
  obtain ⟨hx, hb, hml, hown, hts⟩ := id S
  obtain ⟨hI, hy, hC, hM, hA, hlo, hsz, hlow⟩ := hLI
  have hS9 := LI.S hbs hlo hsz hlow
  refine lv_aload_n hx hb dL_law_1243 rfl (lv_at hl 1 rfl) ?_
  refine lv_aload_n hx hb dL_law_1244 rfl (lv_at hl 0 rfl) ?_
  refine lv_iload hx hb dL_law_1245 (lv_at hl 4 rfl) ?_
  refine lv_iconst (v := nI 1) hx hb dL_law_1247 (by decide +kernel) ?_
  refine x_add hx hb dL_law_1248 ?_
  refine l_sld hx hb hX hsb (by omega) hS9 (by omega) hL dL_law_1249 ?_
  refine lv_aload_n hx hb dL_law_1250 rfl (lv_at hl 0 rfl) ?_
  refine lv_iload hx hb dL_law_1251 (lv_at hl 4 rfl) ?_
  refine lv_iconst (v := nI 2) hx hb dL_law_1253 (by decide +kernel) ?_
  refine x_add hx hb dL_law_1254 ?_
  refine l_sld hx hb hX hsb (by omega) hS9 (by omega) hL dL_law_1255 ?_
  refine lv_aload_n hx hb dL_law_1256 rfl (lv_at hl 0 rfl) ?_
  refine lv_iload hx hb dL_law_1257 (lv_at hl 4 rfl) ?_
  refine lv_iconst (v := nI 3) hx hb dL_law_1259 (by decide +kernel) ?_
  refine x_add hx hb dL_law_1260 ?_
  refine l_sld hx hb hX hsb (by omega) hS9 (by omega) hL dL_law_1261 ?_
  refine lv_aload_n hx hb dL_law_1262 rfl (lv_at hl 3 rfl) ?_
  refine l_S (rest := []) S hK hT hE0 hJ hlow (c_L_best l hfl Γ cJ bs bs (bs + 13) (bs + 14) σ ad hI (xs (i + 1)) (xs (i + 2)) (xs (i + 3)) hy (by omega) (by omega) (Nat.le_refl _) v0) (vx_cwSW 5 hts gL_law_L_best rfl rfl rfl (by decide +kernel) ⟨Nat.le_of_ble_eq_true rfl, Nat.le_of_ble_eq_true rfl⟩) ⟨hC, hsz, hA⟩ rfl hl.1 rfl (Nat.le_of_ble_eq_true rfl) dL_law_1263 ⟨by show _ ≤ 601024; omega, by show _ ≤ 7293034; omega⟩ hlo (fun v H1 lc1 hp hlo => ?_)
  obtain ⟨hp, hz1, ho1⟩ := hp
  have hM1 : MX Γ (bs + 2) th σ H1 := hM.kept (fun q q1 q2 => ho1 q (by omega) (by omega) (by omega) (by omega) (by omega))
  have hlow1 : ∀ q : Nat, q < bs → H1[q]? = s.heap[q]? := fun q q1 => (ho1 q (by omega) (by omega) (by omega) (by omega) (by omega)).trans (hlow q q1)
  have hS1 := LI.S hbs hlo (show bs + 14 ≤ H1.size by omega) hlow1
  rcases hp with ⟨hcd, rfl, ⟨ad2, hC2, hy2⟩, hA2⟩ | ⟨hcd, rfl, hC2, hA2⟩
  · skip
    refine W.eq (g2 := F0 m 1266 ls [.int (nI 0)]) rfl ?_
    refine lv_istore (lv' := [(5, .int (nI 0)), (0, .ref sb), (1, .ref bs), (2, .ref (bs + 2)), (3, .ref (bs + 13)), (4, .int (nI i))]) hx hb dL_law_1266 hl (by decide) rfl (fun ls hl => ?_)
    refine lv_aload_n hx hb dL_law_1268 rfl (lv_at hl 3 rfl) ?_
    refine lv_aload_n hx hb dL_law_1269 rfl (lv_at hl 1 rfl) ?_
    refine lv_iload hx hb dL_law_1270 (lv_at hl 5 rfl) ?_
    refine lv_iconst (v := nI 1) hx hb dL_law_1272 (by decide +kernel) ?_
    refine x_add hx hb dL_law_1273 ?_
    refine l_sld hx hb hX hsb (by omega) hS1 (by omega) hL dL_law_1274 ?_
    refine lv_aload_n hx hb dL_law_1275 rfl (lv_at hl 1 rfl) ?_
    refine lv_iload hx hb dL_law_1276 (lv_at hl 5 rfl) ?_
    refine lv_iconst (v := nI 2) hx hb dL_law_1278 (by decide +kernel) ?_
    refine x_add hx hb dL_law_1279 ?_
    refine l_sld hx hb hX hsb (by omega) hS1 (by omega) hL dL_law_1280 ?_
    refine lv_aload_n hx hb dL_law_1281 rfl (lv_at hl 1 rfl) ?_
    refine lv_iload hx hb dL_law_1282 (lv_at hl 5 rfl) ?_
    refine lv_iconst (v := nI 3) hx hb dL_law_1284 (by decide +kernel) ?_
    refine x_add hx hb dL_law_1285 ?_
    refine l_sld hx hb hX hsb (by omega) hS1 (by omega) hL dL_law_1286 ?_
    obtain ⟨g1, g2, hW1⟩ := hM1
    refine m_V (rest := []) S hK (c_X2_best l Γ bs (bs + 2) th σ hI (by omega) (xs (i + 1)) (xs (i + 2)) (xs (i + 3))) (cwV 3 hts gL_law_X2_best rfl rfl rfl (by decide +kernel) ⟨Nat.le_of_ble_eq_true rfl, Nat.le_of_ble_eq_true rfl⟩) (Ob.recv hK hW1.1 rfl) ⟨g1, g2, hW1⟩ rfl hl.1 rfl (Nat.le_of_ble_eq_true rfl) dL_law_1287 ⟨by show _ ≤ 601024; omega, by show _ ≤ 7293034; omega⟩ hlo (fun v H2 lc2 hp2 hlo => ?_)
    obtain ⟨hp2, hF2⟩ := hp2
    rcases hp2 with ⟨hcd2, rfl, g3, g4, hW⟩ | ⟨hcd2, rfl, g3, g4, hW⟩
    · skip
      have hI2 : Iv σ := hI
      have hC3 := hC2.fr hy2 hF2 (by omega) (by omega)
      have hA3 := hA2.kept (hF2.2 _ hA2.lt (Or.inr (by omega)))
      have hlow2 : ∀ q : Nat, q < bs → H2[q]? = s.heap[q]? := fun q q1 => (hF2.2 q (by omega) (Or.inl (by omega))).trans (hlow1 q q1)
      refine W.eq (g2 := F0 m 1290 ls [.int (nI (rbest σ ((xs (i + 1)).toInt.toNat) ((xs (i + 2)).toInt.toNat) (xs (i + 3)).toInt.toNat))]) rfl ?_
      refine lv_istore (lv' := [(6, .int (nI (rbest σ ((xs (i + 1)).toInt.toNat) ((xs (i + 2)).toInt.toNat) (xs (i + 3)).toInt.toNat))), (5, .int (nI 0)), (0, .ref sb), (1, .ref bs), (2, .ref (bs + 2)), (3, .ref (bs + 13)), (4, .int (nI i))]) hx hb dL_law_1290 hl (by decide) rfl (fun ls hl => ?_)
      refine lv_aload_n hx hb dL_law_1292 rfl (lv_at hl 4 rfl) ?_
      refine ro_V (rest := []) S hK (c_X2_thrown l Γ (bs + 2) (nI 0) _ g3 g4 hI2) (cwV 0 hts gL_law_X2_thrown rfl rfl rfl (by decide +kernel) ⟨Nat.le_of_ble_eq_true rfl, Nat.le_of_ble_eq_true rfl⟩) (Ob.recv hK hW.1 rfl) hW rfl hl.1 rfl (Nat.le_of_ble_eq_true rfl) dL_law_1293 ⟨by show _ ≤ 601024; omega, by show _ ≤ 7293034; omega⟩ ?_
      refine W.eq (g2 := F0 m 1296 ls [.int (nI 0)]) rfl ?_
      refine lv_iload hx hb dL_law_1296 (lv_at hl 1 rfl) ?_
      refine x_iceq hx hb (by omega) (by omega) (tgt := 1303) dL_law_1298 (by decide) (fun c_1 => ?_) (fun c_1 => absurd c_1 (by decide))
      refine lv_iload hx hb dL_law_1303 (lv_at hl 1 rfl) ?_
      refine x_ifne hx hb (by omega) (tgt := 1320) dL_law_1305 (by decide) (fun c_2 => absurd c_2 (by decide)) (fun c_2 => ?_)
      refine lv_aload_n hx hb dL_law_1308 rfl (lv_at hl 5 rfl) ?_
      refine lv_iconst (v := nI 0) hx hb dL_law_1309 (by decide +kernel) ?_
      refine x_lald hx hb hJ hA3 dL_law_1310 ?_
      refine lv_iload hx hb dL_law_1311 (lv_at hl 0 rfl) ?_
      refine lv_i2l hx hb dL_law_1313 rfl ?_
      refine x_lcmp (v := nI 0) hx hb dL_law_1314 (lcmp_eq _) ?_
      refine x_ifeq hx hb (by omega) (tgt := 1320) dL_law_1315 (by decide) (fun c_3 => ?_) (fun c_3 => absurd c_3 (by decide))
      refine lv_goto (tgt := 1514) hx hb dL_law_1320 (by decide) ?_
      refine W.widen (k := C0 + 300) (n := S0 + 2100) (by omega) (by omega) ?_
      exact k σ ad2 _ _ _ _ ⟨hI2, hy2, hC3, ⟨_, _, hW⟩, hA3, hlo, by have := hF2.1; omega, hlow2⟩ ls (lv_sub hl [2, 3, 4, 5, 6] rfl)
    · skip
      exact absurd hcd2 (by omega)
  · skip
    refine W.eq (g2 := F0 m 1266 ls [.int (nI (cd2 (inb (xs (i + 1)) (qn σ) ∧ inb (xs (i + 2)) (qn σ)) (inb (xs (i + 3)) 3)))]) rfl ?_
    refine lv_istore (lv' := [(5, .int (nI (cd2 (inb (xs (i + 1)) (qn σ) ∧ inb (xs (i + 2)) (qn σ)) (inb (xs (i + 3)) 3)))), (0, .ref sb), (1, .ref bs), (2, .ref (bs + 2)), (3, .ref (bs + 13)), (4, .int (nI i))]) hx hb dL_law_1266 hl (by decide) rfl (fun ls hl => ?_)
    refine lv_aload_n hx hb dL_law_1268 rfl (lv_at hl 3 rfl) ?_
    refine lv_aload_n hx hb dL_law_1269 rfl (lv_at hl 1 rfl) ?_
    refine lv_iload hx hb dL_law_1270 (lv_at hl 5 rfl) ?_
    refine lv_iconst (v := nI 1) hx hb dL_law_1272 (by decide +kernel) ?_
    refine x_add hx hb dL_law_1273 ?_
    refine l_sld hx hb hX hsb (by omega) hS1 (by omega) hL dL_law_1274 ?_
    refine lv_aload_n hx hb dL_law_1275 rfl (lv_at hl 1 rfl) ?_
    refine lv_iload hx hb dL_law_1276 (lv_at hl 5 rfl) ?_
    refine lv_iconst (v := nI 2) hx hb dL_law_1278 (by decide +kernel) ?_
    refine x_add hx hb dL_law_1279 ?_
    refine l_sld hx hb hX hsb (by omega) hS1 (by omega) hL dL_law_1280 ?_
    refine lv_aload_n hx hb dL_law_1281 rfl (lv_at hl 1 rfl) ?_
    refine lv_iload hx hb dL_law_1282 (lv_at hl 5 rfl) ?_
    refine lv_iconst (v := nI 3) hx hb dL_law_1284 (by decide +kernel) ?_
    refine x_add hx hb dL_law_1285 ?_
    refine l_sld hx hb hX hsb (by omega) hS1 (by omega) hL dL_law_1286 ?_
    obtain ⟨g1, g2, hW1⟩ := hM1
    refine m_V (rest := []) S hK (c_X2_best l Γ bs (bs + 2) th σ hI (by omega) (xs (i + 1)) (xs (i + 2)) (xs (i + 3))) (cwV 3 hts gL_law_X2_best rfl rfl rfl (by decide +kernel) ⟨Nat.le_of_ble_eq_true rfl, Nat.le_of_ble_eq_true rfl⟩) (Ob.recv hK hW1.1 rfl) ⟨g1, g2, hW1⟩ rfl hl.1 rfl (Nat.le_of_ble_eq_true rfl) dL_law_1287 ⟨by show _ ≤ 601024; omega, by show _ ≤ 7293034; omega⟩ hlo (fun v H2 lc2 hp2 hlo => ?_)
    obtain ⟨hp2, hF2⟩ := hp2
    rcases hp2 with ⟨hcd2, rfl, g3, g4, hW⟩ | ⟨hcd2, rfl, g3, g4, hW⟩
    · skip
      exact absurd hcd2 (by omega)
    · skip
      have hI2 := hI
      have hC3 := hC2.fr hy hF2 (by omega) (by omega)
      have hA3 := hA2.kept (hF2.2 _ hA2.lt (Or.inr (by omega)))
      have hlow2 : ∀ q : Nat, q < bs → H2[q]? = s.heap[q]? := fun q q1 => (hF2.2 q (by omega) (Or.inl (by omega))).trans (hlow1 q q1)
      refine W.eq (g2 := F0 m 1290 ls [.int (nI 0)]) rfl ?_
      refine lv_istore (lv' := [(6, .int (nI 0)), (5, .int (nI (cd2 (inb (xs (i + 1)) (qn σ) ∧ inb (xs (i + 2)) (qn σ)) (inb (xs (i + 3)) 3)))), (0, .ref sb), (1, .ref bs), (2, .ref (bs + 2)), (3, .ref (bs + 13)), (4, .int (nI i))]) hx hb dL_law_1290 hl (by decide) rfl (fun ls hl => ?_)
      refine lv_aload_n hx hb dL_law_1292 rfl (lv_at hl 4 rfl) ?_
      refine ro_V (rest := []) S hK (c_X2_thrown l Γ (bs + 2) (nI (cd2 (inb (xs (i + 1)) (qn σ) ∧ inb (xs (i + 2)) (qn σ)) (inb (xs (i + 3)) 3))) _ g3 g4 hI2) (cwV 0 hts gL_law_X2_thrown rfl rfl rfl (by decide +kernel) ⟨Nat.le_of_ble_eq_true rfl, Nat.le_of_ble_eq_true rfl⟩) (Ob.recv hK hW.1 rfl) hW rfl hl.1 rfl (Nat.le_of_ble_eq_true rfl) dL_law_1293 ⟨by show _ ≤ 601024; omega, by show _ ≤ 7293034; omega⟩ ?_
      refine W.eq (g2 := F0 m 1296 ls [.int (nI (cd2 (inb (xs (i + 1)) (qn σ) ∧ inb (xs (i + 2)) (qn σ)) (inb (xs (i + 3)) 3)))]) rfl ?_
      refine lv_iload hx hb dL_law_1296 (lv_at hl 1 rfl) ?_
      refine lv_icmp_eq (tgt := 1303) hx hb dL_law_1298 (by decide) (fun c9 => ?_) (fun c9 => absurd rfl c9)
      refine lv_iload hx hb dL_law_1303 (lv_at hl 1 rfl) ?_
      refine x_ifne hx hb (Nat.lt_of_le_of_lt (cd2_le _ _) (by decide)) (tgt := 1320) dL_law_1305 (by decide) (fun c9 => ?_) (fun c9 => absurd c9 (by omega))
      refine lv_goto (tgt := 1514) hx hb dL_law_1320 (by decide) ?_
      refine W.widen (k := C0 + 300) (n := S0 + 2100) (by omega) (by omega) ?_
      exact k σ ad _ _ _ _ ⟨hI, hy, hC3, ⟨_, _, hW⟩, hA3, hlo, by have := hF2.1; omega, hlow2⟩ ls (lv_sub hl [2, 3, 4, 5, 6] rfl)
set_option maxHeartbeats 4000000 in
set_option maxRecDepth 100000 in
theorem lawc_pieces {p : Program} {l : Launch} {e : Env} {s : State} {m : MethodId} {args : Array Value} {below : List Frame} {meth : Method} {c : Code} {H : Heap} {locs : List Loc} {Q : State → Prop} {Γ : GG} {cJ : ClassId} {bs sb L i C0 S0 : Nat} {xs : Nat → Int32} {σ : St} {ad : Nat → Nat} {th : Int32} {v0 : Int64}
    (hfl : l.stackTraces = false) (S : CallFix p m c cL_law 9 s args wsL_law RL) (hK : xK Γ s) (hT : xT bs s) (hE0 : xE s) (hJ : xJ cJ s) (hX : va_X sb L xs s s.heap) (hsb : sb < s.heap.size) (hbs : s.heap.size = bs) (hL : L ≤ 2560) (hi : i + 5 ≤ L) (hC0 : C0 + 300 ≤ 601024) (hS0 : S0 + 2100 ≤ 7293034) (hLI : LI Γ cJ bs s σ ad th v0 H locs)
    (k : ∀ (σ' : St) (ad' : Nat → Nat) (th' : Int32) (v' : Int64) (H' : Heap) (locs' : List Loc), LI Γ cJ bs s σ' ad' th' v' H' locs' → ∀ ls : Array Slot, lv_has ls 9 [(0, .ref sb), (1, .ref bs), (2, .ref (bs + 2)), (3, .ref (bs + 13)), (4, .int (nI i))] → W p l e room_1 s m args below meth c H' locs' (C0 + 300) (S0 + 2100) Q (F0 m 1514 ls []))
    (ls : Array Slot) (hl : lv_has ls 9 [(0, .ref sb), (1, .ref bs), (2, .ref (bs + 2)), (3, .ref (bs + 13)), (4, .int (nI i))]) : W p l e room_1 s m args below meth c H locs C0 S0 Q (F0 m 1323 ls []) := by
  obtain ⟨hx, hb, hml, hown, hts⟩ := id S
  obtain ⟨hI, hy, hC, hM, hA, hlo, hsz, hlow⟩ := hLI
  have hS9 := LI.S hbs hlo hsz hlow
  refine lv_aload_n hx hb dL_law_1323 rfl (lv_at hl 1 rfl) ?_
  refine lv_aload_n hx hb dL_law_1324 rfl (lv_at hl 0 rfl) ?_
  refine lv_iload hx hb dL_law_1325 (lv_at hl 4 rfl) ?_
  refine lv_iconst (v := nI 1) hx hb dL_law_1327 (by decide +kernel) ?_
  refine x_add hx hb dL_law_1328 ?_
  refine l_sld hx hb hX hsb (by omega) hS9 (by omega) hL dL_law_1329 ?_
  refine lv_aload_n hx hb dL_law_1330 rfl (lv_at hl 0 rfl) ?_
  refine lv_iload hx hb dL_law_1331 (lv_at hl 4 rfl) ?_
  refine lv_iconst (v := nI 2) hx hb dL_law_1333 (by decide +kernel) ?_
  refine x_add hx hb dL_law_1334 ?_
  refine l_sld hx hb hX hsb (by omega) hS9 (by omega) hL dL_law_1335 ?_
  refine lv_aload_n hx hb dL_law_1336 rfl (lv_at hl 3 rfl) ?_
  refine l_S (rest := []) S hK hT hE0 hJ hlow (c_L_pieces l hfl Γ cJ bs bs (bs + 13) (bs + 14) σ ad hI (xs (i + 1)) (xs (i + 2)) hy (by omega) (by omega) (Nat.le_refl _) v0) (vx_cwSW 4 hts gL_law_L_pieces rfl rfl rfl (by decide +kernel) ⟨Nat.le_of_ble_eq_true rfl, Nat.le_of_ble_eq_true rfl⟩) ⟨hC, hsz, hA⟩ rfl hl.1 rfl (Nat.le_of_ble_eq_true rfl) dL_law_1337 ⟨by show _ ≤ 601024; omega, by show _ ≤ 7293034; omega⟩ hlo (fun v H1 lc1 hp hlo => ?_)
  obtain ⟨hp, hz1, ho1⟩ := hp
  have hM1 : MX Γ (bs + 2) th σ H1 := hM.kept (fun q q1 q2 => ho1 q (by omega) (by omega) (by omega) (by omega) (by omega))
  have hlow1 : ∀ q : Nat, q < bs → H1[q]? = s.heap[q]? := fun q q1 => (ho1 q (by omega) (by omega) (by omega) (by omega) (by omega)).trans (hlow q q1)
  have hS1 := LI.S hbs hlo (show bs + 14 ≤ H1.size by omega) hlow1
  rcases hp with ⟨hcd, rfl, ⟨ad2, hC2, hy2⟩, hA2⟩ | ⟨hcd, rfl, hC2, hA2⟩
  · skip
    refine W.eq (g2 := F0 m 1340 ls [.int (nI 0)]) rfl ?_
    refine lv_istore (lv' := [(5, .int (nI 0)), (0, .ref sb), (1, .ref bs), (2, .ref (bs + 2)), (3, .ref (bs + 13)), (4, .int (nI i))]) hx hb dL_law_1340 hl (by decide) rfl (fun ls hl => ?_)
    refine lv_aload_n hx hb dL_law_1342 rfl (lv_at hl 3 rfl) ?_
    refine lv_aload_n hx hb dL_law_1343 rfl (lv_at hl 1 rfl) ?_
    refine lv_iload hx hb dL_law_1344 (lv_at hl 5 rfl) ?_
    refine lv_iconst (v := nI 1) hx hb dL_law_1346 (by decide +kernel) ?_
    refine x_add hx hb dL_law_1347 ?_
    refine l_sld hx hb hX hsb (by omega) hS1 (by omega) hL dL_law_1348 ?_
    refine lv_aload_n hx hb dL_law_1349 rfl (lv_at hl 1 rfl) ?_
    refine lv_iload hx hb dL_law_1350 (lv_at hl 5 rfl) ?_
    refine lv_iconst (v := nI 2) hx hb dL_law_1352 (by decide +kernel) ?_
    refine x_add hx hb dL_law_1353 ?_
    refine l_sld hx hb hX hsb (by omega) hS1 (by omega) hL dL_law_1354 ?_
    obtain ⟨g1, g2, hW1⟩ := hM1
    refine m_V (rest := []) S hK (c_X2_pieces l Γ bs (bs + 2) th σ hI (by omega) (xs (i + 1)) (xs (i + 2))) (cwV 2 hts gL_law_X2_pieces rfl rfl rfl (by decide +kernel) ⟨Nat.le_of_ble_eq_true rfl, Nat.le_of_ble_eq_true rfl⟩) (Ob.recv hK hW1.1 rfl) ⟨g1, g2, hW1⟩ rfl hl.1 rfl (Nat.le_of_ble_eq_true rfl) dL_law_1355 ⟨by show _ ≤ 601024; omega, by show _ ≤ 7293034; omega⟩ hlo (fun v H2 lc2 hp2 hlo => ?_)
    obtain ⟨hp2, hF2⟩ := hp2
    rcases hp2 with ⟨hcd2, rfl, g3, g4, hW⟩ | ⟨hcd2, rfl, g3, g4, hW⟩
    · skip
      have hI2 : Iv σ := hI
      have hC3 := hC2.fr hy2 hF2 (by omega) (by omega)
      have hA3 := hA2.kept (hF2.2 _ hA2.lt (Or.inr (by omega)))
      have hlow2 : ∀ q : Nat, q < bs → H2[q]? = s.heap[q]? := fun q q1 => (hF2.2 q (by omega) (Or.inl (by omega))).trans (hlow1 q q1)
      refine W.eq (g2 := F0 m 1358 ls [.int (nI (cW (stn (rk σ ((xs (i + 1)).toInt.toNat)) (ak σ ((xs (i + 1)).toInt.toNat))) (xs (i + 2)) (qp σ ((xs (i + 1)).toInt.toNat) - 1) + 1))]) rfl ?_
      refine lv_istore (lv' := [(6, .int (nI (cW (stn (rk σ ((xs (i + 1)).toInt.toNat)) (ak σ ((xs (i + 1)).toInt.toNat))) (xs (i + 2)) (qp σ ((xs (i + 1)).toInt.toNat) - 1) + 1))), (5, .int (nI 0)), (0, .ref sb), (1, .ref bs), (2, .ref (bs + 2)), (3, .ref (bs + 13)), (4, .int (nI i))]) hx hb dL_law_1358 hl (by decide) rfl (fun ls hl => ?_)
      refine lv_aload_n hx hb dL_law_1360 rfl (lv_at hl 4 rfl) ?_
      refine ro_V (rest := []) S hK (c_X2_thrown l Γ (bs + 2) (nI 0) _ g3 g4 hI2) (cwV 0 hts gL_law_X2_thrown rfl rfl rfl (by decide +kernel) ⟨Nat.le_of_ble_eq_true rfl, Nat.le_of_ble_eq_true rfl⟩) (Ob.recv hK hW.1 rfl) hW rfl hl.1 rfl (Nat.le_of_ble_eq_true rfl) dL_law_1361 ⟨by show _ ≤ 601024; omega, by show _ ≤ 7293034; omega⟩ ?_
      refine W.eq (g2 := F0 m 1364 ls [.int (nI 0)]) rfl ?_
      refine lv_iload hx hb dL_law_1364 (lv_at hl 1 rfl) ?_
      refine x_iceq hx hb (by omega) (by omega) (tgt := 1371) dL_law_1366 (by decide) (fun c_1 => ?_) (fun c_1 => absurd c_1 (by decide))
      refine lv_iload hx hb dL_law_1371 (lv_at hl 1 rfl) ?_
      refine x_ifne hx hb (by omega) (tgt := 1388) dL_law_1373 (by decide) (fun c_2 => absurd c_2 (by decide)) (fun c_2 => ?_)
      refine lv_aload_n hx hb dL_law_1376 rfl (lv_at hl 5 rfl) ?_
      refine lv_iconst (v := nI 0) hx hb dL_law_1377 (by decide +kernel) ?_
      refine x_lald hx hb hJ hA3 dL_law_1378 ?_
      refine lv_iload hx hb dL_law_1379 (lv_at hl 0 rfl) ?_
      refine lv_i2l hx hb dL_law_1381 rfl ?_
      refine x_lcmp (v := nI 0) hx hb dL_law_1382 (lcmp_eq _) ?_
      refine x_ifeq hx hb (by omega) (tgt := 1388) dL_law_1383 (by decide) (fun c_3 => ?_) (fun c_3 => absurd c_3 (by decide))
      refine lv_goto (tgt := 1514) hx hb dL_law_1388 (by decide) ?_
      refine W.widen (k := C0 + 300) (n := S0 + 2100) (by omega) (by omega) ?_
      exact k σ ad2 _ _ _ _ ⟨hI2, hy2, hC3, ⟨_, _, hW⟩, hA3, hlo, by have := hF2.1; omega, hlow2⟩ ls (lv_sub hl [2, 3, 4, 5, 6] rfl)
    · skip
      exact absurd hcd2 (by omega)
  · skip
    refine W.eq (g2 := F0 m 1340 ls [.int (nI (cd2 (inb (xs (i + 1)) (qn σ)) (inR (xs (i + 2)) (1 : Nat) (20 : Nat))))]) rfl ?_
    refine lv_istore (lv' := [(5, .int (nI (cd2 (inb (xs (i + 1)) (qn σ)) (inR (xs (i + 2)) (1 : Nat) (20 : Nat))))), (0, .ref sb), (1, .ref bs), (2, .ref (bs + 2)), (3, .ref (bs + 13)), (4, .int (nI i))]) hx hb dL_law_1340 hl (by decide) rfl (fun ls hl => ?_)
    refine lv_aload_n hx hb dL_law_1342 rfl (lv_at hl 3 rfl) ?_
    refine lv_aload_n hx hb dL_law_1343 rfl (lv_at hl 1 rfl) ?_
    refine lv_iload hx hb dL_law_1344 (lv_at hl 5 rfl) ?_
    refine lv_iconst (v := nI 1) hx hb dL_law_1346 (by decide +kernel) ?_
    refine x_add hx hb dL_law_1347 ?_
    refine l_sld hx hb hX hsb (by omega) hS1 (by omega) hL dL_law_1348 ?_
    refine lv_aload_n hx hb dL_law_1349 rfl (lv_at hl 1 rfl) ?_
    refine lv_iload hx hb dL_law_1350 (lv_at hl 5 rfl) ?_
    refine lv_iconst (v := nI 2) hx hb dL_law_1352 (by decide +kernel) ?_
    refine x_add hx hb dL_law_1353 ?_
    refine l_sld hx hb hX hsb (by omega) hS1 (by omega) hL dL_law_1354 ?_
    obtain ⟨g1, g2, hW1⟩ := hM1
    refine m_V (rest := []) S hK (c_X2_pieces l Γ bs (bs + 2) th σ hI (by omega) (xs (i + 1)) (xs (i + 2))) (cwV 2 hts gL_law_X2_pieces rfl rfl rfl (by decide +kernel) ⟨Nat.le_of_ble_eq_true rfl, Nat.le_of_ble_eq_true rfl⟩) (Ob.recv hK hW1.1 rfl) ⟨g1, g2, hW1⟩ rfl hl.1 rfl (Nat.le_of_ble_eq_true rfl) dL_law_1355 ⟨by show _ ≤ 601024; omega, by show _ ≤ 7293034; omega⟩ hlo (fun v H2 lc2 hp2 hlo => ?_)
    obtain ⟨hp2, hF2⟩ := hp2
    rcases hp2 with ⟨hcd2, rfl, g3, g4, hW⟩ | ⟨hcd2, rfl, g3, g4, hW⟩
    · skip
      exact absurd hcd2 (by omega)
    · skip
      have hI2 := hI
      have hC3 := hC2.fr hy hF2 (by omega) (by omega)
      have hA3 := hA2.kept (hF2.2 _ hA2.lt (Or.inr (by omega)))
      have hlow2 : ∀ q : Nat, q < bs → H2[q]? = s.heap[q]? := fun q q1 => (hF2.2 q (by omega) (Or.inl (by omega))).trans (hlow1 q q1)
      refine W.eq (g2 := F0 m 1358 ls [.int (nI 0)]) rfl ?_
      refine lv_istore (lv' := [(6, .int (nI 0)), (5, .int (nI (cd2 (inb (xs (i + 1)) (qn σ)) (inR (xs (i + 2)) (1 : Nat) (20 : Nat))))), (0, .ref sb), (1, .ref bs), (2, .ref (bs + 2)), (3, .ref (bs + 13)), (4, .int (nI i))]) hx hb dL_law_1358 hl (by decide) rfl (fun ls hl => ?_)
      refine lv_aload_n hx hb dL_law_1360 rfl (lv_at hl 4 rfl) ?_
      refine ro_V (rest := []) S hK (c_X2_thrown l Γ (bs + 2) (nI (cd2 (inb (xs (i + 1)) (qn σ)) (inR (xs (i + 2)) (1 : Nat) (20 : Nat)))) _ g3 g4 hI2) (cwV 0 hts gL_law_X2_thrown rfl rfl rfl (by decide +kernel) ⟨Nat.le_of_ble_eq_true rfl, Nat.le_of_ble_eq_true rfl⟩) (Ob.recv hK hW.1 rfl) hW rfl hl.1 rfl (Nat.le_of_ble_eq_true rfl) dL_law_1361 ⟨by show _ ≤ 601024; omega, by show _ ≤ 7293034; omega⟩ ?_
      refine W.eq (g2 := F0 m 1364 ls [.int (nI (cd2 (inb (xs (i + 1)) (qn σ)) (inR (xs (i + 2)) (1 : Nat) (20 : Nat))))]) rfl ?_
      refine lv_iload hx hb dL_law_1364 (lv_at hl 1 rfl) ?_
      refine lv_icmp_eq (tgt := 1371) hx hb dL_law_1366 (by decide) (fun c9 => ?_) (fun c9 => absurd rfl c9)
      refine lv_iload hx hb dL_law_1371 (lv_at hl 1 rfl) ?_
      refine x_ifne hx hb (Nat.lt_of_le_of_lt (cd2_le _ _) (by decide)) (tgt := 1388) dL_law_1373 (by decide) (fun c9 => ?_) (fun c9 => absurd c9 (by omega))
      refine lv_goto (tgt := 1514) hx hb dL_law_1388 (by decide) ?_
      refine W.widen (k := C0 + 300) (n := S0 + 2100) (by omega) (by omega) ?_
      exact k σ ad _ _ _ _ ⟨hI, hy, hC3, ⟨_, _, hW⟩, hA3, hlo, by have := hF2.1; omega, hlow2⟩ ls (lv_sub hl [2, 3, 4, 5, 6] rfl)
set_option maxHeartbeats 4000000 in
set_option maxRecDepth 100000 in
theorem lawc_row {p : Program} {l : Launch} {e : Env} {s : State} {m : MethodId} {args : Array Value} {below : List Frame} {meth : Method} {c : Code} {H : Heap} {locs : List Loc} {Q : State → Prop} {Γ : GG} {cJ : ClassId} {bs sb L i C0 S0 : Nat} {xs : Nat → Int32} {σ : St} {ad : Nat → Nat} {th : Int32} {v0 : Int64}
    (hfl : l.stackTraces = false) (S : CallFix p m c cL_law 9 s args wsL_law RL) (hK : xK Γ s) (hT : xT bs s) (hE0 : xE s) (hJ : xJ cJ s) (hX : va_X sb L xs s s.heap) (hsb : sb < s.heap.size) (hbs : s.heap.size = bs) (hL : L ≤ 2560) (hi : i + 5 ≤ L) (hC0 : C0 + 300 ≤ 601024) (hS0 : S0 + 2100 ≤ 7293034) (hLI : LI Γ cJ bs s σ ad th v0 H locs)
    (k : ∀ (σ' : St) (ad' : Nat → Nat) (th' : Int32) (v' : Int64) (H' : Heap) (locs' : List Loc), LI Γ cJ bs s σ' ad' th' v' H' locs' → ∀ ls : Array Slot, lv_has ls 9 [(0, .ref sb), (1, .ref bs), (2, .ref (bs + 2)), (3, .ref (bs + 13)), (4, .int (nI i))] → W p l e room_1 s m args below meth c H' locs' (C0 + 300) (S0 + 2100) Q (F0 m 1514 ls []))
    (ls : Array Slot) (hl : lv_has ls 9 [(0, .ref sb), (1, .ref bs), (2, .ref (bs + 2)), (3, .ref (bs + 13)), (4, .int (nI i))]) : W p l e room_1 s m args below meth c H locs C0 S0 Q (F0 m 1391 ls []) := by
  obtain ⟨hx, hb, hml, hown, hts⟩ := id S
  obtain ⟨hI, hy, hC, hM, hA, hlo, hsz, hlow⟩ := hLI
  have hS9 := LI.S hbs hlo hsz hlow
  refine lv_aload_n hx hb dL_law_1391 rfl (lv_at hl 1 rfl) ?_
  refine lv_aload_n hx hb dL_law_1392 rfl (lv_at hl 0 rfl) ?_
  refine lv_iload hx hb dL_law_1393 (lv_at hl 4 rfl) ?_
  refine lv_iconst (v := nI 1) hx hb dL_law_1395 (by decide +kernel) ?_
  refine x_add hx hb dL_law_1396 ?_
  refine l_sld hx hb hX hsb (by omega) hS9 (by omega) hL dL_law_1397 ?_
  refine lv_aload_n hx hb dL_law_1398 rfl (lv_at hl 0 rfl) ?_
  refine lv_iload hx hb dL_law_1399 (lv_at hl 4 rfl) ?_
  refine lv_iconst (v := nI 2) hx hb dL_law_1401 (by decide +kernel) ?_
  refine x_add hx hb dL_law_1402 ?_
  refine l_sld hx hb hX hsb (by omega) hS9 (by omega) hL dL_law_1403 ?_
  refine lv_aload_n hx hb dL_law_1404 rfl (lv_at hl 3 rfl) ?_
  refine l_S (rest := []) S hK hT hE0 hJ hlow (c_L_row l hfl Γ cJ bs bs (bs + 13) (bs + 14) σ ad hI (xs (i + 1)) (xs (i + 2)) hy (by omega) (by omega) (Nat.le_refl _) v0) (vx_cwSW 4 hts gL_law_L_row rfl rfl rfl (by decide +kernel) ⟨Nat.le_of_ble_eq_true rfl, Nat.le_of_ble_eq_true rfl⟩) ⟨hC, hsz, hA⟩ rfl hl.1 rfl (Nat.le_of_ble_eq_true rfl) dL_law_1405 ⟨by show _ ≤ 601024; omega, by show _ ≤ 7293034; omega⟩ hlo (fun v H1 lc1 hp hlo => ?_)
  obtain ⟨hp, hz1, ho1⟩ := hp
  have hM1 : MX Γ (bs + 2) th σ H1 := hM.kept (fun q q1 q2 => ho1 q (by omega) (by omega) (by omega) (by omega) (by omega))
  have hlow1 : ∀ q : Nat, q < bs → H1[q]? = s.heap[q]? := fun q q1 => (ho1 q (by omega) (by omega) (by omega) (by omega) (by omega)).trans (hlow q q1)
  have hS1 := LI.S hbs hlo (show bs + 14 ≤ H1.size by omega) hlow1
  rcases hp with ⟨hcd, rfl, ⟨ad2, hC2, hy2⟩, hA2⟩ | ⟨hcd, rfl, hC2, hA2⟩
  · skip
    refine W.eq (g2 := F0 m 1408 ls [.int (nI 0)]) rfl ?_
    refine lv_istore (lv' := [(5, .int (nI 0)), (0, .ref sb), (1, .ref bs), (2, .ref (bs + 2)), (3, .ref (bs + 13)), (4, .int (nI i))]) hx hb dL_law_1408 hl (by decide) rfl (fun ls hl => ?_)
    refine lv_aload_n hx hb dL_law_1410 rfl (lv_at hl 3 rfl) ?_
    refine lv_aload_n hx hb dL_law_1411 rfl (lv_at hl 1 rfl) ?_
    refine lv_iload hx hb dL_law_1412 (lv_at hl 5 rfl) ?_
    refine lv_iconst (v := nI 1) hx hb dL_law_1414 (by decide +kernel) ?_
    refine x_add hx hb dL_law_1415 ?_
    refine l_sld hx hb hX hsb (by omega) hS1 (by omega) hL dL_law_1416 ?_
    refine lv_aload_n hx hb dL_law_1417 rfl (lv_at hl 1 rfl) ?_
    refine lv_iload hx hb dL_law_1418 (lv_at hl 5 rfl) ?_
    refine lv_iconst (v := nI 2) hx hb dL_law_1420 (by decide +kernel) ?_
    refine x_add hx hb dL_law_1421 ?_
    refine l_sld hx hb hX hsb (by omega) hS1 (by omega) hL dL_law_1422 ?_
    obtain ⟨g1, g2, hW1⟩ := hM1
    refine m_V (rest := []) S hK (c_X2_row l Γ bs (bs + 2) th σ hI (by omega) (xs (i + 1)) (xs (i + 2))) (cwV 2 hts gL_law_X2_row rfl rfl rfl (by decide +kernel) ⟨Nat.le_of_ble_eq_true rfl, Nat.le_of_ble_eq_true rfl⟩) (Ob.recv hK hW1.1 rfl) ⟨g1, g2, hW1⟩ rfl hl.1 rfl (Nat.le_of_ble_eq_true rfl) dL_law_1423 ⟨by show _ ≤ 601024; omega, by show _ ≤ 7293034; omega⟩ hlo (fun v H2 lc2 hp2 hlo => ?_)
    obtain ⟨hp2, hF2⟩ := hp2
    rcases hp2 with ⟨hcd2, rfl, g3, g4, hW⟩ | ⟨hcd2, rfl, g3, g4, hW⟩
    · skip
      have hI2 : Iv σ := hI
      have hC3 := hC2.fr hy2 hF2 (by omega) (by omega)
      have hA3 := hA2.kept (hF2.2 _ hA2.lt (Or.inr (by omega)))
      have hlow2 : ∀ q : Nat, q < bs → H2[q]? = s.heap[q]? := fun q q1 => (hF2.2 q (by omega) (Or.inl (by omega))).trans (hlow1 q q1)
      refine W.eq (g2 := F0 m 1426 ls [.int (nI (rw_ σ ((xs (i + 1)).toInt.toNat) ((xs (i + 2)).toInt.toNat) (qn σ)))]) rfl ?_
      refine lv_istore (lv' := [(6, .int (nI (rw_ σ ((xs (i + 1)).toInt.toNat) ((xs (i + 2)).toInt.toNat) (qn σ)))), (5, .int (nI 0)), (0, .ref sb), (1, .ref bs), (2, .ref (bs + 2)), (3, .ref (bs + 13)), (4, .int (nI i))]) hx hb dL_law_1426 hl (by decide) rfl (fun ls hl => ?_)
      refine lv_aload_n hx hb dL_law_1428 rfl (lv_at hl 4 rfl) ?_
      refine ro_V (rest := []) S hK (c_X2_thrown l Γ (bs + 2) (nI 0) _ g3 g4 hI2) (cwV 0 hts gL_law_X2_thrown rfl rfl rfl (by decide +kernel) ⟨Nat.le_of_ble_eq_true rfl, Nat.le_of_ble_eq_true rfl⟩) (Ob.recv hK hW.1 rfl) hW rfl hl.1 rfl (Nat.le_of_ble_eq_true rfl) dL_law_1429 ⟨by show _ ≤ 601024; omega, by show _ ≤ 7293034; omega⟩ ?_
      refine W.eq (g2 := F0 m 1432 ls [.int (nI 0)]) rfl ?_
      refine lv_iload hx hb dL_law_1432 (lv_at hl 1 rfl) ?_
      refine x_iceq hx hb (by omega) (by omega) (tgt := 1439) dL_law_1434 (by decide) (fun c_1 => ?_) (fun c_1 => absurd c_1 (by decide))
      refine lv_iload hx hb dL_law_1439 (lv_at hl 1 rfl) ?_
      refine x_ifne hx hb (by omega) (tgt := 1456) dL_law_1441 (by decide) (fun c_2 => absurd c_2 (by decide)) (fun c_2 => ?_)
      refine lv_aload_n hx hb dL_law_1444 rfl (lv_at hl 5 rfl) ?_
      refine lv_iconst (v := nI 0) hx hb dL_law_1445 (by decide +kernel) ?_
      refine x_lald hx hb hJ hA3 dL_law_1446 ?_
      refine lv_iload hx hb dL_law_1447 (lv_at hl 0 rfl) ?_
      refine lv_i2l hx hb dL_law_1449 rfl ?_
      refine x_lcmp (v := nI 0) hx hb dL_law_1450 (lcmp_eq _) ?_
      refine x_ifeq hx hb (by omega) (tgt := 1456) dL_law_1451 (by decide) (fun c_3 => ?_) (fun c_3 => absurd c_3 (by decide))
      refine lv_goto (tgt := 1514) hx hb dL_law_1456 (by decide) ?_
      refine W.widen (k := C0 + 300) (n := S0 + 2100) (by omega) (by omega) ?_
      exact k σ ad2 _ _ _ _ ⟨hI2, hy2, hC3, ⟨_, _, hW⟩, hA3, hlo, by have := hF2.1; omega, hlow2⟩ ls (lv_sub hl [2, 3, 4, 5, 6] rfl)
    · skip
      exact absurd hcd2 (by omega)
  · skip
    refine W.eq (g2 := F0 m 1408 ls [.int (nI (cd3 (inb (xs (i + 1)) (qn σ)) (inb (xs (i + 2)) 3) (qg σ ((xs (i + 1)).toInt.toNat) = 0)))]) rfl ?_
    refine lv_istore (lv' := [(5, .int (nI (cd3 (inb (xs (i + 1)) (qn σ)) (inb (xs (i + 2)) 3) (qg σ ((xs (i + 1)).toInt.toNat) = 0)))), (0, .ref sb), (1, .ref bs), (2, .ref (bs + 2)), (3, .ref (bs + 13)), (4, .int (nI i))]) hx hb dL_law_1408 hl (by decide) rfl (fun ls hl => ?_)
    refine lv_aload_n hx hb dL_law_1410 rfl (lv_at hl 3 rfl) ?_
    refine lv_aload_n hx hb dL_law_1411 rfl (lv_at hl 1 rfl) ?_
    refine lv_iload hx hb dL_law_1412 (lv_at hl 5 rfl) ?_
    refine lv_iconst (v := nI 1) hx hb dL_law_1414 (by decide +kernel) ?_
    refine x_add hx hb dL_law_1415 ?_
    refine l_sld hx hb hX hsb (by omega) hS1 (by omega) hL dL_law_1416 ?_
    refine lv_aload_n hx hb dL_law_1417 rfl (lv_at hl 1 rfl) ?_
    refine lv_iload hx hb dL_law_1418 (lv_at hl 5 rfl) ?_
    refine lv_iconst (v := nI 2) hx hb dL_law_1420 (by decide +kernel) ?_
    refine x_add hx hb dL_law_1421 ?_
    refine l_sld hx hb hX hsb (by omega) hS1 (by omega) hL dL_law_1422 ?_
    obtain ⟨g1, g2, hW1⟩ := hM1
    refine m_V (rest := []) S hK (c_X2_row l Γ bs (bs + 2) th σ hI (by omega) (xs (i + 1)) (xs (i + 2))) (cwV 2 hts gL_law_X2_row rfl rfl rfl (by decide +kernel) ⟨Nat.le_of_ble_eq_true rfl, Nat.le_of_ble_eq_true rfl⟩) (Ob.recv hK hW1.1 rfl) ⟨g1, g2, hW1⟩ rfl hl.1 rfl (Nat.le_of_ble_eq_true rfl) dL_law_1423 ⟨by show _ ≤ 601024; omega, by show _ ≤ 7293034; omega⟩ hlo (fun v H2 lc2 hp2 hlo => ?_)
    obtain ⟨hp2, hF2⟩ := hp2
    rcases hp2 with ⟨hcd2, rfl, g3, g4, hW⟩ | ⟨hcd2, rfl, g3, g4, hW⟩
    · skip
      exact absurd hcd2 (by omega)
    · skip
      have hI2 := hI
      have hC3 := hC2.fr hy hF2 (by omega) (by omega)
      have hA3 := hA2.kept (hF2.2 _ hA2.lt (Or.inr (by omega)))
      have hlow2 : ∀ q : Nat, q < bs → H2[q]? = s.heap[q]? := fun q q1 => (hF2.2 q (by omega) (Or.inl (by omega))).trans (hlow1 q q1)
      refine W.eq (g2 := F0 m 1426 ls [.int (nI 0)]) rfl ?_
      refine lv_istore (lv' := [(6, .int (nI 0)), (5, .int (nI (cd3 (inb (xs (i + 1)) (qn σ)) (inb (xs (i + 2)) 3) (qg σ ((xs (i + 1)).toInt.toNat) = 0)))), (0, .ref sb), (1, .ref bs), (2, .ref (bs + 2)), (3, .ref (bs + 13)), (4, .int (nI i))]) hx hb dL_law_1426 hl (by decide) rfl (fun ls hl => ?_)
      refine lv_aload_n hx hb dL_law_1428 rfl (lv_at hl 4 rfl) ?_
      refine ro_V (rest := []) S hK (c_X2_thrown l Γ (bs + 2) (nI (cd3 (inb (xs (i + 1)) (qn σ)) (inb (xs (i + 2)) 3) (qg σ ((xs (i + 1)).toInt.toNat) = 0))) _ g3 g4 hI2) (cwV 0 hts gL_law_X2_thrown rfl rfl rfl (by decide +kernel) ⟨Nat.le_of_ble_eq_true rfl, Nat.le_of_ble_eq_true rfl⟩) (Ob.recv hK hW.1 rfl) hW rfl hl.1 rfl (Nat.le_of_ble_eq_true rfl) dL_law_1429 ⟨by show _ ≤ 601024; omega, by show _ ≤ 7293034; omega⟩ ?_
      refine W.eq (g2 := F0 m 1432 ls [.int (nI (cd3 (inb (xs (i + 1)) (qn σ)) (inb (xs (i + 2)) 3) (qg σ ((xs (i + 1)).toInt.toNat) = 0)))]) rfl ?_
      refine lv_iload hx hb dL_law_1432 (lv_at hl 1 rfl) ?_
      refine lv_icmp_eq (tgt := 1439) hx hb dL_law_1434 (by decide) (fun c9 => ?_) (fun c9 => absurd rfl c9)
      refine lv_iload hx hb dL_law_1439 (lv_at hl 1 rfl) ?_
      refine x_ifne hx hb (Nat.lt_of_le_of_lt (cd3_le _ _ _) (by decide)) (tgt := 1456) dL_law_1441 (by decide) (fun c9 => ?_) (fun c9 => absurd c9 (by omega))
      refine lv_goto (tgt := 1514) hx hb dL_law_1456 (by decide) ?_
      refine W.widen (k := C0 + 300) (n := S0 + 2100) (by omega) (by omega) ?_
      exact k σ ad _ _ _ _ ⟨hI, hy, hC3, ⟨_, _, hW⟩, hA3, hlo, by have := hF2.1; omega, hlow2⟩ ls (lv_sub hl [2, 3, 4, 5, 6] rfl)
