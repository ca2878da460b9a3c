def MtA (l : Launch) (y : MethodName) (ws : List Cond) (rm : Room) (Γ : GG) (bs : Nat) (av : List Value) (Pre : Heap → Prop) (Post : Heap → Option Value → Heap → Prop) (mc ms : Nat) : Prop :=
  Met l y ws rm (va_Pc av (fun U => xK Γ U ∧ va_AO RX0 U ∧ Pre U.heap)) (fun _ st o t => ∃ v, o = .returned v ∧ Post st.heap v t.heap) mc ms (fun q => bs ≤ q)
theorem MtA.of {l : Launch} {y : MethodName} {ws ws' : List Cond} {rm : Room} {Γ : GG} {bs : Nat} {av : List Value} {Pre : Heap → Prop} {Post : Heap → Option Value → Heap → Prop} {mc ms : Nat} {cc : ByteArray} {maxL : Nat} {ret : Option FieldType} (hy : plainName y.cls = true) (hw : ws = Cond.code y cc maxL ret :: ws') (hle : (lg_sl av).length ≤ maxL)
    (body : ∀ (p : Program) (e : Env) (s : State) (m : MethodId) (below : List Frame) (meth : Method) (c : Code), CallFix p m c cc maxL s av.toArray ws y.cls → meth.sig.returnType = ret → meth.locks = false → meth.name = y.name → xK Γ s → va_AO RX0 s → Pre s.heap → ∀ ls : Array Slot, lv_has ls maxL (lv_args 0 av) →
      W p l e rm s m av.toArray below meth c s.heap [] 0 0 (MQ below (fun _ st o t => ∃ v, o = .returned v ∧ Post st.heap v t.heap) av.toArray s mc ms (fun q => bs ≤ q)) (F0 m 0 ls [])) : MtA l y ws rm Γ bs av Pre Post mc ms := by
  refine Met.ofW (cc := cc) (maxL := maxL) (ret := ret) hy hw ?_
  intro p e s m args below meth c s₁ B hml hv
  obtain ⟨rfl, hK, hAO, hPre⟩ := hv
  rw [lg_entry_eq]
  exact body p e s m below meth c ⟨B.exec, B.bytes, hml, findClass_of_methodNamed B.named, atoms_spec (ws := ws) B.pre⟩ B.returns B.notSynchronized (name_of_methodNamed B.named B.method).1 hK hAO hPre _ (lv_entry av hle)
theorem MtA_blind {Γ : GG} {av : List Value} {Pre : Heap → Prop} : FrameBlind (va_Pc av (fun U => xK Γ U ∧ va_AO RX0 U ∧ Pre U.heap)) := fun a U g mk h => ⟨h.1, xK.moved (u := U) (U := U.calling g mk a) (Vm.Alike.refl U.vm) h.2.1, va_AO.moved (u := U) (U := U.calling g mk a) (Vm.Alike.refl U.vm) h.2.2.1, h.2.2.2⟩
section XMA
variable {p : Program} {l : Launch} {e : Env} {R : Room} {s : State} {m : MethodId} {args : Array Value} {below : List Frame} {meth : Method} {c : Code} {H : Heap} {locs : List Loc} {cells slots : Nat} {Q : State → Prop}
variable {cc : ByteArray} {pc : Nat} {ls : Array Slot} {rest st0 : List Value} {Γ : GG} {bs : Nat}
theorem m_IA {own : String} {index maxL nL n b mc ms : Nat} {y : MethodName} {bytes : ByteArray} {Ts wsy : List Cond} {rm : Room} {Pre : Heap → Prop} {Post : Heap → Option Value → Heap → Prop} {As : List Value} (S : CallFix p m c cc nL s args Ts own) (hK : xK Γ s) (hAO : va_AO RX0 s) (hM : MtA l y wsy rm Γ bs (.ref b :: As) Pre Post mc ms) (cw : CallB R s args own index y bytes maxL none wsy rm mc ms n ∧ y.name = "<init>" ∧ (Cond.instanceMethod y).before args s = true) (hpre : Pre H) (hn : As.length = n) (hsz : ls.size = nL) (hst : st0 = As.reverse ++ .ref b :: rest) (hW : (rest.map fun v => v.category).sum ≤ 8) (hdg : decode cc pc = .ok (.invokespecial index, 3)) (hf : cells + mc ≤ R.cells ∧ slots + ms ≤ R.slots) (hlo : lo bs locs)
    (k : ∀ (v : Option Value) (H1 : Heap) (locs1 : List Loc), Post H v H1 → lo bs locs1 → W p l e R s m args below meth c H1 locs1 (cells + mc) (slots + ms) Q (F0 m (pc + 3) ls (v.toList ++ rest))) : W p l e R s m args below meth c H locs cells slots Q (F0 m pc ls st0) := by
  subst hst
  exact m_run (va_runI S hM cw ⟨MtA_blind, fun U hU hW => ⟨rfl, hK.moved hW.alike, hAO.moved hW.alike, by rw [hU]; exact hpre⟩⟩ rfl hn hsz rfl (lv_room hW) hdg hf) hlo k
end XMA
theorem in_X1_init_X1 : ∀ w ∈ wsX10, w ∈ wsX1_init := by decide +kernel
set_option maxHeartbeats 4000000 in
set_option maxRecDepth 100000 in
theorem c_X1_init (l : Launch) (Γ : GG) (bs : Nat) (x : Nat) (hab : bs ≤ x) : MtA l yX1_init wsX1_init ({ frames := 1, cells := 1, slots := 40, locals := 20 }) Γ bs [.ref x] (fun H => Ob Γ 1 x [.null, .int (nI 0), .int (nI 0)] H ∧ H.size = x + 1) (fun H v H2 => v = none ∧ Ob Γ 1 x [.ref (x + 1), .int (nI 0), .int (nI 0)] H2 ∧ Aq Γ (x + 1) 40 (fun _ => none) H2 ∧ H2.size = x + 2 ∧ ∀ q : Nat, q < x → H2[q]? = H[q]?) 1 40 := by
  refine MtA.of (cc := cX1_init) (maxL := 1) (ret := none) (by decide) rfl (Nat.le_of_ble_eq_true rfl) ?_
  intro p e s m below meth c S hr hlk hin hK hAO hW ls hl
  obtain ⟨hx, hb, hml, hown, hts⟩ := id S
  obtain ⟨lc, elc⟩ : ∃ z : List Loc, z = [] := ⟨_, rfl⟩
  rw [← elc]
  have hlo : lo bs lc := by rw [elc]; exact lo.nil
  clear elc
  have hl : lv_has ls 1 [(0, .ref x)] := hl
  obtain ⟨hO, hsz⟩ := hW
  have hlow : ∀ q : Nat, q < x → s.heap[q]? = s.heap[q]? := fun _ _ => rfl
  refine lv_aload_n hx hb dX1_init_0 rfl (lv_at hl 0 rfl) ?_
  refine W.objInit hx hb hown (hts (.methodLink RX1 3 objectInit) (by decide +kernel)) (hts (.instanceMethod objectInit) (by decide +kernel)) (hts (.code objectInit ⟨#[0xb1]⟩ 1 none) (by decide +kernel)) rfl (by rw [hml]; exact hl.1) rfl dX1_init_1 (Nat.le_of_ble_eq_true rfl) (Nat.le_of_ble_eq_true rfl) ?_
  refine W.eq (g2 := F0 m 4 ls []) rfl ?_
  refine lv_aload_n hx hb dX1_init_4 rfl (lv_at hl 0 rfl) ?_
  refine lv_bipush (v := nI 40) hx hb dX1_init_5 (by decide +kernel) ?_
  refine x_newQ S hK (by decide +kernel) hAO (by decide) (Nat.le_of_ble_eq_true rfl) (Nat.le_of_ble_eq_true rfl) dX1_init_7 (fun H1 hA1 hz1 ho1 => ?_)
  rw [hsz] at hA1 hz1 ho1
  refine x_v (congrArg Value.ref hsz) ?_
  have hO := hO.kept (ho1 _ (by omega))
  have hQ := hA1
  have hsz := hz1
  have hlow : ∀ q : Nat, q < x → H1[q]? = s.heap[q]? := fun q hq => (ho1 q (by omega)).trans (hlow q hq)
  refine x_putX S in_X1_init_X1 tyX1 tyX1_ok nmX1 hK hO rfl 0 (by decide) (by decide +kernel) rfl (Or.inr ⟨rfl, hin, rfl⟩) (tyX1_ok 0 (by decide)) rfl rfl (Nat.le_of_ble_eq_true rfl) hlo hab dX1_init_10 (fun H1 lc1 hO1 hz1 ho1 hlo => ?_)
  have hO1 : Ob Γ 1 x [.ref (x + 1), .int (nI 0), .int (nI 0)] H1 := hO1
  have hO := hO1
  have hQ := hQ.kept (ho1 _ (by omega))
  have hsz := hz1.trans hsz
  have hlow : ∀ q : Nat, q < x → H1[q]? = s.heap[q]? := fun q hq => (ho1 q (by omega)).trans (hlow q hq)
  refine lv_aload_n hx hb dX1_init_13 rfl (lv_at hl 0 rfl) ?_
  refine lv_iconst (v := nI 0) hx hb dX1_init_14 (by decide +kernel) ?_
  refine x_putX S in_X1_init_X1 tyX1 tyX1_ok nmX1 hK hO rfl 1 (by decide) (by decide +kernel) rfl (Or.inl rfl) (tyX1_ok 1 (by decide)) rfl rfl (Nat.le_of_ble_eq_true rfl) hlo hab dX1_init_15 (fun H1 lc1 hO1 hz1 ho1 hlo => ?_)
  have hO1 : Ob Γ 1 x [.ref (x + 1), .int (nI 0), .int (nI 0)] H1 := hO1
  have hO := hO1
  have hQ := hQ.kept (ho1 _ (by omega))
  have hsz := hz1.trans hsz
  have hlow : ∀ q : Nat, q < x → H1[q]? = s.heap[q]? := fun q hq => (ho1 q (by omega)).trans (hlow q hq)
  refine lv_aload_n hx hb dX1_init_18 rfl (lv_at hl 0 rfl) ?_
  refine lv_iconst (v := nI 0) hx hb dX1_init_19 (by decide +kernel) ?_
  refine x_putX S in_X1_init_X1 tyX1 tyX1_ok nmX1 hK hO rfl 2 (by decide) (by decide +kernel) rfl (Or.inl rfl) (tyX1_ok 2 (by decide)) rfl rfl (Nat.le_of_ble_eq_true rfl) hlo hab dX1_init_20 (fun H1 lc1 hO1 hz1 ho1 hlo => ?_)
  have hO1 : Ob Γ 1 x [.ref (x + 1), .int (nI 0), .int (nI 0)] H1 := hO1
  have hO := hO1
  have hQ := hQ.kept (ho1 _ (by omega))
  have hsz := hz1.trans hsz
  have hlow : ∀ q : Nat, q < x → H1[q]? = s.heap[q]? := fun q hq => (ho1 q (by omega)).trans (hlow q hq)
  refine W.widen (k := 1) (n := 40) (Nat.le_of_ble_eq_true rfl) (Nat.le_of_ble_eq_true rfl) ?_
  exact m_vret (Post := fun H v H2 => v = none ∧ Ob Γ 1 x [.ref (x + 1), .int (nI 0), .int (nI 0)] H2 ∧ Aq Γ (x + 1) 40 (fun _ => none) H2 ∧ H2.size = x + 2 ∧ ∀ q : Nat, q < x → H2[q]? = H[q]?) hx hb hr hlk hlo dX1_init_23 ⟨rfl, hO, hQ, hsz, hlow⟩
