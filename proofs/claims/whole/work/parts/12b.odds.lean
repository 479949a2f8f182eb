theorem cd_X9_countCases : yX9_countCases.cls = RX9 ∧ yX9_countCases.cls ≠ "java/lang/invoke/MethodHandle" ∧ yX9_countCases.cls ≠ "java/lang/invoke/VarHandle" ∧ (parseMethodDescriptor yX9_countCases.desc).map (fun d => d.parameters.length) = some 4 := by decide +kernel
abbrev rmX9_countCases : Room := { frames := 4, cells := 0, slots := 0, locals := 114 }
set_option maxHeartbeats 4000000 in
set_option maxRecDepth 100000 in
theorem c_X9_countCases (lL : Launch) (D : va_G) (cI cS : ClassId) (sz : Nat) (C : Co) (T : Mv) (E : Mv) (x0 : Nat) (g0 : Nat) (q0 : Nat) (e0 : Nat) (t0 : Nat) (r0 : Nat) (h0 : Nat) (i0 : Nat) (z0 : Nat) (y0 : Nat) (tr : Int32) (ft : Int32) (g1 : Nat) (g2 : Nat) (g3 : Nat) (g4 : Nat) (g5 : Nat) (sk : Nat → Int32) (sh : Nat → Int32) (ki : Nat → Int32) (st : Nat → Int32) (cl : Nat → Int32) (q1 : Nat) (q2 : Nat) (q3 : Nat) (q4 : Nat) (q5 : Nat) (y1 : Int32) (y2 : Int32) (y3 : Int32) (sk2 : Nat → Int32) (sh2 : Nat → Int32) (ki2 : Nat → Int32) (st2 : Nat → Int32) (cl2 : Nat → Int32) (e1 : Nat) (e2 : Nat) (e3 : Nat) (wf : Nat → Int32) (tf : Nat → Int32) (vf : Nat → Int32) (i1 : Nat) (i2 : Nat) (i3 : Nat) (i4 : Nat) (i5 : Nat) (pB : Nat → Int32) (gB : Nat → Int32) (fB : Nat → Int32) (dB : Nat → Int32) (lB : Nat → Int32) (s : Nat) (w : Nat) (v : Nat) (hC : okC C) (hM : okM C T) (hs : s < cSp C) (hw : w < 24) (hv0 : v < 1000) (hrC : repC C sk sh ki st cl) (hrM : repM T wf tf vf) : Met lL yX9_countCases wsX9_countCases rmX9_countCases (va_Pc [.ref x0, .int (nI s), .int (nI w), .int (nI v), .int (nI 16)] (kB D cI cS [(x0, .inr (8, [.ref g0, .ref q0, .ref e0, .ref t0, .ref r0, .ref h0, .ref i0, .ref z0, .ref y0, .int tr, .int ft])), (g0, .inr (1, [.int (nI (cSp C)), .int (nI (cLa C)), .int (nI (cAg C)), .ref g1, .ref g2, .ref g3, .ref g4, .ref g5])), (g1, .inl (cI, 6, .inl sk)), (g2, .inl (cI, 4, .inl sh)), (g3, .inl (cI, 4, .inl ki)), (g4, .inl (cI, 4, .inl st)), (g5, .inl (cI, 4, .inl cl)), (q0, .inr (1, [.int y1, .int y2, .int y3, .ref q1, .ref q2, .ref q3, .ref q4, .ref q5])), (q1, .inl (cI, 6, .inl sk2)), (q2, .inl (cI, 4, .inl sh2)), (q3, .inl (cI, 4, .inl ki2)), (q4, .inl (cI, 4, .inl st2)), (q5, .inl (cI, 4, .inl cl2)), (e0, .inr (0, [.int (nI (mN T)), .ref e1, .ref e2, .ref e3])), (e1, .inl (cI, 8, .inl wf)), (e2, .inl (cI, 8, .inl tf)), (e3, .inl (cI, 8, .inl vf)), (i0, .inr (7, [.ref i1, .ref i2, .ref i3, .ref i4, .ref i5])), (i1, .inl (cI, 96, .inl pB)), (i2, .inl (cI, 96, .inl gB)), (i3, .inl (cI, 96, .inl fB)), (i4, .inl (cI, 96, .inl dB)), (i5, .inl (cI, 96, .inl lB))] sz)) (kQi D (fun (r : Int32) (u : Int32 × Int32 × Int32 × (Nat → Int32) × (Nat → Int32) × (Nat → Int32) × (Nat → Int32) × (Nat → Int32) × (Nat → Int32) × (Nat → Int32) × (Nat → Int32) × (Nat → Int32) × (Nat → Int32)) => r = nI (cnt C T s w v 16) ∧ True) (fun u : Int32 × Int32 × Int32 × (Nat → Int32) × (Nat → Int32) × (Nat → Int32) × (Nat → Int32) × (Nat → Int32) × (Nat → Int32) × (Nat → Int32) × (Nat → Int32) × (Nat → Int32) × (Nat → Int32) => [(x0, .inr (8, [.ref g0, .ref q0, .ref e0, .ref t0, .ref r0, .ref h0, .ref i0, .ref z0, .ref y0, .int tr, .int ft])), (g0, .inr (1, [.int (nI (cSp C)), .int (nI (cLa C)), .int (nI (cAg C)), .ref g1, .ref g2, .ref g3, .ref g4, .ref g5])), (g1, .inl (cI, 6, .inl sk)), (g2, .inl (cI, 4, .inl sh)), (g3, .inl (cI, 4, .inl ki)), (g4, .inl (cI, 4, .inl st)), (g5, .inl (cI, 4, .inl cl)), (q0, .inr (1, [.int u.1, .int u.2.1, .int u.2.2.1, .ref q1, .ref q2, .ref q3, .ref q4, .ref q5])), (q1, .inl (cI, 6, .inl u.2.2.2.1)), (q2, .inl (cI, 4, .inl u.2.2.2.2.1)), (q3, .inl (cI, 4, .inl u.2.2.2.2.2.1)), (q4, .inl (cI, 4, .inl u.2.2.2.2.2.2.1)), (q5, .inl (cI, 4, .inl u.2.2.2.2.2.2.2.1)), (e0, .inr (0, [.int (nI (mN T)), .ref e1, .ref e2, .ref e3])), (e1, .inl (cI, 8, .inl wf)), (e2, .inl (cI, 8, .inl tf)), (e3, .inl (cI, 8, .inl vf)), (i0, .inr (7, [.ref i1, .ref i2, .ref i3, .ref i4, .ref i5])), (i1, .inl (cI, 96, .inl u.2.2.2.2.2.2.2.2.1)), (i2, .inl (cI, 96, .inl u.2.2.2.2.2.2.2.2.2.1)), (i3, .inl (cI, 96, .inl u.2.2.2.2.2.2.2.2.2.2.1)), (i4, .inl (cI, 96, .inl u.2.2.2.2.2.2.2.2.2.2.2.1)), (i5, .inl (cI, 96, .inl u.2.2.2.2.2.2.2.2.2.2.2.2))]) (va_A [(x0, .inr (8, [.ref g0, .ref q0, .ref e0, .ref t0, .ref r0, .ref h0, .ref i0, .ref z0, .ref y0, .int tr, .int ft])), (g0, .inr (1, [.int (nI (cSp C)), .int (nI (cLa C)), .int (nI (cAg C)), .ref g1, .ref g2, .ref g3, .ref g4, .ref g5])), (g1, .inl (cI, 6, .inl sk)), (g2, .inl (cI, 4, .inl sh)), (g3, .inl (cI, 4, .inl ki)), (g4, .inl (cI, 4, .inl st)), (g5, .inl (cI, 4, .inl cl)), (q0, .inr (1, [.int y1, .int y2, .int y3, .ref q1, .ref q2, .ref q3, .ref q4, .ref q5])), (q1, .inl (cI, 6, .inl sk2)), (q2, .inl (cI, 4, .inl sh2)), (q3, .inl (cI, 4, .inl ki2)), (q4, .inl (cI, 4, .inl st2)), (q5, .inl (cI, 4, .inl cl2)), (e0, .inr (0, [.int (nI (mN T)), .ref e1, .ref e2, .ref e3])), (e1, .inl (cI, 8, .inl wf)), (e2, .inl (cI, 8, .inl tf)), (e3, .inl (cI, 8, .inl vf)), (i0, .inr (7, [.ref i1, .ref i2, .ref i3, .ref i4, .ref i5])), (i1, .inl (cI, 96, .inl pB)), (i2, .inl (cI, 96, .inl gB)), (i3, .inl (cI, 96, .inl fB)), (i4, .inl (cI, 96, .inl dB)), (i5, .inl (cI, 96, .inl lB))] sz)) 0 0 (va_A [(x0, .inr (8, [.ref g0, .ref q0, .ref e0, .ref t0, .ref r0, .ref h0, .ref i0, .ref z0, .ref y0, .int tr, .int ft])), (g0, .inr (1, [.int (nI (cSp C)), .int (nI (cLa C)), .int (nI (cAg C)), .ref g1, .ref g2, .ref g3, .ref g4, .ref g5])), (g1, .inl (cI, 6, .inl sk)), (g2, .inl (cI, 4, .inl sh)), (g3, .inl (cI, 4, .inl ki)), (g4, .inl (cI, 4, .inl st)), (g5, .inl (cI, 4, .inl cl)), (q0, .inr (1, [.int y1, .int y2, .int y3, .ref q1, .ref q2, .ref q3, .ref q4, .ref q5])), (q1, .inl (cI, 6, .inl sk2)), (q2, .inl (cI, 4, .inl sh2)), (q3, .inl (cI, 4, .inl ki2)), (q4, .inl (cI, 4, .inl st2)), (q5, .inl (cI, 4, .inl cl2)), (e0, .inr (0, [.int (nI (mN T)), .ref e1, .ref e2, .ref e3])), (e1, .inl (cI, 8, .inl wf)), (e2, .inl (cI, 8, .inl tf)), (e3, .inl (cI, 8, .inl vf)), (i0, .inr (7, [.ref i1, .ref i2, .ref i3, .ref i4, .ref i5])), (i1, .inl (cI, 96, .inl pB)), (i2, .inl (cI, 96, .inl gB)), (i3, .inl (cI, 96, .inl fB)), (i4, .inl (cI, 96, .inl dB)), (i5, .inl (cI, 96, .inl lB))] sz) := by
  refine Met.ofW (cc := cX9_countCases) (maxL := 8) (ret := (some .int)) (by decide) rfl ?_
  intro pP eE sS mM args below meth cC s₁ B hml hv
  obtain ⟨rfl, hsz, hP, hK, hD0⟩ := hv
  have hx := B.exec
  have hb := B.bytes
  have hr := B.returns
  have hts := atoms_spec (ws := wsX9_countCases) B.pre
  have hown : sS.vm.findClass RX9 = some mM.cls := findClass_of_methodNamed B.named
  have hlocks := B.notSynchronized
  subst hsz
  have hD := hD0.self (sz := sS.heap.size)
  generalize hAe : va_A [(x0, .inr (8, [.ref g0, .ref q0, .ref e0, .ref t0, .ref r0, .ref h0, .ref i0, .ref z0, .ref y0, .int tr, .int ft])), (g0, .inr (1, [.int (nI (cSp C)), .int (nI (cLa C)), .int (nI (cAg C)), .ref g1, .ref g2, .ref g3, .ref g4, .ref g5])), (g1, .inl (cI, 6, .inl sk)), (g2, .inl (cI, 4, .inl sh)), (g3, .inl (cI, 4, .inl ki)), (g4, .inl (cI, 4, .inl st)), (g5, .inl (cI, 4, .inl cl)), (q0, .inr (1, [.int y1, .int y2, .int y3, .ref q1, .ref q2, .ref q3, .ref q4, .ref q5])), (q1, .inl (cI, 6, .inl sk2)), (q2, .inl (cI, 4, .inl sh2)), (q3, .inl (cI, 4, .inl ki2)), (q4, .inl (cI, 4, .inl st2)), (q5, .inl (cI, 4, .inl cl2)), (e0, .inr (0, [.int (nI (mN T)), .ref e1, .ref e2, .ref e3])), (e1, .inl (cI, 8, .inl wf)), (e2, .inl (cI, 8, .inl tf)), (e3, .inl (cI, 8, .inl vf)), (i0, .inr (7, [.ref i1, .ref i2, .ref i3, .ref i4, .ref i5])), (i1, .inl (cI, 96, .inl pB)), (i2, .inl (cI, 96, .inl gB)), (i3, .inl (cI, 96, .inl fB)), (i4, .inl (cI, 96, .inl dB)), (i5, .inl (cI, 96, .inl lB))] sS.heap.size = A at hD ⊢
  have hA : ∀ q : Nat, sS.heap.size ≤ q → A q := fun q h => by rw [← hAe]; exact Or.inr h
  have hS : va_S A sS.heap sS.heap [] := va_S.rf
  have hP : va_P D vwCl [(x0, .inr (8, [.ref g0, .ref q0, .ref e0, .ref t0, .ref r0, .ref h0, .ref i0, .ref z0, .ref y0, .int tr, .int ft])), (g0, .inr (1, [.int (nI (cSp C)), .int (nI (cLa C)), .int (nI (cAg C)), .ref g1, .ref g2, .ref g3, .ref g4, .ref g5])), (g1, .inl (cI, 6, .inl sk)), (g2, .inl (cI, 4, .inl sh)), (g3, .inl (cI, 4, .inl ki)), (g4, .inl (cI, 4, .inl st)), (g5, .inl (cI, 4, .inl cl)), (q0, .inr (1, [.int y1, .int y2, .int y3, .ref q1, .ref q2, .ref q3, .ref q4, .ref q5])), (q1, .inl (cI, 6, .inl sk2)), (q2, .inl (cI, 4, .inl sh2)), (q3, .inl (cI, 4, .inl ki2)), (q4, .inl (cI, 4, .inl st2)), (q5, .inl (cI, 4, .inl cl2)), (e0, .inr (0, [.int (nI (mN T)), .ref e1, .ref e2, .ref e3])), (e1, .inl (cI, 8, .inl wf)), (e2, .inl (cI, 8, .inl tf)), (e3, .inl (cI, 8, .inl vf)), (i0, .inr (7, [.ref i1, .ref i2, .ref i3, .ref i4, .ref i5])), (i1, .inl (cI, 96, .inl pB)), (i2, .inl (cI, 96, .inl gB)), (i3, .inl (cI, 96, .inl fB)), (i4, .inl (cI, 96, .inl dB)), (i5, .inl (cI, 96, .inl lB))] sS.heap := hP
  have hD : va_D A [(x0, .inr (8, [.ref g0, .ref q0, .ref e0, .ref t0, .ref r0, .ref h0, .ref i0, .ref z0, .ref y0, .int tr, .int ft])), (g0, .inr (1, [.int (nI (cSp C)), .int (nI (cLa C)), .int (nI (cAg C)), .ref g1, .ref g2, .ref g3, .ref g4, .ref g5])), (g1, .inl (cI, 6, .inl sk)), (g2, .inl (cI, 4, .inl sh)), (g3, .inl (cI, 4, .inl ki)), (g4, .inl (cI, 4, .inl st)), (g5, .inl (cI, 4, .inl cl)), (q0, .inr (1, [.int y1, .int y2, .int y3, .ref q1, .ref q2, .ref q3, .ref q4, .ref q5])), (q1, .inl (cI, 6, .inl sk2)), (q2, .inl (cI, 4, .inl sh2)), (q3, .inl (cI, 4, .inl ki2)), (q4, .inl (cI, 4, .inl st2)), (q5, .inl (cI, 4, .inl cl2)), (e0, .inr (0, [.int (nI (mN T)), .ref e1, .ref e2, .ref e3])), (e1, .inl (cI, 8, .inl wf)), (e2, .inl (cI, 8, .inl tf)), (e3, .inl (cI, 8, .inl vf)), (i0, .inr (7, [.ref i1, .ref i2, .ref i3, .ref i4, .ref i5])), (i1, .inl (cI, 96, .inl pB)), (i2, .inl (cI, 96, .inl gB)), (i3, .inl (cI, 96, .inl fB)), (i4, .inl (cI, 96, .inl dB)), (i5, .inl (cI, 96, .inl lB))] := hD
  have hf_14 := hts (.fieldLink RX9 14 "OldLamps" "ground" "LOldLamps$Ground;") (List.mem_of_getElem? (i := 2) rfl)
  have hf_18 := hts (.fieldLink RX9 18 "OldLamps" "draft" "LOldLamps$Ground;") (List.mem_of_getElem? (i := 1) rfl)
  have hf_24 := hts (.fieldLink RX9 24 "OldLamps" "told" "LOldLamps$Entries;") (List.mem_of_getElem? (i := 5) rfl)
  have hf_41 := hts (.fieldLink RX9 41 "OldLamps" "then" "LOldLamps$Watches;") (List.mem_of_getElem? (i := 4) rfl)
  have hf_138 := hts (.fieldLink RX9 138 "OldLamps$Ground" "dayClouds" "[I") (List.mem_of_getElem? (i := 3) rfl)
  have hwX2 : ∀ w ∈ wsX20, w ∈ wsX9_countCases := fun _ h => List.mem_cons_of_mem _ (List.mem_append_left _ (List.mem_append_left _ (List.mem_append_right _ h)))
  have hwX9 : ∀ w ∈ wsX90, w ∈ wsX9_countCases := fun _ h => List.mem_cons_of_mem _ (List.mem_append_left _ (List.mem_append_left _ (List.mem_append_left _ (List.mem_append_right _ h))))
  have hl := lv_entry ([.ref x0, .int (nI s), .int (nI w), .int (nI v), .int (nI 16)]) (n := 8) (Nat.le_of_ble_eq_true rfl)
  rw [lg_entry_eq]
  generalize (lg_sl ([.ref x0, .int (nI s), .int (nI w), .int (nI v), .int (nI 16)]) ++ List.replicate (8 - (lg_sl ([.ref x0, .int (nI s), .int (nI w), .int (nI v), .int (nI 16)])).length) Slot.unset).toArray = ls at hl ⊢
  have hl : lv_has ls 8 [(0, .ref x0), (1, .int (nI s)), (2, .int (nI w)), (3, .int (nI v)), (4, .int (nI 16))] := hl
  obtain ⟨QQ, hQQ⟩ : ∃ QQ : State → Prop, QQ = MQ below (kQi D (fun (r : Int32) (u : Int32 × Int32 × Int32 × (Nat → Int32) × (Nat → Int32) × (Nat → Int32) × (Nat → Int32) × (Nat → Int32) × (Nat → Int32) × (Nat → Int32) × (Nat → Int32) × (Nat → Int32) × (Nat → Int32)) => r = nI (cnt C T s w v 16) ∧ True) (fun u : Int32 × Int32 × Int32 × (Nat → Int32) × (Nat → Int32) × (Nat → Int32) × (Nat → Int32) × (Nat → Int32) × (Nat → Int32) × (Nat → Int32) × (Nat → Int32) × (Nat → Int32) × (Nat → Int32) => [(x0, .inr (8, [.ref g0, .ref q0, .ref e0, .ref t0, .ref r0, .ref h0, .ref i0, .ref z0, .ref y0, .int tr, .int ft])), (g0, .inr (1, [.int (nI (cSp C)), .int (nI (cLa C)), .int (nI (cAg C)), .ref g1, .ref g2, .ref g3, .ref g4, .ref g5])), (g1, .inl (cI, 6, .inl sk)), (g2, .inl (cI, 4, .inl sh)), (g3, .inl (cI, 4, .inl ki)), (g4, .inl (cI, 4, .inl st)), (g5, .inl (cI, 4, .inl cl)), (q0, .inr (1, [.int u.1, .int u.2.1, .int u.2.2.1, .ref q1, .ref q2, .ref q3, .ref q4, .ref q5])), (q1, .inl (cI, 6, .inl u.2.2.2.1)), (q2, .inl (cI, 4, .inl u.2.2.2.2.1)), (q3, .inl (cI, 4, .inl u.2.2.2.2.2.1)), (q4, .inl (cI, 4, .inl u.2.2.2.2.2.2.1)), (q5, .inl (cI, 4, .inl u.2.2.2.2.2.2.2.1)), (e0, .inr (0, [.int (nI (mN T)), .ref e1, .ref e2, .ref e3])), (e1, .inl (cI, 8, .inl wf)), (e2, .inl (cI, 8, .inl tf)), (e3, .inl (cI, 8, .inl vf)), (i0, .inr (7, [.ref i1, .ref i2, .ref i3, .ref i4, .ref i5])), (i1, .inl (cI, 96, .inl u.2.2.2.2.2.2.2.2.1)), (i2, .inl (cI, 96, .inl u.2.2.2.2.2.2.2.2.2.1)), (i3, .inl (cI, 96, .inl u.2.2.2.2.2.2.2.2.2.2.1)), (i4, .inl (cI, 96, .inl u.2.2.2.2.2.2.2.2.2.2.2.1)), (i5, .inl (cI, 96, .inl u.2.2.2.2.2.2.2.2.2.2.2.2))]) A) ([.ref x0, .int (nI s), .int (nI w), .int (nI v), .int (nI 16)]).toArray sS 0 0 A := ⟨_, rfl⟩
  refine kk_QQ hQQ.symm ?_
  obtain ⟨hC1, hC2, hC3, hC4, hC5, hC6, hC7, hC8⟩ := id hC
  refine lv_aload_n hx hb dX9_countCases_0 rfl (lv_at hl 0 rfl) ?_
  refine va_get (D := D) (ci := 8) (v := .ref q0) (C := RX9) (T := TX9) (N := 11) hx hb hts hwX9 hown hK hP 0 rfl rfl 1 (by decide) hf_18 (fun _ h9 => h9) rfl dX9_countCases_1 ?_
  refine lv_aload_n hx hb dX9_countCases_4 rfl (lv_at hl 0 rfl) ?_
  refine va_get (D := D) (ci := 8) (v := .ref g0) (C := RX9) (T := TX9) (N := 11) hx hb hts hwX9 hown hK hP 0 rfl rfl 0 (by decide) hf_14 (fun _ h9 => h9) rfl dX9_countCases_5 ?_
  have hF := va_free (wc := [(q0, .inr (1, [.int y1, .int y2, .int y3, .ref q1, .ref q2, .ref q3, .ref q4, .ref q5])), (q1, .inl (cI, 6, .inl sk2)), (q2, .inl (cI, 4, .inl sh2)), (q3, .inl (cI, 4, .inl ki2)), (q4, .inl (cI, 4, .inl st2)), (q5, .inl (cI, 4, .inl cl2)), (g0, .inr (1, [.int (nI (cSp C)), .int (nI (cLa C)), .int (nI (cAg C)), .ref g1, .ref g2, .ref g3, .ref g4, .ref g5])), (g1, .inl (cI, 6, .inl sk)), (g2, .inl (cI, 4, .inl sh)), (g3, .inl (cI, 4, .inl ki)), (g4, .inl (cI, 4, .inl st)), (g5, .inl (cI, 4, .inl cl))]) hD hS hA [7, 8, 9, 10, 11, 12, 1, 2, 3, 4, 5, 6] rfl
  refine va_callv (va_runV (As := [.ref g0]) (rest := []) ⟨hx, hb, hml, hown, hts⟩ (c_X2_become lL D cI cS _ q0 q1 q2 q3 q4 q5 g0 g1 g2 g3 g4 g5 (nI (cSp C)) (nI (cLa C)) (nI (cAg C)) y1 y2 y3 sk sh ki st cl sk2 sh2 ki2 st2 cl2) (cwV 1 hts gX9_countCases_X2_become rfl rfl rfl cd_X2_become ⟨Nat.le_of_ble_eq_true rfl, Nat.le_of_ble_eq_true rfl⟩) ⟨kB_blind, va_recv hK hP (ci := 1) (q0 := 7) rfl rfl, fun U hU hW => ⟨rfl, by rw [hU], by rw [hU]; exact hP.sub [7, 8, 9, 10, 11, 12, 1, 2, 3, 4, 5, 6] rfl, va_K.moved hW.alike hK, (hD.sub [7, 8, 9, 10, 11, 12, 1, 2, 3, 4, 5, 6] (by decide) rfl).weaken (fun _ _ _ _ => trivial)⟩⟩ rfl rfl hl.1 rfl (lv_room (Nat.le_of_ble_eq_true rfl)) dX9_countCases_8 ⟨Nat.le_of_ble_eq_true rfl, Nat.le_of_ble_eq_true rfl⟩) hS (fun q _ h => hF q h) hF (fun u_1 t H1 locs ht hvm hw_1 hB hz1 hk1 hS => ?_)
  obtain ⟨sk3_1, sh3_1, ki3_1, st3_1, cl3_1⟩ := u_1
  obtain ⟨hP, hD⟩ := kk_join2 (wc := [(q0, .inr (1, [.int y1, .int y2, .int y3, .ref q1, .ref q2, .ref q3, .ref q4, .ref q5])), (q1, .inl (cI, 6, .inl sk2)), (q2, .inl (cI, 4, .inl sh2)), (q3, .inl (cI, 4, .inl ki2)), (q4, .inl (cI, 4, .inl st2)), (q5, .inl (cI, 4, .inl cl2)), (g0, .inr (1, [.int (nI (cSp C)), .int (nI (cLa C)), .int (nI (cAg C)), .ref g1, .ref g2, .ref g3, .ref g4, .ref g5])), (g1, .inl (cI, 6, .inl sk)), (g2, .inl (cI, 4, .inl sh)), (g3, .inl (cI, 4, .inl ki)), (g4, .inl (cI, 4, .inl st)), (g5, .inl (cI, 4, .inl cl))]) (w1 := [(q0, .inr (1, [.int (nI (cSp C)), .int (nI (cLa C)), .int (nI (cAg C)), .ref q1, .ref q2, .ref q3, .ref q4, .ref q5])), (q1, .inl (cI, 6, .inl sk3_1)), (q2, .inl (cI, 4, .inl sh3_1)), (q3, .inl (cI, 4, .inl ki3_1)), (q4, .inl (cI, 4, .inl st3_1)), (q5, .inl (cI, 4, .inl cl3_1)), (g0, .inr (1, [.int (nI (cSp C)), .int (nI (cLa C)), .int (nI (cAg C)), .ref g1, .ref g2, .ref g3, .ref g4, .ref g5])), (g1, .inl (cI, 6, .inl sk)), (g2, .inl (cI, 4, .inl sh)), (g3, .inl (cI, 4, .inl ki)), (g4, .inl (cI, 4, .inl st)), (g5, .inl (cI, 4, .inl cl))]) (ws' := [(x0, .inr (8, [.ref g0, .ref q0, .ref e0, .ref t0, .ref r0, .ref h0, .ref i0, .ref z0, .ref y0, .int tr, .int ft])), (g0, .inr (1, [.int (nI (cSp C)), .int (nI (cLa C)), .int (nI (cAg C)), .ref g1, .ref g2, .ref g3, .ref g4, .ref g5])), (g1, .inl (cI, 6, .inl sk)), (g2, .inl (cI, 4, .inl sh)), (g3, .inl (cI, 4, .inl ki)), (g4, .inl (cI, 4, .inl st)), (g5, .inl (cI, 4, .inl cl)), (q0, .inr (1, [.int (nI (cSp C)), .int (nI (cLa C)), .int (nI (cAg C)), .ref q1, .ref q2, .ref q3, .ref q4, .ref q5])), (q1, .inl (cI, 6, .inl sk3_1)), (q2, .inl (cI, 4, .inl sh3_1)), (q3, .inl (cI, 4, .inl ki3_1)), (q4, .inl (cI, 4, .inl st3_1)), (q5, .inl (cI, 4, .inl cl3_1)), (e0, .inr (0, [.int (nI (mN T)), .ref e1, .ref e2, .ref e3])), (e1, .inl (cI, 8, .inl wf)), (e2, .inl (cI, 8, .inl tf)), (e3, .inl (cI, 8, .inl vf)), (i0, .inr (7, [.ref i1, .ref i2, .ref i3, .ref i4, .ref i5])), (i1, .inl (cI, 96, .inl pB)), (i2, .inl (cI, 96, .inl gB)), (i3, .inl (cI, 96, .inl fB)), (i4, .inl (cI, 96, .inl dB)), (i5, .inl (cI, 96, .inl lB))]) (wr := [(x0, .inr (8, [.ref g0, .ref q0, .ref e0, .ref t0, .ref r0, .ref h0, .ref i0, .ref z0, .ref y0, .int tr, .int ft])), (e0, .inr (0, [.int (nI (mN T)), .ref e1, .ref e2, .ref e3])), (e1, .inl (cI, 8, .inl wf)), (e2, .inl (cI, 8, .inl tf)), (e3, .inl (cI, 8, .inl vf)), (i0, .inr (7, [.ref i1, .ref i2, .ref i3, .ref i4, .ref i5])), (i1, .inl (cI, 96, .inl pB)), (i2, .inl (cI, 96, .inl gB)), (i3, .inl (cI, 96, .inl fB)), (i4, .inl (cI, 96, .inl dB)), (i5, .inl (cI, 96, .inl lB))]) (H1 := H1) hP hD [7, 8, 9, 10, 11, 12, 1, 2, 3, 4, 5, 6] [0, 13, 14, 15, 16, 17, 18, 19, 20, 21, 22] rfl rfl rfl rfl 23 rfl (by decide) [x0, g0, g1, g2, g3, g4, g5, q0, q1, q2, q3, q4, q5, e0, e1, e2, e3, i0, i1, i2, i3, i4, i5] rfl rfl hk1 (by rw [← ht]; exact hB)
  have hw_1 : (∀ j, j < 6 → sk3_1 j = sk j) ∧ (∀ j, j < 4 → sh3_1 j = sh j) ∧ (∀ j, j < 4 → ki3_1 j = ki j) ∧ (∀ j, j < 4 → st3_1 j = st j) ∧ (∀ j, j < 4 → cl3_1 j = cl j) := hw_1
  clear hF hB hk1 hz1 hvm
  clear ht
  generalize H1 = H at hP hS ⊢
  have hrD := repC_cp (by omega) (by omega) hrC hw_1
  refine lv_iconst (v := nI 0) hx hb dX9_countCases_11 (by decide +kernel) ?_
  refine lv_istore (lv' := [(5, .int (nI 0)), (0, .ref x0), (1, .int (nI s)), (2, .int (nI w)), (3, .int (nI v)), (4, .int (nI 16))]) hx hb dX9_countCases_12 hl (by decide) rfl (fun ls hl => ?_)
  refine lv_iconst (v := nI 0) hx hb dX9_countCases_14 (by decide +kernel) ?_
  refine lv_istore (lv' := [(6, .int (nI 0)), (5, .int (nI 0)), (0, .ref x0), (1, .int (nI s)), (2, .int (nI w)), (3, .int (nI v)), (4, .int (nI 16))]) hx hb dX9_countCases_15 hl (by decide) rfl (fun ls hl => ?_)
  have L_17 : ∀ (n_17 : Nat) (a : Nat) (aX : Nat → Int32) (pp2w : Nat → Int32) (gg2w : Nat → Int32) (ff2w : Nat → Int32) (dd2w : Nat → Int32) (ll2w : Nat → Int32), (a ≤ 16) → 17 ≤ a + n_17 → ∀ (H : Heap) (locs : List Loc), va_P D vwCl [(x0, .inr (8, [.ref g0, .ref q0, .ref e0, .ref t0, .ref r0, .ref h0, .ref i0, .ref z0, .ref y0, .int tr, .int ft])), (g0, .inr (1, [.int (nI (cSp C)), .int (nI (cLa C)), .int (nI (cAg C)), .ref g1, .ref g2, .ref g3, .ref g4, .ref g5])), (g1, .inl (cI, 6, .inl sk)), (g2, .inl (cI, 4, .inl sh)), (g3, .inl (cI, 4, .inl ki)), (g4, .inl (cI, 4, .inl st)), (g5, .inl (cI, 4, .inl cl)), (q0, .inr (1, [.int (nI (cSp C)), .int (nI (cLa C)), .int (nI (cAg C)), .ref q1, .ref q2, .ref q3, .ref q4, .ref q5])), (q1, .inl (cI, 6, .inl sk3_1)), (q2, .inl (cI, 4, .inl sh3_1)), (q3, .inl (cI, 4, .inl ki3_1)), (q4, .inl (cI, 4, .inl st3_1)), (q5, .inl (cI, 4, .inl aX)), (e0, .inr (0, [.int (nI (mN T)), .ref e1, .ref e2, .ref e3])), (e1, .inl (cI, 8, .inl wf)), (e2, .inl (cI, 8, .inl tf)), (e3, .inl (cI, 8, .inl vf)), (i0, .inr (7, [.ref i1, .ref i2, .ref i3, .ref i4, .ref i5])), (i1, .inl (cI, 96, .inl pp2w)), (i2, .inl (cI, 96, .inl gg2w)), (i3, .inl (cI, 96, .inl ff2w)), (i4, .inl (cI, 96, .inl dd2w)), (i5, .inl (cI, 96, .inl ll2w))] H → va_D A [(x0, .inr (8, [.ref g0, .ref q0, .ref e0, .ref t0, .ref r0, .ref h0, .ref i0, .ref z0, .ref y0, .int tr, .int ft])), (g0, .inr (1, [.int (nI (cSp C)), .int (nI (cLa C)), .int (nI (cAg C)), .ref g1, .ref g2, .ref g3, .ref g4, .ref g5])), (g1, .inl (cI, 6, .inl sk)), (g2, .inl (cI, 4, .inl sh)), (g3, .inl (cI, 4, .inl ki)), (g4, .inl (cI, 4, .inl st)), (g5, .inl (cI, 4, .inl cl)), (q0, .inr (1, [.int (nI (cSp C)), .int (nI (cLa C)), .int (nI (cAg C)), .ref q1, .ref q2, .ref q3, .ref q4, .ref q5])), (q1, .inl (cI, 6, .inl sk3_1)), (q2, .inl (cI, 4, .inl sh3_1)), (q3, .inl (cI, 4, .inl ki3_1)), (q4, .inl (cI, 4, .inl st3_1)), (q5, .inl (cI, 4, .inl aX)), (e0, .inr (0, [.int (nI (mN T)), .ref e1, .ref e2, .ref e3])), (e1, .inl (cI, 8, .inl wf)), (e2, .inl (cI, 8, .inl tf)), (e3, .inl (cI, 8, .inl vf)), (i0, .inr (7, [.ref i1, .ref i2, .ref i3, .ref i4, .ref i5])), (i1, .inl (cI, 96, .inl pp2w)), (i2, .inl (cI, 96, .inl gg2w)), (i3, .inl (cI, 96, .inl ff2w)), (i4, .inl (cI, 96, .inl dd2w)), (i5, .inl (cI, 96, .inl ll2w))] → va_S A sS.heap H locs → ∀ (ls : Array Slot), lv_has ls 8 [(6, .int (nI a)), (5, .int (nI (cnt C T s w v a))), (0, .ref x0), (1, .int (nI s)), (2, .int (nI w)), (3, .int (nI v)), (4, .int (nI 16))] → W pP lL eE (headSpec wsX9_countCases rmX9_countCases).room sS mM ([.ref x0, .int (nI s), .int (nI w), .int (nI v), .int (nI 16)]).toArray below meth cC H locs 0 0 QQ (F0 mM 17 ls []) := by
    intro n_17
    induction n_17 with
    | zero =>
      intro a aX pp2w gg2w ff2w dd2w ll2w ha hn_17 H locs hP hD hS ls hl
      exact absurd hn_17 (by omega)
    | succ n_17 ih_17 =>
      intro a aX pp2w gg2w ff2w dd2w ll2w ha hn_17 H locs hP hD hS ls hl
      have hcl := cnt_le C T s w v a
      refine lv_iload hx hb dX9_countCases_17 (lv_at hl 0 rfl) ?_
      refine lv_iload hx hb dX9_countCases_19 (lv_at hl 6 rfl) ?_
      refine kk_icmp_ge (tgt := 103) hx hb dX9_countCases_21 (by decide) (by omega) (by omega) (fun c_2 => ?_) (fun c_2 => ?_)
      · skip
        refine lv_iload hx hb dX9_countCases_103 (lv_at hl 1 rfl) ?_
        have hq : (nI (cnt C T s w v a)) = nI (cnt C T s w v 16) ∧ True := by
          refine ⟨?_, trivial⟩
          rw [show a = 16 by omega]
        refine kk_QQ hQQ ?_
        exact W.iret (v := nI (cnt C T s w v a)) hx hb hr (fun t ht hW => ⟨⟨nI (cnt C T s w v a), (nI (cSp C), nI (cLa C), nI (cAg C), sk3_1, sh3_1, ki3_1, st3_1, aX, pp2w, gg2w, ff2w, dd2w, ll2w), rfl, hq, by show va_P D vwCl _ t.heap; rw [ht]; exact hP⟩, hS.F ht⟩) hS.2.2 dX9_countCases_105
      · skip
        refine lv_iconst (v := nI 0) hx hb dX9_countCases_24 (by decide +kernel) ?_
        refine lv_istore (lv' := [(7, .int (nI 0)), (6, .int (nI a)), (5, .int (nI (cnt C T s w v a))), (0, .ref x0), (1, .int (nI s)), (2, .int (nI w)), (3, .int (nI v)), (4, .int (nI 16))]) hx hb dX9_countCases_25 hl (by decide) rfl (fun ls hl => ?_)
        have L_27 : ∀ (n_27 : Nat) (d : Nat) (aY : Nat → Int32), (d ≤ 4) → (∀ j, j < d → aY j = nI (cas a j)) → 5 ≤ d + n_27 → ∀ (H : Heap) (locs : List Loc), va_P D vwCl [(x0, .inr (8, [.ref g0, .ref q0, .ref e0, .ref t0, .ref r0, .ref h0, .ref i0, .ref z0, .ref y0, .int tr, .int ft])), (g0, .inr (1, [.int (nI (cSp C)), .int (nI (cLa C)), .int (nI (cAg C)), .ref g1, .ref g2, .ref g3, .ref g4, .ref g5])), (g1, .inl (cI, 6, .inl sk)), (g2, .inl (cI, 4, .inl sh)), (g3, .inl (cI, 4, .inl ki)), (g4, .inl (cI, 4, .inl st)), (g5, .inl (cI, 4, .inl cl)), (q0, .inr (1, [.int (nI (cSp C)), .int (nI (cLa C)), .int (nI (cAg C)), .ref q1, .ref q2, .ref q3, .ref q4, .ref q5])), (q1, .inl (cI, 6, .inl sk3_1)), (q2, .inl (cI, 4, .inl sh3_1)), (q3, .inl (cI, 4, .inl ki3_1)), (q4, .inl (cI, 4, .inl st3_1)), (q5, .inl (cI, 4, .inl aY)), (e0, .inr (0, [.int (nI (mN T)), .ref e1, .ref e2, .ref e3])), (e1, .inl (cI, 8, .inl wf)), (e2, .inl (cI, 8, .inl tf)), (e3, .inl (cI, 8, .inl vf)), (i0, .inr (7, [.ref i1, .ref i2, .ref i3, .ref i4, .ref i5])), (i1, .inl (cI, 96, .inl pp2w)), (i2, .inl (cI, 96, .inl gg2w)), (i3, .inl (cI, 96, .inl ff2w)), (i4, .inl (cI, 96, .inl dd2w)), (i5, .inl (cI, 96, .inl ll2w))] H → va_D A [(x0, .inr (8, [.ref g0, .ref q0, .ref e0, .ref t0, .ref r0, .ref h0, .ref i0, .ref z0, .ref y0, .int tr, .int ft])), (g0, .inr (1, [.int (nI (cSp C)), .int (nI (cLa C)), .int (nI (cAg C)), .ref g1, .ref g2, .ref g3, .ref g4, .ref g5])), (g1, .inl (cI, 6, .inl sk)), (g2, .inl (cI, 4, .inl sh)), (g3, .inl (cI, 4, .inl ki)), (g4, .inl (cI, 4, .inl st)), (g5, .inl (cI, 4, .inl cl)), (q0, .inr (1, [.int (nI (cSp C)), .int (nI (cLa C)), .int (nI (cAg C)), .ref q1, .ref q2, .ref q3, .ref q4, .ref q5])), (q1, .inl (cI, 6, .inl sk3_1)), (q2, .inl (cI, 4, .inl sh3_1)), (q3, .inl (cI, 4, .inl ki3_1)), (q4, .inl (cI, 4, .inl st3_1)), (q5, .inl (cI, 4, .inl aY)), (e0, .inr (0, [.int (nI (mN T)), .ref e1, .ref e2, .ref e3])), (e1, .inl (cI, 8, .inl wf)), (e2, .inl (cI, 8, .inl tf)), (e3, .inl (cI, 8, .inl vf)), (i0, .inr (7, [.ref i1, .ref i2, .ref i3, .ref i4, .ref i5])), (i1, .inl (cI, 96, .inl pp2w)), (i2, .inl (cI, 96, .inl gg2w)), (i3, .inl (cI, 96, .inl ff2w)), (i4, .inl (cI, 96, .inl dd2w)), (i5, .inl (cI, 96, .inl ll2w))] → va_S A sS.heap H locs → ∀ (ls : Array Slot), lv_has ls 8 [(7, .int (nI d)), (6, .int (nI a)), (5, .int (nI (cnt C T s w v a))), (0, .ref x0), (1, .int (nI s)), (2, .int (nI w)), (3, .int (nI v)), (4, .int (nI 16))] → W pP lL eE (headSpec wsX9_countCases rmX9_countCases).room sS mM ([.ref x0, .int (nI s), .int (nI w), .int (nI v), .int (nI 16)]).toArray below meth cC H locs 0 0 QQ (F0 mM 27 ls []) := by
          intro n_27
          induction n_27 with
          | zero =>
            intro d aY hd z1 hn_27 H locs hP hD hS ls hl
            exact absurd hn_27 (by omega)
          | succ n_27 ih_27 =>
            intro d aY hd z1 hn_27 H locs hP hD hS ls hl
            refine lv_iload hx hb dX9_countCases_27 (lv_at hl 0 rfl) ?_
            refine lv_iconst (v := nI 4) hx hb dX9_countCases_29 (by decide +kernel) ?_
            refine kk_icmp_ge (tgt := 66) hx hb dX9_countCases_30 (by decide) (by omega) (by omega) (fun c_3 => ?_) (fun c_3 => ?_)
            · skip
              refine lv_aload_n hx hb dX9_countCases_66 rfl (lv_at hl 3 rfl) ?_
              refine va_get (D := D) (ci := 8) (v := .ref i0) (C := RX9) (T := TX9) (N := 11) hx hb hts hwX9 hown hK hP 0 rfl rfl 6 (by decide) hf_41 (fun _ h9 => h9) rfl dX9_countCases_67 ?_
              refine lv_aload_n hx hb dX9_countCases_70 rfl (lv_at hl 3 rfl) ?_
              refine va_get (D := D) (ci := 8) (v := .ref q0) (C := RX9) (T := TX9) (N := 11) hx hb hts hwX9 hown hK hP 0 rfl rfl 1 (by decide) hf_18 (fun _ h9 => h9) rfl dX9_countCases_71 ?_
              refine lv_aload_n hx hb dX9_countCases_74 rfl (lv_at hl 3 rfl) ?_
              refine va_get (D := D) (ci := 8) (v := .ref e0) (C := RX9) (T := TX9) (N := 11) hx hb hts hwX9 hown hK hP 0 rfl rfl 2 (by decide) hf_24 (fun _ h9 => h9) rfl dX9_countCases_75 ?_
              -- differs: go : cSp (cAll C (cas a)) / cSp C
              -- differs: go : cLa (cAll C (cas a)) / cLa C
              -- differs: go : cAg (cAll C (cas a)) / cAg C
              -- differs: go : cSp (cAll C (cas a)) / cSp C
              -- differs: go : cLa (cAll C (cas a)) / cLa C
              -- differs: go : cAg (cAll C (cas a)) / cAg C
              -- differs: go : cSp (cAll C (cas a)) / cSp C
              -- differs: go : cLa (cAll C (cas a)) / cLa C
              -- differs: go : cAg (cAll C (cas a)) / cAg C
              have o_4 : okC (cAll C (cas a)) := by exact okC_all hC (fun j _ => cas_le a j)
              have o_5 : okM (cAll C (cas a)) T := by exact hM
              have o_6 : repC (cAll C (cas a)) sk3_1 sh3_1 ki3_1 st3_1 aY := by exact ⟨hrD.1, hrD.2.1, hrD.2.2.1, hrD.2.2.2.1, fun j h => z1 j (by omega)⟩
              have o_7 : repM T wf tf vf := by exact hrM
              have hF := va_free (wc := [(i0, .inr (7, [.ref i1, .ref i2, .ref i3, .ref i4, .ref i5])), (i1, .inl (cI, 96, .inl pp2w)), (i2, .inl (cI, 96, .inl gg2w)), (i3, .inl (cI, 96, .inl ff2w)), (i4, .inl (cI, 96, .inl dd2w)), (i5, .inl (cI, 96, .inl ll2w)), (q0, .inr (1, [.int (nI (cSp (cAll C (cas a)))), .int (nI (cLa (cAll C (cas a)))), .int (nI (cAg (cAll C (cas a)))), .ref q1, .ref q2, .ref q3, .ref q4, .ref q5])), (q1, .inl (cI, 6, .inl sk3_1)), (q2, .inl (cI, 4, .inl sh3_1)), (q3, .inl (cI, 4, .inl ki3_1)), (q4, .inl (cI, 4, .inl st3_1)), (q5, .inl (cI, 4, .inl aY)), (e0, .inr (0, [.int (nI (mN T)), .ref e1, .ref e2, .ref e3])), (e1, .inl (cI, 8, .inl wf)), (e2, .inl (cI, 8, .inl tf)), (e3, .inl (cI, 8, .inl vf))]) hD hS hA [17, 18, 19, 20, 21, 22, 7, 8, 9, 10, 11, 12, 13, 14, 15, 16] rfl
              refine va_callv (va_runV (As := [.ref q0, .ref e0]) (rest := []) ⟨hx, hb, hml, hown, hts⟩ (c_X8_reckon lL D cI cS _ (cAll C (cas a)) T i0 i1 i2 i3 i4 i5 q0 q1 q2 q3 q4 q5 e0 e1 e2 e3 wf tf vf pp2w gg2w ff2w dd2w ll2w sk3_1 sh3_1 ki3_1 st3_1 aY o_4 o_5 o_6 o_7) (cwV 2 hts gX9_countCases_X8_reckon rfl rfl rfl cd_X8_reckon ⟨Nat.le_of_ble_eq_true rfl, Nat.le_of_ble_eq_true rfl⟩) ⟨kB_blind, va_recv hK hP (ci := 7) (q0 := 17) rfl rfl, fun U hU hW => ⟨rfl, by rw [hU], by rw [hU]; exact hP.sub [17, 18, 19, 20, 21, 22, 7, 8, 9, 10, 11, 12, 13, 14, 15, 16] rfl, va_K.moved hW.alike hK, (hD.sub [17, 18, 19, 20, 21, 22, 7, 8, 9, 10, 11, 12, 13, 14, 15, 16] (by decide) rfl).weaken (fun _ _ _ _ => trivial)⟩⟩ rfl rfl hl.1 rfl (lv_room (Nat.le_of_ble_eq_true rfl)) dX9_countCases_78 ⟨Nat.le_of_ble_eq_true rfl, Nat.le_of_ble_eq_true rfl⟩) hS (fun q _ h => hF q h) hF (fun u_8 t H1 locs ht hvm hw_8 hB hz1 hk1 hS => ?_)
              obtain ⟨pp_8, gg_8, ff_8, dd_8, ll_8⟩ := u_8
              obtain ⟨hP, hD⟩ := kk_join2 (wc := [(i0, .inr (7, [.ref i1, .ref i2, .ref i3, .ref i4, .ref i5])), (i1, .inl (cI, 96, .inl pp2w)), (i2, .inl (cI, 96, .inl gg2w)), (i3, .inl (cI, 96, .inl ff2w)), (i4, .inl (cI, 96, .inl dd2w)), (i5, .inl (cI, 96, .inl ll2w)), (q0, .inr (1, [.int (nI (cSp (cAll C (cas a)))), .int (nI (cLa (cAll C (cas a)))), .int (nI (cAg (cAll C (cas a)))), .ref q1, .ref q2, .ref q3, .ref q4, .ref q5])), (q1, .inl (cI, 6, .inl sk3_1)), (q2, .inl (cI, 4, .inl sh3_1)), (q3, .inl (cI, 4, .inl ki3_1)), (q4, .inl (cI, 4, .inl st3_1)), (q5, .inl (cI, 4, .inl aY)), (e0, .inr (0, [.int (nI (mN T)), .ref e1, .ref e2, .ref e3])), (e1, .inl (cI, 8, .inl wf)), (e2, .inl (cI, 8, .inl tf)), (e3, .inl (cI, 8, .inl vf))]) (w1 := [(i0, .inr (7, [.ref i1, .ref i2, .ref i3, .ref i4, .ref i5])), (i1, .inl (cI, 96, .inl pp_8)), (i2, .inl (cI, 96, .inl gg_8)), (i3, .inl (cI, 96, .inl ff_8)), (i4, .inl (cI, 96, .inl dd_8)), (i5, .inl (cI, 96, .inl ll_8)), (q0, .inr (1, [.int (nI (cSp (cAll C (cas a)))), .int (nI (cLa (cAll C (cas a)))), .int (nI (cAg (cAll C (cas a)))), .ref q1, .ref q2, .ref q3, .ref q4, .ref q5])), (q1, .inl (cI, 6, .inl sk3_1)), (q2, .inl (cI, 4, .inl sh3_1)), (q3, .inl (cI, 4, .inl ki3_1)), (q4, .inl (cI, 4, .inl st3_1)), (q5, .inl (cI, 4, .inl aY)), (e0, .inr (0, [.int (nI (mN T)), .ref e1, .ref e2, .ref e3])), (e1, .inl (cI, 8, .inl wf)), (e2, .inl (cI, 8, .inl tf)), (e3, .inl (cI, 8, .inl vf))]) (ws' := [(x0, .inr (8, [.ref g0, .ref q0, .ref e0, .ref t0, .ref r0, .ref h0, .ref i0, .ref z0, .ref y0, .int tr, .int ft])), (g0, .inr (1, [.int (nI (cSp C)), .int (nI (cLa C)), .int (nI (cAg C)), .ref g1, .ref g2, .ref g3, .ref g4, .ref g5])), (g1, .inl (cI, 6, .inl sk)), (g2, .inl (cI, 4, .inl sh)), (g3, .inl (cI, 4, .inl ki)), (g4, .inl (cI, 4, .inl st)), (g5, .inl (cI, 4, .inl cl)), (q0, .inr (1, [.int (nI (cSp C)), .int (nI (cLa C)), .int (nI (cAg C)), .ref q1, .ref q2, .ref q3, .ref q4, .ref q5])), (q1, .inl (cI, 6, .inl sk3_1)), (q2, .inl (cI, 4, .inl sh3_1)), (q3, .inl (cI, 4, .inl ki3_1)), (q4, .inl (cI, 4, .inl st3_1)), (q5, .inl (cI, 4, .inl aY)), (e0, .inr (0, [.int (nI (mN T)), .ref e1, .ref e2, .ref e3])), (e1, .inl (cI, 8, .inl wf)), (e2, .inl (cI, 8, .inl tf)), (e3, .inl (cI, 8, .inl vf)), (i0, .inr (7, [.ref i1, .ref i2, .ref i3, .ref i4, .ref i5])), (i1, .inl (cI, 96, .inl pp_8)), (i2, .inl (cI, 96, .inl gg_8)), (i3, .inl (cI, 96, .inl ff_8)), (i4, .inl (cI, 96, .inl dd_8)), (i5, .inl (cI, 96, .inl ll_8))]) (wr := [(x0, .inr (8, [.ref g0, .ref q0, .ref e0, .ref t0, .ref r0, .ref h0, .ref i0, .ref z0, .ref y0, .int tr, .int ft])), (g0, .inr (1, [.int (nI (cSp C)), .int (nI (cLa C)), .int (nI (cAg C)), .ref g1, .ref g2, .ref g3, .ref g4, .ref g5])), (g1, .inl (cI, 6, .inl sk)), (g2, .inl (cI, 4, .inl sh)), (g3, .inl (cI, 4, .inl ki)), (g4, .inl (cI, 4, .inl st)), (g5, .inl (cI, 4, .inl cl))]) (H1 := H1) hP hD [17, 18, 19, 20, 21, 22, 7, 8, 9, 10, 11, 12, 13, 14, 15, 16] [0, 1, 2, 3, 4, 5, 6] rfl rfl rfl rfl 23 rfl (by decide) [x0, g0, g1, g2, g3, g4, g5, q0, q1, q2, q3, q4, q5, e0, e1, e2, e3, i0, i1, i2, i3, i4, i5] rfl rfl hk1 (by rw [← ht]; exact hB)
              have hw_8 : tP (cAll C (cas a)) (plc T (cSt (cAll C (cas a)))) pp_8 0 24 ∧ tG (cAll C (cas a)) (plc T (cSt (cAll C (cas a)))) gg_8 0 24 ∧ tF (cAll C (cas a)) (plc T (cSt (cAll C (cas a)))) ff_8 0 24 ∧ tD (cAll C (cas a)) dd_8 0 24 ∧ tL (cAll C (cas a)) (plc T (cSt (cAll C (cas a)))) ll_8 0 24 := hw_8
              clear hF hB hk1 hz1 hvm
              clear ht
              generalize H1 = H at hP hS ⊢
              have tL1 := hw_8.2.2.2.2
              refine lv_aload_n hx hb dX9_countCases_81 rfl (lv_at hl 3 rfl) ?_
              refine va_get (D := D) (ci := 8) (v := .ref i0) (C := RX9) (T := TX9) (N := 11) hx hb hts hwX9 hown hK hP 0 rfl rfl 6 (by decide) hf_41 (fun _ h9 => h9) rfl dX9_countCases_82 ?_
              refine lv_iload_n hx hb dX9_countCases_85 rfl (lv_at hl 4 rfl) ?_
              refine lv_iload_n hx hb dX9_countCases_86 rfl (lv_at hl 5 rfl) ?_
              have o_9 : s < 4 := by omega
              have o_10 : w < 24 := by omega
              refine vp_callSi (W.runV (As := [.int (nI s), .int (nI w)]) (rest := []) ⟨hx, hb, hml, hown, hts⟩ (c_X8_lightOf lL D cI cS i0 i1 i2 i3 i4 i5 ll_8 s w o_9 o_10) (cwV 2 hts gX9_countCases_X8_lightOf rfl rfl rfl cd_X8_lightOf ⟨Nat.le_of_ble_eq_true rfl, Nat.le_of_ble_eq_true rfl⟩) ⟨kBp_blind, va_recv hK hP (ci := 7) (q0 := 17) rfl rfl, fun U hU hW => ⟨rfl, by rw [hU]; exact hP.sub [17, 22] rfl, va_K.moved hW.alike hK⟩⟩ rfl rfl hl.1 rfl (lv_room (Nat.le_of_ble_eq_true rfl)) dX9_countCases_87 ⟨Nat.le_of_ble_eq_true rfl, Nat.le_of_ble_eq_true rfl⟩) (fun r_11 hw_11 => ?_)
              obtain rfl : r_11 = ll_8 (w * 4 + s) := hw_11
              refine kk_top (y := nI (Li (cAll C (cas a)) (plT C T) s w)) (tL1 w (by omega) (by omega) s hs) ?_
              have hll := Li_le (okC_all (f := cas a) hC (fun j _ => cas_le a j)) (plT C T) s w
              refine lv_iload_n hx hb dX9_countCases_90 rfl (lv_at hl 6 rfl) ?_
              refine kk_icmp_lt (tgt := 97) hx hb dX9_countCases_91 (by decide) (by omega) (by omega) (fun c_12 => ?_) (fun c_12 => ?_)
              · skip
                have e_13 : nI (cnt C T s w v a) = nI (cnt C T s w v (a + 1)) := by
                  congr 1
                  rw [cnt_s]
                  split <;> omega
                rw [e_13] at hl
                refine lv_iinc (v := nI (a + 1)) (lv' := [(6, .int (nI (a + 1))), (7, .int (nI d)), (5, .int (nI (cnt C T s w v (a + 1)))), (0, .ref x0), (1, .int (nI s)), (2, .int (nI w)), (3, .int (nI v)), (4, .int (nI 16))]) hx hb dX9_countCases_97 hl (k := 1) rfl (nI_add a 1) (by decide) rfl (fun ls hl => ?_)
                refine lv_goto (tgt := 17) hx hb dX9_countCases_100 (by decide) ?_
                have o_14 : (a + 1) ≤ 16 := by omega
                have o_15 : 17 ≤ (a + 1) + n_17 := by omega
                exact ih_17 (a + 1) aY pp_8 gg_8 ff_8 dd_8 ll_8 o_14 o_15 _ _ hP hD hS ls (lv_sub hl [0, 2, 3, 4, 5, 6, 7] rfl)
              · skip
                refine lv_iinc (v := nI (cnt C T s w v a + 1)) (lv' := [(5, .int (nI (cnt C T s w v a + 1))), (7, .int (nI d)), (6, .int (nI a)), (0, .ref x0), (1, .int (nI s)), (2, .int (nI w)), (3, .int (nI v)), (4, .int (nI 16))]) hx hb dX9_countCases_94 hl (k := 2) rfl (nI_add (cnt C T s w v a) 1) (by decide) rfl (fun ls hl => ?_)
                have e_16 : nI (cnt C T s w v a + 1) = nI (cnt C T s w v (a + 1)) := by
                  congr 1
                  rw [cnt_s]
                  split <;> omega
                rw [e_16] at hl
                refine lv_iinc (v := nI (a + 1)) (lv' := [(6, .int (nI (a + 1))), (5, .int (nI (cnt C T s w v (a + 1)))), (7, .int (nI d)), (0, .ref x0), (1, .int (nI s)), (2, .int (nI w)), (3, .int (nI v)), (4, .int (nI 16))]) hx hb dX9_countCases_97 hl (k := 2) rfl (nI_add a 1) (by decide) rfl (fun ls hl => ?_)
                refine lv_goto (tgt := 17) hx hb dX9_countCases_100 (by decide) ?_
                have o_17 : (a + 1) ≤ 16 := by omega
                have o_18 : 17 ≤ (a + 1) + n_17 := by omega
                exact ih_17 (a + 1) aY pp_8 gg_8 ff_8 dd_8 ll_8 o_17 o_18 _ _ hP hD hS ls (lv_sub hl [0, 1, 3, 4, 5, 6, 7] rfl)
            · skip
              refine lv_aload_n hx hb dX9_countCases_33 rfl (lv_at hl 3 rfl) ?_
              refine va_get (D := D) (ci := 8) (v := .ref q0) (C := RX9) (T := TX9) (N := 11) hx hb hts hwX9 hown hK hP 0 rfl rfl 1 (by decide) hf_18 (fun _ h9 => h9) rfl dX9_countCases_34 ?_
              refine va_get (D := D) (ci := 1) (v := .ref q5) (C := RX2) (T := TX2) (N := 8) hx hb hts hwX2 hown hK hP 7 rfl rfl 7 (by decide) hf_138 (fun _ h9 => h9) rfl dX9_countCases_37 ?_
              refine lv_iload hx hb dX9_countCases_40 (lv_at hl 0 rfl) ?_
              refine lv_iload hx hb dX9_countCases_42 (lv_at hl 1 rfl) ?_
              refine lv_iload hx hb dX9_countCases_44 (lv_at hl 0 rfl) ?_
              refine lv_ishr hx hb dX9_countCases_46 ?_
              refine lv_iconst (v := nI 1) hx hb dX9_countCases_47 (by decide +kernel) ?_
              refine lv_iand hx hb dX9_countCases_48 ?_
              refine lv_iconst (v := nI 1) hx hb dX9_countCases_49 (by decide +kernel) ?_
              refine lv_icmp_ne (tgt := 58) hx hb dX9_countCases_50 (by decide) (fun c_19 => ?_) (fun c_19 => ?_)
              · skip
                have hcs := fun z => c_19 ((kk_bitN a (by omega) d (by omega)).mpr z)
                refine lv_iconst (v := nI 0) hx hb dX9_countCases_58 (by decide +kernel) ?_
                refine kk_top (y := nI (cas a d)) ((by rw [cas, if_neg hcs])) ?_
                refine kk_iast hx hb hK hP hD hS 12 rfl rfl (i := d) (by omega) (by decide) dX9_countCases_59 (fun H locs hP hD hS => ?_)
                have hP : va_P D vwCl [(x0, .inr (8, [.ref g0, .ref q0, .ref e0, .ref t0, .ref r0, .ref h0, .ref i0, .ref z0, .ref y0, .int tr, .int ft])), (g0, .inr (1, [.int (nI (cSp C)), .int (nI (cLa C)), .int (nI (cAg C)), .ref g1, .ref g2, .ref g3, .ref g4, .ref g5])), (g1, .inl (cI, 6, .inl sk)), (g2, .inl (cI, 4, .inl sh)), (g3, .inl (cI, 4, .inl ki)), (g4, .inl (cI, 4, .inl st)), (g5, .inl (cI, 4, .inl cl)), (q0, .inr (1, [.int (nI (cSp C)), .int (nI (cLa C)), .int (nI (cAg C)), .ref q1, .ref q2, .ref q3, .ref q4, .ref q5])), (q1, .inl (cI, 6, .inl sk3_1)), (q2, .inl (cI, 4, .inl sh3_1)), (q3, .inl (cI, 4, .inl ki3_1)), (q4, .inl (cI, 4, .inl st3_1)), (q5, .inl (cI, 4, .inl (upd aY d (nI (cas a d))))), (e0, .inr (0, [.int (nI (mN T)), .ref e1, .ref e2, .ref e3])), (e1, .inl (cI, 8, .inl wf)), (e2, .inl (cI, 8, .inl tf)), (e3, .inl (cI, 8, .inl vf)), (i0, .inr (7, [.ref i1, .ref i2, .ref i3, .ref i4, .ref i5])), (i1, .inl (cI, 96, .inl pp2w)), (i2, .inl (cI, 96, .inl gg2w)), (i3, .inl (cI, 96, .inl ff2w)), (i4, .inl (cI, 96, .inl dd2w)), (i5, .inl (cI, 96, .inl ll2w))] H := hP
                have hD : va_D A [(x0, .inr (8, [.ref g0, .ref q0, .ref e0, .ref t0, .ref r0, .ref h0, .ref i0, .ref z0, .ref y0, .int tr, .int ft])), (g0, .inr (1, [.int (nI (cSp C)), .int (nI (cLa C)), .int (nI (cAg C)), .ref g1, .ref g2, .ref g3, .ref g4, .ref g5])), (g1, .inl (cI, 6, .inl sk)), (g2, .inl (cI, 4, .inl sh)), (g3, .inl (cI, 4, .inl ki)), (g4, .inl (cI, 4, .inl st)), (g5, .inl (cI, 4, .inl cl)), (q0, .inr (1, [.int (nI (cSp C)), .int (nI (cLa C)), .int (nI (cAg C)), .ref q1, .ref q2, .ref q3, .ref q4, .ref q5])), (q1, .inl (cI, 6, .inl sk3_1)), (q2, .inl (cI, 4, .inl sh3_1)), (q3, .inl (cI, 4, .inl ki3_1)), (q4, .inl (cI, 4, .inl st3_1)), (q5, .inl (cI, 4, .inl (upd aY d (nI (cas a d))))), (e0, .inr (0, [.int (nI (mN T)), .ref e1, .ref e2, .ref e3])), (e1, .inl (cI, 8, .inl wf)), (e2, .inl (cI, 8, .inl tf)), (e3, .inl (cI, 8, .inl vf)), (i0, .inr (7, [.ref i1, .ref i2, .ref i3, .ref i4, .ref i5])), (i1, .inl (cI, 96, .inl pp2w)), (i2, .inl (cI, 96, .inl gg2w)), (i3, .inl (cI, 96, .inl ff2w)), (i4, .inl (cI, 96, .inl dd2w)), (i5, .inl (cI, 96, .inl ll2w))] := hD
                refine lv_iinc (v := nI (d + 1)) (lv' := [(7, .int (nI (d + 1))), (6, .int (nI a)), (5, .int (nI (cnt C T s w v a))), (0, .ref x0), (1, .int (nI s)), (2, .int (nI w)), (3, .int (nI v)), (4, .int (nI 16))]) hx hb dX9_countCases_60 hl (k := 0) rfl (nI_add d 1) (by decide) rfl (fun ls hl => ?_)
                refine lv_goto (tgt := 27) hx hb dX9_countCases_63 (by decide) ?_
                have o_20 : (d + 1) ≤ 4 := by omega
                have o_21 : ∀ j, j < (d + 1) → (upd aY d (nI (cas a d))) j = nI (cas a j) := by
                  intro j h
                  by_cases e : j = d
                  · subst e; exact up_at _ _ _
                  · rw [up_ne _ _ e]; exact z1 j (by omega)
                have o_22 : 5 ≤ (d + 1) + n_27 := by omega
                exact ih_27 (d + 1) (upd aY d (nI (cas a d))) o_20 o_21 o_22 _ _ hP hD hS ls (lv_sub hl [0, 1, 2, 3, 4, 5, 6, 7] rfl)
              · skip
                have hcs := (kk_bitN a (by omega) d (by omega)).mp c_19
                refine lv_bipush (v := nI 9) hx hb dX9_countCases_53 (by decide +kernel) ?_
                refine lv_goto (tgt := 59) hx hb dX9_countCases_55 (by decide) ?_
                refine kk_top (y := nI (cas a d)) ((by rw [cas, if_pos hcs])) ?_
                refine kk_iast hx hb hK hP hD hS 12 rfl rfl (i := d) (by omega) (by decide) dX9_countCases_59 (fun H locs hP hD hS => ?_)
                have hP : va_P D vwCl [(x0, .inr (8, [.ref g0, .ref q0, .ref e0, .ref t0, .ref r0, .ref h0, .ref i0, .ref z0, .ref y0, .int tr, .int ft])), (g0, .inr (1, [.int (nI (cSp C)), .int (nI (cLa C)), .int (nI (cAg C)), .ref g1, .ref g2, .ref g3, .ref g4, .ref g5])), (g1, .inl (cI, 6, .inl sk)), (g2, .inl (cI, 4, .inl sh)), (g3, .inl (cI, 4, .inl ki)), (g4, .inl (cI, 4, .inl st)), (g5, .inl (cI, 4, .inl cl)), (q0, .inr (1, [.int (nI (cSp C)), .int (nI (cLa C)), .int (nI (cAg C)), .ref q1, .ref q2, .ref q3, .ref q4, .ref q5])), (q1, .inl (cI, 6, .inl sk3_1)), (q2, .inl (cI, 4, .inl sh3_1)), (q3, .inl (cI, 4, .inl ki3_1)), (q4, .inl (cI, 4, .inl st3_1)), (q5, .inl (cI, 4, .inl (upd aY d (nI (cas a d))))), (e0, .inr (0, [.int (nI (mN T)), .ref e1, .ref e2, .ref e3])), (e1, .inl (cI, 8, .inl wf)), (e2, .inl (cI, 8, .inl tf)), (e3, .inl (cI, 8, .inl vf)), (i0, .inr (7, [.ref i1, .ref i2, .ref i3, .ref i4, .ref i5])), (i1, .inl (cI, 96, .inl pp2w)), (i2, .inl (cI, 96, .inl gg2w)), (i3, .inl (cI, 96, .inl ff2w)), (i4, .inl (cI, 96, .inl dd2w)), (i5, .inl (cI, 96, .inl ll2w))] H := hP
                have hD : va_D A [(x0, .inr (8, [.ref g0, .ref q0, .ref e0, .ref t0, .ref r0, .ref h0, .ref i0, .ref z0, .ref y0, .int tr, .int ft])), (g0, .inr (1, [.int (nI (cSp C)), .int (nI (cLa C)), .int (nI (cAg C)), .ref g1, .ref g2, .ref g3, .ref g4, .ref g5])), (g1, .inl (cI, 6, .inl sk)), (g2, .inl (cI, 4, .inl sh)), (g3, .inl (cI, 4, .inl ki)), (g4, .inl (cI, 4, .inl st)), (g5, .inl (cI, 4, .inl cl)), (q0, .inr (1, [.int (nI (cSp C)), .int (nI (cLa C)), .int (nI (cAg C)), .ref q1, .ref q2, .ref q3, .ref q4, .ref q5])), (q1, .inl (cI, 6, .inl sk3_1)), (q2, .inl (cI, 4, .inl sh3_1)), (q3, .inl (cI, 4, .inl ki3_1)), (q4, .inl (cI, 4, .inl st3_1)), (q5, .inl (cI, 4, .inl (upd aY d (nI (cas a d))))), (e0, .inr (0, [.int (nI (mN T)), .ref e1, .ref e2, .ref e3])), (e1, .inl (cI, 8, .inl wf)), (e2, .inl (cI, 8, .inl tf)), (e3, .inl (cI, 8, .inl vf)), (i0, .inr (7, [.ref i1, .ref i2, .ref i3, .ref i4, .ref i5])), (i1, .inl (cI, 96, .inl pp2w)), (i2, .inl (cI, 96, .inl gg2w)), (i3, .inl (cI, 96, .inl ff2w)), (i4, .inl (cI, 96, .inl dd2w)), (i5, .inl (cI, 96, .inl ll2w))] := hD
                refine lv_iinc (v := nI (d + 1)) (lv' := [(7, .int (nI (d + 1))), (6, .int (nI a)), (5, .int (nI (cnt C T s w v a))), (0, .ref x0), (1, .int (nI s)), (2, .int (nI w)), (3, .int (nI v)), (4, .int (nI 16))]) hx hb dX9_countCases_60 hl (k := 0) rfl (nI_add d 1) (by decide) rfl (fun ls hl => ?_)
                refine lv_goto (tgt := 27) hx hb dX9_countCases_63 (by decide) ?_
                have o_23 : (d + 1) ≤ 4 := by omega
                have o_24 : ∀ j, j < (d + 1) → (upd aY d (nI (cas a d))) j = nI (cas a j) := by
                  intro j h
                  by_cases e : j = d
                  · subst e; exact up_at _ _ _
                  · rw [up_ne _ _ e]; exact z1 j (by omega)
                have o_25 : 5 ≤ (d + 1) + n_27 := by omega
                exact ih_27 (d + 1) (upd aY d (nI (cas a d))) o_23 o_24 o_25 _ _ hP hD hS ls (lv_sub hl [0, 1, 2, 3, 4, 5, 6, 7] rfl)
        have o_26 : 0 ≤ 4 := by omega
        have o_27 : ∀ j, j < 0 → aX j = nI (cas a j) := by intro j h; omega
        have o_28 : 5 ≤ 0 + 5 := by omega
        exact L_27 5 0 aX o_26 o_27 o_28 _ _ hP hD hS ls (lv_sub hl [0, 1, 2, 3, 4, 5, 6, 7] rfl)
  have o_29 : 0 ≤ 16 := by omega
  have o_30 : 17 ≤ 0 + 17 := by omega
  exact L_17 17 0 cl3_1 pB gB fB dB lB o_29 o_30 _ _ hP hD hS ls (lv_sub hl [0, 1, 2, 3, 4, 5, 6] rfl)

abbrev rmX9_odds : Room := { frames := 5, cells := 0, slots := 0, locals := 141 }
set_option maxHeartbeats 4000000 in
set_option maxRecDepth 100000 in
theorem c_X9_odds (lL : Launch) (D : va_G) (cI cS : ClassId) (sz : Nat) (C : Co) (T : Mv) (E : Mv) (x0 : Nat) (g0 : Nat) (q0 : Nat) (e0 : Nat) (t0 : Nat) (r0 : Nat) (h0 : Nat) (i0 : Nat) (z0 : Nat) (y0 : Nat) (tr : Int32) (ft : Int32) (x1 : Int32) (x2 : Int32) (x3 : Int32) (x4 : Int32) (g1 : Nat) (g2 : Nat) (g3 : Nat) (g4 : Nat) (g5 : Nat) (sk : Nat → Int32) (sh : Nat → Int32) (ki : Nat → Int32) (st : Nat → Int32) (cl : Nat → Int32) (q1 : Nat) (q2 : Nat) (q3 : Nat) (q4 : Nat) (q5 : Nat) (y1 : Int32) (y2 : Int32) (y3 : Int32) (sk2 : Nat → Int32) (sh2 : Nat → Int32) (ki2 : Nat → Int32) (st2 : Nat → Int32) (cl2 : Nat → Int32) (e1 : Nat) (e2 : Nat) (e3 : Nat) (wf : Nat → Int32) (tf : Nat → Int32) (vf : Nat → Int32) (i1 : Nat) (i2 : Nat) (i3 : Nat) (i4 : Nat) (i5 : Nat) (pB : Nat → Int32) (gB : Nat → Int32) (fB : Nat → Int32) (dB : Nat → Int32) (lB : Nat → Int32) (hrC : repC C sk sh ki st cl) (hrM : repM T wf tf vf) (hX : okX C T E) : Met lL yX9_odds wsX9_odds rmX9_odds (va_Pc [.ref x0, .int x1, .int x2, .int x3, .int x4] (kB D cI cS [(x0, .inr (8, [.ref g0, .ref q0, .ref e0, .ref t0, .ref r0, .ref h0, .ref i0, .ref z0, .ref y0, .int tr, .int ft])), (g0, .inr (1, [.int (nI (cSp C)), .int (nI (cLa C)), .int (nI (cAg C)), .ref g1, .ref g2, .ref g3, .ref g4, .ref g5])), (g1, .inl (cI, 6, .inl sk)), (g2, .inl (cI, 4, .inl sh)), (g3, .inl (cI, 4, .inl ki)), (g4, .inl (cI, 4, .inl st)), (g5, .inl (cI, 4, .inl cl)), (q0, .inr (1, [.int y1, .int y2, .int y3, .ref q1, .ref q2, .ref q3, .ref q4, .ref q5])), (q1, .inl (cI, 6, .inl sk2)), (q2, .inl (cI, 4, .inl sh2)), (q3, .inl (cI, 4, .inl ki2)), (q4, .inl (cI, 4, .inl st2)), (q5, .inl (cI, 4, .inl cl2)), (e0, .inr (0, [.int (nI (mN T)), .ref e1, .ref e2, .ref e3])), (e1, .inl (cI, 8, .inl wf)), (e2, .inl (cI, 8, .inl tf)), (e3, .inl (cI, 8, .inl vf)), (i0, .inr (7, [.ref i1, .ref i2, .ref i3, .ref i4, .ref i5])), (i1, .inl (cI, 96, .inl pB)), (i2, .inl (cI, 96, .inl gB)), (i3, .inl (cI, 96, .inl fB)), (i4, .inl (cI, 96, .inl dB)), (i5, .inl (cI, 96, .inl lB))] sz)) (kQl D (fun (r : Int64) (u : Int32 × Int32 × Int32 × (Nat → Int32) × (Nat → Int32) × (Nat → Int32) × (Nat → Int32) × (Nat → Int32) × (Nat → Int32) × (Nat → Int32) × (Nat → Int32) × (Nat → Int32) × (Nat → Int32)) => r = sp_odds C T x1 x2 x3 x4 ∧ True) (fun u : Int32 × Int32 × Int32 × (Nat → Int32) × (Nat → Int32) × (Nat → Int32) × (Nat → Int32) × (Nat → Int32) × (Nat → Int32) × (Nat → Int32) × (Nat → Int32) × (Nat → Int32) × (Nat → Int32) => [(x0, .inr (8, [.ref g0, .ref q0, .ref e0, .ref t0, .ref r0, .ref h0, .ref i0, .ref z0, .ref y0, .int tr, .int ft])), (g0, .inr (1, [.int (nI (cSp C)), .int (nI (cLa C)), .int (nI (cAg C)), .ref g1, .ref g2, .ref g3, .ref g4, .ref g5])), (g1, .inl (cI, 6, .inl sk)), (g2, .inl (cI, 4, .inl sh)), (g3, .inl (cI, 4, .inl ki)), (g4, .inl (cI, 4, .inl st)), (g5, .inl (cI, 4, .inl cl)), (q0, .inr (1, [.int u.1, .int u.2.1, .int u.2.2.1, .ref q1, .ref q2, .ref q3, .ref q4, .ref q5])), (q1, .inl (cI, 6, .inl u.2.2.2.1)), (q2, .inl (cI, 4, .inl u.2.2.2.2.1)), (q3, .inl (cI, 4, .inl u.2.2.2.2.2.1)), (q4, .inl (cI, 4, .inl u.2.2.2.2.2.2.1)), (q5, .inl (cI, 4, .inl u.2.2.2.2.2.2.2.1)), (e0, .inr (0, [.int (nI (mN T)), .ref e1, .ref e2, .ref e3])), (e1, .inl (cI, 8, .inl wf)), (e2, .inl (cI, 8, .inl tf)), (e3, .inl (cI, 8, .inl vf)), (i0, .inr (7, [.ref i1, .ref i2, .ref i3, .ref i4, .ref i5])), (i1, .inl (cI, 96, .inl u.2.2.2.2.2.2.2.2.1)), (i2, .inl (cI, 96, .inl u.2.2.2.2.2.2.2.2.2.1)), (i3, .inl (cI, 96, .inl u.2.2.2.2.2.2.2.2.2.2.1)), (i4, .inl (cI, 96, .inl u.2.2.2.2.2.2.2.2.2.2.2.1)), (i5, .inl (cI, 96, .inl u.2.2.2.2.2.2.2.2.2.2.2.2))]) (va_A [(x0, .inr (8, [.ref g0, .ref q0, .ref e0, .ref t0, .ref r0, .ref h0, .ref i0, .ref z0, .ref y0, .int tr, .int ft])), (g0, .inr (1, [.int (nI (cSp C)), .int (nI (cLa C)), .int (nI (cAg C)), .ref g1, .ref g2, .ref g3, .ref g4, .ref g5])), (g1, .inl (cI, 6, .inl sk)), (g2, .inl (cI, 4, .inl sh)), (g3, .inl (cI, 4, .inl ki)), (g4, .inl (cI, 4, .inl st)), (g5, .inl (cI, 4, .inl cl)), (q0, .inr (1, [.int y1, .int y2, .int y3, .ref q1, .ref q2, .ref q3, .ref q4, .ref q5])), (q1, .inl (cI, 6, .inl sk2)), (q2, .inl (cI, 4, .inl sh2)), (q3, .inl (cI, 4, .inl ki2)), (q4, .inl (cI, 4, .inl st2)), (q5, .inl (cI, 4, .inl cl2)), (e0, .inr (0, [.int (nI (mN T)), .ref e1, .ref e2, .ref e3])), (e1, .inl (cI, 8, .inl wf)), (e2, .inl (cI, 8, .inl tf)), (e3, .inl (cI, 8, .inl vf)), (i0, .inr (7, [.ref i1, .ref i2, .ref i3, .ref i4, .ref i5])), (i1, .inl (cI, 96, .inl pB)), (i2, .inl (cI, 96, .inl gB)), (i3, .inl (cI, 96, .inl fB)), (i4, .inl (cI, 96, .inl dB)), (i5, .inl (cI, 96, .inl lB))] sz)) 0 0 (va_A [(x0, .inr (8, [.ref g0, .ref q0, .ref e0, .ref t0, .ref r0, .ref h0, .ref i0, .ref z0, .ref y0, .int tr, .int ft])), (g0, .inr (1, [.int (nI (cSp C)), .int (nI (cLa C)), .int (nI (cAg C)), .ref g1, .ref g2, .ref g3, .ref g4, .ref g5])), (g1, .inl (cI, 6, .inl sk)), (g2, .inl (cI, 4, .inl sh)), (g3, .inl (cI, 4, .inl ki)), (g4, .inl (cI, 4, .inl st)), (g5, .inl (cI, 4, .inl cl)), (q0, .inr (1, [.int y1, .int y2, .int y3, .ref q1, .ref q2, .ref q3, .ref q4, .ref q5])), (q1, .inl (cI, 6, .inl sk2)), (q2, .inl (cI, 4, .inl sh2)), (q3, .inl (cI, 4, .inl ki2)), (q4, .inl (cI, 4, .inl st2)), (q5, .inl (cI, 4, .inl cl2)), (e0, .inr (0, [.int (nI (mN T)), .ref e1, .ref e2, .ref e3])), (e1, .inl (cI, 8, .inl wf)), (e2, .inl (cI, 8, .inl tf)), (e3, .inl (cI, 8, .inl vf)), (i0, .inr (7, [.ref i1, .ref i2, .ref i3, .ref i4, .ref i5])), (i1, .inl (cI, 96, .inl pB)), (i2, .inl (cI, 96, .inl gB)), (i3, .inl (cI, 96, .inl fB)), (i4, .inl (cI, 96, .inl dB)), (i5, .inl (cI, 96, .inl lB))] sz) := by
  refine Met.ofW (cc := cX9_odds) (maxL := 9) (ret := (some .long)) (by decide) rfl ?_
  intro pP eE sS mM args below meth cC s₁ B hml hv
  obtain ⟨rfl, hsz, hP, hK, hD0⟩ := hv
  have hx := B.exec
  have hb := B.bytes
  have hr := B.returns
  have hts := atoms_spec (ws := wsX9_odds) B.pre
  have hown : sS.vm.findClass RX9 = some mM.cls := findClass_of_methodNamed B.named
  have hlocks := B.notSynchronized
  subst hsz
  have hD := hD0.self (sz := sS.heap.size)
  generalize hAe : va_A [(x0, .inr (8, [.ref g0, .ref q0, .ref e0, .ref t0, .ref r0, .ref h0, .ref i0, .ref z0, .ref y0, .int tr, .int ft])), (g0, .inr (1, [.int (nI (cSp C)), .int (nI (cLa C)), .int (nI (cAg C)), .ref g1, .ref g2, .ref g3, .ref g4, .ref g5])), (g1, .inl (cI, 6, .inl sk)), (g2, .inl (cI, 4, .inl sh)), (g3, .inl (cI, 4, .inl ki)), (g4, .inl (cI, 4, .inl st)), (g5, .inl (cI, 4, .inl cl)), (q0, .inr (1, [.int y1, .int y2, .int y3, .ref q1, .ref q2, .ref q3, .ref q4, .ref q5])), (q1, .inl (cI, 6, .inl sk2)), (q2, .inl (cI, 4, .inl sh2)), (q3, .inl (cI, 4, .inl ki2)), (q4, .inl (cI, 4, .inl st2)), (q5, .inl (cI, 4, .inl cl2)), (e0, .inr (0, [.int (nI (mN T)), .ref e1, .ref e2, .ref e3])), (e1, .inl (cI, 8, .inl wf)), (e2, .inl (cI, 8, .inl tf)), (e3, .inl (cI, 8, .inl vf)), (i0, .inr (7, [.ref i1, .ref i2, .ref i3, .ref i4, .ref i5])), (i1, .inl (cI, 96, .inl pB)), (i2, .inl (cI, 96, .inl gB)), (i3, .inl (cI, 96, .inl fB)), (i4, .inl (cI, 96, .inl dB)), (i5, .inl (cI, 96, .inl lB))] sS.heap.size = A at hD ⊢
  have hA : ∀ q : Nat, sS.heap.size ≤ q → A q := fun q h => by rw [← hAe]; exact Or.inr h
  have hS : va_S A sS.heap sS.heap [] := va_S.rf
  have hP : va_P D vwCl [(x0, .inr (8, [.ref g0, .ref q0, .ref e0, .ref t0, .ref r0, .ref h0, .ref i0, .ref z0, .ref y0, .int tr, .int ft])), (g0, .inr (1, [.int (nI (cSp C)), .int (nI (cLa C)), .int (nI (cAg C)), .ref g1, .ref g2, .ref g3, .ref g4, .ref g5])), (g1, .inl (cI, 6, .inl sk)), (g2, .inl (cI, 4, .inl sh)), (g3, .inl (cI, 4, .inl ki)), (g4, .inl (cI, 4, .inl st)), (g5, .inl (cI, 4, .inl cl)), (q0, .inr (1, [.int y1, .int y2, .int y3, .ref q1, .ref q2, .ref q3, .ref q4, .ref q5])), (q1, .inl (cI, 6, .inl sk2)), (q2, .inl (cI, 4, .inl sh2)), (q3, .inl (cI, 4, .inl ki2)), (q4, .inl (cI, 4, .inl st2)), (q5, .inl (cI, 4, .inl cl2)), (e0, .inr (0, [.int (nI (mN T)), .ref e1, .ref e2, .ref e3])), (e1, .inl (cI, 8, .inl wf)), (e2, .inl (cI, 8, .inl tf)), (e3, .inl (cI, 8, .inl vf)), (i0, .inr (7, [.ref i1, .ref i2, .ref i3, .ref i4, .ref i5])), (i1, .inl (cI, 96, .inl pB)), (i2, .inl (cI, 96, .inl gB)), (i3, .inl (cI, 96, .inl fB)), (i4, .inl (cI, 96, .inl dB)), (i5, .inl (cI, 96, .inl lB))] sS.heap := hP
  have hD : va_D A [(x0, .inr (8, [.ref g0, .ref q0, .ref e0, .ref t0, .ref r0, .ref h0, .ref i0, .ref z0, .ref y0, .int tr, .int ft])), (g0, .inr (1, [.int (nI (cSp C)), .int (nI (cLa C)), .int (nI (cAg C)), .ref g1, .ref g2, .ref g3, .ref g4, .ref g5])), (g1, .inl (cI, 6, .inl sk)), (g2, .inl (cI, 4, .inl sh)), (g3, .inl (cI, 4, .inl ki)), (g4, .inl (cI, 4, .inl st)), (g5, .inl (cI, 4, .inl cl)), (q0, .inr (1, [.int y1, .int y2, .int y3, .ref q1, .ref q2, .ref q3, .ref q4, .ref q5])), (q1, .inl (cI, 6, .inl sk2)), (q2, .inl (cI, 4, .inl sh2)), (q3, .inl (cI, 4, .inl ki2)), (q4, .inl (cI, 4, .inl st2)), (q5, .inl (cI, 4, .inl cl2)), (e0, .inr (0, [.int (nI (mN T)), .ref e1, .ref e2, .ref e3])), (e1, .inl (cI, 8, .inl wf)), (e2, .inl (cI, 8, .inl tf)), (e3, .inl (cI, 8, .inl vf)), (i0, .inr (7, [.ref i1, .ref i2, .ref i3, .ref i4, .ref i5])), (i1, .inl (cI, 96, .inl pB)), (i2, .inl (cI, 96, .inl gB)), (i3, .inl (cI, 96, .inl fB)), (i4, .inl (cI, 96, .inl dB)), (i5, .inl (cI, 96, .inl lB))] := hD
  have hf_14 := hts (.fieldLink RX9 14 "OldLamps" "ground" "LOldLamps$Ground;") (List.mem_of_getElem? (i := 1) rfl)
  have hk_204 := hts (.constantLong RX9 204 (-9223372036854775808)) (List.mem_of_getElem? (i := 2) rfl)
  have hwX9 : ∀ w ∈ wsX90, w ∈ wsX9_odds := fun _ h => List.mem_cons_of_mem _ (List.mem_append_left _ (List.mem_append_left _ (List.mem_append_left _ (List.mem_append_right _ h))))
  have hl := lv_entry ([.ref x0, .int x1, .int x2, .int x3, .int x4]) (n := 9) (Nat.le_of_ble_eq_true rfl)
  rw [lg_entry_eq]
  generalize (lg_sl ([.ref x0, .int x1, .int x2, .int x3, .int x4]) ++ List.replicate (9 - (lg_sl ([.ref x0, .int x1, .int x2, .int x3, .int x4])).length) Slot.unset).toArray = ls at hl ⊢
  have hl : lv_has ls 9 [(0, .ref x0), (1, .int x1), (2, .int x2), (3, .int x3), (4, .int x4)] := hl
  obtain ⟨QQ, hQQ⟩ : ∃ QQ : State → Prop, QQ = MQ below (kQl D (fun (r : Int64) (u : Int32 × Int32 × Int32 × (Nat → Int32) × (Nat → Int32) × (Nat → Int32) × (Nat → Int32) × (Nat → Int32) × (Nat → Int32) × (Nat → Int32) × (Nat → Int32) × (Nat → Int32) × (Nat → Int32)) => r = sp_odds C T x1 x2 x3 x4 ∧ True) (fun u : Int32 × Int32 × Int32 × (Nat → Int32) × (Nat → Int32) × (Nat → Int32) × (Nat → Int32) × (Nat → Int32) × (Nat → Int32) × (Nat → Int32) × (Nat → Int32) × (Nat → Int32) × (Nat → Int32) => [(x0, .inr (8, [.ref g0, .ref q0, .ref e0, .ref t0, .ref r0, .ref h0, .ref i0, .ref z0, .ref y0, .int tr, .int ft])), (g0, .inr (1, [.int (nI (cSp C)), .int (nI (cLa C)), .int (nI (cAg C)), .ref g1, .ref g2, .ref g3, .ref g4, .ref g5])), (g1, .inl (cI, 6, .inl sk)), (g2, .inl (cI, 4, .inl sh)), (g3, .inl (cI, 4, .inl ki)), (g4, .inl (cI, 4, .inl st)), (g5, .inl (cI, 4, .inl cl)), (q0, .inr (1, [.int u.1, .int u.2.1, .int u.2.2.1, .ref q1, .ref q2, .ref q3, .ref q4, .ref q5])), (q1, .inl (cI, 6, .inl u.2.2.2.1)), (q2, .inl (cI, 4, .inl u.2.2.2.2.1)), (q3, .inl (cI, 4, .inl u.2.2.2.2.2.1)), (q4, .inl (cI, 4, .inl u.2.2.2.2.2.2.1)), (q5, .inl (cI, 4, .inl u.2.2.2.2.2.2.2.1)), (e0, .inr (0, [.int (nI (mN T)), .ref e1, .ref e2, .ref e3])), (e1, .inl (cI, 8, .inl wf)), (e2, .inl (cI, 8, .inl tf)), (e3, .inl (cI, 8, .inl vf)), (i0, .inr (7, [.ref i1, .ref i2, .ref i3, .ref i4, .ref i5])), (i1, .inl (cI, 96, .inl u.2.2.2.2.2.2.2.2.1)), (i2, .inl (cI, 96, .inl u.2.2.2.2.2.2.2.2.2.1)), (i3, .inl (cI, 96, .inl u.2.2.2.2.2.2.2.2.2.2.1)), (i4, .inl (cI, 96, .inl u.2.2.2.2.2.2.2.2.2.2.2.1)), (i5, .inl (cI, 96, .inl u.2.2.2.2.2.2.2.2.2.2.2.2))]) A) ([.ref x0, .int x1, .int x2, .int x3, .int x4]).toArray sS 0 0 A := ⟨_, rfl⟩
  refine kk_QQ hQQ.symm ?_
  obtain ⟨hX1, hX2, hX3, hX4⟩ := okX_le hX
  refine lv_aload_n hx hb dX9_odds_0 rfl (lv_at hl 0 rfl) ?_
  refine va_get (D := D) (ci := 8) (v := .ref g0) (C := RX9) (T := TX9) (N := 11) hx hb hts hwX9 hown hK hP 0 rfl rfl 0 (by decide) hf_14 (fun _ h9 => h9) rfl dX9_odds_1 ?_
  refine lv_iload_n hx hb dX9_odds_4 rfl (lv_at hl 1 rfl) ?_
  have o_1 : (cSp C) ≤ 4 := by omega
  refine vp_callSi (W.runV (As := [.int x1]) (rest := []) ⟨hx, hb, hml, hown, hts⟩ (c_X2_hasSpot lL D cI cS g0 (cSp C) (cLa C) (.int (nI (cAg C))) (.ref g1) (.ref g2) (.ref g3) (.ref g4) (.ref g5) x1 o_1) (cwV 1 hts gX9_odds_X2_hasSpot rfl rfl rfl cd_X2_hasSpot ⟨Nat.le_of_ble_eq_true rfl, Nat.le_of_ble_eq_true rfl⟩) ⟨kBp_blind, va_recv hK hP (ci := 1) (q0 := 1) rfl rfl, fun U hU hW => ⟨rfl, by rw [hU]; exact hP.sub [1] rfl, va_K.moved hW.alike hK⟩⟩ rfl rfl hl.1 rfl (lv_room (Nat.le_of_ble_eq_true rfl)) dX9_odds_5 ⟨Nat.le_of_ble_eq_true rfl, Nat.le_of_ble_eq_true rfl⟩) (fun r_2 hw_2 => ?_)
  obtain rfl : r_2 = kb (inB x1 (cSp C)) := hw_2
  -- if (inB x1 (cSp C))
  refine kk_ifb_ne (tgt := 15) hx hb dX9_odds_8 (by decide) (fun hb_3 => ?_) (fun hb_3 => ?_)
  · skip
    obtain ⟨x1N, hx1N, rfl⟩ := inB_t hb_3
    have t_x1 := nI_clamp (show x1N < 2 ^ 31 by omega)
    refine lv_iload_n hx hb dX9_odds_15 rfl (lv_at hl 2 rfl) ?_
    refine vp_callSi (W.runS (As := [.int x2]) (rest := []) ⟨hx, hb, hml, hown, hts⟩ (c_X9_isWatch lL D cI cS x2) (va_cwS 1 hts gX9_odds_X9_isWatch rfl rfl rfl cd_X9_isWatch ⟨Nat.le_of_ble_eq_true rfl, Nat.le_of_ble_eq_true rfl⟩) ⟨kBp_blind, fun U hU hW => ⟨rfl, by rw [hU]; exact hP.sub [] rfl, va_K.moved hW.alike hK⟩⟩ rfl rfl hl.1 rfl (lv_room (Nat.le_of_ble_eq_true rfl)) dX9_odds_16 ⟨Nat.le_of_ble_eq_true rfl, Nat.le_of_ble_eq_true rfl⟩) (fun r_4 hw_4 => ?_)
    obtain rfl : r_4 = kb (inB x2 24) := hw_4
    -- if (inB x2 24)
    refine kk_ifb_eq (tgt := 43) hx hb dX9_odds_19 (by decide) (fun hb_5 => ?_) (fun hb_5 => ?_)
    · skip
      refine lv_ldc2 (v := (-9223372036854775808 : Int64)) hx hb hown hk_204 dX9_odds_43 ?_
      have hq : (-9223372036854775808 : Int64) = sp_odds C T (nI x1N) x2 x3 x4 ∧ True := by
        refine ⟨?_, trivial⟩
        simp only [sp_odds, lostC, hb_3, hb_5, t_x1, cond_true, cond_false]
      refine kk_QQ hQQ ?_
      exact W.lret (v := (-9223372036854775808 : Int64)) hx hb hr (fun t ht hW => ⟨⟨(-9223372036854775808 : Int64), (y1, y2, y3, sk2, sh2, ki2, st2, cl2, pB, gB, fB, dB, lB), rfl, hq, by show va_P D vwCl _ t.heap; rw [ht]; exact hP⟩, hS.F ht⟩) hS.2.2 dX9_odds_46
    · skip
      obtain ⟨x2N, hx2N, rfl⟩ := inB_t hb_5
      have t_x2 := nI_clamp (show x2N < 2 ^ 31 by omega)
      refine lv_iload_n hx hb dX9_odds_22 rfl (lv_at hl 3 rfl) ?_
      refine lv_iconst (v := nI 0) hx hb dX9_odds_23 (by decide +kernel) ?_
      refine lv_sipush (v := nI 999) hx hb dX9_odds_24 (by decide +kernel) ?_
      have o_6 : 0 < 2 ^ 31 := by omega
      have o_7 : 999 < 2 ^ 31 := by omega
      refine vp_callSi (W.runS (As := [.int x3, .int (nI 0), .int (nI 999)]) (rest := []) ⟨hx, hb, hml, hown, hts⟩ (c_X9_isWithin lL D cI cS x3 0 999 o_6 o_7) (va_cwS 3 hts gX9_odds_X9_isWithin rfl rfl rfl cd_X9_isWithin ⟨Nat.le_of_ble_eq_true rfl, Nat.le_of_ble_eq_true rfl⟩) ⟨kBp_blind, fun U hU hW => ⟨rfl, by rw [hU]; exact hP.sub [] rfl, va_K.moved hW.alike hK⟩⟩ rfl rfl hl.1 rfl (lv_room (Nat.le_of_ble_eq_true rfl)) dX9_odds_27 ⟨Nat.le_of_ble_eq_true rfl, Nat.le_of_ble_eq_true rfl⟩) (fun r_8 hw_8 => ?_)
      obtain rfl : r_8 = kb (wB x3 0 999) := hw_8
      -- if (wB x3 0 999)
      refine kk_ifb_eq (tgt := 43) hx hb dX9_odds_30 (by decide) (fun hb_9 => ?_) (fun hb_9 => ?_)
      · skip
        refine lv_ldc2 (v := (-9223372036854775808 : Int64)) hx hb hown hk_204 dX9_odds_43 ?_
        have hq : (-9223372036854775808 : Int64) = sp_odds C T (nI x1N) (nI x2N) x3 x4 ∧ True := by
          refine ⟨?_, trivial⟩
          simp only [sp_odds, lostC, hb_3, hb_5, hb_9, t_x1, t_x2, cond_true, cond_false]
        refine kk_QQ hQQ ?_
        exact W.lret (v := (-9223372036854775808 : Int64)) hx hb hr (fun t ht hW => ⟨⟨(-9223372036854775808 : Int64), (y1, y2, y3, sk2, sh2, ki2, st2, cl2, pB, gB, fB, dB, lB), rfl, hq, by show va_P D vwCl _ t.heap; rw [ht]; exact hP⟩, hS.F ht⟩) hS.2.2 dX9_odds_46
      · skip
        obtain ⟨x3N, hx3L, hx3N, rfl⟩ := wB_t hb_9
        have t_x3 := nI_clamp (show x3N < 2 ^ 31 by omega)
        refine lv_iload hx hb dX9_odds_33 (lv_at hl 4 rfl) ?_
        refine lv_iconst (v := nI 0) hx hb dX9_odds_35 (by decide +kernel) ?_
        refine lv_iconst (v := nI 1) hx hb dX9_odds_36 (by decide +kernel) ?_
        have o_10 : 0 < 2 ^ 31 := by omega
        have o_11 : 1 < 2 ^ 31 := by omega
        refine vp_callSi (W.runS (As := [.int x4, .int (nI 0), .int (nI 1)]) (rest := []) ⟨hx, hb, hml, hown, hts⟩ (c_X9_isWithin lL D cI cS x4 0 1 o_10 o_11) (va_cwS 3 hts gX9_odds_X9_isWithin rfl rfl rfl cd_X9_isWithin ⟨Nat.le_of_ble_eq_true rfl, Nat.le_of_ble_eq_true rfl⟩) ⟨kBp_blind, fun U hU hW => ⟨rfl, by rw [hU]; exact hP.sub [] rfl, va_K.moved hW.alike hK⟩⟩ rfl rfl hl.1 rfl (lv_room (Nat.le_of_ble_eq_true rfl)) dX9_odds_37 ⟨Nat.le_of_ble_eq_true rfl, Nat.le_of_ble_eq_true rfl⟩) (fun r_12 hw_12 => ?_)
        obtain rfl : r_12 = kb (wB x4 0 1) := hw_12
        -- if (wB x4 0 1)
        refine kk_ifb_ne (tgt := 47) hx hb dX9_odds_40 (by decide) (fun hb_13 => ?_) (fun hb_13 => ?_)
        · skip
          obtain ⟨x4N, hx4L, hx4N, rfl⟩ := wB_t hb_13
          have t_x4 := nI_clamp (show x4N < 2 ^ 31 by omega)
          obtain ⟨hC, hM, hE⟩ := okX_sp hX hx1N
          refine lv_bipush (v := nI 16) hx hb dX9_odds_47 (by decide +kernel) ?_
          refine lv_istore (lv' := [(5, .int (nI 16)), (0, .ref x0), (1, .int (nI x1N)), (2, .int (nI x2N)), (3, .int (nI x3N)), (4, .int (nI x4N))]) hx hb dX9_odds_49 hl (by decide) rfl (fun ls hl => ?_)
          refine lv_aload_n hx hb dX9_odds_51 rfl (lv_at hl 1 rfl) ?_
          refine lv_iload_n hx hb dX9_odds_52 rfl (lv_at hl 2 rfl) ?_
          refine lv_iload_n hx hb dX9_odds_53 rfl (lv_at hl 3 rfl) ?_
          refine lv_iload_n hx hb dX9_odds_54 rfl (lv_at hl 4 rfl) ?_
          refine lv_iload hx hb dX9_odds_55 (lv_at hl 0 rfl) ?_
          have o_14 : okC C := by assumption
          have o_15 : okM C T := by assumption
          have o_16 : x1N < cSp C := by omega
          have o_17 : x2N < 24 := by omega
          have o_18 : x3N < 1000 := by omega
          have o_19 : repC C sk sh ki st cl := by assumption
          have o_20 : repM T wf tf vf := by assumption
          have hF := va_free (wc := [(x0, .inr (8, [.ref g0, .ref q0, .ref e0, .ref t0, .ref r0, .ref h0, .ref i0, .ref z0, .ref y0, .int tr, .int ft])), (g0, .inr (1, [.int (nI (cSp C)), .int (nI (cLa C)), .int (nI (cAg C)), .ref g1, .ref g2, .ref g3, .ref g4, .ref g5])), (g1, .inl (cI, 6, .inl sk)), (g2, .inl (cI, 4, .inl sh)), (g3, .inl (cI, 4, .inl ki)), (g4, .inl (cI, 4, .inl st)), (g5, .inl (cI, 4, .inl cl)), (q0, .inr (1, [.int y1, .int y2, .int y3, .ref q1, .ref q2, .ref q3, .ref q4, .ref q5])), (q1, .inl (cI, 6, .inl sk2)), (q2, .inl (cI, 4, .inl sh2)), (q3, .inl (cI, 4, .inl ki2)), (q4, .inl (cI, 4, .inl st2)), (q5, .inl (cI, 4, .inl cl2)), (e0, .inr (0, [.int (nI (mN T)), .ref e1, .ref e2, .ref e3])), (e1, .inl (cI, 8, .inl wf)), (e2, .inl (cI, 8, .inl tf)), (e3, .inl (cI, 8, .inl vf)), (i0, .inr (7, [.ref i1, .ref i2, .ref i3, .ref i4, .ref i5])), (i1, .inl (cI, 96, .inl pB)), (i2, .inl (cI, 96, .inl gB)), (i3, .inl (cI, 96, .inl fB)), (i4, .inl (cI, 96, .inl dB)), (i5, .inl (cI, 96, .inl lB))]) hD hS hA [0, 1, 2, 3, 4, 5, 6, 7, 8, 9, 10, 11, 12, 13, 14, 15, 16, 17, 18, 19, 20, 21, 22] rfl
          refine va_calli (va_runV (As := [.int (nI x1N), .int (nI x2N), .int (nI x3N), .int (nI 16)]) (rest := []) ⟨hx, hb, hml, hown, hts⟩ (c_X9_countCases lL D cI cS _ C T E x0 g0 q0 e0 t0 r0 h0 i0 z0 y0 tr ft g1 g2 g3 g4 g5 sk sh ki st cl q1 q2 q3 q4 q5 y1 y2 y3 sk2 sh2 ki2 st2 cl2 e1 e2 e3 wf tf vf i1 i2 i3 i4 i5 pB gB fB dB lB x1N x2N x3N o_14 o_15 o_16 o_17 o_18 o_19 o_20) (cwV 4 hts gX9_odds_X9_countCases rfl rfl rfl cd_X9_countCases ⟨Nat.le_of_ble_eq_true rfl, Nat.le_of_ble_eq_true rfl⟩) ⟨kB_blind, va_recv hK hP (ci := 8) (q0 := 0) rfl rfl, fun U hU hW => ⟨rfl, by rw [hU], by rw [hU]; exact hP.sub [0, 1, 2, 3, 4, 5, 6, 7, 8, 9, 10, 11, 12, 13, 14, 15, 16, 17, 18, 19, 20, 21, 22] rfl, va_K.moved hW.alike hK, (hD.sub [0, 1, 2, 3, 4, 5, 6, 7, 8, 9, 10, 11, 12, 13, 14, 15, 16, 17, 18, 19, 20, 21, 22] (by decide) rfl).weaken (fun _ _ _ _ => trivial)⟩⟩ rfl rfl hl.1 rfl (lv_room (Nat.le_of_ble_eq_true rfl)) dX9_odds_57 ⟨Nat.le_of_ble_eq_true rfl, Nat.le_of_ble_eq_true rfl⟩) hS (fun q _ h => hF q h) hF (fun r_21 u_21 t H1 locs ht hvm hw_21 hB hz1 hk1 hS => ?_)
          obtain ⟨z1_21, z2_21, z3_21, sk3_21, sh3_21, ki3_21, st3_21, cl3_21, pp2_21, gg2_21, ff2_21, dd2_21, ll2_21⟩ := u_21
          obtain ⟨hP, hD⟩ := kk_join2 (wc := [(x0, .inr (8, [.ref g0, .ref q0, .ref e0, .ref t0, .ref r0, .ref h0, .ref i0, .ref z0, .ref y0, .int tr, .int ft])), (g0, .inr (1, [.int (nI (cSp C)), .int (nI (cLa C)), .int (nI (cAg C)), .ref g1, .ref g2, .ref g3, .ref g4, .ref g5])), (g1, .inl (cI, 6, .inl sk)), (g2, .inl (cI, 4, .inl sh)), (g3, .inl (cI, 4, .inl ki)), (g4, .inl (cI, 4, .inl st)), (g5, .inl (cI, 4, .inl cl)), (q0, .inr (1, [.int y1, .int y2, .int y3, .ref q1, .ref q2, .ref q3, .ref q4, .ref q5])), (q1, .inl (cI, 6, .inl sk2)), (q2, .inl (cI, 4, .inl sh2)), (q3, .inl (cI, 4, .inl ki2)), (q4, .inl (cI, 4, .inl st2)), (q5, .inl (cI, 4, .inl cl2)), (e0, .inr (0, [.int (nI (mN T)), .ref e1, .ref e2, .ref e3])), (e1, .inl (cI, 8, .inl wf)), (e2, .inl (cI, 8, .inl tf)), (e3, .inl (cI, 8, .inl vf)), (i0, .inr (7, [.ref i1, .ref i2, .ref i3, .ref i4, .ref i5])), (i1, .inl (cI, 96, .inl pB)), (i2, .inl (cI, 96, .inl gB)), (i3, .inl (cI, 96, .inl fB)), (i4, .inl (cI, 96, .inl dB)), (i5, .inl (cI, 96, .inl lB))]) (w1 := [(x0, .inr (8, [.ref g0, .ref q0, .ref e0, .ref t0, .ref r0, .ref h0, .ref i0, .ref z0, .ref y0, .int tr, .int ft])), (g0, .inr (1, [.int (nI (cSp C)), .int (nI (cLa C)), .int (nI (cAg C)), .ref g1, .ref g2, .ref g3, .ref g4, .ref g5])), (g1, .inl (cI, 6, .inl sk)), (g2, .inl (cI, 4, .inl sh)), (g3, .inl (cI, 4, .inl ki)), (g4, .inl (cI, 4, .inl st)), (g5, .inl (cI, 4, .inl cl)), (q0, .inr (1, [.int z1_21, .int z2_21, .int z3_21, .ref q1, .ref q2, .ref q3, .ref q4, .ref q5])), (q1, .inl (cI, 6, .inl sk3_21)), (q2, .inl (cI, 4, .inl sh3_21)), (q3, .inl (cI, 4, .inl ki3_21)), (q4, .inl (cI, 4, .inl st3_21)), (q5, .inl (cI, 4, .inl cl3_21)), (e0, .inr (0, [.int (nI (mN T)), .ref e1, .ref e2, .ref e3])), (e1, .inl (cI, 8, .inl wf)), (e2, .inl (cI, 8, .inl tf)), (e3, .inl (cI, 8, .inl vf)), (i0, .inr (7, [.ref i1, .ref i2, .ref i3, .ref i4, .ref i5])), (i1, .inl (cI, 96, .inl pp2_21)), (i2, .inl (cI, 96, .inl gg2_21)), (i3, .inl (cI, 96, .inl ff2_21)), (i4, .inl (cI, 96, .inl dd2_21)), (i5, .inl (cI, 96, .inl ll2_21))]) (ws' := [(x0, .inr (8, [.ref g0, .ref q0, .ref e0, .ref t0, .ref r0, .ref h0, .ref i0, .ref z0, .ref y0, .int tr, .int ft])), (g0, .inr (1, [.int (nI (cSp C)), .int (nI (cLa C)), .int (nI (cAg C)), .ref g1, .ref g2, .ref g3, .ref g4, .ref g5])), (g1, .inl (cI, 6, .inl sk)), (g2, .inl (cI, 4, .inl sh)), (g3, .inl (cI, 4, .inl ki)), (g4, .inl (cI, 4, .inl st)), (g5, .inl (cI, 4, .inl cl)), (q0, .inr (1, [.int z1_21, .int z2_21, .int z3_21, .ref q1, .ref q2, .ref q3, .ref q4, .ref q5])), (q1, .inl (cI, 6, .inl sk3_21)), (q2, .inl (cI, 4, .inl sh3_21)), (q3, .inl (cI, 4, .inl ki3_21)), (q4, .inl (cI, 4, .inl st3_21)), (q5, .inl (cI, 4, .inl cl3_21)), (e0, .inr (0, [.int (nI (mN T)), .ref e1, .ref e2, .ref e3])), (e1, .inl (cI, 8, .inl wf)), (e2, .inl (cI, 8, .inl tf)), (e3, .inl (cI, 8, .inl vf)), (i0, .inr (7, [.ref i1, .ref i2, .ref i3, .ref i4, .ref i5])), (i1, .inl (cI, 96, .inl pp2_21)), (i2, .inl (cI, 96, .inl gg2_21)), (i3, .inl (cI, 96, .inl ff2_21)), (i4, .inl (cI, 96, .inl dd2_21)), (i5, .inl (cI, 96, .inl ll2_21))]) (wr := []) (H1 := H1) hP hD [0, 1, 2, 3, 4, 5, 6, 7, 8, 9, 10, 11, 12, 13, 14, 15, 16, 17, 18, 19, 20, 21, 22] [] rfl rfl rfl rfl 23 rfl (by decide) [x0, g0, g1, g2, g3, g4, g5, q0, q1, q2, q3, q4, q5, e0, e1, e2, e3, i0, i1, i2, i3, i4, i5] rfl rfl hk1 (by rw [← ht]; exact hB)
          have hw_21 : r_21 = nI (cnt C T x1N x2N x3N 16) ∧ True := hw_21
          clear hF hB hk1 hz1 hvm
          clear ht
          generalize H1 = H at hP hS ⊢
          obtain ⟨rfl, hw_21⟩ := hw_21
          have hcl := cnt_le C T x1N x2N x3N 16
          refine lv_istore (lv' := [(6, .int (nI (cnt C T x1N x2N x3N 16))), (5, .int (nI 16)), (0, .ref x0), (1, .int (nI x1N)), (2, .int (nI x2N)), (3, .int (nI x3N)), (4, .int (nI x4N))]) hx hb dX9_odds_60 hl (by decide) rfl (fun ls hl => ?_)
          refine lv_iload hx hb dX9_odds_62 (lv_at hl 1 rfl) ?_
          refine lv_istore (lv' := [(7, .int (nI 16)), (6, .int (nI (cnt C T x1N x2N x3N 16))), (5, .int (nI 16)), (0, .ref x0), (1, .int (nI x1N)), (2, .int (nI x2N)), (3, .int (nI x3N)), (4, .int (nI x4N))]) hx hb dX9_odds_64 hl (by decide) rfl (fun ls hl => ?_)
          refine lv_iconst (v := nI 0) hx hb dX9_odds_66 (by decide +kernel) ?_
          refine lv_istore (lv' := [(8, .int (nI 0)), (7, .int (nI 16)), (6, .int (nI (cnt C T x1N x2N x3N 16))), (5, .int (nI 16)), (0, .ref x0), (1, .int (nI x1N)), (2, .int (nI x2N)), (3, .int (nI x3N)), (4, .int (nI x4N))]) hx hb dX9_odds_67 hl (by decide) rfl (fun ls hl => ?_)
          have L_69 : ∀ (n_69 : Nat) (h : Nat), (h ≤ 4) → (∀ j, j < h → ¬ cnt C T x1N x2N x3N 16 % (16 / 2 ^ j) = 0) → 5 ≤ h + n_69 → ∀ (H : Heap) (locs : List Loc), va_P D vwCl [(x0, .inr (8, [.ref g0, .ref q0, .ref e0, .ref t0, .ref r0, .ref h0, .ref i0, .ref z0, .ref y0, .int tr, .int ft])), (g0, .inr (1, [.int (nI (cSp C)), .int (nI (cLa C)), .int (nI (cAg C)), .ref g1, .ref g2, .ref g3, .ref g4, .ref g5])), (g1, .inl (cI, 6, .inl sk)), (g2, .inl (cI, 4, .inl sh)), (g3, .inl (cI, 4, .inl ki)), (g4, .inl (cI, 4, .inl st)), (g5, .inl (cI, 4, .inl cl)), (q0, .inr (1, [.int z1_21, .int z2_21, .int z3_21, .ref q1, .ref q2, .ref q3, .ref q4, .ref q5])), (q1, .inl (cI, 6, .inl sk3_21)), (q2, .inl (cI, 4, .inl sh3_21)), (q3, .inl (cI, 4, .inl ki3_21)), (q4, .inl (cI, 4, .inl st3_21)), (q5, .inl (cI, 4, .inl cl3_21)), (e0, .inr (0, [.int (nI (mN T)), .ref e1, .ref e2, .ref e3])), (e1, .inl (cI, 8, .inl wf)), (e2, .inl (cI, 8, .inl tf)), (e3, .inl (cI, 8, .inl vf)), (i0, .inr (7, [.ref i1, .ref i2, .ref i3, .ref i4, .ref i5])), (i1, .inl (cI, 96, .inl pp2_21)), (i2, .inl (cI, 96, .inl gg2_21)), (i3, .inl (cI, 96, .inl ff2_21)), (i4, .inl (cI, 96, .inl dd2_21)), (i5, .inl (cI, 96, .inl ll2_21))] H → va_D A [(x0, .inr (8, [.ref g0, .ref q0, .ref e0, .ref t0, .ref r0, .ref h0, .ref i0, .ref z0, .ref y0, .int tr, .int ft])), (g0, .inr (1, [.int (nI (cSp C)), .int (nI (cLa C)), .int (nI (cAg C)), .ref g1, .ref g2, .ref g3, .ref g4, .ref g5])), (g1, .inl (cI, 6, .inl sk)), (g2, .inl (cI, 4, .inl sh)), (g3, .inl (cI, 4, .inl ki)), (g4, .inl (cI, 4, .inl st)), (g5, .inl (cI, 4, .inl cl)), (q0, .inr (1, [.int z1_21, .int z2_21, .int z3_21, .ref q1, .ref q2, .ref q3, .ref q4, .ref q5])), (q1, .inl (cI, 6, .inl sk3_21)), (q2, .inl (cI, 4, .inl sh3_21)), (q3, .inl (cI, 4, .inl ki3_21)), (q4, .inl (cI, 4, .inl st3_21)), (q5, .inl (cI, 4, .inl cl3_21)), (e0, .inr (0, [.int (nI (mN T)), .ref e1, .ref e2, .ref e3])), (e1, .inl (cI, 8, .inl wf)), (e2, .inl (cI, 8, .inl tf)), (e3, .inl (cI, 8, .inl vf)), (i0, .inr (7, [.ref i1, .ref i2, .ref i3, .ref i4, .ref i5])), (i1, .inl (cI, 96, .inl pp2_21)), (i2, .inl (cI, 96, .inl gg2_21)), (i3, .inl (cI, 96, .inl ff2_21)), (i4, .inl (cI, 96, .inl dd2_21)), (i5, .inl (cI, 96, .inl ll2_21))] → va_S A sS.heap H locs → ∀ (ls : Array Slot), lv_has ls 9 [(8, .int (nI h)), (7, .int (nI (16 / 2 ^ h))), (6, .int (nI (cnt C T x1N x2N x3N 16))), (5, .int (nI 16)), (0, .ref x0), (1, .int (nI x1N)), (2, .int (nI x2N)), (3, .int (nI x3N)), (4, .int (nI x4N))] → W pP lL eE (headSpec wsX9_odds rmX9_odds).room sS mM ([.ref x0, .int (nI x1N), .int (nI x2N), .int (nI x3N), .int (nI x4N)]).toArray below meth cC H locs 0 0 QQ (F0 mM 69 ls []) := by
            intro n_69
            induction n_69 with
            | zero =>
              intro h hh ho hn_69 H locs hP hD hS ls hl
              exact absurd hn_69 (by omega)
            | succ n_69 ih_69 =>
              intro h hh ho hn_69 H locs hP hD hS ls hl
              have hop := odds_pos h (by omega)
              refine lv_iload hx hb dX9_odds_69 (lv_at hl 0 rfl) ?_
              refine lv_iconst (v := nI 4) hx hb dX9_odds_71 (by decide +kernel) ?_
              refine kk_icmp_ge (tgt := 95) hx hb dX9_odds_72 (by decide) (by omega) (by omega) (fun c_22 => ?_) (fun c_22 => ?_)
              · skip
                have hfin := odds_end _ (show cnt C T x1N x2N x3N 16 < 17 by omega) h (by omega) ho (Or.inl (by omega))
                refine lv_iload hx hb dX9_odds_95 (lv_at hl 8 rfl) ?_
                refine kk_if_ne (tgt := 109) hx hb dX9_odds_97 (by decide) (by omega) (fun c_23 => ?_) (fun c_23 => ?_)
                · skip
                  refine lv_iload hx hb dX9_odds_109 (lv_at hl 3 rfl) ?_
                  refine lv_iload hx hb dX9_odds_111 (lv_at hl 1 rfl) ?_
                  refine kk_idiv hx hb dX9_odds_113 (by omega) (by omega) (by omega) ?_
                  have hdv := Nat.div_le_self 16 (16 / 2 ^ h)
                  refine lv_i2l (v := lN (16 / (16 / 2 ^ h))) hx hb dX9_odds_114 (nI_l (by omega)) ?_
                  have hq : (lN (16 / (16 / 2 ^ h))) = sp_odds C T (nI x1N) (nI x2N) (nI x3N) (nI x4N) ∧ True := by
                    refine ⟨?_, trivial⟩
                    simp only [sp_odds, lostC, hb_3, hb_5, hb_9, hb_13, t_x1, t_x2, t_x3, t_x4, cond_true, cond_false]
                    rw [if_neg c_23, hfin.2]
                  refine kk_QQ hQQ ?_
                  exact W.lret (v := lN (16 / (16 / 2 ^ h))) hx hb hr (fun t ht hW => ⟨⟨lN (16 / (16 / 2 ^ h)), (z1_21, z2_21, z3_21, sk3_21, sh3_21, ki3_21, st3_21, cl3_21, pp2_21, gg2_21, ff2_21, dd2_21, ll2_21), rfl, hq, by show va_P D vwCl _ t.heap; rw [ht]; exact hP⟩, hS.F ht⟩) hS.2.2 dX9_odds_115
                · skip
                  refine lv_iload hx hb dX9_odds_100 (lv_at hl 2 rfl) ?_
                  refine lv_iload hx hb dX9_odds_102 (lv_at hl 1 rfl) ?_
                  refine kk_idiv hx hb dX9_odds_104 (by omega) (by omega) (by omega) ?_
                  have hdv := Nat.div_le_self (cnt C T x1N x2N x3N 16) (16 / 2 ^ h)
                  refine lv_i2l (v := lN ((cnt C T x1N x2N x3N 16) / (16 / 2 ^ h))) hx hb dX9_odds_105 (nI_l (by omega)) ?_
                  refine lv_goto (tgt := 115) hx hb dX9_odds_106 (by decide) ?_
                  have hq : (lN ((cnt C T x1N x2N x3N 16) / (16 / 2 ^ h))) = sp_odds C T (nI x1N) (nI x2N) (nI x3N) (nI x4N) ∧ True := by
                    refine ⟨?_, trivial⟩
                    simp only [sp_odds, lostC, hb_3, hb_5, hb_9, hb_13, t_x1, t_x2, t_x3, t_x4, cond_true, cond_false]
                    rw [if_pos c_23, hfin.1]
                  refine kk_QQ hQQ ?_
                  exact W.lret (v := lN ((cnt C T x1N x2N x3N 16) / (16 / 2 ^ h))) hx hb hr (fun t ht hW => ⟨⟨lN ((cnt C T x1N x2N x3N 16) / (16 / 2 ^ h)), (z1_21, z2_21, z3_21, sk3_21, sh3_21, ki3_21, st3_21, cl3_21, pp2_21, gg2_21, ff2_21, dd2_21, ll2_21), rfl, hq, by show va_P D vwCl _ t.heap; rw [ht]; exact hP⟩, hS.F ht⟩) hS.2.2 dX9_odds_115
              · skip
                refine lv_iload hx hb dX9_odds_75 (lv_at hl 2 rfl) ?_
                refine lv_iload hx hb dX9_odds_77 (lv_at hl 1 rfl) ?_
                refine kk_irem hx hb dX9_odds_79 (by omega) (by omega) (by omega) ?_
                have hmd := Nat.mod_lt (cnt C T x1N x2N x3N 16) hop.1
                refine kk_if_eq (tgt := 95) hx hb dX9_odds_80 (by decide) (by omega) (fun c_24 => ?_) (fun c_24 => ?_)
                · skip
                  have hfin := odds_end _ (show cnt C T x1N x2N x3N 16 < 17 by omega) h (by omega) ho (Or.inr c_24)
                  refine lv_iload hx hb dX9_odds_95 (lv_at hl 8 rfl) ?_
                  refine kk_if_ne (tgt := 109) hx hb dX9_odds_97 (by decide) (by omega) (fun c_25 => ?_) (fun c_25 => ?_)
                  · skip
                    refine lv_iload hx hb dX9_odds_109 (lv_at hl 3 rfl) ?_
                    refine lv_iload hx hb dX9_odds_111 (lv_at hl 1 rfl) ?_
                    refine kk_idiv hx hb dX9_odds_113 (by omega) (by omega) (by omega) ?_
                    have hdv := Nat.div_le_self 16 (16 / 2 ^ h)
                    refine lv_i2l (v := lN (16 / (16 / 2 ^ h))) hx hb dX9_odds_114 (nI_l (by omega)) ?_
                    have hq : (lN (16 / (16 / 2 ^ h))) = sp_odds C T (nI x1N) (nI x2N) (nI x3N) (nI x4N) ∧ True := by
                      refine ⟨?_, trivial⟩
                      simp only [sp_odds, lostC, hb_3, hb_5, hb_9, hb_13, t_x1, t_x2, t_x3, t_x4, cond_true, cond_false]
                      rw [if_neg c_25, hfin.2]
                    refine kk_QQ hQQ ?_
                    exact W.lret (v := lN (16 / (16 / 2 ^ h))) hx hb hr (fun t ht hW => ⟨⟨lN (16 / (16 / 2 ^ h)), (z1_21, z2_21, z3_21, sk3_21, sh3_21, ki3_21, st3_21, cl3_21, pp2_21, gg2_21, ff2_21, dd2_21, ll2_21), rfl, hq, by show va_P D vwCl _ t.heap; rw [ht]; exact hP⟩, hS.F ht⟩) hS.2.2 dX9_odds_115
                  · skip
                    refine lv_iload hx hb dX9_odds_100 (lv_at hl 2 rfl) ?_
                    refine lv_iload hx hb dX9_odds_102 (lv_at hl 1 rfl) ?_
                    refine kk_idiv hx hb dX9_odds_104 (by omega) (by omega) (by omega) ?_
                    have hdv := Nat.div_le_self (cnt C T x1N x2N x3N 16) (16 / 2 ^ h)
                    refine lv_i2l (v := lN ((cnt C T x1N x2N x3N 16) / (16 / 2 ^ h))) hx hb dX9_odds_105 (nI_l (by omega)) ?_
                    refine lv_goto (tgt := 115) hx hb dX9_odds_106 (by decide) ?_
                    have hq : (lN ((cnt C T x1N x2N x3N 16) / (16 / 2 ^ h))) = sp_odds C T (nI x1N) (nI x2N) (nI x3N) (nI x4N) ∧ True := by
                      refine ⟨?_, trivial⟩
                      simp only [sp_odds, lostC, hb_3, hb_5, hb_9, hb_13, t_x1, t_x2, t_x3, t_x4, cond_true, cond_false]
                      rw [if_pos c_25, hfin.1]
                    refine kk_QQ hQQ ?_
                    exact W.lret (v := lN ((cnt C T x1N x2N x3N 16) / (16 / 2 ^ h))) hx hb hr (fun t ht hW => ⟨⟨lN ((cnt C T x1N x2N x3N 16) / (16 / 2 ^ h)), (z1_21, z2_21, z3_21, sk3_21, sh3_21, ki3_21, st3_21, cl3_21, pp2_21, gg2_21, ff2_21, dd2_21, ll2_21), rfl, hq, by show va_P D vwCl _ t.heap; rw [ht]; exact hP⟩, hS.F ht⟩) hS.2.2 dX9_odds_115
                · skip
                  refine lv_iload hx hb dX9_odds_83 (lv_at hl 1 rfl) ?_
                  refine lv_iconst (v := nI 2) hx hb dX9_odds_85 (by decide +kernel) ?_
                  refine kk_idiv hx hb dX9_odds_86 (by omega) (by omega) (by omega) ?_
                  refine kk_top (y := nI (16 / 2 ^ (h + 1))) ((by rw [odds_half h (by omega)])) ?_
                  refine lv_istore (lv' := [(7, .int (nI (16 / 2 ^ (h + 1)))), (8, .int (nI h)), (6, .int (nI (cnt C T x1N x2N x3N 16))), (5, .int (nI 16)), (0, .ref x0), (1, .int (nI x1N)), (2, .int (nI x2N)), (3, .int (nI x3N)), (4, .int (nI x4N))]) hx hb dX9_odds_87 hl (by decide) rfl (fun ls hl => ?_)
                  refine lv_iinc (v := nI (h + 1)) (lv' := [(8, .int (nI (h + 1))), (7, .int (nI (16 / 2 ^ (h + 1)))), (6, .int (nI (cnt C T x1N x2N x3N 16))), (5, .int (nI 16)), (0, .ref x0), (1, .int (nI x1N)), (2, .int (nI x2N)), (3, .int (nI x3N)), (4, .int (nI x4N))]) hx hb dX9_odds_89 hl (k := 1) rfl (nI_add h 1) (by decide) rfl (fun ls hl => ?_)
                  refine lv_goto (tgt := 69) hx hb dX9_odds_92 (by decide) ?_
                  have o_26 : (h + 1) ≤ 4 := by omega
                  have o_27 : ∀ j, j < (h + 1) → ¬ cnt C T x1N x2N x3N 16 % (16 / 2 ^ j) = 0 := by
                    intro j hj
                    by_cases e : j = h
                    · subst e; exact c_24
                    · exact ho j (by omega)
                  have o_28 : 5 ≤ (h + 1) + n_69 := by omega
                  exact ih_69 (h + 1) o_26 o_27 o_28 _ _ hP hD hS ls (lv_sub hl [0, 1, 2, 3, 4, 5, 6, 7, 8] rfl)
          have o_29 : 0 ≤ 4 := by omega
          have o_30 : ∀ j, j < 0 → ¬ cnt C T x1N x2N x3N 16 % (16 / 2 ^ j) = 0 := by intro j h; omega
          have o_31 : 5 ≤ 0 + 5 := by omega
          exact L_69 5 0 o_29 o_30 o_31 _ _ hP hD hS ls (lv_sub hl [0, 1, 2, 3, 4, 5, 6, 7, 8] rfl)
        · skip
          refine lv_ldc2 (v := (-9223372036854775808 : Int64)) hx hb hown hk_204 dX9_odds_43 ?_
          have hq : (-9223372036854775808 : Int64) = sp_odds C T (nI x1N) (nI x2N) (nI x3N) x4 ∧ True := by
            refine ⟨?_, trivial⟩
            simp only [sp_odds, lostC, hb_3, hb_5, hb_9, hb_13, t_x1, t_x2, t_x3, cond_true, cond_false]
          refine kk_QQ hQQ ?_
          exact W.lret (v := (-9223372036854775808 : Int64)) hx hb hr (fun t ht hW => ⟨⟨(-9223372036854775808 : Int64), (y1, y2, y3, sk2, sh2, ki2, st2, cl2, pB, gB, fB, dB, lB), rfl, hq, by show va_P D vwCl _ t.heap; rw [ht]; exact hP⟩, hS.F ht⟩) hS.2.2 dX9_odds_46
  · skip
    refine lv_ldc2 (v := (-9223372036854775808 : Int64)) hx hb hown hk_204 dX9_odds_11 ?_
    have hq : (-9223372036854775808 : Int64) = sp_odds C T x1 x2 x3 x4 ∧ True := by
      refine ⟨?_, trivial⟩
      simp only [sp_odds, lostC, hb_3, cond_true, cond_false]
    refine kk_QQ hQQ ?_
    exact W.lret (v := (-9223372036854775808 : Int64)) hx hb hr (fun t ht hW => ⟨⟨(-9223372036854775808 : Int64), (y1, y2, y3, sk2, sh2, ki2, st2, cl2, pB, gB, fB, dB, lB), rfl, hq, by show va_P D vwCl _ t.heap; rw [ht]; exact hP⟩, hS.F ht⟩) hS.2.2 dX9_odds_14

abbrev rmX9_many : Room := { frames := 0, cells := 0, slots := 0, locals := 0 }
set_option maxHeartbeats 4000000 in
set_option maxRecDepth 100000 in
theorem c_X9_many (lL : Launch) (D : va_G) (cI cS : ClassId) (C : Co) (T : Mv) (E : Mv) (x0 : Nat) (g0 : Nat) (q0 : Nat) (e0 : Nat) (t0 : Nat) (r0 : Nat) (h0 : Nat) (i0 : Nat) (z0 : Nat) (y0 : Nat) (tr : Int32) (ft : Int32) (x1 : Int32) (g1 : Nat) (g2 : Nat) (g3 : Nat) (g4 : Nat) (g5 : Nat) (e1 : Nat) (e2 : Nat) (e3 : Nat) (r1 : Nat) (r2 : Nat) (r3 : Nat) (hX : okX C T E) : Met lL yX9_many wsX9_many rmX9_many (va_Pc [.ref x0, .int x1] (kBp D cI cS [(x0, .inr (8, [.ref g0, .ref q0, .ref e0, .ref t0, .ref r0, .ref h0, .ref i0, .ref z0, .ref y0, .int tr, .int ft])), (g0, .inr (1, [.int (nI (cSp C)), .int (nI (cLa C)), .int (nI (cAg C)), .ref g1, .ref g2, .ref g3, .ref g4, .ref g5])), (e0, .inr (0, [.int (nI (mN T)), .ref e1, .ref e2, .ref e3])), (r0, .inr (0, [.int (nI (mN E)), .ref r1, .ref r2, .ref r3]))])) (vp_Si (fun r : Int32 => r = sp_many C T E x1)) 0 0 (fun _ => False) := by
  refine Met.ofW (cc := cX9_many) (maxL := 2) (ret := (some .int)) (by decide) rfl ?_
  intro pP eE sS mM args below meth cC s₁ B hml hv
  obtain ⟨rfl, hP, hK⟩ := hv
  have hx := B.exec
  have hb := B.bytes
  have hr := B.returns
  have hts := atoms_spec (ws := wsX9_many) B.pre
  have hown : sS.vm.findClass RX9 = some mM.cls := findClass_of_methodNamed B.named
  have hlocks := B.notSynchronized
  have hP : va_P D vwCl [(x0, .inr (8, [.ref g0, .ref q0, .ref e0, .ref t0, .ref r0, .ref h0, .ref i0, .ref z0, .ref y0, .int tr, .int ft])), (g0, .inr (1, [.int (nI (cSp C)), .int (nI (cLa C)), .int (nI (cAg C)), .ref g1, .ref g2, .ref g3, .ref g4, .ref g5])), (e0, .inr (0, [.int (nI (mN T)), .ref e1, .ref e2, .ref e3])), (r0, .inr (0, [.int (nI (mN E)), .ref r1, .ref r2, .ref r3]))] sS.heap := hP
  have hf_14 := hts (.fieldLink RX9 14 "OldLamps" "ground" "LOldLamps$Ground;") (List.mem_of_getElem? (i := 1) rfl)
  have hf_24 := hts (.fieldLink RX9 24 "OldLamps" "told" "LOldLamps$Entries;") (List.mem_of_getElem? (i := 4) rfl)
  have hf_31 := hts (.fieldLink RX9 31 "OldLamps" "readings" "LOldLamps$Entries;") (List.mem_of_getElem? (i := 6) rfl)
  have hf_103 := hts (.fieldLink RX9 103 "OldLamps$Entries" "count" "I") (List.mem_of_getElem? (i := 5) rfl)
  have hf_106 := hts (.fieldLink RX9 106 "OldLamps$Ground" "lamps" "I") (List.mem_of_getElem? (i := 2) rfl)
  have hf_141 := hts (.fieldLink RX9 141 "OldLamps$Ground" "lightAge" "I") (List.mem_of_getElem? (i := 7) rfl)
  have hf_195 := hts (.fieldLink RX9 195 "OldLamps$Ground" "spots" "I") (List.mem_of_getElem? (i := 3) rfl)
  have hwX1 : ∀ w ∈ wsX10, w ∈ wsX9_many := fun _ h => List.mem_cons_of_mem _ (List.mem_append_right _ h)
  have hwX2 : ∀ w ∈ wsX20, w ∈ wsX9_many := fun _ h => List.mem_cons_of_mem _ (List.mem_append_left _ (List.mem_append_right _ h))
  have hwX9 : ∀ w ∈ wsX90, w ∈ wsX9_many := fun _ h => List.mem_cons_of_mem _ (List.mem_append_left _ (List.mem_append_left _ (List.mem_append_right _ h)))
  have hl := lv_entry ([.ref x0, .int x1]) (n := 2) (Nat.le_of_ble_eq_true rfl)
  rw [lg_entry_eq]
  generalize (lg_sl ([.ref x0, .int x1]) ++ List.replicate (2 - (lg_sl ([.ref x0, .int x1])).length) Slot.unset).toArray = ls at hl ⊢
  have hl : lv_has ls 2 [(0, .ref x0), (1, .int x1)] := hl
  obtain ⟨QQ, hQQ⟩ : ∃ QQ : State → Prop, QQ = MQ below (vp_Si (fun r : Int32 => r = sp_many C T E x1)) ([.ref x0, .int x1]).toArray sS 0 0 (fun _ => False) := ⟨_, rfl⟩
  refine kk_QQ hQQ.symm ?_
  obtain ⟨hX1, hX2, hX3, hX4⟩ := okX_le hX
  refine lv_iload_n hx hb dX9_many_0 rfl (lv_at hl 1 rfl) ?_
  by_cases c_1 : x1 = nI 0
  · skip
    have e_1 : x1.toInt = 0 := by rw [c_1]; exact nI_toInt (by decide)
    refine lv_tableIn (tgt := 36) (off := 35) hx hb dX9_many_1 (by rw [e_1]; decide) (by rw [e_1]; decide) (by rw [e_1]; rfl) (by decide) ?_
    refine lv_aload_n hx hb dX9_many_36 rfl (lv_at hl 0 rfl) ?_
    refine va_get (D := D) (ci := 8) (v := .ref g0) (C := RX9) (T := TX9) (N := 11) hx hb hts hwX9 hown hK hP 0 rfl rfl 0 (by decide) hf_14 (fun _ h9 => h9) rfl dX9_many_37 ?_
    refine va_get (D := D) (ci := 1) (v := .int (nI (cLa C))) (C := RX2) (T := TX2) (N := 8) hx hb hts hwX2 hown hK hP 1 rfl rfl 1 (by decide) hf_106 (fun _ h9 => h9) rfl dX9_many_40 ?_
    have hq : nI (cLa C) = sp_many C T E x1 := by rw [sp_many, if_pos c_1]
    refine kk_QQ hQQ ?_
    exact W.iret (v := nI (cLa C)) hx hb hr (fun t ht hW => ⟨nI (cLa C), rfl, hq, ht⟩) (fun q h => by cases h) dX9_many_43
  by_cases c_2 : x1 = nI 1
  · skip
    have e_2 : x1.toInt = 1 := by rw [c_2]; exact nI_toInt (by decide)
    refine lv_tableIn (tgt := 44) (off := 43) hx hb dX9_many_1 (by rw [e_2]; decide) (by rw [e_2]; decide) (by rw [e_2]; rfl) (by decide) ?_
    refine lv_aload_n hx hb dX9_many_44 rfl (lv_at hl 0 rfl) ?_
    refine va_get (D := D) (ci := 8) (v := .ref g0) (C := RX9) (T := TX9) (N := 11) hx hb hts hwX9 hown hK hP 0 rfl rfl 0 (by decide) hf_14 (fun _ h9 => h9) rfl dX9_many_45 ?_
    refine va_get (D := D) (ci := 1) (v := .int (nI (cSp C))) (C := RX2) (T := TX2) (N := 8) hx hb hts hwX2 hown hK hP 1 rfl rfl 0 (by decide) hf_195 (fun _ h9 => h9) rfl dX9_many_48 ?_
    have hq : nI (cSp C) = sp_many C T E x1 := by rw [sp_many, if_neg c_1, if_pos c_2]
    refine kk_QQ hQQ ?_
    exact W.iret (v := nI (cSp C)) hx hb hr (fun t ht hW => ⟨nI (cSp C), rfl, hq, ht⟩) (fun q h => by cases h) dX9_many_51
  by_cases c_3 : x1 = nI 2
  · skip
    have e_3 : x1.toInt = 2 := by rw [c_3]; exact nI_toInt (by decide)
    refine lv_tableIn (tgt := 52) (off := 51) hx hb dX9_many_1 (by rw [e_3]; decide) (by rw [e_3]; decide) (by rw [e_3]; rfl) (by decide) ?_
    refine lv_aload_n hx hb dX9_many_52 rfl (lv_at hl 0 rfl) ?_
    refine va_get (D := D) (ci := 8) (v := .ref e0) (C := RX9) (T := TX9) (N := 11) hx hb hts hwX9 hown hK hP 0 rfl rfl 2 (by decide) hf_24 (fun _ h9 => h9) rfl dX9_many_53 ?_
    refine va_get (D := D) (ci := 0) (v := .int (nI (mN T))) (C := RX1) (T := TX1) (N := 4) hx hb hts hwX1 hown hK hP 2 rfl rfl 0 (by decide) hf_103 (fun _ h9 => h9) rfl dX9_many_56 ?_
    have hq : nI (mN T) = sp_many C T E x1 := by rw [sp_many, if_neg c_1, if_neg c_2, if_pos c_3]
    refine kk_QQ hQQ ?_
    exact W.iret (v := nI (mN T)) hx hb hr (fun t ht hW => ⟨nI (mN T), rfl, hq, ht⟩) (fun q h => by cases h) dX9_many_59
  by_cases c_4 : x1 = nI 3
  · skip
    have e_4 : x1.toInt = 3 := by rw [c_4]; exact nI_toInt (by decide)
    refine lv_tableIn (tgt := 60) (off := 59) hx hb dX9_many_1 (by rw [e_4]; decide) (by rw [e_4]; decide) (by rw [e_4]; rfl) (by decide) ?_
    refine lv_aload_n hx hb dX9_many_60 rfl (lv_at hl 0 rfl) ?_
    refine va_get (D := D) (ci := 8) (v := .ref r0) (C := RX9) (T := TX9) (N := 11) hx hb hts hwX9 hown hK hP 0 rfl rfl 4 (by decide) hf_31 (fun _ h9 => h9) rfl dX9_many_61 ?_
    refine va_get (D := D) (ci := 0) (v := .int (nI (mN E))) (C := RX1) (T := TX1) (N := 4) hx hb hts hwX1 hown hK hP 3 rfl rfl 0 (by decide) hf_103 (fun _ h9 => h9) rfl dX9_many_64 ?_
    have hq : nI (mN E) = sp_many C T E x1 := by rw [sp_many, if_neg c_1, if_neg c_2, if_neg c_3, if_pos c_4]
    refine kk_QQ hQQ ?_
    exact W.iret (v := nI (mN E)) hx hb hr (fun t ht hW => ⟨nI (mN E), rfl, hq, ht⟩) (fun q h => by cases h) dX9_many_67
  by_cases c_5 : x1 = nI 4
  · skip
    have e_5 : x1.toInt = 4 := by rw [c_5]; exact nI_toInt (by decide)
    refine lv_tableIn (tgt := 68) (off := 67) hx hb dX9_many_1 (by rw [e_5]; decide) (by rw [e_5]; decide) (by rw [e_5]; rfl) (by decide) ?_
    refine lv_aload_n hx hb dX9_many_68 rfl (lv_at hl 0 rfl) ?_
    refine va_get (D := D) (ci := 8) (v := .ref g0) (C := RX9) (T := TX9) (N := 11) hx hb hts hwX9 hown hK hP 0 rfl rfl 0 (by decide) hf_14 (fun _ h9 => h9) rfl dX9_many_69 ?_
    refine va_get (D := D) (ci := 1) (v := .int (nI (cAg C))) (C := RX2) (T := TX2) (N := 8) hx hb hts hwX2 hown hK hP 1 rfl rfl 2 (by decide) hf_141 (fun _ h9 => h9) rfl dX9_many_72 ?_
    have hq : nI (cAg C) = sp_many C T E x1 := by rw [sp_many, if_neg c_1, if_neg c_2, if_neg c_3, if_neg c_4, if_pos c_5]
    refine kk_QQ hQQ ?_
    exact W.iret (v := nI (cAg C)) hx hb hr (fun t ht hW => ⟨nI (cAg C), rfl, hq, ht⟩) (fun q h => by cases h) dX9_many_75
  have c_6 : x1.toInt < 0 ∨ 4 < x1.toInt := by
    refine Classical.byContradiction fun z => ?_
    obtain ⟨z1, z2⟩ := kk_ofInt (x := x1) (by omega)
    generalize x1.toInt.toNat = nn at z1 z2
    have z3 : nn ≤ 4 := by rw [z2, nI_toInt z1] at z; omega
    have z4 : nn = 0 ∨ nn = 1 ∨ nn = 2 ∨ nn = 3 ∨ nn = 4 := by omega
    rcases z4 with rfl | rfl | rfl | rfl | rfl <;> simp_all
  refine lv_tableOut (tgt := 76) hx hb dX9_many_1 c_6 (by decide) ?_
  refine lv_bipush (v := (-2 : Int32)) hx hb dX9_many_76 (by decide +kernel) ?_
  have hq : (-2 : Int32) = sp_many C T E x1 := by rw [sp_many, if_neg c_1, if_neg c_2, if_neg c_3, if_neg c_4, if_neg c_5]
  refine kk_QQ hQQ ?_
  exact W.iret (v := (-2 : Int32)) hx hb hr (fun t ht hW => ⟨(-2 : Int32), rfl, hq, ht⟩) (fun q h => by cases h) dX9_many_78
